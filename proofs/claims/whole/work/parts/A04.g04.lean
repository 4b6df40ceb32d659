set_option maxRecDepth 20000 in
set_option maxHeartbeats 2000000 in
theorem g_World_clear {N : Nat} {Q : Nat → Prop} {p0 : Nat} {p1 : Int32} {p2 : Int32} {H : Hp} {r : Unit × Hp} (hF : F_World_clear N p0 p1 p2 H = some r) (hc0 : Cl Q H) (q_p0 : Q p0) : Rg Q H r.2 := by
  unfold F_World_clear at hF
  have hm := Rg.rf hc0
  obtain ⟨q41, hG⟩ := ck_s hF; clear hF
  obtain ⟨H42, eH42, hF⟩ := bnd_g hG; clear hG
  replace hm : Rg Q H H42 := hm.tr (by rw [eH42]; exact Rg.sD hm.1 q_p0)
  have s_23 : Sa H H42 := by rw [eH42]; exact Sa.rf _
  obtain ⟨H43, eH43, hG⟩ := bnd_g hF; clear hF
  replace hm : Rg Q H H43 := hm.tr (by rw [eH43]; exact Rg.sD hm.1 q_p0)
  have s_24 : Sa H H43 := by rw [eH43]; exact s_23
  obtain ⟨H44, eH44, hF⟩ := bnd_g hG; clear hG
  replace hm : Rg Q H H44 := hm.tr (by rw [eH44]; exact Rg.sD hm.1 q_p0)
  have s_25 : Sa H H44 := by rw [eH44]; exact s_24
  obtain ⟨H45, eH45, hG⟩ := bnd_g hF; clear hF
  replace hm : Rg Q H H45 := hm.tr (by rw [eH45]; exact Rg.sD hm.1 q_p0)
  have s_26 : Sa H H45 := by rw [eH45]; exact s_25
  obtain ⟨H46, eH46, hF⟩ := bnd_g hG; clear hG
  replace hm : Rg Q H H46 := hm.tr (by rw [eH46]; exact Rg.sD hm.1 q_p0)
  have s_27 : Sa H H46 := by rw [eH46]; exact s_26
  obtain ⟨a47, e48, hG⟩ := rf_s hF; clear hF
  have qa47 : Q a47 := hm.1 _ _ _ q_p0 e48
  obtain ⟨v50, H51, z49, hF⟩ := bC_s hG; clear hG
  have gz_28 := (g_Arr_fill z49 hm.1 qa47)
  replace hm : Rg Q H H51 := hm.tr gz_28
  have s_29 : Sa H H51 := (s_27).tr (m_Arr_fill z49)
  obtain ⟨a52, e53, hG⟩ := rf_s hF; clear hF
  have qa52 : Q a52 := hm.1 _ _ _ q_p0 e53
  obtain ⟨v55, H56, z54, hF⟩ := bC_s hG; clear hG
  have gz_30 := (g_Arr_fill z54 hm.1 qa52)
  replace hm : Rg Q H H56 := hm.tr gz_30
  have s_31 : Sa H H56 := (s_29).tr (m_Arr_fill z54)
  obtain ⟨H57, eH57, hG⟩ := bnd_g hF; clear hF
  replace hm : Rg Q H H57 := hm.tr (by rw [eH57]; exact Rg.sD hm.1 q_p0)
  have s_32 : Sa H H57 := by rw [eH57]; exact s_31
  obtain ⟨H58, eH58, hF⟩ := bnd_g hG; clear hG
  replace hm : Rg Q H H58 := hm.tr (by rw [eH58]; exact Rg.sD hm.1 q_p0)
  have s_33 : Sa H H58 := by rw [eH58]; exact s_32
  obtain ⟨H59, eH59, hG⟩ := bnd_g hF; clear hF
  replace hm : Rg Q H H59 := hm.tr (by rw [eH59]; exact Rg.sD hm.1 q_p0)
  have s_34 : Sa H H59 := by rw [eH59]; exact s_33
  obtain ⟨H60, eH60, hF⟩ := bnd_g hG; clear hG
  replace hm : Rg Q H H60 := hm.tr (by rw [eH60]; exact Rg.sD hm.1 q_p0)
  have s_35 : Sa H H60 := by rw [eH60]; exact s_34
  have hr := Option.some.inj hF; subst hr
  exact hm
set_option maxRecDepth 20000 in
set_option maxHeartbeats 2000000 in
theorem gB_Play_forgetInputs_13 {N : Nat} {Q : Nat → Prop} {p0 : Nat} (q_p0 : Q p0) : ∀ (n : Nat) (l1 : Int32) (H : Hp) (r : Unit × Hp), B_Play_forgetInputs_13 N p0 n l1 H = some r → Cl Q H → Rg Q H r.2 := by
  intro n
  induction n with
  | zero => intro l1 H r hF; rw [B_Play_forgetInputs_13] at hF; cases hF
  | succ n ih =>
    intro l1 H r hF hc0
    rw [B_Play_forgetInputs_13] at hF
    have hm := Rg.rf hc0
    obtain ⟨q47, hG⟩ := ck_s hF; clear hF
    obtain ⟨a48, e49, hF⟩ := rf_s hG; clear hG
    have qa48 : Q a48 := hm.1 _ _ _ q_p0 e49
    obtain ⟨n50, q51, hG⟩ := ar_s hF; clear hF
    rcases ite_s hG with ⟨q_8, hF⟩ | ⟨q_8, hF⟩
    · clear hG
      obtain ⟨a53, e54, hG⟩ := rf_s hF; clear hF
      have qa53 : Q a53 := hm.1 _ _ _ q_p0 e54
      obtain ⟨v56, H57, z55, hF⟩ := bC_s hG; clear hG
      have gz_9 := (g_Arr_fill z55 hm.1 qa53)
      replace hm : Rg Q H H57 := hm.tr gz_9
      have s_10 : Sa H H57 := (m_Arr_fill z55)
      have hr := Option.some.inj hF; subst hr
      exact hm
    · clear hG
      obtain ⟨a58, e59, hG⟩ := rf_s hF; clear hF
      have qa58 : Q a58 := hm.1 _ _ _ q_p0 e59
      obtain ⟨n60, q61, hF⟩ := ar_s hG; clear hG
      obtain ⟨q62, hG⟩ := ck_s hF; clear hF
      obtain ⟨H63, eH63, hF⟩ := bnd_g hG; clear hG
      replace hm : Rg Q H H63 := hm.tr (by rw [eH63]; exact Rg.sD hm.1 qa58)
      have s_11 : Sa H H63 := by rw [eH63]; exact Sa.rf _
      exact hm.tr (ih (l1 + 1) H63 r hF hm.1)
set_option maxRecDepth 20000 in
set_option maxHeartbeats 2000000 in
theorem g_Play_forgetInputs {N : Nat} {Q : Nat → Prop} {p0 : Nat} {H : Hp} {r : Unit × Hp} (hF : F_Play_forgetInputs N p0 H = some r) (hc0 : Cl Q H) (q_p0 : Q p0) : Rg Q H r.2 := by
  unfold F_Play_forgetInputs at hF
  have hm := Rg.rf hc0
  obtain ⟨q64, hG⟩ := ck_s hF; clear hF
  obtain ⟨a65, e66, hF⟩ := rf_s hG; clear hG
  have qa65 : Q a65 := hm.1 _ _ _ q_p0 e66
  obtain ⟨q67, hG⟩ := ck_s hF; clear hF
  obtain ⟨x68, -, hF⟩ := bnd_g hG; clear hG
  obtain ⟨H69, eH69, hG⟩ := bnd_g hF; clear hF
  replace hm : Rg Q H H69 := hm.tr (by rw [eH69]; exact Rg.sD hm.1 q_p0)
  have s_12 : Sa H H69 := by rw [eH69]; exact Sa.rf _
  exact hm.tr (gB_Play_forgetInputs_13 q_p0 N 0 H69 r hG hm.1)
set_option maxRecDepth 20000 in
set_option maxHeartbeats 2000000 in
theorem g_Play_begin {N : Nat} {Q : Nat → Prop} {p0 : Nat} {p1 : Int32} {p2 : Int32} {H : Hp} {r : Unit × Hp} (hF : F_Play_begin N p0 p1 p2 H = some r) (hc0 : Cl Q H) (q_p0 : Q p0) : Rg Q H r.2 := by
  unfold F_Play_begin at hF
  have hm := Rg.rf hc0
  obtain ⟨q25, hG⟩ := ck_s hF; clear hF
  obtain ⟨a26, e27, hF⟩ := rf_s hG; clear hG
  have qa26 : Q a26 := hm.1 _ _ _ q_p0 e27
  obtain ⟨q28, hG⟩ := ck_s hF; clear hF
  obtain ⟨v30, H31, z29, hF⟩ := bC_s hG; clear hG
  have gz_9 := (g_World_clear z29 hm.1 qa26)
  replace hm : Rg Q H H31 := hm.tr gz_9
  have s_10 : Sa H H31 := (m_World_clear z29)
  obtain ⟨H32, eH32, hG⟩ := bnd_g hF; clear hF
  replace hm : Rg Q H H32 := hm.tr (by rw [eH32]; exact Rg.sD hm.1 q_p0)
  have s_11 : Sa H H32 := by rw [eH32]; exact s_10
  obtain ⟨H33, eH33, hF⟩ := bnd_g hG; clear hG
  replace hm : Rg Q H H33 := hm.tr (by rw [eH33]; exact Rg.sD hm.1 q_p0)
  have s_12 : Sa H H33 := by rw [eH33]; exact s_11
  obtain ⟨v35, H36, z34, hG⟩ := bC_s hF; clear hF
  have gz_13 := (g_Play_forgetInputs z34 hm.1 q_p0)
  replace hm : Rg Q H H36 := hm.tr gz_13
  have s_14 : Sa H H36 := (s_12).tr (m_Play_forgetInputs z34)
  have hr := Option.some.inj hG; subst hr
  exact hm
set_option maxRecDepth 20000 in
set_option maxHeartbeats 2000000 in
theorem g_W_text {N : Nat} {Q : Nat → Prop} {p0 : Nat} {p1 : Int32} {H : Hp} {r : Int32 × Hp} {B : Nat} (hn : ∀ a, B ≤ a → Q a) (hF : F_W_text N p0 p1 H = some r) (hc0 : Cl Q H) (hB : B ≤ H.sh.length) (q_p0 : Q p0) : Rg Q H r.2 := by
  unfold F_W_text at hF
  have hm := Rg.rf hc0
  obtain ⟨q73, hG⟩ := ck_s hF; clear hF
  obtain ⟨a74, e75, hF⟩ := rf_s hG; clear hG
  have qa74 : Q a74 := hm.1 _ _ _ q_p0 e75
  obtain ⟨a76, e77, hG⟩ := rf_s hF; clear hF
  have qa76 : Q a76 := hm.1 _ _ _ q_p0 e77
  obtain ⟨q78, hF⟩ := ck_s hG; clear hG
  obtain ⟨v80, H81, z79, hG⟩ := bC_s hF; clear hF
  have gz_16 := (g_Reader_readAll hn z79 hm.1 hB qa74 qa76)
  replace hm : Rg Q H H81 := hm.tr gz_16
  replace hB : B ≤ H81.sh.length := Nat.le_trans hB ((m_Reader_readAll z79)).len
  have mz_17 : Mo H H81 := (m_Reader_readAll z79)
  have q_18 := (mz_17).get q73
  have q_19 := (mz_17).get q78
  rcases ite_s hG with ⟨q_20, hF⟩ | ⟨q_20, hF⟩
  · clear hG
    obtain ⟨a83, e84, hG⟩ := rf_s hF; clear hF
    have qa83 : Q a83 := hm.1 _ _ _ q_p0 e84
    obtain ⟨q85, hF⟩ := ck_s hG; clear hG
    obtain ⟨x86, -, hG⟩ := bnd_g hF; clear hF
    have hr := Option.some.inj hG; subst hr
    exact hm
  · clear hG
    obtain ⟨v88, H89, z87, hG⟩ := bC_s hF; clear hF
    have gz_21 := (g_W_exchangePrograms z87 hm.1 q_p0)
    replace hm : Rg Q H H89 := hm.tr gz_21
    replace hB : B ≤ H89.sh.length := Nat.le_trans hB ((m_W_exchangePrograms z87)).mo.len
    have s_22 : Sa H81 H89 := (m_W_exchangePrograms z87)
    obtain ⟨a90, e91, hF⟩ := rf_s hG; clear hG
    have qa90 : Q a90 := hm.1 _ _ _ q_p0 e91
    obtain ⟨a92, e93, hG⟩ := rf_s hF; clear hF
    have qa92 : Q a92 := hm.1 _ _ _ q_p0 e93
    obtain ⟨q94, hF⟩ := ck_s hG; clear hG
    rw [(s_22).1] at q94
    obtain ⟨a95, e96, hG⟩ := rf_s hF; clear hF
    have qa95 : Q a95 := hm.1 _ _ _ qa92 e96
    obtain ⟨q97, hF⟩ := ck_s hG; clear hG
    rw [(s_22).1] at q97
    obtain ⟨v99, H100, z98, hG⟩ := bC_s hF; clear hF
    have gz_23 := (g_Shapes_total z98 hm.1 qa95)
    replace hm : Rg Q H H100 := hm.tr gz_23
    replace hB : B ≤ H100.sh.length := Nat.le_trans hB ((m_Shapes_total z98)).mo.len
    have s_24 : Sa H81 H100 := (s_22).tr (m_Shapes_total z98)
    obtain ⟨q101, hF⟩ := ck_s hG; clear hG
    rw [(s_24).1] at q101
    obtain ⟨v103, H104, z102, hG⟩ := bC_s hF; clear hF
    have gz_25 := (g_Play_begin z102 hm.1 qa90)
    replace hm : Rg Q H H104 := hm.tr gz_25
    replace hB : B ≤ H104.sh.length := Nat.le_trans hB ((m_Play_begin z102)).mo.len
    have s_26 : Sa H81 H104 := (s_24).tr (m_Play_begin z102)
    obtain ⟨a105, e106, hF⟩ := rf_s hG; clear hG
    have qa105 : Q a105 := hm.1 _ _ _ q_p0 e106
    obtain ⟨q107, hG⟩ := ck_s hF; clear hF
    rw [(s_26).1] at q107
    obtain ⟨x108, -, hF⟩ := bnd_g hG; clear hG
    have hr := Option.some.inj hF; subst hr
    exact hm
set_option maxRecDepth 20000 in
set_option maxHeartbeats 2000000 in
theorem g_W_fault {N : Nat} {Q : Nat → Prop} {p0 : Nat} {p1 : Int32} {H : Hp} {r : Int32 × Hp} (hF : F_W_fault N p0 p1 H = some r) (hc0 : Cl Q H) (q_p0 : Q p0) : Rg Q H r.2 := by
  unfold F_W_fault at hF
  have hm := Rg.rf hc0
  obtain ⟨q33, hG⟩ := ck_s hF; clear hF
  obtain ⟨a34, e35, hF⟩ := rf_s hG; clear hG
  have qa34 : Q a34 := hm.1 _ _ _ q_p0 e35
  obtain ⟨q36, hG⟩ := ck_s hF; clear hF
  obtain ⟨x37, -, hF⟩ := bnd_g hG; clear hG
  rcases ite_s hF with ⟨q_4, hG⟩ | ⟨q_4, hG⟩
  · clear hF
    have hr := Option.some.inj hG; subst hr
    exact hm
  · clear hF
    rcases ite_s hG with ⟨q_5, hF⟩ | ⟨q_5, hF⟩
    · clear hG
      obtain ⟨a40, e41, hG⟩ := rf_s hF; clear hF
      have qa40 : Q a40 := hm.1 _ _ _ q_p0 e41
      obtain ⟨q42, hF⟩ := ck_s hG; clear hG
      obtain ⟨x43, -, hG⟩ := bnd_g hF; clear hF
      have hr := Option.some.inj hG; subst hr
      exact hm
    · clear hG
      rcases ite_s hF with ⟨q_6, hG⟩ | ⟨q_6, hG⟩
      · clear hF
        obtain ⟨a45, e46, hF⟩ := rf_s hG; clear hG
        have qa45 : Q a45 := hm.1 _ _ _ q_p0 e46
        obtain ⟨q47, hG⟩ := ck_s hF; clear hF
        obtain ⟨x48, -, hF⟩ := bnd_g hG; clear hG
        have hr := Option.some.inj hF; subst hr
        exact hm
      · clear hF
        have hr := Option.some.inj hG; subst hr
        exact hm
set_option maxRecDepth 20000 in
set_option maxHeartbeats 2000000 in
theorem g_Play_isQuiet {N : Nat} {Q : Nat → Prop} {p0 : Nat} {H : Hp} {r : Int32 × Hp} (hF : F_Play_isQuiet N p0 H = some r) (hc0 : Cl Q H) (q_p0 : Q p0) : Rg Q H r.2 := by
  unfold F_Play_isQuiet at hF
  have hm := Rg.rf hc0
  obtain ⟨q15, hG⟩ := ck_s hF; clear hF
  obtain ⟨a16, e17, hF⟩ := rf_s hG; clear hG
  have qa16 : Q a16 := hm.1 _ _ _ q_p0 e17
  obtain ⟨q18, hG⟩ := ck_s hF; clear hF
  obtain ⟨x19, -, hF⟩ := bnd_g hG; clear hG
  obtain ⟨x20, -, hG⟩ := bnd_g hF; clear hF
  rcases ite_s hG with ⟨q_2, hF⟩ | ⟨q_2, hF⟩
  · clear hG
    have hr := Option.some.inj hF; subst hr
    exact hm
  · clear hG
    have hr := Option.some.inj hF; subst hr
    exact hm
set_option maxRecDepth 20000 in
set_option maxHeartbeats 2000000 in
theorem g_Play_scratch {N : Nat} {Q : Nat → Prop} {p0 : Nat} {H : Hp} {r : (Option Nat) × Hp} (hF : F_Play_scratch N p0 H = some r) (hc0 : Cl Q H) (q_p0 : Q p0) : Rg Q H r.2 ∧ (∀ a, r.1 = some a → Q a) := by
  unfold F_Play_scratch at hF
  have hm := Rg.rf hc0
  obtain ⟨q17, hG⟩ := ck_s hF; clear hF
  obtain ⟨a18, e19, hF⟩ := rf_s hG; clear hG
  have qa18 : Q a18 := hm.1 _ _ _ q_p0 e19
  obtain ⟨n20, q21, hG⟩ := ar_s hF; clear hF
  obtain ⟨q22, hF⟩ := ck_s hG; clear hG
  obtain ⟨a23, e24, hG⟩ := rf_s hF; clear hF
  have qa23 : Q a23 := hm.1 _ _ _ qa18 e24
  have hr := Option.some.inj hG; subst hr
  exact ⟨hm, (fun a e => by cases e; exact qa23)⟩
set_option maxRecDepth 20000 in
set_option maxHeartbeats 2000000 in
theorem g_World_copyFrom {N : Nat} {Q : Nat → Prop} {p0 : Nat} {p1 : Nat} {H : Hp} {r : Unit × Hp} (hF : F_World_copyFrom N p0 p1 H = some r) (hc0 : Cl Q H) (q_p0 : Q p0) (q_p1 : Q p1) : Rg Q H r.2 := by
  unfold F_World_copyFrom at hF
  have hm := Rg.rf hc0
  obtain ⟨q197, hG⟩ := ck_s hF; clear hF
  obtain ⟨x198, -, hF⟩ := bnd_g hG; clear hG
  obtain ⟨q199, hG⟩ := ck_s hF; clear hF
  obtain ⟨H200, eH200, hF⟩ := bnd_g hG; clear hG
  replace hm : Rg Q H H200 := hm.tr (by rw [eH200]; exact Rg.sD hm.1 q_p0)
  have s_33 : Sa H H200 := by rw [eH200]; exact Sa.rf _
  obtain ⟨x201, -, hG⟩ := bnd_g hF; clear hF
  obtain ⟨H202, eH202, hF⟩ := bnd_g hG; clear hG
  replace hm : Rg Q H H202 := hm.tr (by rw [eH202]; exact Rg.sD hm.1 q_p0)
  have s_34 : Sa H H202 := by rw [eH202]; exact s_33
  obtain ⟨x203, -, hG⟩ := bnd_g hF; clear hF
  obtain ⟨H204, eH204, hF⟩ := bnd_g hG; clear hG
  replace hm : Rg Q H H204 := hm.tr (by rw [eH204]; exact Rg.sD hm.1 q_p0)
  have s_35 : Sa H H204 := by rw [eH204]; exact s_34
  obtain ⟨x205, -, hG⟩ := bnd_g hF; clear hF
  obtain ⟨H206, eH206, hF⟩ := bnd_g hG; clear hG
  replace hm : Rg Q H H206 := hm.tr (by rw [eH206]; exact Rg.sD hm.1 q_p0)
  have s_36 : Sa H H206 := by rw [eH206]; exact s_35
  obtain ⟨x207, -, hG⟩ := bnd_g hF; clear hF
  obtain ⟨H208, eH208, hF⟩ := bnd_g hG; clear hG
  replace hm : Rg Q H H208 := hm.tr (by rw [eH208]; exact Rg.sD hm.1 q_p0)
  have s_37 : Sa H H208 := by rw [eH208]; exact s_36
  obtain ⟨x209, -, hG⟩ := bnd_g hF; clear hF
  obtain ⟨H210, eH210, hF⟩ := bnd_g hG; clear hG
  replace hm : Rg Q H H210 := hm.tr (by rw [eH210]; exact Rg.sD hm.1 q_p0)
  have s_38 : Sa H H210 := by rw [eH210]; exact s_37
  obtain ⟨x211, -, hG⟩ := bnd_g hF; clear hF
  obtain ⟨H212, eH212, hF⟩ := bnd_g hG; clear hG
  replace hm : Rg Q H H212 := hm.tr (by rw [eH212]; exact Rg.sD hm.1 q_p0)
  have s_39 : Sa H H212 := by rw [eH212]; exact s_38
  obtain ⟨a213, e214, hG⟩ := rf_s hF; clear hF
  have qa213 : Q a213 := hm.1 _ _ _ q_p1 e214
  obtain ⟨a215, e216, hF⟩ := rf_s hG; clear hG
  have qa215 : Q a215 := hm.1 _ _ _ q_p0 e216
  obtain ⟨n217, q218, hG⟩ := ar_s hF; clear hF
  rw [(s_39).1] at q218
  obtain ⟨n219, q220, hF⟩ := ar_s hG; clear hG
  rw [(s_39).1] at q220
  obtain ⟨q221, hG⟩ := ck_s hF; clear hF
  obtain ⟨q222, hF⟩ := ck_s hG; clear hG
  obtain ⟨q223, hG⟩ := ck_s hF; clear hF
  obtain ⟨q224, hF⟩ := ck_s hG; clear hG
  obtain ⟨q225, hG⟩ := ck_s hF; clear hF
  obtain ⟨H226, eH226, hF⟩ := bnd_g hG; clear hG
  replace hm : Rg Q H H226 := hm.tr (by rw [eH226]; exact Rg.cpy hm.1 qa215)
  have s_40 : Sa H H226 := by rw [eH226]; exact s_39
  obtain ⟨a227, e228, hG⟩ := rf_s hF; clear hF
  have qa227 : Q a227 := hm.1 _ _ _ q_p1 e228
  obtain ⟨a229, e230, hF⟩ := rf_s hG; clear hG
  have qa229 : Q a229 := hm.1 _ _ _ q_p0 e230
  obtain ⟨n231, q232, hG⟩ := ar_s hF; clear hF
  rw [(s_40).1] at q232
  obtain ⟨n233, q234, hF⟩ := ar_s hG; clear hG
  rw [(s_40).1] at q234
  obtain ⟨q235, hG⟩ := ck_s hF; clear hF
  obtain ⟨q236, hF⟩ := ck_s hG; clear hG
  obtain ⟨q237, hG⟩ := ck_s hF; clear hF
  obtain ⟨q238, hF⟩ := ck_s hG; clear hG
  obtain ⟨q239, hG⟩ := ck_s hF; clear hF
  obtain ⟨H240, eH240, hF⟩ := bnd_g hG; clear hG
  replace hm : Rg Q H H240 := hm.tr (by rw [eH240]; exact Rg.cpy hm.1 qa229)
  have s_41 : Sa H H240 := by rw [eH240]; exact s_40
  obtain ⟨x241, -, hG⟩ := bnd_g hF; clear hF
  obtain ⟨H242, eH242, hF⟩ := bnd_g hG; clear hG
  replace hm : Rg Q H H242 := hm.tr (by rw [eH242]; exact Rg.sD hm.1 q_p0)
  have s_42 : Sa H H242 := by rw [eH242]; exact s_41
  obtain ⟨x243, -, hG⟩ := bnd_g hF; clear hF
  obtain ⟨H244, eH244, hF⟩ := bnd_g hG; clear hG
  replace hm : Rg Q H H244 := hm.tr (by rw [eH244]; exact Rg.sD hm.1 q_p0)
  have s_43 : Sa H H244 := by rw [eH244]; exact s_42
  obtain ⟨a245, e246, hG⟩ := rf_s hF; clear hF
  have qa245 : Q a245 := hm.1 _ _ _ q_p1 e246
  obtain ⟨a247, e248, hF⟩ := rf_s hG; clear hG
  have qa247 : Q a247 := hm.1 _ _ _ q_p0 e248
  obtain ⟨x249, -, hG⟩ := bnd_g hF; clear hF
  obtain ⟨x250, -, hF⟩ := bnd_g hG; clear hG
  obtain ⟨n251, q252, hG⟩ := ar_s hF; clear hF
  rw [(s_43).1] at q252
  obtain ⟨n253, q254, hF⟩ := ar_s hG; clear hG
  rw [(s_43).1] at q254
  obtain ⟨q255, hG⟩ := ck_s hF; clear hF
  obtain ⟨q256, hF⟩ := ck_s hG; clear hG
  obtain ⟨q257, hG⟩ := ck_s hF; clear hF
  obtain ⟨q258, hF⟩ := ck_s hG; clear hG
  obtain ⟨q259, hG⟩ := ck_s hF; clear hF
  obtain ⟨H260, eH260, hF⟩ := bnd_g hG; clear hG
  replace hm : Rg Q H H260 := hm.tr (by rw [eH260]; exact Rg.cpy hm.1 qa247)
  have s_44 : Sa H H260 := by rw [eH260]; exact s_43
  obtain ⟨a261, e262, hG⟩ := rf_s hF; clear hF
  have qa261 : Q a261 := hm.1 _ _ _ q_p1 e262
  obtain ⟨a263, e264, hF⟩ := rf_s hG; clear hG
  have qa263 : Q a263 := hm.1 _ _ _ q_p0 e264
  obtain ⟨x265, -, hG⟩ := bnd_g hF; clear hF
  obtain ⟨n266, q267, hF⟩ := ar_s hG; clear hG
  rw [(s_44).1] at q267
  obtain ⟨n268, q269, hG⟩ := ar_s hF; clear hF
  rw [(s_44).1] at q269
  obtain ⟨q270, hF⟩ := ck_s hG; clear hG
  obtain ⟨q271, hG⟩ := ck_s hF; clear hF
  obtain ⟨q272, hF⟩ := ck_s hG; clear hG
  obtain ⟨q273, hG⟩ := ck_s hF; clear hF
  obtain ⟨q274, hF⟩ := ck_s hG; clear hG
  obtain ⟨H275, eH275, hG⟩ := bnd_g hF; clear hF
  replace hm : Rg Q H H275 := hm.tr (by rw [eH275]; exact Rg.cpy hm.1 qa263)
  have s_45 : Sa H H275 := by rw [eH275]; exact s_44
  obtain ⟨x276, -, hF⟩ := bnd_g hG; clear hG
  obtain ⟨H277, eH277, hG⟩ := bnd_g hF; clear hF
  replace hm : Rg Q H H277 := hm.tr (by rw [eH277]; exact Rg.sD hm.1 q_p0)
  have s_46 : Sa H H277 := by rw [eH277]; exact s_45
  obtain ⟨a278, e279, hF⟩ := rf_s hG; clear hG
  have qa278 : Q a278 := hm.1 _ _ _ q_p1 e279
  obtain ⟨a280, e281, hG⟩ := rf_s hF; clear hF
  have qa280 : Q a280 := hm.1 _ _ _ q_p0 e281
  obtain ⟨x282, -, hF⟩ := bnd_g hG; clear hG
  obtain ⟨n283, q284, hG⟩ := ar_s hF; clear hF
  rw [(s_46).1] at q284
  obtain ⟨n285, q286, hF⟩ := ar_s hG; clear hG
  rw [(s_46).1] at q286
  obtain ⟨q287, hG⟩ := ck_s hF; clear hF
  obtain ⟨q288, hF⟩ := ck_s hG; clear hG
  obtain ⟨q289, hG⟩ := ck_s hF; clear hF
  obtain ⟨q290, hF⟩ := ck_s hG; clear hG
  obtain ⟨q291, hG⟩ := ck_s hF; clear hF
  obtain ⟨H292, eH292, hF⟩ := bnd_g hG; clear hG
  replace hm : Rg Q H H292 := hm.tr (by rw [eH292]; exact Rg.cpy hm.1 qa280)
  have s_47 : Sa H H292 := by rw [eH292]; exact s_46
  obtain ⟨x293, -, hG⟩ := bnd_g hF; clear hF
  obtain ⟨H294, eH294, hF⟩ := bnd_g hG; clear hG
  replace hm : Rg Q H H294 := hm.tr (by rw [eH294]; exact Rg.sD hm.1 q_p0)
  have s_48 : Sa H H294 := by rw [eH294]; exact s_47
  have hr := Option.some.inj hF; subst hr
  exact hm
set_option maxRecDepth 20000 in
set_option maxHeartbeats 2000000 in
theorem gB_Shapes_headNamed_2 {N : Nat} {Q : Nat → Prop} {p0 : Nat} {p1 : Nat} (q_p0 : Q p0) (q_p1 : Q p1) : ∀ (n : Nat) (l2 : Int32) (H : Hp) (r : Int32 × Hp), B_Shapes_headNamed_2 N p0 p1 n l2 H = some r → Cl Q H → Rg Q H r.2 := by
  intro n
  induction n with
  | zero => intro l2 H r hF; rw [B_Shapes_headNamed_2] at hF; cases hF
  | succ n ih =>
    intro l2 H r hF hc0
    rw [B_Shapes_headNamed_2] at hF
    have hm := Rg.rf hc0
    obtain ⟨q37, hG⟩ := ck_s hF; clear hF
    obtain ⟨x38, -, hF⟩ := bnd_g hG; clear hG
    rcases ite_s hF with ⟨q_5, hG⟩ | ⟨q_5, hG⟩
    · clear hF
      have hr := Option.some.inj hG; subst hr
      exact hm
    · clear hF
      obtain ⟨a40, e41, hF⟩ := rf_s hG; clear hG
      have qa40 : Q a40 := hm.1 _ _ _ q_p0 e41
      obtain ⟨n42, q43, hG⟩ := ar_s hF; clear hF
      obtain ⟨q44, hF⟩ := ck_s hG; clear hG
      obtain ⟨a45, e46, hG⟩ := rf_s hF; clear hF
      have qa45 : Q a45 := hm.1 _ _ _ qa40 e46
      obtain ⟨q47, hF⟩ := ck_s hG; clear hG
      obtain ⟨a48, e49, hG⟩ := rf_s hF; clear hF
      have qa48 : Q a48 := hm.1 _ _ _ qa45 e49
      obtain ⟨q50, hF⟩ := ck_s hG; clear hG
      obtain ⟨v52, H53, z51, hG⟩ := bC_s hF; clear hF
      have gz_6 := (g_Str_equals z51 hm.1 qa48 q_p1)
      replace hm : Rg Q H H53 := hm.tr gz_6
      have s_7 : Sa H H53 := (m_Str_equals z51)
      rcases ite_s hG with ⟨q_8, hF⟩ | ⟨q_8, hF⟩
      · clear hG
        exact hm.tr (ih (l2 + 1) H53 r hF hm.1)
      · clear hG
        have hr := Option.some.inj hF; subst hr
        exact hm
set_option maxRecDepth 20000 in
set_option maxHeartbeats 2000000 in
theorem g_Shapes_headNamed {N : Nat} {Q : Nat → Prop} {p0 : Nat} {p1 : Nat} {H : Hp} {r : Int32 × Hp} (hF : F_Shapes_headNamed N p0 p1 H = some r) (hc0 : Cl Q H) (q_p0 : Q p0) (q_p1 : Q p1) : Rg Q H r.2 := by
  unfold F_Shapes_headNamed at hF
  have hm := Rg.rf hc0
  exact hm.tr (gB_Shapes_headNamed_2 q_p0 q_p1 N 0 H r hF hm.1)
set_option maxRecDepth 20000 in
set_option maxHeartbeats 2000000 in
theorem g_World_owns {N : Nat} {Q : Nat → Prop} {p0 : Nat} {p1 : Int32} {p2 : Int32} {H : Hp} {r : Int32 × Hp} (hF : F_World_owns N p0 p1 p2 H = some r) (hc0 : Cl Q H) (q_p0 : Q p0) : Rg Q H r.2 := by
  unfold F_World_owns at hF
  have hm := Rg.rf hc0
  rcases ite_s hF with ⟨q_5, hG⟩ | ⟨q_5, hG⟩
  · clear hF
    have hr := Option.some.inj hG; subst hr
    exact hm
  · clear hF
    rcases ite_s hG with ⟨q_6, hF⟩ | ⟨q_6, hF⟩
    · clear hG
      have hr := Option.some.inj hF; subst hr
      exact hm
    · clear hG
      obtain ⟨q37, hG⟩ := ck_s hF; clear hF
      obtain ⟨a38, e39, hF⟩ := rf_s hG; clear hG
      have qa38 : Q a38 := hm.1 _ _ _ q_p0 e39
      obtain ⟨n40, q41, hG⟩ := ar_s hF; clear hF
      obtain ⟨q42, hF⟩ := ck_s hG; clear hG
      obtain ⟨x43, -, hG⟩ := bnd_g hF; clear hF
      rcases ite_s hG with ⟨q_7, hF⟩ | ⟨q_7, hF⟩
      · clear hG
        have hr := Option.some.inj hF; subst hr
        exact hm
      · clear hG
        obtain ⟨a45, e46, hG⟩ := rf_s hF; clear hF
        have qa45 : Q a45 := hm.1 _ _ _ q_p0 e46
        obtain ⟨n47, q48, hF⟩ := ar_s hG; clear hG
        obtain ⟨q49, hG⟩ := ck_s hF; clear hF
        obtain ⟨x50, -, hF⟩ := bnd_g hG; clear hG
        rcases ite_s hF with ⟨q_8, hG⟩ | ⟨q_8, hG⟩
        · clear hF
          have hr := Option.some.inj hG; subst hr
          exact hm
        · clear hF
          have hr := Option.some.inj hG; subst hr
          exact hm
set_option maxRecDepth 20000 in
set_option maxHeartbeats 2000000 in
theorem g_World_read {N : Nat} {Q : Nat → Prop} {p0 : Nat} {p1 : Int32} {p2 : Int32} {H : Hp} {r : Int32 × Hp} (hF : F_World_read N p0 p1 p2 H = some r) (hc0 : Cl Q H) (q_p0 : Q p0) : Rg Q H r.2 := by
  unfold F_World_read at hF
  have hm := Rg.rf hc0
  obtain ⟨q33, hG⟩ := ck_s hF; clear hF
  obtain ⟨x34, -, hF⟩ := bnd_g hG; clear hG
  obtain ⟨x35, -, hG⟩ := bnd_g hF; clear hF
  rcases ite_s hG with ⟨q_4, hF⟩ | ⟨q_4, hF⟩
  · clear hG
    have hr := Option.some.inj hF; subst hr
    exact hm
  · clear hG
    rcases ite_s hF with ⟨q_5, hG⟩ | ⟨q_5, hG⟩
    · clear hF
      have hr := Option.some.inj hG; subst hr
      exact hm
    · clear hF
      obtain ⟨a38, e39, hF⟩ := rf_s hG; clear hG
      have qa38 : Q a38 := hm.1 _ _ _ q_p0 e39
      obtain ⟨n40, q41, hG⟩ := ar_s hF; clear hF
      rcases ite_s hG with ⟨q_6, hF⟩ | ⟨q_6, hF⟩
      · clear hG
        have hr := Option.some.inj hF; subst hr
        exact hm
      · clear hG
        obtain ⟨a43, e44, hG⟩ := rf_s hF; clear hF
        have qa43 : Q a43 := hm.1 _ _ _ q_p0 e44
        obtain ⟨n45, q46, hF⟩ := ar_s hG; clear hG
        obtain ⟨q47, hG⟩ := ck_s hF; clear hF
        obtain ⟨x48, -, hF⟩ := bnd_g hG; clear hG
        have hr := Option.some.inj hF; subst hr
        exact hm
set_option maxRecDepth 20000 in
set_option maxHeartbeats 2000000 in
theorem gB_World_turned_17 {N : Nat} {Q : Nat → Prop} {p0 : Int32} {p1 : Int32} {p2 : Int32}  {H : Hp} {r : Int32 × Hp} (hF : B_World_turned_17 N p0 p1 p2  H = some r) (hc0 : Cl Q H) : Rg Q H r.2 := by
  unfold B_World_turned_17 at hF
  have hm := Rg.rf hc0
  rcases ite_s hF with ⟨q_18, hG⟩ | ⟨q_18, hG⟩
  · clear hF
    have hr := Option.some.inj hG; subst hr
    exact hm
  · clear hF
    have hr := Option.some.inj hG; subst hr
    exact hm
set_option maxRecDepth 20000 in
set_option maxHeartbeats 2000000 in
theorem gB_World_turned_41 {N : Nat} {Q : Nat → Prop} {p0 : Int32} {p1 : Int32} {p2 : Int32} {w0 : Int32} {H : Hp} {r : Int32 × Hp} (hF : B_World_turned_41 N p0 p1 p2 w0 H = some r) (hc0 : Cl Q H) : Rg Q H r.2 := by
  unfold B_World_turned_41 at hF
  have hm := Rg.rf hc0
  rcases ite_s hF with ⟨q_19, hG⟩ | ⟨q_19, hG⟩
  · clear hF
    obtain ⟨v48, H49, z47, hF⟩ := bC_s hG; clear hG
    have gz_20 := (g_Math_min z47 hm.1)
    replace hm : Rg Q H H49 := hm.tr gz_20
    have s_21 : Sa H H49 := (m_Math_min z47)
    obtain ⟨v51, H52, z50, hG⟩ := bC_s hF; clear hF
    have gz_22 := (g_Math_max z50 hm.1)
    replace hm : Rg Q H H52 := hm.tr gz_22
    have s_23 : Sa H H52 := (s_21).tr (m_Math_max z50)
    have hr := Option.some.inj hG; subst hr
    exact hm
  clear hF
  rcases ite_s hG with ⟨q_24, hF⟩ | ⟨q_24, hF⟩
  · clear hG
    obtain ⟨x54, -, hG⟩ := bnd_g hF; clear hF
    obtain ⟨v56, H57, z55, hF⟩ := bC_s hG; clear hG
    have gz_25 := (g_Math_min2 z55 hm.1)
    replace hm : Rg Q H H57 := hm.tr gz_25
    have s_26 : Sa H H57 := (m_Math_min2 z55)
    obtain ⟨v59, H60, z58, hG⟩ := bC_s hF; clear hF
    have gz_27 := (g_Math_max2 z58 hm.1)
    replace hm : Rg Q H H60 := hm.tr gz_27
    have s_28 : Sa H H60 := (s_26).tr (m_Math_max2 z58)
    have hr := Option.some.inj hG; subst hr
    exact hm
  clear hG
  rcases ite_s hF with ⟨q_29, hG⟩ | ⟨q_29, hG⟩
  · clear hF
    rcases ite_s hG with ⟨q_30, hF⟩ | ⟨q_30, hF⟩
    · clear hG
      have hr := Option.some.inj hF; subst hr
      exact hm
    · clear hG
      have hr := Option.some.inj hF; subst hr
      exact hm
  clear hF
  have hr := Option.some.inj hG; subst hr
  exact hm
set_option maxRecDepth 20000 in
set_option maxHeartbeats 2000000 in
theorem g_World_turned {N : Nat} {Q : Nat → Prop} {p0 : Int32} {p1 : Int32} {p2 : Int32} {H : Hp} {r : Int32 × Hp} (hF : F_World_turned N p0 p1 p2 H = some r) (hc0 : Cl Q H) : Rg Q H r.2 := by
  unfold F_World_turned at hF
  have hm := Rg.rf hc0
  rcases ite_s hF with ⟨q_31, hG⟩ | ⟨q_31, hG⟩
  · clear hF
    have hr := Option.some.inj hG; subst hr
    exact hm
  · clear hF
    rcases ite_s hG with ⟨q_32, hF⟩ | ⟨q_32, hF⟩
    · clear hG
      exact hm.tr (gB_World_turned_17 hF hm.1)
    · clear hG
      rcases ite_s hF with ⟨q_33, hG⟩ | ⟨q_33, hG⟩
      · clear hF
        exact hm.tr (gB_World_turned_17 hG hm.1)
      · clear hF
        rcases ite_s hG with ⟨q_34, hF⟩ | ⟨q_34, hF⟩
        · clear hG
          exact hm.tr (gB_World_turned_41 hF hm.1)
        · clear hG
          exact hm.tr (gB_World_turned_41 hF hm.1)
set_option maxRecDepth 20000 in
set_option maxHeartbeats 2000000 in
theorem g_World_write {N : Nat} {Q : Nat → Prop} {p0 : Nat} {p1 : Int32} {p2 : Int32} {p3 : Int32} {H : Hp} {r : Unit × Hp} (hF : F_World_write N p0 p1 p2 p3 H = some r) (hc0 : Cl Q H) (q_p0 : Q p0) : Rg Q H r.2 := by
  unfold F_World_write at hF
  have hm := Rg.rf hc0
  obtain ⟨q33, hG⟩ := ck_s hF; clear hF
  obtain ⟨x34, -, hF⟩ := bnd_g hG; clear hG
  obtain ⟨x35, -, hG⟩ := bnd_g hF; clear hF
  rcases ite_s hG with ⟨q_6, hF⟩ | ⟨q_6, hF⟩
  · clear hG
    have hr := Option.some.inj hF; subst hr
    exact hm
  · clear hG
    rcases ite_s hF with ⟨q_7, hG⟩ | ⟨q_7, hG⟩
    · clear hF
      have hr := Option.some.inj hG; subst hr
      exact hm
    · clear hF
      obtain ⟨a38, e39, hF⟩ := rf_s hG; clear hG
      have qa38 : Q a38 := hm.1 _ _ _ q_p0 e39
      obtain ⟨n40, q41, hG⟩ := ar_s hF; clear hF
      rcases ite_s hG with ⟨q_8, hF⟩ | ⟨q_8, hF⟩
      · clear hG
        have hr := Option.some.inj hF; subst hr
        exact hm
      · clear hG
        obtain ⟨a43, e44, hG⟩ := rf_s hF; clear hF
        have qa43 : Q a43 := hm.1 _ _ _ q_p0 e44
        obtain ⟨n45, q46, hF⟩ := ar_s hG; clear hG
        obtain ⟨q47, hG⟩ := ck_s hF; clear hF
        obtain ⟨H48, eH48, hF⟩ := bnd_g hG; clear hG
        replace hm : Rg Q H H48 := hm.tr (by rw [eH48]; exact Rg.sD hm.1 qa43)
        have s_9 : Sa H H48 := by rw [eH48]; exact Sa.rf _
        have hr := Option.some.inj hF; subst hr
        exact hm
set_option maxRecDepth 20000 in
set_option maxHeartbeats 2000000 in
theorem gB_World_carryMember_67 {N : Nat} {Q : Nat → Prop} {p0 : Nat} {p1 : Nat} {p2 : Nat} {p3 : Int32} {p4 : Nat} {p5 : Int32} {kq19 : Int32 → Int32 → Hp → Option (Unit × Hp)} (q_p0 : Q p0) (q_p1 : Q p1) (q_p2 : Q p2) (q_p4 : Q p4) (hg19 : ∀ (l6 : Int32) (l7 : Int32) (H : Hp) (r : Unit × Hp), kq19 l6 l7 H = some r → Cl Q H → Rg Q H r.2) {l6 : Int32} {l7 : Int32} {l8 : Int32} {H : Hp} {r : Unit × Hp} (hF : B_World_carryMember_67 N p0 p1 p2 p3 p4 p5 kq19 l6 l7 l8 H = some r) (hc0 : Cl Q H) : Rg Q H r.2 := by
  unfold B_World_carryMember_67 at hF
  have hm := Rg.rf hc0
  obtain ⟨q91, hG⟩ := ck_s hF; clear hF
  obtain ⟨v93, H94, z92, hF⟩ := bC_s hG; clear hG
  have gz_11 := (g_World_write z92 hm.1 q_p0)
  replace hm : Rg Q H H94 := hm.tr gz_11
  have s_12 : Sa H H94 := (m_World_write z92)
  exact hm.tr (hg19 l6 (l7 + 1) H94 r hF hm.1)
set_option maxRecDepth 20000 in
set_option maxHeartbeats 2000000 in
theorem gB_World_carryMember_19 {N : Nat} {Q : Nat → Prop} {p0 : Nat} {p1 : Nat} {p2 : Nat} {p3 : Int32} {p4 : Nat} {p5 : Int32} (q_p0 : Q p0) (q_p1 : Q p1) (q_p2 : Q p2) (q_p4 : Q p4) : ∀ (n : Nat) (l6 : Int32) (l7 : Int32) (H : Hp) (r : Unit × Hp), B_World_carryMember_19 N p0 p1 p2 p3 p4 p5 n l6 l7 H = some r → Cl Q H → Rg Q H r.2 := by
  intro n
  induction n with
  | zero => intro l6 l7 H r hF; rw [B_World_carryMember_19] at hF; cases hF
  | succ n ih =>
    intro l6 l7 H r hF hc0
    rw [B_World_carryMember_19] at hF
    have hm := Rg.rf hc0
    obtain ⟨q95, hG⟩ := ck_s hF; clear hF
    obtain ⟨x96, -, hF⟩ := bnd_g hG; clear hG
    rcases ite_s hF with ⟨q_13, hG⟩ | ⟨q_13, hG⟩
    · clear hF
      have hr := Option.some.inj hG; subst hr
      exact hm
    · clear hF
      obtain ⟨q98, hF⟩ := ck_s hG; clear hG
      obtain ⟨v100, H101, z99, hG⟩ := bC_s hF; clear hF
      have gz_14 := (g_Program_firstValue z99 hm.1 q_p4)
      replace hm : Rg Q H H101 := hm.tr gz_14
      have s_15 : Sa H H101 := (m_Program_firstValue z99)
      rcases ite_s hG with ⟨q_16, hF⟩ | ⟨q_16, hF⟩
      · clear hG
        exact hm.tr (gB_World_carryMember_67 q_p0 q_p1 q_p2 q_p4 ih hF hm.1)
      · clear hG
        obtain ⟨q103, hG⟩ := ck_s hF; clear hF
        rw [(s_15).1] at q103
        obtain ⟨v105, H106, z104, hF⟩ := bC_s hG; clear hG
        have gz_17 := (g_World_read z104 hm.1 q_p1)
        replace hm : Rg Q H H106 := hm.tr gz_17
        have s_18 : Sa H H106 := (s_15).tr (m_World_read z104)
        obtain ⟨q107, hG⟩ := ck_s hF; clear hF
        rw [(s_18).1] at q107
        obtain ⟨a108, e109, hF⟩ := rf_s hG; clear hG
        have qa108 : Q a108 := hm.1 _ _ _ q_p2 e109
        obtain ⟨q110, hG⟩ := ck_s hF; clear hF
        rw [(s_18).1] at q110
        obtain ⟨a111, e112, hF⟩ := rf_s hG; clear hG
        have qa111 : Q a111 := hm.1 _ _ _ qa108 e112
        obtain ⟨n113, q114, hG⟩ := ar_s hF; clear hF
        rw [(s_18).1] at q114
        obtain ⟨q115, hF⟩ := ck_s hG; clear hG
        obtain ⟨a116, e117, hG⟩ := rf_s hF; clear hF
        have qa116 : Q a116 := hm.1 _ _ _ qa111 e117
        obtain ⟨q118, hF⟩ := ck_s hG; clear hG
        rw [(s_18).1] at q118
        obtain ⟨x119, -, hG⟩ := bnd_g hF; clear hF
        obtain ⟨v121, H122, z120, hF⟩ := bC_s hG; clear hG
        have gz_19 := (g_World_turned z120 hm.1)
        replace hm : Rg Q H H122 := hm.tr gz_19
        have s_20 : Sa H H122 := (s_18).tr (m_World_turned z120)
        exact hm.tr (gB_World_carryMember_67 q_p0 q_p1 q_p2 q_p4 ih hF hm.1)
set_option maxRecDepth 20000 in
set_option maxHeartbeats 2000000 in
theorem g_World_carryMember {N : Nat} {Q : Nat → Prop} {p0 : Nat} {p1 : Nat} {p2 : Nat} {p3 : Int32} {p4 : Nat} {p5 : Int32} {H : Hp} {r : Unit × Hp} (hF : F_World_carryMember N p0 p1 p2 p3 p4 p5 H = some r) (hc0 : Cl Q H) (q_p0 : Q p0) (q_p1 : Q p1) (q_p2 : Q p2) (q_p4 : Q p4) : Rg Q H r.2 := by
  unfold F_World_carryMember at hF
  have hm := Rg.rf hc0
  obtain ⟨q123, hG⟩ := ck_s hF; clear hF
  obtain ⟨a124, e125, hF⟩ := rf_s hG; clear hG
  have qa124 : Q a124 := hm.1 _ _ _ q_p4 e125
  obtain ⟨q126, hG⟩ := ck_s hF; clear hF
  obtain ⟨a127, e128, hF⟩ := rf_s hG; clear hG
  have qa127 : Q a127 := hm.1 _ _ _ qa124 e128
  obtain ⟨n129, q130, hG⟩ := ar_s hF; clear hF
  obtain ⟨q131, hF⟩ := ck_s hG; clear hG
  obtain ⟨a132, e133, hG⟩ := rf_s hF; clear hF
  have qa132 : Q a132 := hm.1 _ _ _ qa127 e133
  obtain ⟨q134, hF⟩ := ck_s hG; clear hG
  obtain ⟨x135, -, hG⟩ := bnd_g hF; clear hF
  exact hm.tr (gB_World_carryMember_19 q_p0 q_p1 q_p2 q_p4 N x135 0 H r hG hm.1)
set_option maxRecDepth 20000 in
set_option maxHeartbeats 2000000 in
theorem gB_Shapes_sameKinds_22 {N : Nat} {Q : Nat → Prop} {p0 : Nat} {p1 : Int32} {p2 : Nat} {p3 : Int32} (q_p0 : Q p0) (q_p2 : Q p2) : ∀ (n : Nat) (l4 : Int32) (l5 : Int32) (H : Hp) (r : Int32 × Hp), B_Shapes_sameKinds_22 N p0 p1 p2 p3 n l4 l5 H = some r → Cl Q H → Rg Q H r.2 := by
  intro n
  induction n with
  | zero => intro l4 l5 H r hF; rw [B_Shapes_sameKinds_22] at hF; cases hF
  | succ n ih =>
    intro l4 l5 H r hF hc0
    rw [B_Shapes_sameKinds_22] at hF
    have hm := Rg.rf hc0
    rcases ite_s hF with ⟨q_8, hG⟩ | ⟨q_8, hG⟩
    · clear hF
      have hr := Option.some.inj hG; subst hr
      exact hm
    · clear hF
      obtain ⟨q88, hF⟩ := ck_s hG; clear hG
      obtain ⟨a89, e90, hG⟩ := rf_s hF; clear hF
      have qa89 : Q a89 := hm.1 _ _ _ q_p0 e90
      obtain ⟨a91, e92, hF⟩ := rf_s hG; clear hG
      have qa91 : Q a91 := hm.1 _ _ _ q_p0 e92
      obtain ⟨n93, q94, hG⟩ := ar_s hF; clear hF
      obtain ⟨q95, hF⟩ := ck_s hG; clear hG
      obtain ⟨x96, -, hG⟩ := bnd_g hF; clear hF
      obtain ⟨n97, q98, hF⟩ := ar_s hG; clear hG
      obtain ⟨q99, hG⟩ := ck_s hF; clear hF
      obtain ⟨a100, e101, hF⟩ := rf_s hG; clear hG
      have qa100 : Q a100 := hm.1 _ _ _ qa89 e101
      obtain ⟨q102, hG⟩ := ck_s hF; clear hF
      obtain ⟨x103, -, hF⟩ := bnd_g hG; clear hG
      obtain ⟨q104, hG⟩ := ck_s hF; clear hF
      obtain ⟨a105, e106, hF⟩ := rf_s hG; clear hG
      have qa105 : Q a105 := hm.1 _ _ _ q_p2 e106
      obtain ⟨a107, e108, hG⟩ := rf_s hF; clear hF
      have qa107 : Q a107 := hm.1 _ _ _ q_p2 e108
      obtain ⟨n109, q110, hF⟩ := ar_s hG; clear hG
      obtain ⟨q111, hG⟩ := ck_s hF; clear hF
      obtain ⟨x112, -, hF⟩ := bnd_g hG; clear hG
      obtain ⟨n113, q114, hG⟩ := ar_s hF; clear hF
      obtain ⟨q115, hF⟩ := ck_s hG; clear hG
      obtain ⟨a116, e117, hG⟩ := rf_s hF; clear hF
      have qa116 : Q a116 := hm.1 _ _ _ qa105 e117
      obtain ⟨q118, hF⟩ := ck_s hG; clear hG
      obtain ⟨x119, -, hG⟩ := bnd_g hF; clear hF
      rcases ite_s hG with ⟨q_9, hF⟩ | ⟨q_9, hF⟩
      · clear hG
        exact hm.tr (ih l4 (l5 + 1) H r hF hm.1)
      · clear hG
        have hr := Option.some.inj hF; subst hr
        exact hm
set_option maxRecDepth 20000 in
set_option maxHeartbeats 2000000 in
theorem g_Shapes_sameKinds {N : Nat} {Q : Nat → Prop} {p0 : Nat} {p1 : Int32} {p2 : Nat} {p3 : Int32} {H : Hp} {r : Int32 × Hp} (hF : F_Shapes_sameKinds N p0 p1 p2 p3 H = some r) (hc0 : Cl Q H) (q_p0 : Q p0) (q_p2 : Q p2) : Rg Q H r.2 := by
  unfold F_Shapes_sameKinds at hF
  have hm := Rg.rf hc0
  obtain ⟨q121, hG⟩ := ck_s hF; clear hF
  obtain ⟨v123, H124, z122, hF⟩ := bC_s hG; clear hG
  have gz_10 := (g_Shapes_sizeOf z122 hm.1 q_p0)
  replace hm : Rg Q H H124 := hm.tr gz_10
  have s_11 : Sa H H124 := (m_Shapes_sizeOf z122)
  obtain ⟨q125, hG⟩ := ck_s hF; clear hF
  rw [(s_11).1] at q125
  obtain ⟨v127, H128, z126, hF⟩ := bC_s hG; clear hG
  have gz_12 := (g_Shapes_sizeOf z126 hm.1 q_p2)
  replace hm : Rg Q H H128 := hm.tr gz_12
  have s_13 : Sa H H128 := (s_11).tr (m_Shapes_sizeOf z126)
  rcases ite_s hF with ⟨q_14, hG⟩ | ⟨q_14, hG⟩
  · clear hF
    exact hm.tr (gB_Shapes_sameKinds_22 q_p0 q_p2 N v123 0 H128 r hG hm.1)
  · clear hF
    have hr := Option.some.inj hG; subst hr
    exact hm
set_option maxRecDepth 20000 in
set_option maxHeartbeats 2000000 in
theorem gB_World_carryEvents_107 {N : Nat} {Q : Nat → Prop} {p0 : Nat} {p1 : Nat} {p2 : Nat} {kq5 : Int32 → Int32 → Hp → Option (Unit × Hp)} (q_p0 : Q p0) (q_p1 : Q p1) (q_p2 : Q p2) (hg5 : ∀ (l3 : Int32) (l4 : Int32) (H : Hp) (r : Unit × Hp), kq5 l3 l4 H = some r → Cl Q H → Rg Q H r.2) {l3 : Int32} {l4 : Int32} {H : Hp} {r : Unit × Hp} (hF : B_World_carryEvents_107 N p0 p1 p2 kq5 l3 l4 H = some r) (hc0 : Cl Q H) : Rg Q H r.2 := by
  unfold B_World_carryEvents_107 at hF
  have hm := Rg.rf hc0
  exact hm.tr (hg5 l3 (l4 + 1) H r hF hm.1)
set_option maxRecDepth 20000 in
set_option maxHeartbeats 2000000 in
theorem gB_World_carryEvents_5 {N : Nat} {Q : Nat → Prop} {p0 : Nat} {p1 : Nat} {p2 : Nat} (q_p0 : Q p0) (q_p1 : Q p1) (q_p2 : Q p2) : ∀ (n : Nat) (l3 : Int32) (l4 : Int32) (H : Hp) (r : Unit × Hp), B_World_carryEvents_5 N p0 p1 p2 n l3 l4 H = some r → Cl Q H → Rg Q H r.2 := by
  intro n
  induction n with
  | zero => intro l3 l4 H r hF; rw [B_World_carryEvents_5] at hF; cases hF
  | succ n ih =>
    intro l3 l4 H r hF hc0
    rw [B_World_carryEvents_5] at hF
    have hm := Rg.rf hc0
    obtain ⟨q123, hG⟩ := ck_s hF; clear hF
    obtain ⟨x124, -, hF⟩ := bnd_g hG; clear hG
    rcases ite_s hF with ⟨q_14, hG⟩ | ⟨q_14, hG⟩
    · clear hF
      obtain ⟨H126, eH126, hF⟩ := bnd_g hG; clear hG
      replace hm : Rg Q H H126 := hm.tr (by rw [eH126]; exact Rg.sD hm.1 q_p0)
      have s_15 : Sa H H126 := by rw [eH126]; exact Sa.rf _
      have hr := Option.some.inj hF; subst hr
      exact hm
    · clear hF
      obtain ⟨a127, e128, hF⟩ := rf_s hG; clear hG
      have qa127 : Q a127 := hm.1 _ _ _ q_p0 e128
      obtain ⟨n129, q130, hG⟩ := ar_s hF; clear hF
      obtain ⟨q131, hF⟩ := ck_s hG; clear hG
      obtain ⟨x132, -, hG⟩ := bnd_g hF; clear hF
      obtain ⟨q133, hF⟩ := ck_s hG; clear hG
      obtain ⟨a134, e135, hG⟩ := rf_s hF; clear hF
      have qa134 : Q a134 := hm.1 _ _ _ q_p2 e135
      obtain ⟨q136, hF⟩ := ck_s hG; clear hG
      obtain ⟨a137, e138, hG⟩ := rf_s hF; clear hF
      have qa137 : Q a137 := hm.1 _ _ _ q_p1 e138
      obtain ⟨q139, hF⟩ := ck_s hG; clear hG
      obtain ⟨a140, e141, hG⟩ := rf_s hF; clear hF
      have qa140 : Q a140 := hm.1 _ _ _ qa137 e141
      obtain ⟨n142, q143, hF⟩ := ar_s hG; clear hG
      obtain ⟨q144, hG⟩ := ck_s hF; clear hF
      obtain ⟨a145, e146, hF⟩ := rf_s hG; clear hG
      have qa145 : Q a145 := hm.1 _ _ _ qa140 e146
      obtain ⟨q147, hG⟩ := ck_s hF; clear hF
      obtain ⟨a148, e149, hF⟩ := rf_s hG; clear hG
      have qa148 : Q a148 := hm.1 _ _ _ qa145 e149
      obtain ⟨q150, hG⟩ := ck_s hF; clear hF
      obtain ⟨v152, H153, z151, hF⟩ := bC_s hG; clear hG
      have gz_16 := (g_Shapes_headNamed z151 hm.1 qa134 qa148)
      replace hm : Rg Q H H153 := hm.tr gz_16
      have s_17 : Sa H H153 := (m_Shapes_headNamed z151)
      rcases ite_s hF with ⟨q_18, hG⟩ | ⟨q_18, hG⟩
      · clear hF
        exact hm.tr (gB_World_carryEvents_107 q_p0 q_p1 q_p2 ih hG hm.1)
      · clear hF
        obtain ⟨a155, e156, hF⟩ := rf_s hG; clear hG
        have qa155 : Q a155 := hm.1 _ _ _ q_p1 e156
        obtain ⟨a157, e158, hG⟩ := rf_s hF; clear hF
        have qa157 : Q a157 := hm.1 _ _ _ q_p2 e158
        obtain ⟨q159, hF⟩ := ck_s hG; clear hG
        rw [(s_17).1] at q159
        obtain ⟨v161, H162, z160, hG⟩ := bC_s hF; clear hF
        have gz_19 := (g_Shapes_sameKinds z160 hm.1 qa155 qa157)
        replace hm : Rg Q H H162 := hm.tr gz_19
        have s_20 : Sa H H162 := (s_17).tr (m_Shapes_sameKinds z160)
        rcases ite_s hG with ⟨q_21, hF⟩ | ⟨q_21, hF⟩
        · clear hG
          exact hm.tr (gB_World_carryEvents_107 q_p0 q_p1 q_p2 ih hF hm.1)
        · clear hG
          obtain ⟨a164, e165, hG⟩ := rf_s hF; clear hF
          have qa164 : Q a164 := hm.1 _ _ _ q_p0 e165
          obtain ⟨a166, e167, hF⟩ := rf_s hG; clear hG
          have qa166 : Q a166 := hm.1 _ _ _ q_p0 e167
          obtain ⟨n168, q169, hG⟩ := ar_s hF; clear hF
          rw [(s_20).1] at q169
          obtain ⟨n170, q171, hF⟩ := ar_s hG; clear hG
          rw [(s_20).1] at q171
          obtain ⟨q172, hG⟩ := ck_s hF; clear hF
          obtain ⟨q173, hF⟩ := ck_s hG; clear hG
          obtain ⟨q174, hG⟩ := ck_s hF; clear hF
          obtain ⟨q175, hF⟩ := ck_s hG; clear hG
          obtain ⟨q176, hG⟩ := ck_s hF; clear hF
          obtain ⟨H177, eH177, hF⟩ := bnd_g hG; clear hG
          replace hm : Rg Q H H177 := hm.tr (by rw [eH177]; exact Rg.cpy hm.1 qa166)
          have s_22 : Sa H H177 := by rw [eH177]; exact s_20
          obtain ⟨a178, e179, hG⟩ := rf_s hF; clear hF
          have qa178 : Q a178 := hm.1 _ _ _ q_p0 e179
          obtain ⟨n180, q181, hF⟩ := ar_s hG; clear hG
          rw [(s_22).1] at q181
          obtain ⟨q182, hG⟩ := ck_s hF; clear hF
          obtain ⟨H183, eH183, hF⟩ := bnd_g hG; clear hG
          replace hm : Rg Q H H183 := hm.tr (by rw [eH183]; exact Rg.sD hm.1 qa178)
          have s_23 : Sa H H183 := by rw [eH183]; exact s_22
          exact hm.tr (gB_World_carryEvents_107 q_p0 q_p1 q_p2 ih hF hm.1)
set_option maxRecDepth 20000 in
set_option maxHeartbeats 2000000 in
theorem g_World_carryEvents {N : Nat} {Q : Nat → Prop} {p0 : Nat} {p1 : Nat} {p2 : Nat} {H : Hp} {r : Unit × Hp} (hF : F_World_carryEvents N p0 p1 p2 H = some r) (hc0 : Cl Q H) (q_p0 : Q p0) (q_p1 : Q p1) (q_p2 : Q p2) : Rg Q H r.2 := by
  unfold F_World_carryEvents at hF
  have hm := Rg.rf hc0
  exact hm.tr (gB_World_carryEvents_5 q_p0 q_p1 q_p2 N 0 0 H r hF hm.1)
set_option maxRecDepth 20000 in
set_option maxHeartbeats 2000000 in
theorem gB_World_carryFrom_147 {N : Nat} {Q : Nat → Prop} {p0 : Nat} {p1 : Nat} {p2 : Nat} {p3 : Nat} {kq59 : Nat → Int32 → Hp → Option (Unit × Hp)} (q_p0 : Q p0) (q_p1 : Q p1) (q_p2 : Q p2) (q_p3 : Q p3) (hg59 : ∀ (l4 : Nat) (l5 : Int32) (H : Hp) (r : Unit × Hp), kq59 l4 l5 H = some r → Cl Q H → Q l4 → Rg Q H r.2) : ∀ (n : Nat) (l4 : Nat) (l5 : Int32) (l6 : Int32) (l7 : Int32) (H : Hp) (r : Unit × Hp), B_World_carryFrom_147 N p0 p1 p2 p3 kq59 n l4 l5 l6 l7 H = some r → Cl Q H → Q l4 → Rg Q H r.2 := by
  intro n
  induction n with
  | zero => intro l4 l5 l6 l7 H r hF; rw [B_World_carryFrom_147] at hF; cases hF
  | succ n ih =>
    intro l4 l5 l6 l7 H r hF hc0 q_l4
    rw [B_World_carryFrom_147] at hF
    have hm := Rg.rf hc0
    obtain ⟨q209, hG⟩ := ck_s hF; clear hF
    obtain ⟨a210, e211, hF⟩ := rf_s hG; clear hG
    have qa210 : Q a210 := hm.1 _ _ _ q_l4 e211
    obtain ⟨n212, q213, hG⟩ := ar_s hF; clear hF
    obtain ⟨q214, hF⟩ := ck_s hG; clear hG
    obtain ⟨x215, -, hG⟩ := bnd_g hF; clear hF
    rcases ite_s hG with ⟨q_28, hF⟩ | ⟨q_28, hF⟩
    · clear hG
      exact hm.tr (hg59 l4 (l5 + 1) H r hF hm.1 q_l4)
    · clear hG
      obtain ⟨q217, hG⟩ := ck_s hF; clear hF
      obtain ⟨a218, e219, hF⟩ := rf_s hG; clear hG
      have qa218 : Q a218 := hm.1 _ _ _ q_p2 e219
      obtain ⟨a220, e221, hG⟩ := rf_s hF; clear hF
      have qa220 : Q a220 := hm.1 _ _ _ q_l4 e221
      obtain ⟨n222, q223, hF⟩ := ar_s hG; clear hG
      obtain ⟨q224, hG⟩ := ck_s hF; clear hF
      obtain ⟨a225, e226, hF⟩ := rf_s hG; clear hG
      have qa225 : Q a225 := hm.1 _ _ _ qa220 e226
      obtain ⟨q227, hG⟩ := ck_s hF; clear hF
      obtain ⟨a228, e229, hF⟩ := rf_s hG; clear hG
      have qa228 : Q a228 := hm.1 _ _ _ qa225 e229
      obtain ⟨q230, hG⟩ := ck_s hF; clear hF
      obtain ⟨v232, H233, z231, hF⟩ := bC_s hG; clear hG
      have gz_29 := (g_Shapes_memberNamed z231 hm.1 qa218 qa228)
      replace hm : Rg Q H H233 := hm.tr gz_29
      have s_30 : Sa H H233 := (m_Shapes_memberNamed z231)
      obtain ⟨q234, hG⟩ := ck_s hF; clear hF
      rw [(s_30).1] at q234
      obtain ⟨v236, H237, z235, hF⟩ := bC_s hG; clear hG
      have gz_31 := (g_World_carryMember z235 hm.1 q_p0 q_p1 q_p2 q_p3)
      replace hm : Rg Q H H237 := hm.tr gz_31
      have s_32 : Sa H H237 := (s_30).tr (m_World_carryMember z235)
      exact hm.tr (ih l4 l5 l6 (l7 + 1) H237 r hF hm.1 q_l4)
set_option maxRecDepth 20000 in
set_option maxHeartbeats 2000000 in
theorem gB_World_carryFrom_137 {N : Nat} {Q : Nat → Prop} {p0 : Nat} {p1 : Nat} {p2 : Nat} {p3 : Nat} {kq59 : Nat → Int32 → Hp → Option (Unit × Hp)} (q_p0 : Q p0) (q_p1 : Q p1) (q_p2 : Q p2) (q_p3 : Q p3) (hg59 : ∀ (l4 : Nat) (l5 : Int32) (H : Hp) (r : Unit × Hp), kq59 l4 l5 H = some r → Cl Q H → Q l4 → Rg Q H r.2) {l4 : Nat} {l5 : Int32} {l6 : Int32} {H : Hp} {r : Unit × Hp} (hF : B_World_carryFrom_137 N p0 p1 p2 p3 kq59 l4 l5 l6 H = some r) (hc0 : Cl Q H) (q_l4 : Q l4) : Rg Q H r.2 := by
  unfold B_World_carryFrom_137 at hF
  have hm := Rg.rf hc0
  obtain ⟨q238, hG⟩ := ck_s hF; clear hF
  obtain ⟨a239, e240, hF⟩ := rf_s hG; clear hG
  have qa239 : Q a239 := hm.1 _ _ _ q_l4 e240
  obtain ⟨n241, q242, hG⟩ := ar_s hF; clear hF
  obtain ⟨q243, hF⟩ := ck_s hG; clear hG
  obtain ⟨x244, -, hG⟩ := bnd_g hF; clear hF
  exact hm.tr (gB_World_carryFrom_147 q_p0 q_p1 q_p2 q_p3 hg59 N l4 l5 l6 x244 H r hG hm.1 q_l4)
set_option maxRecDepth 20000 in
set_option maxHeartbeats 2000000 in
theorem gB_World_carryFrom_131 {N : Nat} {Q : Nat → Prop} {p0 : Nat} {p1 : Nat} {p2 : Nat} {p3 : Nat} {kq59 : Nat → Int32 → Hp → Option (Unit × Hp)} {kq92 : Nat → Int32 → Int32 → Int32 → Hp → Option (Unit × Hp)} (q_p0 : Q p0) (q_p1 : Q p1) (q_p2 : Q p2) (q_p3 : Q p3) (hg59 : ∀ (l4 : Nat) (l5 : Int32) (H : Hp) (r : Unit × Hp), kq59 l4 l5 H = some r → Cl Q H → Q l4 → Rg Q H r.2) (hg92 : ∀ (l4 : Nat) (l5 : Int32) (l6 : Int32) (l7 : Int32) (H : Hp) (r : Unit × Hp), kq92 l4 l5 l6 l7 H = some r → Cl Q H → Q l4 → Rg Q H r.2) {l4 : Nat} {l5 : Int32} {l6 : Int32} {l7 : Int32} {H : Hp} {r : Unit × Hp} (hF : B_World_carryFrom_131 N p0 p1 p2 p3 kq59 kq92 l4 l5 l6 l7 H = some r) (hc0 : Cl Q H) (q_l4 : Q l4) : Rg Q H r.2 := by
  unfold B_World_carryFrom_131 at hF
  have hm := Rg.rf hc0
  exact hm.tr (hg92 l4 l5 l6 (l7 + 1) H r hF hm.1 q_l4)
set_option maxRecDepth 20000 in
set_option maxHeartbeats 2000000 in
theorem gB_World_carryFrom_92 {N : Nat} {Q : Nat → Prop} {p0 : Nat} {p1 : Nat} {p2 : Nat} {p3 : Nat} {kq59 : Nat → Int32 → Hp → Option (Unit × Hp)} (q_p0 : Q p0) (q_p1 : Q p1) (q_p2 : Q p2) (q_p3 : Q p3) (hg59 : ∀ (l4 : Nat) (l5 : Int32) (H : Hp) (r : Unit × Hp), kq59 l4 l5 H = some r → Cl Q H → Q l4 → Rg Q H r.2) : ∀ (n : Nat) (l4 : Nat) (l5 : Int32) (l6 : Int32) (l7 : Int32) (H : Hp) (r : Unit × Hp), B_World_carryFrom_92 N p0 p1 p2 p3 kq59 n l4 l5 l6 l7 H = some r → Cl Q H → Q l4 → Rg Q H r.2 := by
  intro n
  induction n with
  | zero => intro l4 l5 l6 l7 H r hF; rw [B_World_carryFrom_92] at hF; cases hF
  | succ n ih =>
    intro l4 l5 l6 l7 H r hF hc0 q_l4
    rw [B_World_carryFrom_92] at hF
    have hm := Rg.rf hc0
    obtain ⟨q245, hG⟩ := ck_s hF; clear hF
    obtain ⟨x246, -, hF⟩ := bnd_g hG; clear hG
    rcases ite_s hF with ⟨q_33, hG⟩ | ⟨q_33, hG⟩
    · clear hF
      exact hm.tr (gB_World_carryFrom_137 q_p0 q_p1 q_p2 q_p3 hg59 hG hm.1 q_l4)
    · clear hF
      rcases ite_s hG with ⟨q_34, hF⟩ | ⟨q_34, hF⟩
      · clear hG
        exact hm.tr (gB_World_carryFrom_137 q_p0 q_p1 q_p2 q_p3 hg59 hF hm.1 q_l4)
      · clear hG
        obtain ⟨q249, hG⟩ := ck_s hF; clear hF
        obtain ⟨v251, H252, z250, hF⟩ := bC_s hG; clear hG
        have gz_35 := (g_World_owns z250 hm.1 q_p1)
        replace hm : Rg Q H H252 := hm.tr gz_35
        have s_36 : Sa H H252 := (m_World_owns z250)
        rcases ite_s hF with ⟨q_37, hG⟩ | ⟨q_37, hG⟩
        · clear hF
          exact hm.tr (gB_World_carryFrom_131 q_p0 q_p1 q_p2 q_p3 hg59 ih hG hm.1 q_l4)
        · clear hF
          obtain ⟨a254, e255, hF⟩ := rf_s hG; clear hG
          have qa254 : Q a254 := hm.1 _ _ _ q_p0 e255
          obtain ⟨n256, q257, hG⟩ := ar_s hF; clear hF
          rw [(s_36).1] at q257
          obtain ⟨q258, hF⟩ := ck_s hG; clear hG
          obtain ⟨x259, -, hG⟩ := bnd_g hF; clear hF
          obtain ⟨q260, hF⟩ := ck_s hG; clear hG
          obtain ⟨H261, eH261, hG⟩ := bnd_g hF; clear hF
          replace hm : Rg Q H H261 := hm.tr (by rw [eH261]; exact Rg.sD hm.1 qa254)
          have s_38 : Sa H H261 := by rw [eH261]; exact s_36
          exact hm.tr (gB_World_carryFrom_131 q_p0 q_p1 q_p2 q_p3 hg59 ih hG hm.1 q_l4)
set_option maxRecDepth 20000 in
set_option maxHeartbeats 2000000 in
theorem gB_World_carryFrom_59 {N : Nat} {Q : Nat → Prop} {p0 : Nat} {p1 : Nat} {p2 : Nat} {p3 : Nat} (q_p0 : Q p0) (q_p1 : Q p1) (q_p2 : Q p2) (q_p3 : Q p3) : ∀ (n : Nat) (l4 : Nat) (l5 : Int32) (H : Hp) (r : Unit × Hp), B_World_carryFrom_59 N p0 p1 p2 p3 n l4 l5 H = some r → Cl Q H → Q l4 → Rg Q H r.2 := by
  intro n
  induction n with
  | zero => intro l4 l5 H r hF; rw [B_World_carryFrom_59] at hF; cases hF
  | succ n ih =>
    intro l4 l5 H r hF hc0 q_l4
    rw [B_World_carryFrom_59] at hF
    have hm := Rg.rf hc0
    obtain ⟨q262, hG⟩ := ck_s hF; clear hF
    obtain ⟨x263, -, hF⟩ := bnd_g hG; clear hG
    rcases ite_s hF with ⟨q_39, hG⟩ | ⟨q_39, hG⟩
    · clear hF
      obtain ⟨q265, hF⟩ := ck_s hG; clear hG
      obtain ⟨v267, H268, z266, hG⟩ := bC_s hF; clear hF
      have gz_40 := (g_World_carryEvents z266 hm.1 q_p0 q_p2 q_p3)
      replace hm : Rg Q H H268 := hm.tr gz_40
      have s_41 : Sa H H268 := (m_World_carryEvents z266)
      have hr := Option.some.inj hG; subst hr
      exact hm
    · clear hF
      obtain ⟨q269, hF⟩ := ck_s hG; clear hG
      obtain ⟨a270, e271, hG⟩ := rf_s hF; clear hF
      have qa270 : Q a270 := hm.1 _ _ _ q_p2 e271
      obtain ⟨a272, e273, hF⟩ := rf_s hG; clear hG
      have qa272 : Q a272 := hm.1 _ _ _ q_l4 e273
      obtain ⟨n274, q275, hG⟩ := ar_s hF; clear hF
      obtain ⟨q276, hF⟩ := ck_s hG; clear hG
      obtain ⟨a277, e278, hG⟩ := rf_s hF; clear hF
      have qa277 : Q a277 := hm.1 _ _ _ qa272 e278
      obtain ⟨q279, hF⟩ := ck_s hG; clear hG
      obtain ⟨a280, e281, hG⟩ := rf_s hF; clear hF
      have qa280 : Q a280 := hm.1 _ _ _ qa277 e281
      obtain ⟨q282, hF⟩ := ck_s hG; clear hG
      obtain ⟨v284, H285, z283, hG⟩ := bC_s hF; clear hF
      have gz_42 := (g_Shapes_headNamed z283 hm.1 qa270 qa280)
      replace hm : Rg Q H H285 := hm.tr gz_42
      have s_43 : Sa H H285 := (m_Shapes_headNamed z283)
      exact hm.tr (gB_World_carryFrom_92 q_p0 q_p1 q_p2 q_p3 ih N l4 l5 v284 0 H285 r hG hm.1 q_l4)
set_option maxRecDepth 20000 in
set_option maxHeartbeats 2000000 in
theorem gB_World_carryFrom_50 {N : Nat} {Q : Nat → Prop} {p0 : Nat} {p1 : Nat} {p2 : Nat} {p3 : Nat} {kq23 : Nat → Int32 → Hp → Option (Unit × Hp)} (q_p0 : Q p0) (q_p1 : Q p1) (q_p2 : Q p2) (q_p3 : Q p3) (hg23 : ∀ (l4 : Nat) (l5 : Int32) (H : Hp) (r : Unit × Hp), kq23 l4 l5 H = some r → Cl Q H → Q l4 → Rg Q H r.2) {l4 : Nat} {l5 : Int32} {H : Hp} {r : Unit × Hp} (hF : B_World_carryFrom_50 N p0 p1 p2 p3 kq23 l4 l5 H = some r) (hc0 : Cl Q H) (q_l4 : Q l4) : Rg Q H r.2 := by
  unfold B_World_carryFrom_50 at hF
  have hm := Rg.rf hc0
  exact hm.tr (hg23 l4 (l5 + 1) H r hF hm.1 q_l4)
set_option maxRecDepth 20000 in
set_option maxHeartbeats 2000000 in
theorem gB_World_carryFrom_23 {N : Nat} {Q : Nat → Prop} {p0 : Nat} {p1 : Nat} {p2 : Nat} {p3 : Nat} (q_p0 : Q p0) (q_p1 : Q p1) (q_p2 : Q p2) (q_p3 : Q p3) : ∀ (n : Nat) (l4 : Nat) (l5 : Int32) (H : Hp) (r : Unit × Hp), B_World_carryFrom_23 N p0 p1 p2 p3 n l4 l5 H = some r → Cl Q H → Q l4 → Rg Q H r.2 := by
  intro n
  induction n with
  | zero => intro l4 l5 H r hF; rw [B_World_carryFrom_23] at hF; cases hF
  | succ n ih =>
    intro l4 l5 H r hF hc0 q_l4
    rw [B_World_carryFrom_23] at hF
    have hm := Rg.rf hc0
    obtain ⟨q286, hG⟩ := ck_s hF; clear hF
    obtain ⟨x287, -, hF⟩ := bnd_g hG; clear hG
    rcases ite_s hF with ⟨q_44, hG⟩ | ⟨q_44, hG⟩
    · clear hF
      exact hm.tr (gB_World_carryFrom_59 q_p0 q_p1 q_p2 q_p3 N l4 0 H r hG hm.1 q_l4)
    · clear hF
      obtain ⟨q289, hF⟩ := ck_s hG; clear hG
      obtain ⟨a290, e291, hG⟩ := rf_s hF; clear hF
      have qa290 : Q a290 := hm.1 _ _ _ q_p1 e291
      obtain ⟨n292, q293, hF⟩ := ar_s hG; clear hG
      obtain ⟨q294, hG⟩ := ck_s hF; clear hF
      obtain ⟨x295, -, hF⟩ := bnd_g hG; clear hG
      rcases ite_s hF with ⟨q_45, hG⟩ | ⟨q_45, hG⟩
      · clear hF
        exact hm.tr (gB_World_carryFrom_50 q_p0 q_p1 q_p2 q_p3 ih hG hm.1 q_l4)
      · clear hF
        obtain ⟨a297, e298, hF⟩ := rf_s hG; clear hG
        have qa297 : Q a297 := hm.1 _ _ _ q_p0 e298
        obtain ⟨n299, q300, hG⟩ := ar_s hF; clear hF
        obtain ⟨q301, hF⟩ := ck_s hG; clear hG
        obtain ⟨H302, eH302, hG⟩ := bnd_g hF; clear hF
        replace hm : Rg Q H H302 := hm.tr (by rw [eH302]; exact Rg.sD hm.1 qa297)
        have s_46 : Sa H H302 := by rw [eH302]; exact Sa.rf _
        exact hm.tr (gB_World_carryFrom_50 q_p0 q_p1 q_p2 q_p3 ih hG hm.1 q_l4)
set_option maxRecDepth 20000 in
set_option maxHeartbeats 2000000 in
theorem g_World_carryFrom {N : Nat} {Q : Nat → Prop} {p0 : Nat} {p1 : Nat} {p2 : Nat} {p3 : Nat} {H : Hp} {r : Unit × Hp} (hF : F_World_carryFrom N p0 p1 p2 p3 H = some r) (hc0 : Cl Q H) (q_p0 : Q p0) (q_p1 : Q p1) (q_p2 : Q p2) (q_p3 : Q p3) : Rg Q H r.2 := by
  unfold F_World_carryFrom at hF
  have hm := Rg.rf hc0
  obtain ⟨q303, hG⟩ := ck_s hF; clear hF
  obtain ⟨a304, e305, hF⟩ := rf_s hG; clear hG
  have qa304 : Q a304 := hm.1 _ _ _ q_p3 e305
  obtain ⟨q306, hG⟩ := ck_s hF; clear hF
  obtain ⟨v308, H309, z307, hF⟩ := bC_s hG; clear hG
  have gz_47 := (g_Shapes_total z307 hm.1 qa304)
  replace hm : Rg Q H H309 := hm.tr gz_47
  have s_48 : Sa H H309 := (m_Shapes_total z307)
  obtain ⟨q310, hG⟩ := ck_s hF; clear hF
  rw [(s_48).1] at q310
  obtain ⟨H311, eH311, hF⟩ := bnd_g hG; clear hG
  replace hm : Rg Q H H311 := hm.tr (by rw [eH311]; exact Rg.sD hm.1 q_p0)
  have s_49 : Sa H H311 := by rw [eH311]; exact s_48
  obtain ⟨H312, eH312, hG⟩ := bnd_g hF; clear hF
  replace hm : Rg Q H H312 := hm.tr (by rw [eH312]; exact Rg.sD hm.1 q_p0)
  have s_50 : Sa H H312 := by rw [eH312]; exact s_49
  exact hm.tr (gB_World_carryFrom_23 q_p0 q_p1 q_p2 q_p3 N a304 0 H312 r hG hm.1 qa304)
set_option maxRecDepth 20000 in
set_option maxHeartbeats 2000000 in
theorem g_Play_carry {N : Nat} {Q : Nat → Prop} {p0 : Nat} {p1 : Nat} {p2 : Nat} {H : Hp} {r : Unit × Hp} (hF : F_Play_carry N p0 p1 p2 H = some r) (hc0 : Cl Q H) (q_p0 : Q p0) (q_p1 : Q p1) (q_p2 : Q p2) : Rg Q H r.2 := by
  unfold F_Play_carry at hF
  have hm := Rg.rf hc0
  obtain ⟨q35, hG⟩ := ck_s hF; clear hF
  obtain ⟨v37, H38, z36, hF⟩ := bC_s hG; clear hG
  have gz_7 := (g_Play_scratch z36 hm.1 q_p0)
  replace hm : Rg Q H H38 := hm.tr gz_7.1
  have s_8 : Sa H H38 := (m_Play_scratch z36)
  obtain ⟨a39, ea39, hG⟩ := on_s hF; clear hF
  subst ea39
  have qa39 : Q a39 := gz_7.2 _ rfl
  obtain ⟨a40, e41, hF⟩ := rf_s hG; clear hG
  have qa40 : Q a40 := hm.1 _ _ _ q_p0 e41
  obtain ⟨q42, hG⟩ := ck_s hF; clear hF
  rw [(s_8).1] at q42
  obtain ⟨v44, H45, z43, hF⟩ := bC_s hG; clear hG
  have gz_9 := (g_World_copyFrom z43 hm.1 qa39 qa40)
  replace hm : Rg Q H H45 := hm.tr gz_9
  have s_10 : Sa H H45 := (s_8).tr (m_World_copyFrom z43)
  obtain ⟨a46, e47, hG⟩ := rf_s hF; clear hF
  have qa46 : Q a46 := hm.1 _ _ _ q_p0 e47
  obtain ⟨q48, hF⟩ := ck_s hG; clear hG
  rw [(s_10).1] at q48
  obtain ⟨v50, H51, z49, hG⟩ := bC_s hF; clear hF
  have gz_11 := (g_World_carryFrom z49 hm.1 qa46 qa39 q_p1 q_p2)
  replace hm : Rg Q H H51 := hm.tr gz_11
  have s_12 : Sa H H51 := (s_10).tr (m_World_carryFrom z49)
  have hr := Option.some.inj hG; subst hr
  exact hm
set_option maxRecDepth 20000 in
set_option maxHeartbeats 2000000 in
theorem g_W_swap {N : Nat} {Q : Nat → Prop} {p0 : Nat} {H : Hp} {r : Int32 × Hp} {B : Nat} (hn : ∀ a, B ≤ a → Q a) (hF : F_W_swap N p0 H = some r) (hc0 : Cl Q H) (hB : B ≤ H.sh.length) (q_p0 : Q p0) : Rg Q H r.2 := by
  unfold F_W_swap at hF
  have hm := Rg.rf hc0
  obtain ⟨q77, hG⟩ := ck_s hF; clear hF
  obtain ⟨a78, e79, hF⟩ := rf_s hG; clear hG
  have qa78 : Q a78 := hm.1 _ _ _ q_p0 e79
  obtain ⟨q80, hG⟩ := ck_s hF; clear hF
  obtain ⟨v82, H83, z81, hF⟩ := bC_s hG; clear hG
  have gz_19 := (g_Play_isQuiet z81 hm.1 qa78)
  replace hm : Rg Q H H83 := hm.tr gz_19
  replace hB : B ≤ H83.sh.length := Nat.le_trans hB ((m_Play_isQuiet z81)).mo.len
  have s_20 : Sa H H83 := (m_Play_isQuiet z81)
  rcases ite_s hF with ⟨q_21, hG⟩ | ⟨q_21, hG⟩
  · clear hF
    have hr := Option.some.inj hG; subst hr
    exact hm
  · clear hF
    obtain ⟨a85, e86, hF⟩ := rf_s hG; clear hG
    have qa85 : Q a85 := hm.1 _ _ _ q_p0 e86
    obtain ⟨a87, e88, hG⟩ := rf_s hF; clear hF
    have qa87 : Q a87 := hm.1 _ _ _ q_p0 e88
    obtain ⟨q89, hF⟩ := ck_s hG; clear hG
    rw [(s_20).1] at q89
    obtain ⟨v91, H92, z90, hG⟩ := bC_s hF; clear hF
    have gz_22 := (g_Reader_readAll hn z90 hm.1 hB qa85 qa87)
    replace hm : Rg Q H H92 := hm.tr gz_22
    replace hB : B ≤ H92.sh.length := Nat.le_trans hB ((m_Reader_readAll z90)).len
    have mz_23 : Mo H83 H92 := (m_Reader_readAll z90)
    have q_24 := (mz_23).get (by rw [(s_20).1]; exact q77)
    have q_25 := (mz_23).get (by rw [(s_20).1]; exact q80)
    have q_26 := (mz_23).get (by rw [(s_20).1]; exact q89)
    rcases ite_s hG with ⟨q_27, hF⟩ | ⟨q_27, hF⟩
    · clear hG
      obtain ⟨a94, e95, hG⟩ := rf_s hF; clear hF
      have qa94 : Q a94 := hm.1 _ _ _ q_p0 e95
      obtain ⟨q96, hF⟩ := ck_s hG; clear hG
      obtain ⟨x97, -, hG⟩ := bnd_g hF; clear hF
      have hr := Option.some.inj hG; subst hr
      exact hm
    · clear hG
      obtain ⟨v99, H100, z98, hG⟩ := bC_s hF; clear hF
      have gz_28 := (g_W_exchangePrograms z98 hm.1 q_p0)
      replace hm : Rg Q H H100 := hm.tr gz_28
      replace hB : B ≤ H100.sh.length := Nat.le_trans hB ((m_W_exchangePrograms z98)).mo.len
      have s_29 : Sa H92 H100 := (m_W_exchangePrograms z98)
      obtain ⟨a101, e102, hF⟩ := rf_s hG; clear hG
      have qa101 : Q a101 := hm.1 _ _ _ q_p0 e102
      obtain ⟨a103, e104, hG⟩ := rf_s hF; clear hF
      have qa103 : Q a103 := hm.1 _ _ _ q_p0 e104
      obtain ⟨a105, e106, hF⟩ := rf_s hG; clear hG
      have qa105 : Q a105 := hm.1 _ _ _ q_p0 e106
      obtain ⟨q107, hG⟩ := ck_s hF; clear hF
      rw [(s_29).1] at q107
      obtain ⟨v109, H110, z108, hF⟩ := bC_s hG; clear hG
      have gz_30 := (g_Play_carry z108 hm.1 qa101 qa103 qa105)
      replace hm : Rg Q H H110 := hm.tr gz_30
      replace hB : B ≤ H110.sh.length := Nat.le_trans hB ((m_Play_carry z108)).mo.len
      have s_31 : Sa H92 H110 := (s_29).tr (m_Play_carry z108)
      obtain ⟨a111, e112, hG⟩ := rf_s hF; clear hF
      have qa111 : Q a111 := hm.1 _ _ _ q_p0 e112
      obtain ⟨q113, hF⟩ := ck_s hG; clear hG
      rw [(s_31).1] at q113
      obtain ⟨x114, -, hG⟩ := bnd_g hF; clear hF
      have hr := Option.some.inj hG; subst hr
      exact hm
set_option maxRecDepth 20000 in
set_option maxHeartbeats 2000000 in
theorem g_Play_isFullyAhead {N : Nat} {Q : Nat → Prop} {p0 : Nat} {H : Hp} {r : Int32 × Hp} (hF : F_Play_isFullyAhead N p0 H = some r) (hc0 : Cl Q H) (q_p0 : Q p0) : Rg Q H r.2 := by
  unfold F_Play_isFullyAhead at hF
  have hm := Rg.rf hc0
  obtain ⟨q15, hG⟩ := ck_s hF; clear hF
  obtain ⟨a16, e17, hF⟩ := rf_s hG; clear hG
  have qa16 : Q a16 := hm.1 _ _ _ q_p0 e17
  obtain ⟨q18, hG⟩ := ck_s hF; clear hF
  obtain ⟨x19, -, hF⟩ := bnd_g hG; clear hG
  obtain ⟨x20, -, hG⟩ := bnd_g hF; clear hF
  rcases ite_s hG with ⟨q_2, hF⟩ | ⟨q_2, hF⟩
  · clear hG
    have hr := Option.some.inj hF; subst hr
    exact hm
  · clear hG
    have hr := Option.some.inj hF; subst hr
    exact hm
set_option maxRecDepth 20000 in
set_option maxHeartbeats 2000000 in
theorem g_Play_slot {N : Nat} {Q : Nat → Prop} {p0 : Int32} {p1 : Int32} {H : Hp} {r : Int32 × Hp} (hF : F_Play_slot N p0 p1 H = some r) (hc0 : Cl Q H) : Rg Q H r.2 := by
  unfold F_Play_slot at hF
  have hm := Rg.rf hc0
  have hr := Option.some.inj hF; subst hr
  exact hm
set_option maxRecDepth 20000 in
set_option maxHeartbeats 2000000 in
theorem gB_Play_inputOf_20 {N : Nat} {Q : Nat → Prop} {p0 : Nat} {p1 : Int32} {p2 : Int32} (q_p0 : Q p0) : ∀ (n : Nat) (l3 : Int32) (H : Hp) (r : Int32 × Hp), B_Play_inputOf_20 N p0 p1 p2 n l3 H = some r → Cl Q H → Rg Q H r.2 := by
  intro n
  induction n with
  | zero => intro l3 H r hF; rw [B_Play_inputOf_20] at hF; cases hF
  | succ n ih =>
    intro l3 H r hF hc0
    rw [B_Play_inputOf_20] at hF
    have hm := Rg.rf hc0
    obtain ⟨q73, hG⟩ := ck_s hF; clear hF
    obtain ⟨x74, -, hF⟩ := bnd_g hG; clear hG
    rcases ite_s hF with ⟨q_8, hG⟩ | ⟨q_8, hG⟩
    · clear hF
      obtain ⟨a76, e77, hF⟩ := rf_s hG; clear hG
      have qa76 : Q a76 := hm.1 _ _ _ q_p0 e77
      obtain ⟨n78, q79, hG⟩ := ar_s hF; clear hF
      obtain ⟨q80, hF⟩ := ck_s hG; clear hG
      obtain ⟨x81, -, hG⟩ := bnd_g hF; clear hF
      have hr := Option.some.inj hG; subst hr
      exact hm
    · clear hF
      obtain ⟨a82, e83, hF⟩ := rf_s hG; clear hG
      have qa82 : Q a82 := hm.1 _ _ _ q_p0 e83
      obtain ⟨v85, H86, z84, hG⟩ := bC_s hF; clear hF
      have gz_9 := (g_Play_slot z84 hm.1)
      replace hm : Rg Q H H86 := hm.tr gz_9
      have s_10 : Sa H H86 := (m_Play_slot z84)
      obtain ⟨n87, q88, hF⟩ := ar_s hG; clear hG
      rw [(s_10).1] at q88
      obtain ⟨q89, hG⟩ := ck_s hF; clear hF
      obtain ⟨x90, -, hF⟩ := bnd_g hG; clear hG
      rcases ite_s hF with ⟨q_11, hG⟩ | ⟨q_11, hG⟩
      · clear hF
        exact hm.tr (ih (l3 + (-1)) H86 r hG hm.1)
      · clear hF
        obtain ⟨a92, e93, hF⟩ := rf_s hG; clear hG
        have qa92 : Q a92 := hm.1 _ _ _ q_p0 e93
        obtain ⟨v95, H96, z94, hG⟩ := bC_s hF; clear hF
        have gz_12 := (g_Play_slot z94 hm.1)
        replace hm : Rg Q H H96 := hm.tr gz_12
        have s_13 : Sa H H96 := (s_10).tr (m_Play_slot z94)
        obtain ⟨n97, q98, hF⟩ := ar_s hG; clear hG
        rw [(s_13).1] at q98
        obtain ⟨q99, hG⟩ := ck_s hF; clear hF
        obtain ⟨x100, -, hF⟩ := bnd_g hG; clear hG
        have hr := Option.some.inj hF; subst hr
        exact hm
set_option maxRecDepth 20000 in
set_option maxHeartbeats 2000000 in
theorem g_Play_inputOf {N : Nat} {Q : Nat → Prop} {p0 : Nat} {p1 : Int32} {p2 : Int32} {H : Hp} {r : Int32 × Hp} (hF : F_Play_inputOf N p0 p1 p2 H = some r) (hc0 : Cl Q H) (q_p0 : Q p0) : Rg Q H r.2 := by
  unfold F_Play_inputOf at hF
  have hm := Rg.rf hc0
  obtain ⟨q101, hG⟩ := ck_s hF; clear hF
  obtain ⟨a102, e103, hF⟩ := rf_s hG; clear hG
  have qa102 : Q a102 := hm.1 _ _ _ q_p0 e103
  obtain ⟨n104, q105, hG⟩ := ar_s hF; clear hF
  obtain ⟨q106, hF⟩ := ck_s hG; clear hG
  obtain ⟨x107, -, hG⟩ := bnd_g hF; clear hF
  rcases ite_s hG with ⟨q_14, hF⟩ | ⟨q_14, hF⟩
  · clear hG
    have hr := Option.some.inj hF; subst hr
    exact hm
  · clear hG
    exact hm.tr (gB_Play_inputOf_20 q_p0 N p2 H r hF hm.1)
set_option maxRecDepth 20000 in
set_option maxHeartbeats 2000000 in
theorem gB_Play_prepareNext_34 {N : Nat} {Q : Nat → Prop} {p0 : Nat} (q_p0 : Q p0) : ∀ (n : Nat) (l1 : Int32) (l2 : Int32) (H : Hp) (r : Unit × Hp), B_Play_prepareNext_34 N p0 n l1 l2 H = some r → Cl Q H → Rg Q H r.2 := by
  intro n
  induction n with
  | zero => intro l1 l2 H r hF; rw [B_Play_prepareNext_34] at hF; cases hF
  | succ n ih =>
    intro l1 l2 H r hF hc0
    rw [B_Play_prepareNext_34] at hF
    have hm := Rg.rf hc0
    rcases ite_s hF with ⟨q_10, hG⟩ | ⟨q_10, hG⟩
    · clear hF
      have hr := Option.some.inj hG; subst hr
      exact hm
    · clear hF
      obtain ⟨q94, hF⟩ := ck_s hG; clear hG
      obtain ⟨a95, e96, hG⟩ := rf_s hF; clear hF
      have qa95 : Q a95 := hm.1 _ _ _ q_p0 e96
      obtain ⟨v98, H99, z97, hF⟩ := bC_s hG; clear hG
      have gz_11 := (g_Play_inputOf z97 hm.1 q_p0)
      replace hm : Rg Q H H99 := hm.tr gz_11
      have s_12 : Sa H H99 := (m_Play_inputOf z97)
      obtain ⟨n100, q101, hG⟩ := ar_s hF; clear hF
      rw [(s_12).1] at q101
      obtain ⟨q102, hF⟩ := ck_s hG; clear hG
      obtain ⟨H103, eH103, hG⟩ := bnd_g hF; clear hF
      replace hm : Rg Q H H103 := hm.tr (by rw [eH103]; exact Rg.sD hm.1 qa95)
      have s_13 : Sa H H103 := by rw [eH103]; exact s_12
      obtain ⟨a104, e105, hF⟩ := rf_s hG; clear hG
      have qa104 : Q a104 := hm.1 _ _ _ q_p0 e105
      obtain ⟨a106, e107, hG⟩ := rf_s hF; clear hF
      have qa106 : Q a106 := hm.1 _ _ _ q_p0 e107
      obtain ⟨n108, q109, hF⟩ := ar_s hG; clear hG
      rw [(s_13).1] at q109
      obtain ⟨q110, hG⟩ := ck_s hF; clear hF
      obtain ⟨x111, -, hF⟩ := bnd_g hG; clear hG
      obtain ⟨n112, q113, hG⟩ := ar_s hF; clear hF
      rw [(s_13).1] at q113
      obtain ⟨q114, hF⟩ := ck_s hG; clear hG
      obtain ⟨H115, eH115, hG⟩ := bnd_g hF; clear hF
      replace hm : Rg Q H H115 := hm.tr (by rw [eH115]; exact Rg.sD hm.1 qa104)
      have s_14 : Sa H H115 := by rw [eH115]; exact s_13
      exact hm.tr (ih l1 (l2 + 1) H115 r hG hm.1)
set_option maxRecDepth 20000 in
set_option maxHeartbeats 2000000 in
theorem g_Play_prepareNext {N : Nat} {Q : Nat → Prop} {p0 : Nat} {H : Hp} {r : Unit × Hp} (hF : F_Play_prepareNext N p0 H = some r) (hc0 : Cl Q H) (q_p0 : Q p0) : Rg Q H r.2 := by
  unfold F_Play_prepareNext at hF
  have hm := Rg.rf hc0
  obtain ⟨q116, hG⟩ := ck_s hF; clear hF
  obtain ⟨a117, e118, hF⟩ := rf_s hG; clear hG
  have qa117 : Q a117 := hm.1 _ _ _ q_p0 e118
  obtain ⟨a119, e120, hG⟩ := rf_s hF; clear hF
  have qa119 : Q a119 := hm.1 _ _ _ q_p0 e120
  obtain ⟨q121, hF⟩ := ck_s hG; clear hG
  obtain ⟨x122, -, hG⟩ := bnd_g hF; clear hF
  obtain ⟨n123, q124, hF⟩ := ar_s hG; clear hG
  obtain ⟨q125, hG⟩ := ck_s hF; clear hF
  obtain ⟨a126, e127, hF⟩ := rf_s hG; clear hG
  have qa126 : Q a126 := hm.1 _ _ _ qa117 e127
  obtain ⟨a128, e129, hG⟩ := rf_s hF; clear hF
  have qa128 : Q a128 := hm.1 _ _ _ q_p0 e129
  obtain ⟨q130, hF⟩ := ck_s hG; clear hG
  obtain ⟨v132, H133, z131, hG⟩ := bC_s hF; clear hF
  have gz_15 := (g_World_copyFrom z131 hm.1 qa126 qa128)
  replace hm : Rg Q H H133 := hm.tr gz_15
  have s_16 : Sa H H133 := (m_World_copyFrom z131)
  obtain ⟨a134, e135, hF⟩ := rf_s hG; clear hG
  have qa134 : Q a134 := hm.1 _ _ _ q_p0 e135
  obtain ⟨q136, hG⟩ := ck_s hF; clear hF
  rw [(s_16).1] at q136
  obtain ⟨x137, -, hF⟩ := bnd_g hG; clear hG
  obtain ⟨x138, -, hG⟩ := bnd_g hF; clear hF
  exact hm.tr (gB_Play_prepareNext_34 q_p0 N x138 0 H133 r hG hm.1)
set_option maxRecDepth 20000 in
set_option maxHeartbeats 2000000 in
theorem g_Row_open {N : Nat} {Q : Nat → Prop} {p0 : Nat} {p1 : Nat} {p2 : Nat} {p3 : Nat} {H : Hp} {r : Unit × Hp} (hF : F_Row_open N p0 p1 p2 p3 H = some r) (hc0 : Cl Q H) (q_p0 : Q p0) (q_p1 : Q p1) (q_p2 : Q p2) (q_p3 : Q p3) : Rg Q H r.2 := by
  unfold F_Row_open at hF
  have hm := Rg.rf hc0
  obtain ⟨q9, hG⟩ := ck_s hF; clear hF
  obtain ⟨H10, eH10, hF⟩ := bnd_g hG; clear hG
  replace hm : Rg Q H H10 := hm.tr (by rw [eH10]; exact Rg.sP hm.1 q_p0 (is_rf q_p1) q9 rfl)
  have s_7 : Sa H H10 := by rw [eH10]; exact Sa.rf _
  obtain ⟨H11, eH11, hG⟩ := bnd_g hF; clear hF
  replace hm : Rg Q H H11 := hm.tr (by rw [eH11]; exact Rg.sP hm.1 q_p0 (is_rf q_p2) (by rw [(s_7).1]; exact q9) rfl)
  have s_8 : Sa H H11 := by rw [eH11]; exact s_7
  obtain ⟨H12, eH12, hF⟩ := bnd_g hG; clear hG
  replace hm : Rg Q H H12 := hm.tr (by rw [eH12]; exact Rg.sP hm.1 q_p0 (is_rf q_p3) (by rw [(s_8).1]; exact q9) rfl)
  have s_9 : Sa H H12 := by rw [eH12]; exact s_8
  have hr := Option.some.inj hF; subst hr
  exact hm
set_option maxRecDepth 20000 in
set_option maxHeartbeats 2000000 in
theorem g_World_matches {N : Nat} {Q : Nat → Prop} {p0 : Nat} {p1 : Int32} {p2 : Int32} {p3 : Int32} {H : Hp} {r : Int32 × Hp} (hF : F_World_matches N p0 p1 p2 p3 H = some r) (hc0 : Cl Q H) (q_p0 : Q p0) : Rg Q H r.2 := by
  unfold F_World_matches at hF
  have hm := Rg.rf hc0
  obtain ⟨q45, hG⟩ := ck_s hF; clear hF
  obtain ⟨a46, e47, hF⟩ := rf_s hG; clear hG
  have qa46 : Q a46 := hm.1 _ _ _ q_p0 e47
  obtain ⟨n48, q49, hG⟩ := ar_s hF; clear hF
  obtain ⟨q50, hF⟩ := ck_s hG; clear hG
  obtain ⟨x51, -, hG⟩ := bnd_g hF; clear hF
  rcases ite_s hG with ⟨q_4, hF⟩ | ⟨q_4, hF⟩
  · clear hG
    have hr := Option.some.inj hF; subst hr
    exact hm
  · clear hG
    obtain ⟨a53, e54, hG⟩ := rf_s hF; clear hF
    have qa53 : Q a53 := hm.1 _ _ _ q_p0 e54
    obtain ⟨n55, q56, hF⟩ := ar_s hG; clear hG
    obtain ⟨q57, hG⟩ := ck_s hF; clear hF
    obtain ⟨x58, -, hF⟩ := bnd_g hG; clear hG
    rcases ite_s hF with ⟨q_5, hG⟩ | ⟨q_5, hG⟩
    · clear hF
      obtain ⟨a60, e61, hF⟩ := rf_s hG; clear hG
      have qa60 : Q a60 := hm.1 _ _ _ q_p0 e61
      obtain ⟨n62, q63, hG⟩ := ar_s hF; clear hF
      obtain ⟨q64, hF⟩ := ck_s hG; clear hG
      obtain ⟨x65, -, hG⟩ := bnd_g hF; clear hF
      rcases ite_s hG with ⟨q_6, hF⟩ | ⟨q_6, hF⟩
      · clear hG
        have hr := Option.some.inj hF; subst hr
        exact hm
      · clear hG
        have hr := Option.some.inj hF; subst hr
        exact hm
    · clear hF
      have hr := Option.some.inj hG; subst hr
      exact hm
set_option maxRecDepth 20000 in
set_option maxHeartbeats 2000000 in
theorem g_Row_nextCode {N : Nat} {Q : Nat → Prop} {p0 : Nat} {H : Hp} {r : Int32 × Hp} (hF : F_Row_nextCode N p0 H = some r) (hc0 : Cl Q H) (q_p0 : Q p0) : Rg Q H r.2 := by
  unfold F_Row_nextCode at hF
  have hm := Rg.rf hc0
  obtain ⟨q39, hG⟩ := ck_s hF; clear hF
  obtain ⟨x40, -, hF⟩ := bnd_g hG; clear hG
  obtain ⟨x41, -, hG⟩ := bnd_g hF; clear hF
  obtain ⟨H42, eH42, hF⟩ := bnd_g hG; clear hG
  replace hm : Rg Q H H42 := hm.tr (by rw [eH42]; exact Rg.sD hm.1 q_p0)
  have s_5 : Sa H H42 := by rw [eH42]; exact Sa.rf _
  rcases ite_s hF with ⟨q_6, hG⟩ | ⟨q_6, hG⟩
  · clear hF
    have hr := Option.some.inj hG; subst hr
    exact hm
  · clear hF
    obtain ⟨a44, e45, hF⟩ := rf_s hG; clear hG
    have qa44 : Q a44 := hm.1 _ _ _ q_p0 e45
    obtain ⟨q46, hG⟩ := ck_s hF; clear hF
    rw [(s_5).1] at q46
    obtain ⟨x47, -, hF⟩ := bnd_g hG; clear hG
    rcases ite_s hF with ⟨q_7, hG⟩ | ⟨q_7, hG⟩
    · clear hF
      have hr := Option.some.inj hG; subst hr
      exact hm
    · clear hF
      obtain ⟨a49, e50, hF⟩ := rf_s hG; clear hG
      have qa49 : Q a49 := hm.1 _ _ _ q_p0 e50
      obtain ⟨q51, hG⟩ := ck_s hF; clear hF
      rw [(s_5).1] at q51
      obtain ⟨a52, e53, hF⟩ := rf_s hG; clear hG
      have qa52 : Q a52 := hm.1 _ _ _ qa49 e53
      obtain ⟨n54, q55, hG⟩ := ar_s hF; clear hF
      rw [(s_5).1] at q55
      obtain ⟨q56, hF⟩ := ck_s hG; clear hG
      obtain ⟨x57, -, hG⟩ := bnd_g hF; clear hF
      have hr := Option.some.inj hG; subst hr
      exact hm
set_option maxRecDepth 20000 in
set_option maxHeartbeats 2000000 in
theorem g_Row_pop {N : Nat} {Q : Nat → Prop} {p0 : Nat} {H : Hp} {r : Int32 × Hp} (hF : F_Row_pop N p0 H = some r) (hc0 : Cl Q H) (q_p0 : Q p0) : Rg Q H r.2 := by
  unfold F_Row_pop at hF
  have hm := Rg.rf hc0
  obtain ⟨q39, hG⟩ := ck_s hF; clear hF
  obtain ⟨x40, -, hF⟩ := bnd_g hG; clear hG
  rcases ite_s hF with ⟨q_4, hG⟩ | ⟨q_4, hG⟩
  · clear hF
    obtain ⟨a42, e43, hF⟩ := rf_s hG; clear hG
    have qa42 : Q a42 := hm.1 _ _ _ q_p0 e43
    obtain ⟨x44, -, hG⟩ := bnd_g hF; clear hF
    obtain ⟨n45, q46, hF⟩ := ar_s hG; clear hG
    obtain ⟨q47, hG⟩ := ck_s hF; clear hF
    obtain ⟨x48, -, hF⟩ := bnd_g hG; clear hG
    have hr := Option.some.inj hF; subst hr
    exact hm
  · clear hF
    obtain ⟨x49, -, hF⟩ := bnd_g hG; clear hG
    obtain ⟨H50, eH50, hG⟩ := bnd_g hF; clear hF
    replace hm : Rg Q H H50 := hm.tr (by rw [eH50]; exact Rg.sD hm.1 q_p0)
    have s_5 : Sa H H50 := by rw [eH50]; exact Sa.rf _
    obtain ⟨a51, e52, hF⟩ := rf_s hG; clear hG
    have qa51 : Q a51 := hm.1 _ _ _ q_p0 e52
    obtain ⟨x53, -, hG⟩ := bnd_g hF; clear hF
    obtain ⟨n54, q55, hF⟩ := ar_s hG; clear hG
    rw [(s_5).1] at q55
    obtain ⟨q56, hG⟩ := ck_s hF; clear hF
    obtain ⟨x57, -, hF⟩ := bnd_g hG; clear hG
    have hr := Option.some.inj hF; subst hr
    exact hm
set_option maxRecDepth 20000 in
set_option maxHeartbeats 2000000 in
theorem g_Row_push {N : Nat} {Q : Nat → Prop} {p0 : Nat} {p1 : Int32} {H : Hp} {r : Unit × Hp} (hF : F_Row_push N p0 p1 H = some r) (hc0 : Cl Q H) (q_p0 : Q p0) : Rg Q H r.2 := by
  unfold F_Row_push at hF
  have hm := Rg.rf hc0
  obtain ⟨q33, hG⟩ := ck_s hF; clear hF
  obtain ⟨x34, -, hF⟩ := bnd_g hG; clear hG
  obtain ⟨a35, e36, hG⟩ := rf_s hF; clear hF
  have qa35 : Q a35 := hm.1 _ _ _ q_p0 e36
  obtain ⟨n37, q38, hF⟩ := ar_s hG; clear hG
  rcases ite_s hF with ⟨q_6, hG⟩ | ⟨q_6, hG⟩
  · clear hF
    have hr := Option.some.inj hG; subst hr
    exact hm
  · clear hF
    obtain ⟨a40, e41, hF⟩ := rf_s hG; clear hG
    have qa40 : Q a40 := hm.1 _ _ _ q_p0 e41
    obtain ⟨x42, -, hG⟩ := bnd_g hF; clear hF
    obtain ⟨n43, q44, hF⟩ := ar_s hG; clear hG
    obtain ⟨q45, hG⟩ := ck_s hF; clear hF
    obtain ⟨H46, eH46, hF⟩ := bnd_g hG; clear hG
    replace hm : Rg Q H H46 := hm.tr (by rw [eH46]; exact Rg.sD hm.1 qa40)
    have s_7 : Sa H H46 := by rw [eH46]; exact Sa.rf _
    obtain ⟨x47, -, hG⟩ := bnd_g hF; clear hF
    obtain ⟨H48, eH48, hF⟩ := bnd_g hG; clear hG
    replace hm : Rg Q H H48 := hm.tr (by rw [eH48]; exact Rg.sD hm.1 q_p0)
    have s_8 : Sa H H48 := by rw [eH48]; exact s_7
    have hr := Option.some.inj hF; subst hr
    exact hm
set_option maxRecDepth 20000 in
set_option maxHeartbeats 2000000 in
theorem g_Math_abs {N : Nat} {Q : Nat → Prop} {p0 : Int64} {H : Hp} {r : Int64 × Hp} (hF : F_Math_abs N p0 H = some r) (hc0 : Cl Q H) : Rg Q H r.2 := by
  unfold F_Math_abs at hF
  have hm := Rg.rf hc0
  rcases ite_s hF with ⟨q_2, hG⟩ | ⟨q_2, hG⟩
  · clear hF
    have hr := Option.some.inj hG; subst hr
    exact hm
  · clear hF
    have hr := Option.some.inj hG; subst hr
    exact hm
set_option maxRecDepth 20000 in
set_option maxHeartbeats 2000000 in
theorem g_World_numberAt {N : Nat} {Q : Nat → Prop} {p0 : Nat} {p1 : Int32} {H : Hp} {r : Int32 × Hp} (hF : F_World_numberAt N p0 p1 H = some r) (hc0 : Cl Q H) (q_p0 : Q p0) : Rg Q H r.2 := by
  unfold F_World_numberAt at hF
  have hm := Rg.rf hc0
  obtain ⟨q15, hG⟩ := ck_s hF; clear hF
  obtain ⟨a16, e17, hF⟩ := rf_s hG; clear hG
  have qa16 : Q a16 := hm.1 _ _ _ q_p0 e17
  obtain ⟨n18, q19, hG⟩ := ar_s hF; clear hF
  obtain ⟨q20, hF⟩ := ck_s hG; clear hG
  obtain ⟨x21, -, hG⟩ := bnd_g hF; clear hF
  have hr := Option.some.inj hG; subst hr
  exact hm
set_option maxRecDepth 20000 in
set_option maxHeartbeats 2000000 in
theorem gB_Row_nextEntity_209 {N : Nat} {Q : Nat → Prop} {p0 : Nat} {p1 : Int32} {p2 : Int32} {kq54 : Int32 → Int32 → Int32 → Int32 → Int32 → Hp → Option (Unit × Hp)} (q_p0 : Q p0) (hg54 : ∀ (l3 : Int32) (l4 : Int32) (l5 : Int32) (l6 : Int32) (l7 : Int32) (H : Hp) (r : Unit × Hp), kq54 l3 l4 l5 l6 l7 H = some r → Cl Q H → Rg Q H r.2) {l3 : Int32} {l4 : Int32} {l5 : Int32} {l6 : Int32} {l7 : Int32} {l8 : Int32} {H : Hp} {r : Unit × Hp} (hF : B_Row_nextEntity_209 N p0 p1 p2 kq54 l3 l4 l5 l6 l7 l8 H = some r) (hc0 : Cl Q H) : Rg Q H r.2 := by
  unfold B_Row_nextEntity_209 at hF
  have hm := Rg.rf hc0
  rcases ite_s hF with ⟨q_30, hG⟩ | ⟨q_30, hG⟩
  · clear hF
    exact hm.tr (hg54 l3 l4 l5 l6 (l7 + 1) H r hG hm.1)
  · clear hF
    obtain ⟨q270, hF⟩ := ck_s hG; clear hG
    obtain ⟨a271, e272, hG⟩ := rf_s hF; clear hF
    have qa271 : Q a271 := hm.1 _ _ _ q_p0 e272
    obtain ⟨n273, q274, hF⟩ := ar_s hG; clear hG
    obtain ⟨q275, hG⟩ := ck_s hF; clear hF
    obtain ⟨H276, eH276, hF⟩ := bnd_g hG; clear hG
    replace hm : Rg Q H H276 := hm.tr (by rw [eH276]; exact Rg.sD hm.1 qa271)
    have s_31 : Sa H H276 := by rw [eH276]; exact Sa.rf _
    obtain ⟨a277, e278, hG⟩ := rf_s hF; clear hF
    have qa277 : Q a277 := hm.1 _ _ _ q_p0 e278
    obtain ⟨a279, e280, hF⟩ := rf_s hG; clear hG
    have qa279 : Q a279 := hm.1 _ _ _ q_p0 e280
    obtain ⟨q281, hG⟩ := ck_s hF; clear hF
    rw [(s_31).1] at q281
    obtain ⟨v283, H284, z282, hF⟩ := bC_s hG; clear hG
    have gz_32 := (g_World_numberAt z282 hm.1 qa279)
    replace hm : Rg Q H H284 := hm.tr gz_32
    have s_33 : Sa H H284 := (s_31).tr (m_World_numberAt z282)
    obtain ⟨n285, q286, hG⟩ := ar_s hF; clear hF
    rw [(s_33).1] at q286
    obtain ⟨q287, hF⟩ := ck_s hG; clear hG
    obtain ⟨H288, eH288, hG⟩ := bnd_g hF; clear hF
    replace hm : Rg Q H H288 := hm.tr (by rw [eH288]; exact Rg.sD hm.1 qa277)
    have s_34 : Sa H H288 := by rw [eH288]; exact s_33
    have hr := Option.some.inj hG; subst hr
    exact hm
set_option maxRecDepth 20000 in
set_option maxHeartbeats 2000000 in
theorem gB_Row_nextEntity_207 {N : Nat} {Q : Nat → Prop} {p0 : Nat} {p1 : Int32} {p2 : Int32} {kq54 : Int32 → Int32 → Int32 → Int32 → Int32 → Hp → Option (Unit × Hp)} (q_p0 : Q p0) (hg54 : ∀ (l3 : Int32) (l4 : Int32) (l5 : Int32) (l6 : Int32) (l7 : Int32) (H : Hp) (r : Unit × Hp), kq54 l3 l4 l5 l6 l7 H = some r → Cl Q H → Rg Q H r.2) {l3 : Int32} {l4 : Int32} {l5 : Int32} {l6 : Int32} {l7 : Int32} {w0 : Int32} {H : Hp} {r : Unit × Hp} (hF : B_Row_nextEntity_207 N p0 p1 p2 kq54 l3 l4 l5 l6 l7 w0 H = some r) (hc0 : Cl Q H) : Rg Q H r.2 := by
  unfold B_Row_nextEntity_207 at hF
  have hm := Rg.rf hc0
  exact hm.tr (gB_Row_nextEntity_209 q_p0 hg54 hF hm.1)
set_option maxRecDepth 20000 in
set_option maxHeartbeats 2000000 in
theorem gB_Row_nextEntity_93 {N : Nat} {Q : Nat → Prop} {p0 : Nat} {p1 : Int32} {p2 : Int32} {kq54 : Int32 → Int32 → Int32 → Int32 → Int32 → Hp → Option (Unit × Hp)} (q_p0 : Q p0) (hg54 : ∀ (l3 : Int32) (l4 : Int32) (l5 : Int32) (l6 : Int32) (l7 : Int32) (H : Hp) (r : Unit × Hp), kq54 l3 l4 l5 l6 l7 H = some r → Cl Q H → Rg Q H r.2) {l3 : Int32} {l4 : Int32} {l5 : Int32} {l6 : Int32} {l7 : Int32} {w0 : Int32} {H : Hp} {r : Unit × Hp} (hF : B_Row_nextEntity_93 N p0 p1 p2 kq54 l3 l4 l5 l6 l7 w0 H = some r) (hc0 : Cl Q H) : Rg Q H r.2 := by
  unfold B_Row_nextEntity_93 at hF
  have hm := Rg.rf hc0
  rcases ite_s hF with ⟨q_35, hG⟩ | ⟨q_35, hG⟩
  · clear hF
    exact hm.tr (gB_Row_nextEntity_209 q_p0 hg54 hG hm.1)
  · clear hF
    rcases ite_s hG with ⟨q_36, hF⟩ | ⟨q_36, hF⟩
    · clear hG
      exact hm.tr (gB_Row_nextEntity_209 q_p0 hg54 hF hm.1)
    · clear hG
      obtain ⟨q291, hG⟩ := ck_s hF; clear hF
      obtain ⟨x292, -, hF⟩ := bnd_g hG; clear hG
      obtain ⟨a293, e294, hG⟩ := rf_s hF; clear hF
      have qa293 : Q a293 := hm.1 _ _ _ q_p0 e294
      obtain ⟨q295, hF⟩ := ck_s hG; clear hG
      obtain ⟨x296, -, hG⟩ := bnd_g hF; clear hF
      obtain ⟨x297, -, hF⟩ := bnd_g hG; clear hG
      obtain ⟨a298, e299, hG⟩ := rf_s hF; clear hF
      have qa298 : Q a298 := hm.1 _ _ _ q_p0 e299
      obtain ⟨q300, hF⟩ := ck_s hG; clear hG
      obtain ⟨a301, e302, hG⟩ := rf_s hF; clear hF
      have qa301 : Q a301 := hm.1 _ _ _ qa298 e302
      obtain ⟨n303, q304, hF⟩ := ar_s hG; clear hG
      obtain ⟨q305, hG⟩ := ck_s hF; clear hF
      obtain ⟨x306, -, hF⟩ := bnd_g hG; clear hG
      obtain ⟨a307, e308, hG⟩ := rf_s hF; clear hF
      have qa307 : Q a307 := hm.1 _ _ _ q_p0 e308
      obtain ⟨q309, hF⟩ := ck_s hG; clear hG
      obtain ⟨a310, e311, hG⟩ := rf_s hF; clear hF
      have qa310 : Q a310 := hm.1 _ _ _ qa307 e311
      obtain ⟨n312, q313, hF⟩ := ar_s hG; clear hG
      obtain ⟨q314, hG⟩ := ck_s hF; clear hF
      obtain ⟨x315, -, hF⟩ := bnd_g hG; clear hG
      obtain ⟨x316, -, hG⟩ := bnd_g hF; clear hF
      obtain ⟨a317, e318, hF⟩ := rf_s hG; clear hG
      have qa317 : Q a317 := hm.1 _ _ _ q_p0 e318
      obtain ⟨q319, hG⟩ := ck_s hF; clear hF
      obtain ⟨a320, e321, hF⟩ := rf_s hG; clear hG
      have qa320 : Q a320 := hm.1 _ _ _ qa317 e321
      obtain ⟨n322, q323, hG⟩ := ar_s hF; clear hF
      obtain ⟨q324, hF⟩ := ck_s hG; clear hG
      obtain ⟨x325, -, hG⟩ := bnd_g hF; clear hF
      obtain ⟨a326, e327, hF⟩ := rf_s hG; clear hG
      have qa326 : Q a326 := hm.1 _ _ _ q_p0 e327
      obtain ⟨q328, hG⟩ := ck_s hF; clear hF
      obtain ⟨a329, e330, hF⟩ := rf_s hG; clear hG
      have qa329 : Q a329 := hm.1 _ _ _ qa326 e330
      obtain ⟨n331, q332, hG⟩ := ar_s hF; clear hF
      obtain ⟨q333, hF⟩ := ck_s hG; clear hG
      obtain ⟨x334, -, hG⟩ := bnd_g hF; clear hF
      obtain ⟨x335, -, hF⟩ := bnd_g hG; clear hG
      obtain ⟨v337, H338, z336, hG⟩ := bC_s hF; clear hF
      have gz_37 := (g_Math_abs z336 hm.1)
      replace hm : Rg Q H H338 := hm.tr gz_37
      have s_38 : Sa H H338 := (m_Math_abs z336)
      obtain ⟨v340, H341, z339, hF⟩ := bC_s hG; clear hG
      have gz_39 := (g_Math_abs z339 hm.1)
      replace hm : Rg Q H H341 := hm.tr gz_39
      have s_40 : Sa H H341 := (s_38).tr (m_Math_abs z339)
      obtain ⟨v343, H344, z342, hG⟩ := bC_s hF; clear hF
      have gz_41 := (g_Math_max2 z342 hm.1)
      replace hm : Rg Q H H344 := hm.tr gz_41
      have s_42 : Sa H H344 := (s_40).tr (m_Math_max2 z342)
      obtain ⟨a345, e346, hF⟩ := rf_s hG; clear hG
      have qa345 : Q a345 := hm.1 _ _ _ q_p0 e346
      obtain ⟨n347, q348, hG⟩ := ar_s hF; clear hF
      rw [(s_42).1] at q348
      obtain ⟨q349, hF⟩ := ck_s hG; clear hG
      obtain ⟨x350, -, hG⟩ := bnd_g hF; clear hF
      rcases ite_s hG with ⟨q_43, hF⟩ | ⟨q_43, hF⟩
      · clear hG
        exact hm.tr (gB_Row_nextEntity_207 q_p0 hg54 hF hm.1)
      · clear hG
        exact hm.tr (gB_Row_nextEntity_207 q_p0 hg54 hF hm.1)
set_option maxRecDepth 20000 in
set_option maxHeartbeats 2000000 in
theorem gB_Row_nextEntity_92 {N : Nat} {Q : Nat → Prop} {p0 : Nat} {p1 : Int32} {p2 : Int32} {kq54 : Int32 → Int32 → Int32 → Int32 → Int32 → Hp → Option (Unit × Hp)} (q_p0 : Q p0) (hg54 : ∀ (l3 : Int32) (l4 : Int32) (l5 : Int32) (l6 : Int32) (l7 : Int32) (H : Hp) (r : Unit × Hp), kq54 l3 l4 l5 l6 l7 H = some r → Cl Q H → Rg Q H r.2) {l3 : Int32} {l4 : Int32} {l5 : Int32} {l6 : Int32} {l7 : Int32} {H : Hp} {r : Unit × Hp} (hF : B_Row_nextEntity_92 N p0 p1 p2 kq54 l3 l4 l5 l6 l7 H = some r) (hc0 : Cl Q H) : Rg Q H r.2 := by
  unfold B_Row_nextEntity_92 at hF
  have hm := Rg.rf hc0
  exact hm.tr (gB_Row_nextEntity_93 q_p0 hg54 hF hm.1)
set_option maxRecDepth 20000 in
set_option maxHeartbeats 2000000 in
theorem gB_Row_nextEntity_54 {N : Nat} {Q : Nat → Prop} {p0 : Nat} {p1 : Int32} {p2 : Int32} (q_p0 : Q p0) : ∀ (n : Nat) (l3 : Int32) (l4 : Int32) (l5 : Int32) (l6 : Int32) (l7 : Int32) (H : Hp) (r : Unit × Hp), B_Row_nextEntity_54 N p0 p1 p2 n l3 l4 l5 l6 l7 H = some r → Cl Q H → Rg Q H r.2 := by
  intro n
  induction n with
  | zero => intro l3 l4 l5 l6 l7 H r hF; rw [B_Row_nextEntity_54] at hF; cases hF
  | succ n ih =>
    intro l3 l4 l5 l6 l7 H r hF hc0
    rw [B_Row_nextEntity_54] at hF
    have hm := Rg.rf hc0
    obtain ⟨q352, hG⟩ := ck_s hF; clear hF
    obtain ⟨a353, e354, hF⟩ := rf_s hG; clear hG
    have qa353 : Q a353 := hm.1 _ _ _ q_p0 e354
    obtain ⟨q355, hG⟩ := ck_s hF; clear hF
    obtain ⟨x356, -, hF⟩ := bnd_g hG; clear hG
    rcases ite_s hF with ⟨q_44, hG⟩ | ⟨q_44, hG⟩
    · clear hF
      obtain ⟨H358, eH358, hF⟩ := bnd_g hG; clear hG
      replace hm : Rg Q H H358 := hm.tr (by rw [eH358]; exact Rg.sD hm.1 q_p0)
      have s_45 : Sa H H358 := by rw [eH358]; exact Sa.rf _
      have hr := Option.some.inj hF; subst hr
      exact hm
    · clear hF
      obtain ⟨x359, -, hF⟩ := bnd_g hG; clear hG
      rcases ite_s hF with ⟨q_46, hG⟩ | ⟨q_46, hG⟩
      · clear hF
        exact hm.tr (gB_Row_nextEntity_92 q_p0 ih hG hm.1)
      · clear hF
        obtain ⟨a361, e362, hF⟩ := rf_s hG; clear hG
        have qa361 : Q a361 := hm.1 _ _ _ q_p0 e362
        obtain ⟨q363, hG⟩ := ck_s hF; clear hF
        obtain ⟨v365, H366, z364, hF⟩ := bC_s hG; clear hG
        have gz_47 := (g_World_owns z364 hm.1 qa361)
        replace hm : Rg Q H H366 := hm.tr gz_47
        have s_48 : Sa H H366 := (m_World_owns z364)
        rcases ite_s hF with ⟨q_49, hG⟩ | ⟨q_49, hG⟩
        · clear hF
          exact hm.tr (gB_Row_nextEntity_92 q_p0 ih hG hm.1)
        · clear hF
          exact hm.tr (gB_Row_nextEntity_93 q_p0 ih hG hm.1)
set_option maxRecDepth 20000 in
set_option maxHeartbeats 2000000 in
theorem g_Row_nextEntity {N : Nat} {Q : Nat → Prop} {p0 : Nat} {p1 : Int32} {p2 : Int32} {H : Hp} {r : Unit × Hp} (hF : F_Row_nextEntity N p0 p1 p2 H = some r) (hc0 : Cl Q H) (q_p0 : Q p0) : Rg Q H r.2 := by
  unfold F_Row_nextEntity at hF
  have hm := Rg.rf hc0
  obtain ⟨q368, hG⟩ := ck_s hF; clear hF
  obtain ⟨v370, H371, z369, hF⟩ := bC_s hG; clear hG
  have gz_50 := (g_Row_nextCode z369 hm.1 q_p0)
  replace hm : Rg Q H H371 := hm.tr gz_50
  have s_51 : Sa H H371 := (m_Row_nextCode z369)
  obtain ⟨v373, H374, z372, hG⟩ := bC_s hF; clear hF
  have gz_52 := (g_Row_nextCode z372 hm.1 q_p0)
  replace hm : Rg Q H H374 := hm.tr gz_52
  have s_53 : Sa H H374 := (s_51).tr (m_Row_nextCode z372)
  obtain ⟨v376, H377, z375, hF⟩ := bC_s hG; clear hG
  have gz_54 := (g_Row_nextCode z375 hm.1 q_p0)
  replace hm : Rg Q H H377 := hm.tr gz_54
  have s_55 : Sa H H377 := (s_53).tr (m_Row_nextCode z375)
  obtain ⟨x378, -, hG⟩ := bnd_g hF; clear hF
  obtain ⟨a379, e380, hF⟩ := rf_s hG; clear hG
  have qa379 : Q a379 := hm.1 _ _ _ q_p0 e380
  obtain ⟨q381, hG⟩ := ck_s hF; clear hF
  rw [(s_55).1] at q381
  obtain ⟨x382, -, hF⟩ := bnd_g hG; clear hG
  obtain ⟨a383, e384, hG⟩ := rf_s hF; clear hF
  have qa383 : Q a383 := hm.1 _ _ _ q_p0 e384
  obtain ⟨q385, hF⟩ := ck_s hG; clear hG
  rw [(s_55).1] at q385
  obtain ⟨a386, e387, hG⟩ := rf_s hF; clear hF
  have qa386 : Q a386 := hm.1 _ _ _ qa383 e387
  obtain ⟨q388, hF⟩ := ck_s hG; clear hG
  rw [(s_55).1] at q388
  obtain ⟨a389, e390, hG⟩ := rf_s hF; clear hF
  have qa389 : Q a389 := hm.1 _ _ _ qa386 e390
  obtain ⟨n391, q392, hF⟩ := ar_s hG; clear hG
  rw [(s_55).1] at q392
  obtain ⟨q393, hG⟩ := ck_s hF; clear hF
  obtain ⟨x394, -, hF⟩ := bnd_g hG; clear hG
  obtain ⟨x395, -, hG⟩ := bnd_g hF; clear hF
  obtain ⟨a396, e397, hF⟩ := rf_s hG; clear hG
  have qa396 : Q a396 := hm.1 _ _ _ q_p0 e397
  obtain ⟨n398, q399, hG⟩ := ar_s hF; clear hF
  rw [(s_55).1] at q399
  obtain ⟨q400, hF⟩ := ck_s hG; clear hG
  obtain ⟨x401, -, hG⟩ := bnd_g hF; clear hF
  obtain ⟨x402, -, hF⟩ := bnd_g hG; clear hG
  exact hm.tr (gB_Row_nextEntity_54 q_p0 N v370 v373 v376 x395 x402 H377 r hF hm.1)
set_option maxRecDepth 20000 in
set_option maxHeartbeats 2000000 in
theorem gB_Row_nextHeard_114 {N : Nat} {Q : Nat → Prop} {p0 : Nat} {p1 : Int32} {kq33 : Int32 → Int32 → Int32 → Int32 → Hp → Option (Unit × Hp)} (q_p0 : Q p0) (hg33 : ∀ (l2 : Int32) (l3 : Int32) (l4 : Int32) (l5 : Int32) (H : Hp) (r : Unit × Hp), kq33 l2 l3 l4 l5 H = some r → Cl Q H → Rg Q H r.2) {l2 : Int32} {l3 : Int32} {l4 : Int32} {l5 : Int32} {H : Hp} {r : Unit × Hp} (hF : B_Row_nextHeard_114 N p0 p1 kq33 l2 l3 l4 l5 H = some r) (hc0 : Cl Q H) : Rg Q H r.2 := by
  unfold B_Row_nextHeard_114 at hF
  have hm := Rg.rf hc0
  exact hm.tr (hg33 l2 l3 l4 (l5 + 1) H r hF hm.1)
set_option maxRecDepth 20000 in
set_option maxHeartbeats 2000000 in
theorem gB_Row_nextHeard_33 {N : Nat} {Q : Nat → Prop} {p0 : Nat} {p1 : Int32} (q_p0 : Q p0) : ∀ (n : Nat) (l2 : Int32) (l3 : Int32) (l4 : Int32) (l5 : Int32) (H : Hp) (r : Unit × Hp), B_Row_nextHeard_33 N p0 p1 n l2 l3 l4 l5 H = some r → Cl Q H → Rg Q H r.2 := by
  intro n
  induction n with
  | zero => intro l2 l3 l4 l5 H r hF; rw [B_Row_nextHeard_33] at hF; cases hF
  | succ n ih =>
    intro l2 l3 l4 l5 H r hF hc0
    rw [B_Row_nextHeard_33] at hF
    have hm := Rg.rf hc0
    obtain ⟨q139, hG⟩ := ck_s hF; clear hF
    obtain ⟨a140, e141, hF⟩ := rf_s hG; clear hG
    have qa140 : Q a140 := hm.1 _ _ _ q_p0 e141
    obtain ⟨q142, hG⟩ := ck_s hF; clear hF
    obtain ⟨x143, -, hF⟩ := bnd_g hG; clear hG
    rcases ite_s hF with ⟨q_15, hG⟩ | ⟨q_15, hG⟩
    · clear hF
      obtain ⟨H145, eH145, hF⟩ := bnd_g hG; clear hG
      replace hm : Rg Q H H145 := hm.tr (by rw [eH145]; exact Rg.sD hm.1 q_p0)
      have s_16 : Sa H H145 := by rw [eH145]; exact Sa.rf _
      have hr := Option.some.inj hF; subst hr
      exact hm
    · clear hF
      obtain ⟨x146, -, hF⟩ := bnd_g hG; clear hG
      obtain ⟨a147, e148, hG⟩ := rf_s hF; clear hF
      have qa147 : Q a147 := hm.1 _ _ _ q_p0 e148
      obtain ⟨q149, hF⟩ := ck_s hG; clear hG
      obtain ⟨a150, e151, hG⟩ := rf_s hF; clear hF
      have qa150 : Q a150 := hm.1 _ _ _ qa147 e151
      obtain ⟨n152, q153, hF⟩ := ar_s hG; clear hG
      obtain ⟨q154, hG⟩ := ck_s hF; clear hF
      obtain ⟨x155, -, hF⟩ := bnd_g hG; clear hG
      rcases ite_s hF with ⟨q_17, hG⟩ | ⟨q_17, hG⟩
      · clear hF
        obtain ⟨a157, e158, hF⟩ := rf_s hG; clear hG
        have qa157 : Q a157 := hm.1 _ _ _ q_p0 e158
        obtain ⟨q159, hG⟩ := ck_s hF; clear hF
        obtain ⟨a160, e161, hF⟩ := rf_s hG; clear hG
        have qa160 : Q a160 := hm.1 _ _ _ qa157 e161
        obtain ⟨n162, q163, hG⟩ := ar_s hF; clear hF
        obtain ⟨q164, hF⟩ := ck_s hG; clear hG
        obtain ⟨x165, -, hG⟩ := bnd_g hF; clear hF
        obtain ⟨a166, e167, hF⟩ := rf_s hG; clear hG
        have qa166 : Q a166 := hm.1 _ _ _ q_p0 e167
        obtain ⟨q168, hG⟩ := ck_s hF; clear hF
        obtain ⟨x169, -, hF⟩ := bnd_g hG; clear hG
        rcases ite_s hF with ⟨q_18, hG⟩ | ⟨q_18, hG⟩
        · clear hF
          obtain ⟨a171, e172, hF⟩ := rf_s hG; clear hG
          have qa171 : Q a171 := hm.1 _ _ _ q_p0 e172
          obtain ⟨q173, hG⟩ := ck_s hF; clear hF
          obtain ⟨a174, e175, hF⟩ := rf_s hG; clear hG
          have qa174 : Q a174 := hm.1 _ _ _ qa171 e175
          obtain ⟨n176, q177, hG⟩ := ar_s hF; clear hF
          obtain ⟨q178, hF⟩ := ck_s hG; clear hG
          obtain ⟨x179, -, hG⟩ := bnd_g hF; clear hF
          rcases ite_s hG with ⟨q_19, hF⟩ | ⟨q_19, hF⟩
          · clear hG
            obtain ⟨a181, e182, hG⟩ := rf_s hF; clear hF
            have qa181 : Q a181 := hm.1 _ _ _ q_p0 e182
            obtain ⟨n183, q184, hF⟩ := ar_s hG; clear hG
            obtain ⟨q185, hG⟩ := ck_s hF; clear hF
            obtain ⟨H186, eH186, hF⟩ := bnd_g hG; clear hG
            replace hm : Rg Q H H186 := hm.tr (by rw [eH186]; exact Rg.sD hm.1 qa181)
            have s_20 : Sa H H186 := by rw [eH186]; exact Sa.rf _
            have hr := Option.some.inj hF; subst hr
            exact hm
          · clear hG
            exact hm.tr (gB_Row_nextHeard_114 q_p0 ih hF hm.1)
        · clear hF
          exact hm.tr (gB_Row_nextHeard_114 q_p0 ih hG hm.1)
      · clear hF
        exact hm.tr (gB_Row_nextHeard_114 q_p0 ih hG hm.1)
set_option maxRecDepth 20000 in
set_option maxHeartbeats 2000000 in
theorem g_Row_nextHeard {N : Nat} {Q : Nat → Prop} {p0 : Nat} {p1 : Int32} {H : Hp} {r : Unit × Hp} (hF : F_Row_nextHeard N p0 p1 H = some r) (hc0 : Cl Q H) (q_p0 : Q p0) : Rg Q H r.2 := by
  unfold F_Row_nextHeard at hF
  have hm := Rg.rf hc0
  obtain ⟨q187, hG⟩ := ck_s hF; clear hF
  obtain ⟨v189, H190, z188, hF⟩ := bC_s hG; clear hG
  have gz_21 := (g_Row_nextCode z188 hm.1 q_p0)
  replace hm : Rg Q H H190 := hm.tr gz_21
  have s_22 : Sa H H190 := (m_Row_nextCode z188)
  obtain ⟨v192, H193, z191, hG⟩ := bC_s hF; clear hF
  have gz_23 := (g_Row_nextCode z191 hm.1 q_p0)
  replace hm : Rg Q H H193 := hm.tr gz_23
  have s_24 : Sa H H193 := (s_22).tr (m_Row_nextCode z191)
  obtain ⟨a194, e195, hF⟩ := rf_s hG; clear hG
  have qa194 : Q a194 := hm.1 _ _ _ q_p0 e195
  obtain ⟨x196, -, hG⟩ := bnd_g hF; clear hF
  obtain ⟨q197, hF⟩ := ck_s hG; clear hG
  rw [(s_24).1] at q197
  obtain ⟨v199, H200, z198, hG⟩ := bC_s hF; clear hF
  have gz_25 := (g_World_numberAt z198 hm.1 qa194)
  replace hm : Rg Q H H200 := hm.tr gz_25
  have s_26 : Sa H H200 := (s_24).tr (m_World_numberAt z198)
  obtain ⟨a201, e202, hF⟩ := rf_s hG; clear hG
  have qa201 : Q a201 := hm.1 _ _ _ q_p0 e202
  obtain ⟨n203, q204, hG⟩ := ar_s hF; clear hF
  rw [(s_26).1] at q204
  obtain ⟨q205, hF⟩ := ck_s hG; clear hG
  obtain ⟨x206, -, hG⟩ := bnd_g hF; clear hF
  obtain ⟨x207, -, hF⟩ := bnd_g hG; clear hG
  exact hm.tr (gB_Row_nextHeard_33 q_p0 N v189 v192 v199 x207 H200 r hF hm.1)
set_option maxRecDepth 20000 in
set_option maxHeartbeats 2000000 in
theorem gB_Row_control_150 {N : Nat} {Q : Nat → Prop} {p0 : Nat} {p1 : Int32} (q_p0 : Q p0) {l2 : Int32} {l3 : Int32} {w0 : Int32} {w1 : Int32} {H : Hp} {r : Unit × Hp} (hF : B_Row_control_150 N p0 p1 l2 l3 w0 w1 H = some r) (hc0 : Cl Q H) : Rg Q H r.2 := by
  unfold B_Row_control_150 at hF
  have hm := Rg.rf hc0
  rcases ite_s hF with ⟨q_53, hG⟩ | ⟨q_53, hG⟩
  · clear hF
    obtain ⟨q154, hF⟩ := ck_s hG; clear hG
    obtain ⟨v156, H157, z155, hG⟩ := bC_s hF; clear hF
    have gz_54 := (g_Row_push z155 hm.1 q_p0)
    replace hm : Rg Q H H157 := hm.tr gz_54
    have s_55 : Sa H H157 := (m_Row_push z155)
    obtain ⟨H158, eH158, hF⟩ := bnd_g hG; clear hG
    replace hm : Rg Q H H158 := hm.tr (by rw [eH158]; exact Rg.sD hm.1 q_p0)
    have s_56 : Sa H H158 := by rw [eH158]; exact s_55
    have hr := Option.some.inj hF; subst hr
    exact hm
  · clear hF
    have hr := Option.some.inj hG; subst hr
    exact hm
set_option maxRecDepth 20000 in
set_option maxHeartbeats 2000000 in
theorem gB_Row_control_140 {N : Nat} {Q : Nat → Prop} {p0 : Nat} {p1 : Int32} (q_p0 : Q p0) {l2 : Int32} {l3 : Int32} {w0 : Int32} {H : Hp} {r : Unit × Hp} (hF : B_Row_control_140 N p0 p1 l2 l3 w0 H = some r) (hc0 : Cl Q H) : Rg Q H r.2 := by
  unfold B_Row_control_140 at hF
  have hm := Rg.rf hc0
  rcases ite_s hF with ⟨q_57, hG⟩ | ⟨q_57, hG⟩
  · clear hF
    exact hm.tr (gB_Row_control_150 q_p0 hG hm.1)
  · clear hF
    exact hm.tr (gB_Row_control_150 q_p0 hG hm.1)
set_option maxRecDepth 20000 in
set_option maxHeartbeats 2000000 in
theorem gB_Row_control_202 {N : Nat} {Q : Nat → Prop} {p0 : Nat} {p1 : Int32} (q_p0 : Q p0) {w0 : Nat} {w1 : Int32} {w2 : Int32} {H : Hp} {r : Unit × Hp} (hF : B_Row_control_202 N p0 p1 w0 w1 w2 H = some r) (hc0 : Cl Q H) (q_w0 : Q w0) : Rg Q H r.2 := by
  unfold B_Row_control_202 at hF
  have hm := Rg.rf hc0
  obtain ⟨q160, hG⟩ := ck_s hF; clear hF
  obtain ⟨v162, H163, z161, hF⟩ := bC_s hG; clear hG
  have gz_58 := (g_Row_nextEntity z161 hm.1 q_w0)
  replace hm : Rg Q H H163 := hm.tr gz_58
  have s_59 : Sa H H163 := (m_Row_nextEntity z161)
  have hr := Option.some.inj hF; subst hr
  exact hm
set_option maxRecDepth 20000 in
set_option maxHeartbeats 2000000 in
theorem gB_Row_control_19 {N : Nat} {Q : Nat → Prop} {p0 : Nat} {p1 : Int32} (q_p0 : Q p0) {w0 : Int32} {H : Hp} {r : Unit × Hp} (hF : B_Row_control_19 N p0 p1 w0 H = some r) (hc0 : Cl Q H) : Rg Q H r.2 := by
  unfold B_Row_control_19 at hF
  have hm := Rg.rf hc0
  rcases ite_s hF with ⟨q_60, hG⟩ | ⟨q_60, hG⟩
  · clear hF
    obtain ⟨q165, hF⟩ := ck_s hG; clear hG
    obtain ⟨x166, -, hG⟩ := bnd_g hF; clear hF
    obtain ⟨H167, eH167, hF⟩ := bnd_g hG; clear hG
    replace hm : Rg Q H H167 := hm.tr (by rw [eH167]; exact Rg.sD hm.1 q_p0)
    have s_61 : Sa H H167 := by rw [eH167]; exact Sa.rf _
    obtain ⟨x168, -, hG⟩ := bnd_g hF; clear hF
    rcases ite_s hG with ⟨q_62, hF⟩ | ⟨q_62, hF⟩
    · clear hG
      have hr := Option.some.inj hF; subst hr
      exact hm
    · clear hG
      obtain ⟨H170, eH170, hG⟩ := bnd_g hF; clear hF
      replace hm : Rg Q H H170 := hm.tr (by rw [eH170]; exact Rg.sD hm.1 q_p0)
      have s_63 : Sa H H170 := by rw [eH170]; exact s_61
      have hr := Option.some.inj hG; subst hr
      exact hm
  clear hF
  rcases ite_s hG with ⟨q_64, hF⟩ | ⟨q_64, hF⟩
  · clear hG
    obtain ⟨q172, hG⟩ := ck_s hF; clear hF
    obtain ⟨H173, eH173, hF⟩ := bnd_g hG; clear hG
    replace hm : Rg Q H H173 := hm.tr (by rw [eH173]; exact Rg.sD hm.1 q_p0)
    have s_65 : Sa H H173 := by rw [eH173]; exact Sa.rf _
    have hr := Option.some.inj hF; subst hr
    exact hm
  clear hG
  rcases ite_s hF with ⟨q_66, hG⟩ | ⟨q_66, hG⟩
  · clear hF
    obtain ⟨q175, hF⟩ := ck_s hG; clear hG
    obtain ⟨v177, H178, z176, hG⟩ := bC_s hF; clear hF
    have gz_67 := (g_Row_pop z176 hm.1 q_p0)
    replace hm : Rg Q H H178 := hm.tr gz_67
    have s_68 : Sa H H178 := (m_Row_pop z176)
    rcases ite_s hG with ⟨q_69, hF⟩ | ⟨q_69, hF⟩
    · clear hG
      obtain ⟨H180, eH180, hG⟩ := bnd_g hF; clear hF
      replace hm : Rg Q H H180 := hm.tr (by rw [eH180]; exact Rg.sD hm.1 q_p0)
      have s_70 : Sa H H180 := by rw [eH180]; exact s_68
      have hr := Option.some.inj hG; subst hr
      exact hm
    · clear hG
      have hr := Option.some.inj hF; subst hr
      exact hm
  clear hF
  rcases ite_s hG with ⟨q_71, hF⟩ | ⟨q_71, hF⟩
  · clear hG
    obtain ⟨q182, hG⟩ := ck_s hF; clear hF
    obtain ⟨v184, H185, z183, hF⟩ := bC_s hG; clear hG
    have gz_72 := (g_Row_pop z183 hm.1 q_p0)
    replace hm : Rg Q H H185 := hm.tr gz_72
    have s_73 : Sa H H185 := (m_Row_pop z183)
    rcases ite_s hF with ⟨q_74, hG⟩ | ⟨q_74, hG⟩
    · clear hF
      exact hm.tr (gB_Row_control_140 q_p0 hG hm.1)
    · clear hF
      exact hm.tr (gB_Row_control_140 q_p0 hG hm.1)
  clear hG
  rcases ite_s hF with ⟨q_75, hG⟩ | ⟨q_75, hG⟩
  · clear hF
    obtain ⟨q188, hF⟩ := ck_s hG; clear hG
    obtain ⟨v190, H191, z189, hG⟩ := bC_s hF; clear hF
    have gz_76 := (g_Row_pop z189 hm.1 q_p0)
    replace hm : Rg Q H H191 := hm.tr gz_76
    have s_77 : Sa H H191 := (m_Row_pop z189)
    rcases ite_s hG with ⟨q_78, hF⟩ | ⟨q_78, hF⟩
    · clear hG
      exact hm.tr (gB_Row_control_140 q_p0 hF hm.1)
    · clear hG
      exact hm.tr (gB_Row_control_140 q_p0 hF hm.1)
  clear hF
  rcases ite_s hG with ⟨q_79, hF⟩ | ⟨q_79, hF⟩
  · clear hG
    obtain ⟨q194, hG⟩ := ck_s hF; clear hF
    obtain ⟨a195, e196, hF⟩ := rf_s hG; clear hG
    have qa195 : Q a195 := hm.1 _ _ _ q_p0 e196
    obtain ⟨n197, q198, hG⟩ := ar_s hF; clear hF
    obtain ⟨q199, hF⟩ := ck_s hG; clear hG
    obtain ⟨H200, eH200, hG⟩ := bnd_g hF; clear hF
    replace hm : Rg Q H H200 := hm.tr (by rw [eH200]; exact Rg.sD hm.1 qa195)
    have s_80 : Sa H H200 := by rw [eH200]; exact Sa.rf _
    have hr := Option.some.inj hG; subst hr
    exact hm
  clear hG
  rcases ite_s hF with ⟨q_81, hG⟩ | ⟨q_81, hG⟩
  · clear hF
    obtain ⟨q202, hF⟩ := ck_s hG; clear hG
    obtain ⟨a203, e204, hG⟩ := rf_s hF; clear hF
    have qa203 : Q a203 := hm.1 _ _ _ q_p0 e204
    obtain ⟨v206, H207, z205, hF⟩ := bC_s hG; clear hG
    have gz_82 := (g_Row_pop z205 hm.1 q_p0)
    replace hm : Rg Q H H207 := hm.tr gz_82
    have s_83 : Sa H H207 := (m_Row_pop z205)
    obtain ⟨n208, q209, hG⟩ := ar_s hF; clear hF
    rw [(s_83).1] at q209
    obtain ⟨q210, hF⟩ := ck_s hG; clear hG
    obtain ⟨H211, eH211, hG⟩ := bnd_g hF; clear hF
    replace hm : Rg Q H H211 := hm.tr (by rw [eH211]; exact Rg.sD hm.1 qa203)
    have s_84 : Sa H H211 := by rw [eH211]; exact s_83
    have hr := Option.some.inj hG; subst hr
    exact hm
  clear hF
  rcases ite_s hG with ⟨q_85, hF⟩ | ⟨q_85, hF⟩
  · clear hG
    rcases ite_s hF with ⟨q_86, hG⟩ | ⟨q_86, hG⟩
    · clear hF
      exact hm.tr (gB_Row_control_202 q_p0 hG hm.1 q_p0)
    · clear hF
      exact hm.tr (gB_Row_control_202 q_p0 hG hm.1 q_p0)
  clear hG
  rcases ite_s hF with ⟨q_87, hG⟩ | ⟨q_87, hG⟩
  · clear hF
    rcases ite_s hG with ⟨q_88, hF⟩ | ⟨q_88, hF⟩
    · clear hG
      exact hm.tr (gB_Row_control_202 q_p0 hF hm.1 q_p0)
    · clear hG
      exact hm.tr (gB_Row_control_202 q_p0 hF hm.1 q_p0)
  clear hF
  rcases ite_s hG with ⟨q_89, hF⟩ | ⟨q_89, hF⟩
  · clear hG
    obtain ⟨q217, hG⟩ := ck_s hF; clear hF
    obtain ⟨v219, H220, z218, hF⟩ := bC_s hG; clear hG
    have gz_90 := (g_Row_nextHeard z218 hm.1 q_p0)
    replace hm : Rg Q H H220 := hm.tr gz_90
    have s_91 : Sa H H220 := (m_Row_nextHeard z218)
    have hr := Option.some.inj hF; subst hr
    exact hm
  clear hG
  obtain ⟨q221, hG⟩ := ck_s hF; clear hF
  obtain ⟨H222, eH222, hF⟩ := bnd_g hG; clear hG
  replace hm : Rg Q H H222 := hm.tr (by rw [eH222]; exact Rg.sD hm.1 q_p0)
  have s_92 : Sa H H222 := by rw [eH222]; exact Sa.rf _
  have hr := Option.some.inj hF; subst hr
  exact hm
set_option maxRecDepth 20000 in
set_option maxHeartbeats 2000000 in
theorem gB_Row_control_11 {N : Nat} {Q : Nat → Prop} {p0 : Nat} {p1 : Int32} (q_p0 : Q p0)  {H : Hp} {r : Unit × Hp} (hF : B_Row_control_11 N p0 p1  H = some r) (hc0 : Cl Q H) : Rg Q H r.2 := by
  unfold B_Row_control_11 at hF
  have hm := Rg.rf hc0
  exact hm.tr (gB_Row_control_19 q_p0 hF hm.1)
set_option maxRecDepth 20000 in
set_option maxHeartbeats 2000000 in
theorem g_Row_control {N : Nat} {Q : Nat → Prop} {p0 : Nat} {p1 : Int32} {H : Hp} {r : Unit × Hp} (hF : F_Row_control N p0 p1 H = some r) (hc0 : Cl Q H) (q_p0 : Q p0) : Rg Q H r.2 := by
  unfold F_Row_control at hF
  have hm := Rg.rf hc0
  rcases ite_s hF with ⟨q_93, hG⟩ | ⟨q_93, hG⟩
  · clear hF
    exact hm.tr (gB_Row_control_11 q_p0 hG hm.1)
  · clear hF
    rcases ite_s hG with ⟨q_94, hF⟩ | ⟨q_94, hF⟩
    · clear hG
      exact hm.tr (gB_Row_control_11 q_p0 hF hm.1)
    · clear hG
      obtain ⟨q225, hG⟩ := ck_s hF; clear hF
      obtain ⟨v227, H228, z226, hF⟩ := bC_s hG; clear hG
      have gz_95 := (g_Row_nextCode z226 hm.1 q_p0)
      replace hm : Rg Q H H228 := hm.tr gz_95
      have s_96 : Sa H H228 := (m_Row_nextCode z226)
      exact hm.tr (gB_Row_control_19 q_p0 hF hm.1)
set_option maxRecDepth 20000 in
set_option maxHeartbeats 2000000 in
theorem gB_Row_commandSpawn_55 {N : Nat} {Q : Nat → Prop} {p0 : Nat} (q_p0 : Q p0) : ∀ (n : Nat) (l2 : Int32) (H : Hp) (r : Unit × Hp), B_Row_commandSpawn_55 N p0 n l2 H = some r → Cl Q H → Rg Q H r.2 := by
  intro n
  induction n with
  | zero => intro l2 H r hF; rw [B_Row_commandSpawn_55] at hF; cases hF
  | succ n ih =>
    intro l2 H r hF hc0
    rw [B_Row_commandSpawn_55] at hF
    have hm := Rg.rf hc0
    rcases ite_s hF with ⟨q_21, hG⟩ | ⟨q_21, hG⟩
    · clear hF
      have hr := Option.some.inj hG; subst hr
      exact hm
    · clear hF
      obtain ⟨q92, hF⟩ := ck_s hG; clear hG
      obtain ⟨a93, e94, hG⟩ := rf_s hF; clear hF
      have qa93 : Q a93 := hm.1 _ _ _ q_p0 e94
      obtain ⟨v96, H97, z95, hF⟩ := bC_s hG; clear hG
      have gz_22 := (g_Row_pop z95 hm.1 q_p0)
      replace hm : Rg Q H H97 := hm.tr gz_22
      have s_23 : Sa H H97 := (m_Row_pop z95)
      obtain ⟨n98, q99, hG⟩ := ar_s hF; clear hF
      rw [(s_23).1] at q99
      obtain ⟨q100, hF⟩ := ck_s hG; clear hG
      obtain ⟨H101, eH101, hG⟩ := bnd_g hF; clear hF
      replace hm : Rg Q H H101 := hm.tr (by rw [eH101]; exact Rg.sD hm.1 qa93)
      have s_24 : Sa H H101 := by rw [eH101]; exact s_23
      exact hm.tr (ih (l2 + (-1)) H101 r hG hm.1)
set_option maxRecDepth 20000 in
set_option maxHeartbeats 2000000 in
theorem gB_Row_commandSpawn_28 {N : Nat} {Q : Nat → Prop} {p0 : Nat} (q_p0 : Q p0) : ∀ (n : Nat) (l1 : Int32) (l2 : Int32) (H : Hp) (r : Unit × Hp), B_Row_commandSpawn_28 N p0 n l1 l2 H = some r → Cl Q H → Rg Q H r.2 := by
  intro n
  induction n with
  | zero => intro l1 l2 H r hF; rw [B_Row_commandSpawn_28] at hF; cases hF
  | succ n ih =>
    intro l1 l2 H r hF hc0
    rw [B_Row_commandSpawn_28] at hF
    have hm := Rg.rf hc0
    rcases ite_s hF with ⟨q_25, hG⟩ | ⟨q_25, hG⟩
    · clear hF
      obtain ⟨x103, -, hF⟩ := bnd_g hG; clear hG
      exact hm.tr (gB_Row_commandSpawn_55 q_p0 N x103 H r hF hm.1)
    · clear hF
      obtain ⟨q104, hF⟩ := ck_s hG; clear hG
      obtain ⟨a105, e106, hG⟩ := rf_s hF; clear hF
      have qa105 : Q a105 := hm.1 _ _ _ q_p0 e106
      obtain ⟨v108, H109, z107, hF⟩ := bC_s hG; clear hG
      have gz_26 := (g_Row_nextCode z107 hm.1 q_p0)
      replace hm : Rg Q H H109 := hm.tr gz_26
      have s_27 : Sa H H109 := (m_Row_nextCode z107)
      obtain ⟨n110, q111, hG⟩ := ar_s hF; clear hF
      rw [(s_27).1] at q111
      obtain ⟨q112, hF⟩ := ck_s hG; clear hG
      obtain ⟨H113, eH113, hG⟩ := bnd_g hF; clear hF
      replace hm : Rg Q H H113 := hm.tr (by rw [eH113]; exact Rg.sD hm.1 qa105)
      have s_28 : Sa H H113 := by rw [eH113]; exact s_27
      exact hm.tr (ih l1 (l2 + 1) H113 r hG hm.1)
set_option maxRecDepth 20000 in
set_option maxHeartbeats 2000000 in
theorem g_Row_commandSpawn {N : Nat} {Q : Nat → Prop} {p0 : Nat} {H : Hp} {r : Unit × Hp} (hF : F_Row_commandSpawn N p0 H = some r) (hc0 : Cl Q H) (q_p0 : Q p0) : Rg Q H r.2 := by
  unfold F_Row_commandSpawn at hF
  have hm := Rg.rf hc0
  obtain ⟨q114, hG⟩ := ck_s hF; clear hF
  obtain ⟨a115, e116, hF⟩ := rf_s hG; clear hG
  have qa115 : Q a115 := hm.1 _ _ _ q_p0 e116
  obtain ⟨v118, H119, z117, hG⟩ := bC_s hF; clear hF
  have gz_29 := (g_Row_nextCode z117 hm.1 q_p0)
  replace hm : Rg Q H H119 := hm.tr gz_29
  have s_30 : Sa H H119 := (m_Row_nextCode z117)
  obtain ⟨n120, q121, hF⟩ := ar_s hG; clear hG
  rw [(s_30).1] at q121
  obtain ⟨q122, hG⟩ := ck_s hF; clear hF
  obtain ⟨H123, eH123, hF⟩ := bnd_g hG; clear hG
  replace hm : Rg Q H H123 := hm.tr (by rw [eH123]; exact Rg.sD hm.1 qa115)
  have s_31 : Sa H H123 := by rw [eH123]; exact s_30
  obtain ⟨v125, H126, z124, hG⟩ := bC_s hF; clear hF
  have gz_32 := (g_Row_nextCode z124 hm.1 q_p0)
  replace hm : Rg Q H H126 := hm.tr gz_32
  have s_33 : Sa H H126 := (s_31).tr (m_Row_nextCode z124)
  obtain ⟨v128, H129, z127, hF⟩ := bC_s hG; clear hG
  have gz_34 := (g_Math_min z127 hm.1)
  replace hm : Rg Q H H129 := hm.tr gz_34
  have s_35 : Sa H H129 := (s_33).tr (m_Math_min z127)
  obtain ⟨a130, e131, hG⟩ := rf_s hF; clear hF
  have qa130 : Q a130 := hm.1 _ _ _ q_p0 e131
  obtain ⟨n132, q133, hF⟩ := ar_s hG; clear hG
  rw [(s_35).1] at q133
  obtain ⟨q134, hG⟩ := ck_s hF; clear hF
  obtain ⟨H135, eH135, hF⟩ := bnd_g hG; clear hG
  replace hm : Rg Q H H135 := hm.tr (by rw [eH135]; exact Rg.sD hm.1 qa130)
  have s_36 : Sa H H135 := by rw [eH135]; exact s_35
  exact hm.tr (gB_Row_commandSpawn_28 q_p0 N v128 0 H135 r hF hm.1)
set_option maxRecDepth 20000 in
set_option maxHeartbeats 2000000 in
theorem gB_Row_commandEmit_49 {N : Nat} {Q : Nat → Prop} {p0 : Nat} (q_p0 : Q p0) : ∀ (n : Nat) (l1 : Int32) (H : Hp) (r : Unit × Hp), B_Row_commandEmit_49 N p0 n l1 H = some r → Cl Q H → Rg Q H r.2 := by
  intro n
  induction n with
  | zero => intro l1 H r hF; rw [B_Row_commandEmit_49] at hF; cases hF
  | succ n ih =>
    intro l1 H r hF hc0
    rw [B_Row_commandEmit_49] at hF
    have hm := Rg.rf hc0
    rcases ite_s hF with ⟨q_26, hG⟩ | ⟨q_26, hG⟩
    · clear hF
      obtain ⟨q146, hF⟩ := ck_s hG; clear hG
      obtain ⟨a147, e148, hG⟩ := rf_s hF; clear hF
      have qa147 : Q a147 := hm.1 _ _ _ q_p0 e148
      obtain ⟨n149, q150, hF⟩ := ar_s hG; clear hG
      obtain ⟨q151, hG⟩ := ck_s hF; clear hF
      obtain ⟨x152, -, hF⟩ := bnd_g hG; clear hG
      rcases ite_s hF with ⟨q_27, hG⟩ | ⟨q_27, hG⟩
      · clear hF
        obtain ⟨H154, eH154, hF⟩ := bnd_g hG; clear hG
        replace hm : Rg Q H H154 := hm.tr (by rw [eH154]; exact Rg.sD hm.1 q_p0)
        have s_28 : Sa H H154 := by rw [eH154]; exact Sa.rf _
        have hr := Option.some.inj hF; subst hr
        exact hm
      · clear hF
        obtain ⟨a155, e156, hF⟩ := rf_s hG; clear hG
        have qa155 : Q a155 := hm.1 _ _ _ q_p0 e156
        obtain ⟨n157, q158, hG⟩ := ar_s hF; clear hF
        obtain ⟨q159, hF⟩ := ck_s hG; clear hG
        obtain ⟨x160, -, hG⟩ := bnd_g hF; clear hF
        rcases ite_s hG with ⟨q_29, hF⟩ | ⟨q_29, hF⟩
        · clear hG
          have hr := Option.some.inj hF; subst hr
          exact hm
        · clear hG
          obtain ⟨H162, eH162, hG⟩ := bnd_g hF; clear hF
          replace hm : Rg Q H H162 := hm.tr (by rw [eH162]; exact Rg.sD hm.1 q_p0)
          have s_30 : Sa H H162 := by rw [eH162]; exact Sa.rf _
          have hr := Option.some.inj hG; subst hr
          exact hm
    · clear hF
      obtain ⟨q163, hF⟩ := ck_s hG; clear hG
      obtain ⟨a164, e165, hG⟩ := rf_s hF; clear hF
      have qa164 : Q a164 := hm.1 _ _ _ q_p0 e165
      obtain ⟨v167, H168, z166, hF⟩ := bC_s hG; clear hG
      have gz_31 := (g_Row_pop z166 hm.1 q_p0)
      replace hm : Rg Q H H168 := hm.tr gz_31
      have s_32 : Sa H H168 := (m_Row_pop z166)
      obtain ⟨n169, q170, hG⟩ := ar_s hF; clear hF
      rw [(s_32).1] at q170
      obtain ⟨q171, hF⟩ := ck_s hG; clear hG
      obtain ⟨H172, eH172, hG⟩ := bnd_g hF; clear hF
      replace hm : Rg Q H H172 := hm.tr (by rw [eH172]; exact Rg.sD hm.1 qa164)
      have s_33 : Sa H H172 := by rw [eH172]; exact s_32
      exact hm.tr (ih (l1 + (-1)) H172 r hG hm.1)
set_option maxRecDepth 20000 in
set_option maxHeartbeats 2000000 in
theorem g_Row_commandEmit {N : Nat} {Q : Nat → Prop} {p0 : Nat} {H : Hp} {r : Unit × Hp} (hF : F_Row_commandEmit N p0 H = some r) (hc0 : Cl Q H) (q_p0 : Q p0) : Rg Q H r.2 := by
  unfold F_Row_commandEmit at hF
  have hm := Rg.rf hc0
  obtain ⟨q173, hG⟩ := ck_s hF; clear hF
  obtain ⟨a174, e175, hF⟩ := rf_s hG; clear hG
  have qa174 : Q a174 := hm.1 _ _ _ q_p0 e175
  obtain ⟨v177, H178, z176, hG⟩ := bC_s hF; clear hF
  have gz_34 := (g_Row_nextCode z176 hm.1 q_p0)
  replace hm : Rg Q H H178 := hm.tr gz_34
  have s_35 : Sa H H178 := (m_Row_nextCode z176)
  obtain ⟨n179, q180, hF⟩ := ar_s hG; clear hG
  rw [(s_35).1] at q180
  obtain ⟨q181, hG⟩ := ck_s hF; clear hF
  obtain ⟨H182, eH182, hF⟩ := bnd_g hG; clear hG
  replace hm : Rg Q H H182 := hm.tr (by rw [eH182]; exact Rg.sD hm.1 qa174)
  have s_36 : Sa H H182 := by rw [eH182]; exact s_35
  obtain ⟨a183, e184, hG⟩ := rf_s hF; clear hF
  have qa183 : Q a183 := hm.1 _ _ _ q_p0 e184
  obtain ⟨v186, H187, z185, hF⟩ := bC_s hG; clear hG
  have gz_37 := (g_Row_pop z185 hm.1 q_p0)
  replace hm : Rg Q H H187 := hm.tr gz_37
  have s_38 : Sa H H187 := (s_36).tr (m_Row_pop z185)
  obtain ⟨n188, q189, hG⟩ := ar_s hF; clear hF
  rw [(s_38).1] at q189
  obtain ⟨q190, hF⟩ := ck_s hG; clear hG
  obtain ⟨H191, eH191, hG⟩ := bnd_g hF; clear hF
  replace hm : Rg Q H H191 := hm.tr (by rw [eH191]; exact Rg.sD hm.1 qa183)
  have s_39 : Sa H H191 := by rw [eH191]; exact s_38
  obtain ⟨a192, e193, hF⟩ := rf_s hG; clear hG
  have qa192 : Q a192 := hm.1 _ _ _ q_p0 e193
  obtain ⟨v195, H196, z194, hG⟩ := bC_s hF; clear hF
  have gz_40 := (g_Row_pop z194 hm.1 q_p0)
  replace hm : Rg Q H H196 := hm.tr gz_40
  have s_41 : Sa H H196 := (s_39).tr (m_Row_pop z194)
  obtain ⟨n197, q198, hF⟩ := ar_s hG; clear hG
  rw [(s_41).1] at q198
  obtain ⟨q199, hG⟩ := ck_s hF; clear hF
  obtain ⟨H200, eH200, hF⟩ := bnd_g hG; clear hG
  replace hm : Rg Q H H200 := hm.tr (by rw [eH200]; exact Rg.sD hm.1 qa192)
  have s_42 : Sa H H200 := by rw [eH200]; exact s_41
  obtain ⟨a201, e202, hG⟩ := rf_s hF; clear hF
  have qa201 : Q a201 := hm.1 _ _ _ q_p0 e202
  obtain ⟨q203, hF⟩ := ck_s hG; clear hG
  rw [(s_42).1] at q203
  obtain ⟨a204, e205, hG⟩ := rf_s hF; clear hF
  have qa204 : Q a204 := hm.1 _ _ _ qa201 e205
  obtain ⟨a206, e207, hF⟩ := rf_s hG; clear hG
  have qa206 : Q a206 := hm.1 _ _ _ q_p0 e207
  obtain ⟨n208, q209, hG⟩ := ar_s hF; clear hF
  rw [(s_42).1] at q209
  obtain ⟨q210, hF⟩ := ck_s hG; clear hG
  obtain ⟨x211, -, hG⟩ := bnd_g hF; clear hF
  obtain ⟨q212, hF⟩ := ck_s hG; clear hG
  rw [(s_42).1] at q212
  obtain ⟨v214, H215, z213, hG⟩ := bC_s hF; clear hF
  have gz_43 := (g_Shapes_sizeOf z213 hm.1 qa204)
  replace hm : Rg Q H H215 := hm.tr gz_43
  have s_44 : Sa H H215 := (s_42).tr (m_Shapes_sizeOf z213)
  obtain ⟨x216, -, hF⟩ := bnd_g hG; clear hG
  exact hm.tr (gB_Row_commandEmit_49 q_p0 N x216 H215 r hF hm.1)
set_option maxRecDepth 20000 in
set_option maxHeartbeats 2000000 in
theorem g_Arr_copyOf {N : Nat} {Q : Nat → Prop} {p0 : Nat} {p1 : Int32} {H : Hp} {r : (Option Nat) × Hp} {B : Nat} (hn : ∀ a, B ≤ a → Q a) (hF : F_Arr_copyOf N p0 p1 H = some r) (hc0 : Cl Q H) (hB : B ≤ H.sh.length) (q_p0 : Q p0) : Rg Q H r.2 ∧ (∀ a, r.1 = some a → Q a) := by
  unfold F_Arr_copyOf at hF
  have hm := Rg.rf hc0
  obtain ⟨n37, q38, hG⟩ := ar_s hF; clear hF
  rcases ite_s hG with ⟨q_12, hF⟩ | ⟨q_12, hF⟩
  · clear hG
    cases hF
  · clear hG
    obtain ⟨q40, hG⟩ := ck_s hF; clear hF
    obtain ⟨q41, hF⟩ := ck_s hG; clear hG
    obtain ⟨H42, eH42, hG⟩ := bnd_g hF; clear hF
    obtain ⟨a43, ea43, hF⟩ := bnd_g hG; clear hG
    have m_13 : Mo H H42 := by rw [eH42]; exact Mo.nw _ _ _
    have qa43 : Q a43 := by rw [ea43]; exact hn _ hB
    replace hm : Rg Q H H42 := hm.tr (by rw [eH42]; exact Rg.nw hm.1 (hn _ hB))
    replace hB : B ≤ H42.sh.length := Nat.le_trans hB (m_13).len
    have q_14 := (m_13).get q38
    obtain ⟨v45, H46, z44, hG⟩ := bC_s hF; clear hF
    have gz_15 := (g_Math_min z44 hm.1)
    replace hm : Rg Q H H46 := hm.tr gz_15
    replace hB : B ≤ H46.sh.length := Nat.le_trans hB ((m_Math_min z44)).mo.len
    have s_16 : Sa H42 H46 := (m_Math_min z44)
    obtain ⟨n47, q48, hF⟩ := ar_s hG; clear hG
    rw [(s_16).1] at q48
    obtain ⟨q49, hG⟩ := ck_s hF; clear hF
    obtain ⟨q50, hF⟩ := ck_s hG; clear hG
    obtain ⟨q51, hG⟩ := ck_s hF; clear hF
    obtain ⟨q52, hF⟩ := ck_s hG; clear hG
    obtain ⟨q53, hG⟩ := ck_s hF; clear hF
    obtain ⟨H54, eH54, hF⟩ := bnd_g hG; clear hG
    replace hm : Rg Q H H54 := hm.tr (by rw [eH54]; exact Rg.cpy hm.1 qa43)
    have s_17 : Sa H42 H54 := by rw [eH54]; exact s_16
    replace hB : B ≤ H54.sh.length := by rw [eH54]; exact hB
    have hr := Option.some.inj hF; subst hr
    exact ⟨hm, (fun a e => by cases e; exact qa43)⟩
set_option maxRecDepth 20000 in
set_option maxHeartbeats 2000000 in
theorem gB_Row_listCommand_54 {N : Nat} {Q : Nat → Prop} {p0 : Nat} {B : Nat} (hn : ∀ a, B ≤ a → Q a) (q_p0 : Q p0) {l1 : Int32} {H : Hp} {r : Unit × Hp} (hF : B_Row_listCommand_54 N p0 l1 H = some r) (hc0 : Cl Q H) (hB : B ≤ H.sh.length) : Rg Q H r.2 := by
  unfold B_Row_listCommand_54 at hF
  have hm := Rg.rf hc0
  obtain ⟨q83, hG⟩ := ck_s hF; clear hF
  obtain ⟨a84, e85, hF⟩ := rf_s hG; clear hG
  have qa84 : Q a84 := hm.1 _ _ _ q_p0 e85
  obtain ⟨a86, e87, hG⟩ := rf_s hF; clear hF
  have qa86 : Q a86 := hm.1 _ _ _ q_p0 e87
  obtain ⟨n88, q89, hF⟩ := ar_s hG; clear hG
  obtain ⟨n90, q91, hG⟩ := ar_s hF; clear hF
  obtain ⟨q92, hF⟩ := ck_s hG; clear hG
  obtain ⟨q93, hG⟩ := ck_s hF; clear hF
  obtain ⟨q94, hF⟩ := ck_s hG; clear hG
  obtain ⟨q95, hG⟩ := ck_s hF; clear hF
  obtain ⟨q96, hF⟩ := ck_s hG; clear hG
  obtain ⟨H97, eH97, hG⟩ := bnd_g hF; clear hF
  replace hm : Rg Q H H97 := hm.tr (by rw [eH97]; exact Rg.cpy hm.1 qa86)
  have s_24 : Sa H H97 := by rw [eH97]; exact Sa.rf _
  replace hB : B ≤ H97.sh.length := by rw [eH97]; exact hB
  obtain ⟨x98, -, hF⟩ := bnd_g hG; clear hG
  obtain ⟨H99, eH99, hG⟩ := bnd_g hF; clear hF
  replace hm : Rg Q H H99 := hm.tr (by rw [eH99]; exact Rg.sD hm.1 q_p0)
  have s_25 : Sa H H99 := by rw [eH99]; exact s_24
  replace hB : B ≤ H99.sh.length := by rw [eH99]; exact hB
  obtain ⟨x100, -, hF⟩ := bnd_g hG; clear hG
  obtain ⟨H101, eH101, hG⟩ := bnd_g hF; clear hF
  replace hm : Rg Q H H101 := hm.tr (by rw [eH101]; exact Rg.sD hm.1 q_p0)
  have s_26 : Sa H H101 := by rw [eH101]; exact s_25
  replace hB : B ≤ H101.sh.length := by rw [eH101]; exact hB
  have hr := Option.some.inj hG; subst hr
  exact hm
set_option maxRecDepth 20000 in
set_option maxHeartbeats 2000000 in
theorem g_Row_listCommand {N : Nat} {Q : Nat → Prop} {p0 : Nat} {H : Hp} {r : Unit × Hp} {B : Nat} (hn : ∀ a, B ≤ a → Q a) (hF : F_Row_listCommand N p0 H = some r) (hc0 : Cl Q H) (hB : B ≤ H.sh.length) (q_p0 : Q p0) : Rg Q H r.2 := by
  unfold F_Row_listCommand at hF
  have hm := Rg.rf hc0
  obtain ⟨q102, hG⟩ := ck_s hF; clear hF
  obtain ⟨x103, -, hF⟩ := bnd_g hG; clear hG
  rcases ite_s hF with ⟨q_27, hG⟩ | ⟨q_27, hG⟩
  · clear hF
    obtain ⟨x105, -, hF⟩ := bnd_g hG; clear hG
    obtain ⟨x106, -, hG⟩ := bnd_g hF; clear hF
    obtain ⟨a107, e108, hF⟩ := rf_s hG; clear hG
    have qa107 : Q a107 := hm.1 _ _ _ q_p0 e108
    obtain ⟨n109, q110, hG⟩ := ar_s hF; clear hF
    rcases ite_s hG with ⟨q_28, hF⟩ | ⟨q_28, hF⟩
    · clear hG
      exact hm.tr (gB_Row_listCommand_54 hn q_p0 hF hm.1 hB)
    · clear hG
      obtain ⟨a112, e113, hG⟩ := rf_s hF; clear hF
      have qa112 : Q a112 := hm.1 _ _ _ q_p0 e113
      obtain ⟨a114, e115, hF⟩ := rf_s hG; clear hG
      have qa114 : Q a114 := hm.1 _ _ _ q_p0 e115
      obtain ⟨n116, q117, hG⟩ := ar_s hF; clear hF
      obtain ⟨v119, H120, z118, hF⟩ := bC_s hG; clear hG
      have gz_29 := (g_Arr_copyOf hn z118 hm.1 hB qa112)
      replace hm : Rg Q H H120 := hm.tr gz_29.1
      replace hB : B ≤ H120.sh.length := Nat.le_trans hB ((m_Arr_copyOf z118)).len
      have mz_30 : Mo H H120 := (m_Arr_copyOf z118)
      have q_31 := (mz_30).get q102
      have q_32 := (mz_30).get q110
      have q_33 := (mz_30).get q117
      obtain ⟨a121, ea121, hG⟩ := on_s hF; clear hF
      subst ea121
      have qa121 : Q a121 := gz_29.2 _ rfl
      obtain ⟨H122, eH122, hF⟩ := bnd_g hG; clear hG
      replace hm : Rg Q H H122 := hm.tr (by rw [eH122]; exact Rg.sP hm.1 q_p0 (is_rf qa121) q_31 rfl)
      have s_34 : Sa H120 H122 := by rw [eH122]; exact Sa.rf _
      replace hB : B ≤ H122.sh.length := by rw [eH122]; exact hB
      exact hm.tr (gB_Row_listCommand_54 hn q_p0 hF hm.1 hB)
  · clear hF
    obtain ⟨H123, eH123, hF⟩ := bnd_g hG; clear hG
    replace hm : Rg Q H H123 := hm.tr (by rw [eH123]; exact Rg.sD hm.1 q_p0)
    have s_35 : Sa H H123 := by rw [eH123]; exact Sa.rf _
    replace hB : B ≤ H123.sh.length := by rw [eH123]; exact hB
    have hr := Option.some.inj hF; subst hr
    exact hm
set_option maxRecDepth 20000 in
set_option maxHeartbeats 2000000 in
theorem gB_Row_command_138 {N : Nat} {Q : Nat → Prop} {p0 : Nat} {p1 : Int32} {B : Nat} (hn : ∀ a, B ≤ a → Q a) (q_p0 : Q p0)  {H : Hp} {r : Unit × Hp} (hF : B_Row_command_138 N p0 p1  H = some r) (hc0 : Cl Q H) (hB : B ≤ H.sh.length) : Rg Q H r.2 := by
  unfold B_Row_command_138 at hF
  have hm := Rg.rf hc0
  obtain ⟨q212, hG⟩ := ck_s hF; clear hF
  obtain ⟨x213, -, hF⟩ := bnd_g hG; clear hG
  rcases ite_s hF with ⟨q_57, hG⟩ | ⟨q_57, hG⟩
  · clear hF
    obtain ⟨v216, H217, z215, hF⟩ := bC_s hG; clear hG
    have gz_58 := (g_Row_listCommand hn z215 hm.1 hB q_p0)
    replace hm : Rg Q H H217 := hm.tr gz_58
    replace hB : B ≤ H217.sh.length := Nat.le_trans hB ((m_Row_listCommand z215)).len
    have mz_59 : Mo H H217 := (m_Row_listCommand z215)
    have q_60 := (mz_59).get q212
    have hr := Option.some.inj hF; subst hr
    exact hm
  · clear hF
    have hr := Option.some.inj hG; subst hr
    exact hm
set_option maxRecDepth 20000 in
set_option maxHeartbeats 2000000 in
theorem g_Row_command {N : Nat} {Q : Nat → Prop} {p0 : Nat} {p1 : Int32} {H : Hp} {r : Unit × Hp} {B : Nat} (hn : ∀ a, B ≤ a → Q a) (hF : F_Row_command N p0 p1 H = some r) (hc0 : Cl Q H) (hB : B ≤ H.sh.length) (q_p0 : Q p0) : Rg Q H r.2 := by
  unfold F_Row_command at hF
  have hm := Rg.rf hc0
  obtain ⟨q218, hG⟩ := ck_s hF; clear hF
  obtain ⟨a219, e220, hF⟩ := rf_s hG; clear hG
  have qa219 : Q a219 := hm.1 _ _ _ q_p0 e220
  obtain ⟨n221, q222, hG⟩ := ar_s hF; clear hF
  obtain ⟨q223, hF⟩ := ck_s hG; clear hG
  obtain ⟨H224, eH224, hG⟩ := bnd_g hF; clear hF
  replace hm : Rg Q H H224 := hm.tr (by rw [eH224]; exact Rg.sD hm.1 qa219)
  have s_61 : Sa H H224 := by rw [eH224]; exact Sa.rf _
  replace hB : B ≤ H224.sh.length := by rw [eH224]; exact hB
  rcases ite_s hG with ⟨q_62, hF⟩ | ⟨q_62, hF⟩
  · clear hG
    obtain ⟨v227, H228, z226, hG⟩ := bC_s hF; clear hF
    have gz_63 := (g_Row_commandSpawn z226 hm.1 q_p0)
    replace hm : Rg Q H H228 := hm.tr gz_63
    replace hB : B ≤ H228.sh.length := Nat.le_trans hB ((m_Row_commandSpawn z226)).mo.len
    have s_64 : Sa H H228 := (s_61).tr (m_Row_commandSpawn z226)
    exact hm.tr (gB_Row_command_138 hn q_p0 hG hm.1 hB)
  clear hG
  rcases ite_s hF with ⟨q_65, hG⟩ | ⟨q_65, hG⟩
  · clear hF
    obtain ⟨a230, e231, hF⟩ := rf_s hG; clear hG
    have qa230 : Q a230 := hm.1 _ _ _ q_p0 e231
    obtain ⟨v233, H234, z232, hG⟩ := bC_s hF; clear hF
    have gz_66 := (g_Row_nextCode z232 hm.1 q_p0)
    replace hm : Rg Q H H234 := hm.tr gz_66
    replace hB : B ≤ H234.sh.length := Nat.le_trans hB ((m_Row_nextCode z232)).mo.len
    have s_67 : Sa H H234 := (s_61).tr (m_Row_nextCode z232)
    obtain ⟨n235, q236, hF⟩ := ar_s hG; clear hG
    rw [(s_67).1] at q236
    obtain ⟨q237, hG⟩ := ck_s hF; clear hF
    obtain ⟨H238, eH238, hF⟩ := bnd_g hG; clear hG
    replace hm : Rg Q H H238 := hm.tr (by rw [eH238]; exact Rg.sD hm.1 qa230)
    have s_68 : Sa H H238 := by rw [eH238]; exact s_67
    replace hB : B ≤ H238.sh.length := by rw [eH238]; exact hB
    obtain ⟨a239, e240, hG⟩ := rf_s hF; clear hF
    have qa239 : Q a239 := hm.1 _ _ _ q_p0 e240
    obtain ⟨v242, H243, z241, hF⟩ := bC_s hG; clear hG
    have gz_69 := (g_Row_pop z241 hm.1 q_p0)
    replace hm : Rg Q H H243 := hm.tr gz_69
    replace hB : B ≤ H243.sh.length := Nat.le_trans hB ((m_Row_pop z241)).mo.len
    have s_70 : Sa H H243 := (s_68).tr (m_Row_pop z241)
    obtain ⟨n244, q245, hG⟩ := ar_s hF; clear hF
    rw [(s_70).1] at q245
    obtain ⟨q246, hF⟩ := ck_s hG; clear hG
    obtain ⟨H247, eH247, hG⟩ := bnd_g hF; clear hF
    replace hm : Rg Q H H247 := hm.tr (by rw [eH247]; exact Rg.sD hm.1 qa239)
    have s_71 : Sa H H247 := by rw [eH247]; exact s_70
    replace hB : B ≤ H247.sh.length := by rw [eH247]; exact hB
    exact hm.tr (gB_Row_command_138 hn q_p0 hG hm.1 hB)
  clear hF
  rcases ite_s hG with ⟨q_72, hF⟩ | ⟨q_72, hF⟩
  · clear hG
    obtain ⟨a249, e250, hG⟩ := rf_s hF; clear hF
    have qa249 : Q a249 := hm.1 _ _ _ q_p0 e250
    obtain ⟨v252, H253, z251, hF⟩ := bC_s hG; clear hG
    have gz_73 := (g_Row_nextCode z251 hm.1 q_p0)
    replace hm : Rg Q H H253 := hm.tr gz_73
    replace hB : B ≤ H253.sh.length := Nat.le_trans hB ((m_Row_nextCode z251)).mo.len
    have s_74 : Sa H H253 := (s_61).tr (m_Row_nextCode z251)
    obtain ⟨n254, q255, hG⟩ := ar_s hF; clear hF
    rw [(s_74).1] at q255
    obtain ⟨q256, hF⟩ := ck_s hG; clear hG
    obtain ⟨H257, eH257, hG⟩ := bnd_g hF; clear hF
    replace hm : Rg Q H H257 := hm.tr (by rw [eH257]; exact Rg.sD hm.1 qa249)
    have s_75 : Sa H H257 := by rw [eH257]; exact s_74
    replace hB : B ≤ H257.sh.length := by rw [eH257]; exact hB
    obtain ⟨a258, e259, hF⟩ := rf_s hG; clear hG
    have qa258 : Q a258 := hm.1 _ _ _ q_p0 e259
    obtain ⟨v261, H262, z260, hG⟩ := bC_s hF; clear hF
    have gz_76 := (g_Row_pop z260 hm.1 q_p0)
    replace hm : Rg Q H H262 := hm.tr gz_76
    replace hB : B ≤ H262.sh.length := Nat.le_trans hB ((m_Row_pop z260)).mo.len
    have s_77 : Sa H H262 := (s_75).tr (m_Row_pop z260)
    obtain ⟨n263, q264, hF⟩ := ar_s hG; clear hG
    rw [(s_77).1] at q264
    obtain ⟨q265, hG⟩ := ck_s hF; clear hF
    obtain ⟨H266, eH266, hF⟩ := bnd_g hG; clear hG
    replace hm : Rg Q H H266 := hm.tr (by rw [eH266]; exact Rg.sD hm.1 qa258)
    have s_78 : Sa H H266 := by rw [eH266]; exact s_77
    replace hB : B ≤ H266.sh.length := by rw [eH266]; exact hB
    exact hm.tr (gB_Row_command_138 hn q_p0 hF hm.1 hB)
  clear hG
  rcases ite_s hF with ⟨q_79, hG⟩ | ⟨q_79, hG⟩
  · clear hF
    obtain ⟨a268, e269, hF⟩ := rf_s hG; clear hG
    have qa268 : Q a268 := hm.1 _ _ _ q_p0 e269
    obtain ⟨v271, H272, z270, hG⟩ := bC_s hF; clear hF
    have gz_80 := (g_Row_nextCode z270 hm.1 q_p0)
    replace hm : Rg Q H H272 := hm.tr gz_80
    replace hB : B ≤ H272.sh.length := Nat.le_trans hB ((m_Row_nextCode z270)).mo.len
    have s_81 : Sa H H272 := (s_61).tr (m_Row_nextCode z270)
    obtain ⟨n273, q274, hF⟩ := ar_s hG; clear hG
    rw [(s_81).1] at q274
    obtain ⟨q275, hG⟩ := ck_s hF; clear hF
    obtain ⟨H276, eH276, hF⟩ := bnd_g hG; clear hG
    replace hm : Rg Q H H276 := hm.tr (by rw [eH276]; exact Rg.sD hm.1 qa268)
    have s_82 : Sa H H276 := by rw [eH276]; exact s_81
    replace hB : B ≤ H276.sh.length := by rw [eH276]; exact hB
    obtain ⟨a277, e278, hG⟩ := rf_s hF; clear hF
    have qa277 : Q a277 := hm.1 _ _ _ q_p0 e278
    obtain ⟨v280, H281, z279, hF⟩ := bC_s hG; clear hG
    have gz_83 := (g_Row_nextCode z279 hm.1 q_p0)
    replace hm : Rg Q H H281 := hm.tr gz_83
    replace hB : B ≤ H281.sh.length := Nat.le_trans hB ((m_Row_nextCode z279)).mo.len
    have s_84 : Sa H H281 := (s_82).tr (m_Row_nextCode z279)
    obtain ⟨n282, q283, hG⟩ := ar_s hF; clear hF
    rw [(s_84).1] at q283
    obtain ⟨q284, hF⟩ := ck_s hG; clear hG
    obtain ⟨H285, eH285, hG⟩ := bnd_g hF; clear hF
    replace hm : Rg Q H H285 := hm.tr (by rw [eH285]; exact Rg.sD hm.1 qa277)
    have s_85 : Sa H H285 := by rw [eH285]; exact s_84
    replace hB : B ≤ H285.sh.length := by rw [eH285]; exact hB
    obtain ⟨a286, e287, hF⟩ := rf_s hG; clear hG
    have qa286 : Q a286 := hm.1 _ _ _ q_p0 e287
    obtain ⟨v289, H290, z288, hG⟩ := bC_s hF; clear hF
    have gz_86 := (g_Row_pop z288 hm.1 q_p0)
    replace hm : Rg Q H H290 := hm.tr gz_86
    replace hB : B ≤ H290.sh.length := Nat.le_trans hB ((m_Row_pop z288)).mo.len
    have s_87 : Sa H H290 := (s_85).tr (m_Row_pop z288)
    obtain ⟨n291, q292, hF⟩ := ar_s hG; clear hG
    rw [(s_87).1] at q292
    obtain ⟨q293, hG⟩ := ck_s hF; clear hF
    obtain ⟨H294, eH294, hF⟩ := bnd_g hG; clear hG
    replace hm : Rg Q H H294 := hm.tr (by rw [eH294]; exact Rg.sD hm.1 qa286)
    have s_88 : Sa H H294 := by rw [eH294]; exact s_87
    replace hB : B ≤ H294.sh.length := by rw [eH294]; exact hB
    obtain ⟨a295, e296, hG⟩ := rf_s hF; clear hF
    have qa295 : Q a295 := hm.1 _ _ _ q_p0 e296
    obtain ⟨v298, H299, z297, hF⟩ := bC_s hG; clear hG
    have gz_89 := (g_Row_pop z297 hm.1 q_p0)
    replace hm : Rg Q H H299 := hm.tr gz_89
    replace hB : B ≤ H299.sh.length := Nat.le_trans hB ((m_Row_pop z297)).mo.len
    have s_90 : Sa H H299 := (s_88).tr (m_Row_pop z297)
    obtain ⟨n300, q301, hG⟩ := ar_s hF; clear hF
    rw [(s_90).1] at q301
    obtain ⟨q302, hF⟩ := ck_s hG; clear hG
    obtain ⟨H303, eH303, hG⟩ := bnd_g hF; clear hF
    replace hm : Rg Q H H303 := hm.tr (by rw [eH303]; exact Rg.sD hm.1 qa295)
    have s_91 : Sa H H303 := by rw [eH303]; exact s_90
    replace hB : B ≤ H303.sh.length := by rw [eH303]; exact hB
    exact hm.tr (gB_Row_command_138 hn q_p0 hG hm.1 hB)
  clear hF
  rcases ite_s hG with ⟨q_92, hF⟩ | ⟨q_92, hF⟩
  · clear hG
    obtain ⟨v306, H307, z305, hG⟩ := bC_s hF; clear hF
    have gz_93 := (g_Row_commandEmit z305 hm.1 q_p0)
    replace hm : Rg Q H H307 := hm.tr gz_93
    replace hB : B ≤ H307.sh.length := Nat.le_trans hB ((m_Row_commandEmit z305)).mo.len
    have s_94 : Sa H H307 := (s_61).tr (m_Row_commandEmit z305)
    exact hm.tr (gB_Row_command_138 hn q_p0 hG hm.1 hB)
  clear hG
  obtain ⟨a308, e309, hG⟩ := rf_s hF; clear hF
  have qa308 : Q a308 := hm.1 _ _ _ q_p0 e309
  obtain ⟨v311, H312, z310, hF⟩ := bC_s hG; clear hG
  have gz_95 := (g_Row_pop z310 hm.1 q_p0)
  replace hm : Rg Q H H312 := hm.tr gz_95
  replace hB : B ≤ H312.sh.length := Nat.le_trans hB ((m_Row_pop z310)).mo.len
  have s_96 : Sa H H312 := (s_61).tr (m_Row_pop z310)
  obtain ⟨n313, q314, hG⟩ := ar_s hF; clear hF
  rw [(s_96).1] at q314
  obtain ⟨q315, hF⟩ := ck_s hG; clear hG
  obtain ⟨H316, eH316, hG⟩ := bnd_g hF; clear hF
  replace hm : Rg Q H H316 := hm.tr (by rw [eH316]; exact Rg.sD hm.1 qa308)
  have s_97 : Sa H H316 := by rw [eH316]; exact s_96
  replace hB : B ≤ H316.sh.length := by rw [eH316]; exact hB
  exact hm.tr (gB_Row_command_138 hn q_p0 hG hm.1 hB)
set_option maxRecDepth 20000 in
set_option maxHeartbeats 2000000 in
theorem g_World_placeOf {N : Nat} {Q : Nat → Prop} {p0 : Nat} {p1 : Int32} {H : Hp} {r : Int32 × Hp} (hF : F_World_placeOf N p0 p1 H = some r) (hc0 : Cl Q H) (q_p0 : Q p0) : Rg Q H r.2 := by
  unfold F_World_placeOf at hF
  have hm := Rg.rf hc0
  obtain ⟨x37, -, hG⟩ := bnd_g hF; clear hF
  obtain ⟨q38, hF⟩ := ck_s hG; clear hG
  obtain ⟨a39, e40, hG⟩ := rf_s hF; clear hF
  have qa39 : Q a39 := hm.1 _ _ _ q_p0 e40
  obtain ⟨n41, q42, hF⟩ := ar_s hG; clear hG
  obtain ⟨q43, hG⟩ := ck_s hF; clear hF
  obtain ⟨x44, -, hF⟩ := bnd_g hG; clear hG
  rcases ite_s hF with ⟨q_4, hG⟩ | ⟨q_4, hG⟩
  · clear hF
    have hr := Option.some.inj hG; subst hr
    exact hm
  · clear hF
    rcases ite_s hG with ⟨q_5, hF⟩ | ⟨q_5, hF⟩
    · clear hG
      have hr := Option.some.inj hF; subst hr
      exact hm
    · clear hG
      obtain ⟨x47, -, hG⟩ := bnd_g hF; clear hF
      obtain ⟨a48, e49, hF⟩ := rf_s hG; clear hG
      have qa48 : Q a48 := hm.1 _ _ _ q_p0 e49
      obtain ⟨n50, q51, hG⟩ := ar_s hF; clear hF
      obtain ⟨q52, hF⟩ := ck_s hG; clear hG
      obtain ⟨x53, -, hG⟩ := bnd_g hF; clear hF
      rcases ite_s hG with ⟨q_6, hF⟩ | ⟨q_6, hF⟩
      · clear hG
        have hr := Option.some.inj hF; subst hr
        exact hm
      · clear hG
        have hr := Option.some.inj hF; subst hr
        exact hm
set_option maxRecDepth 20000 in
set_option maxHeartbeats 2000000 in
theorem g_Row_far {N : Nat} {Q : Nat → Prop} {p0 : Nat} {p1 : Int32} {H : Hp} {r : Unit × Hp} (hF : F_Row_far N p0 p1 H = some r) (hc0 : Cl Q H) (q_p0 : Q p0) : Rg Q H r.2 := by
  unfold F_Row_far at hF
  have hm := Rg.rf hc0
  obtain ⟨q49, hG⟩ := ck_s hF; clear hF
  obtain ⟨v51, H52, z50, hF⟩ := bC_s hG; clear hG
  have gz_14 := (g_Row_nextCode z50 hm.1 q_p0)
  replace hm : Rg Q H H52 := hm.tr gz_14
  have s_15 : Sa H H52 := (m_Row_nextCode z50)
  obtain ⟨v54, H55, z53, hG⟩ := bC_s hF; clear hF
  have gz_16 := (g_Row_nextCode z53 hm.1 q_p0)
  replace hm : Rg Q H H55 := hm.tr gz_16
  have s_17 : Sa H H55 := (s_15).tr (m_Row_nextCode z53)
  obtain ⟨a56, e57, hF⟩ := rf_s hG; clear hG
  have qa56 : Q a56 := hm.1 _ _ _ q_p0 e57
  obtain ⟨q58, hG⟩ := ck_s hF; clear hF
  rw [(s_17).1] at q58
  obtain ⟨v60, H61, z59, hF⟩ := bC_s hG; clear hG
  have gz_18 := (g_World_owns z59 hm.1 qa56)
  replace hm : Rg Q H H61 := hm.tr gz_18
  have s_19 : Sa H H61 := (s_17).tr (m_World_owns z59)
  rcases ite_s hF with ⟨q_20, hG⟩ | ⟨q_20, hG⟩
  · clear hF
    obtain ⟨H63, eH63, hF⟩ := bnd_g hG; clear hG
    replace hm : Rg Q H H63 := hm.tr (by rw [eH63]; exact Rg.sD hm.1 q_p0)
    have s_21 : Sa H H63 := by rw [eH63]; exact s_19
    have hr := Option.some.inj hF; subst hr
    exact hm
  · clear hF
    obtain ⟨a64, e65, hF⟩ := rf_s hG; clear hG
    have qa64 : Q a64 := hm.1 _ _ _ q_p0 e65
    obtain ⟨q66, hG⟩ := ck_s hF; clear hF
    rw [(s_19).1] at q66
    obtain ⟨v68, H69, z67, hF⟩ := bC_s hG; clear hG
    have gz_22 := (g_World_read z67 hm.1 qa64)
    replace hm : Rg Q H H69 := hm.tr gz_22
    have s_23 : Sa H H69 := (s_19).tr (m_World_read z67)
    obtain ⟨v71, H72, z70, hG⟩ := bC_s hF; clear hF
    have gz_24 := (g_Row_push z70 hm.1 q_p0)
    replace hm : Rg Q H H72 := hm.tr gz_24
    have s_25 : Sa H H72 := (s_23).tr (m_Row_push z70)
    have hr := Option.some.inj hG; subst hr
    exact hm
set_option maxRecDepth 20000 in
set_option maxHeartbeats 2000000 in
theorem g_Row_stirred {N : Nat} {Q : Nat → Prop} {p0 : Int32} {p1 : Int32} {H : Hp} {r : Int32 × Hp} (hF : F_Row_stirred N p0 p1 H = some r) (hc0 : Cl Q H) : Rg Q H r.2 := by
  unfold F_Row_stirred at hF
  have hm := Rg.rf hc0
  obtain ⟨x5, -, hG⟩ := bnd_g hF; clear hF
  obtain ⟨x6, -, hF⟩ := bnd_g hG; clear hG
  have hr := Option.some.inj hF; subst hr
  exact hm
