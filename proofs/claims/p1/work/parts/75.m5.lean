theorem lt64 {a b : Int32} : a.toInt64 < b.toInt64 ↔ a < b := by
  rw [Int64.lt_iff_toInt_lt, Int32.lt_iff_toInt_lt, Int32.toInt_toInt64, Int32.toInt_toInt64]
theorem in_1 {v lo hi : Int32} {a b : Int64} (ha : a = lo.toInt64) (hb : b = hi.toInt64) (h : v < lo) : sp_M_in v.toInt64 a b = 0 := by
  subst ha; subst hb
  unfold sp_M_in
  rw [if_pos (lg_lt.mpr (lt64.mpr h))]
theorem in_2 {v lo hi : Int32} {a b : Int64} (ha : a = lo.toInt64) (hb : b = hi.toInt64) (h : hi < v) : sp_M_in v.toInt64 a b = 0 := by
  subst ha; subst hb
  unfold sp_M_in
  split
  · rfl
  · rw [if_pos (lg_pos.mpr (lt64.mpr h))]
theorem in_3 {v lo hi : Int32} {a b : Int64} (ha : a = lo.toInt64) (hb : b = hi.toInt64) (h1 : ¬ v < lo) (h2 : ¬ hi < v) : sp_M_in v.toInt64 a b = 1 := by
  subst ha; subst hb
  unfold sp_M_in
  rw [if_neg (fun z => h1 (lt64.mp (lg_lt.mp z))), if_neg (fun z => h2 (lt64.mp (lg_pos.mp z)))]
theorem in_e {v lo hi : Int32} {a b : Int64} (ha : a = lo.toInt64) (hb : b = hi.toInt64) (h : hi < lo) : sp_M_in v.toInt64 a b = 0 := by
  by_cases h1 : v < lo
  · exact in_1 ha hb h1
  · by_cases h2 : hi < v
    · exact in_2 ha hb h2
    · rw [Int32.lt_iff_toInt_lt] at *
      omega
set_option maxRecDepth 20000 in
set_option maxHeartbeats 2000000 in
theorem r_M_isQuiet {h : List ab_E}  {p0 p1 p2 p3 p4 p5 p6 p7 p10 p11 p12 p13 p14 p15 p16 p17 p18 p19 p20 p21 p22 p23 p24 p25 p26 p27 p28 : Value} {n1 n2 n3 n4 n5 n6 n7 n8 n9 n10 n11 n12 n13 n14 n15 n16 n17 : Value} {u1 u2 u3 u4 u5 u6 u7 u8 u9 u10 u11 u12 u13 u14 u15 u16 u17 : Value} {m nw su : Nat}  (po : h[m]? = some (.inr (12, [p0, p1, p2, p3, p4, p5, p6, p7, .ref su, .ref nw, p10, p11, p12, p13, p14, p15, p16, p17, p18, p19, p20, p21, p22, p23, p24, p25, p26, p27, p28]))) (no : h[nw]? = some (.inr (13, [.int 0, n1, n2, n3, n4, n5, n6, n7, n8, n9, n10, n11, n12, n13, n14, n15, n16, n17]))) (uo : h[su]? = some (.inr (13, [.int 0, u1, u2, u3, u4, u5, u6, u7, u8, u9, u10, u11, u12, u13, u14, u15, u16, u17])))  : ab_M y_M_isQuiet { frames := 0, cells := 0, slots := 0, locals := 0 } [.ref m] h (ab_A (some (.int (1))) (fun h1 => h = h1)) := by
  refine ab_of2 (lv := [some (.ref m)]) 0 rfl rfl (Nat.le_of_ble_eq_true rfl) ?_
  refine ab_aload_n d_M_isQuiet_0 rfl rfl rfl ?_
  refine ab_get (f := 9) d_M_isQuiet_1 po rfl (by decide) (k10 2 rfl rfl) rfl ?_
  refine ab_getN (f := 0) d_M_isQuiet_4 no rfl (by decide) (k9 89 rfl rfl) rfl ?_
  refine ab_aload_n d_M_isQuiet_7 rfl rfl rfl ?_
  refine ab_get (f := 8) d_M_isQuiet_8 po rfl (by decide) (k10 1 rfl rfl) rfl ?_
  refine ab_getN (f := 0) d_M_isQuiet_11 uo rfl (by decide) (k9 89 rfl rfl) rfl ?_
  refine ab_icmp_ne (tgt := 21) d_M_isQuiet_14 (by decide) (fun q1 => by exact absurd q1 (by decide)) (fun q1 => ?_)
  refine ab_iconst (v := 1) d_M_isQuiet_17 (by decide) ?_
  refine ab_goto (tgt := 22) d_M_isQuiet_18 (by decide) ?_
  exact ab_zret d_M_isQuiet_22 rfl rfl (Nat.le_refl _) (Nat.le_refl _) (by exact ⟨rfl, rfl⟩)
set_option maxRecDepth 20000 in
set_option maxHeartbeats 2000000 in
theorem r_M_isComponent {h : List ab_E}  {p0 p1 p2 p4 p5 p6 p7 p8 p9 p10 p11 p12 p13 p14 p15 p16 p17 p18 p19 p20 p21 p22 p23 p24 p25 p26 p27 p28 : Value} {t0 t1 t2 t3 t4 t5 t6 t7 t8 t9 t10 t11 t12 t13 t14 t15 t17 t18 t19 t20 t21 t22 t23 t24 t25 t26 t27 t28 t29 t30 t31 t32 t33 t34 t35 t36 t37 t38 t39 t40 t41 t42 : Value} {m tx : Nat} {c : Int32}  (po : h[m]? = some (.inr (12, [p0, p1, p2, .ref tx, p4, p5, p6, p7, p8, p9, p10, p11, p12, p13, p14, p15, p16, p17, p18, p19, p20, p21, p22, p23, p24, p25, p26, p27, p28]))) (to : h[tx]? = some (.inr (14, [t0, t1, t2, t3, t4, t5, t6, t7, t8, t9, t10, t11, t12, t13, t14, t15, .int 0, t17, t18, t19, t20, t21, t22, t23, t24, t25, t26, t27, t28, t29, t30, t31, t32, t33, t34, t35, t36, t37, t38, t39, t40, t41, t42])))  : ab_M y_M_isComponent { frames := 1, cells := 0, slots := 0, locals := 40 } [.ref m, .int c] h (ab_A (some (.int (0))) (fun h1 => h = h1)) := by
  refine ab_of2 (lv := [some (.ref m), some (.int c)]) 0 rfl rfl (Nat.le_of_ble_eq_true rfl) ?_
  refine ab_iload_n d_M_isComponent_0 rfl rfl ?_
  refine ab_i2l d_M_isComponent_1 ?_
  refine ab_lconst (v := 0) d_M_isComponent_2 (by decide) ?_
  refine ab_aload_n d_M_isComponent_3 rfl rfl rfl ?_
  refine ab_get (f := 3) d_M_isComponent_4 po rfl (by decide) (k9 236 rfl rfl) rfl ?_
  refine ab_getN (f := 16) d_M_isComponent_7 to rfl (by decide) (k8 180 rfl rfl) rfl ?_
  refine ab_iconst (v := 1) d_M_isComponent_10 (by decide) ?_
  refine ab_isub d_M_isComponent_11 ?_
  refine ab_topi (fun x1 ex1 => ?_)
  obtain rfl : x1 = (-1) := ex1.trans (by decide)
  clear ex1
  refine ab_i2l d_M_isComponent_12 ?_
  refine ab_topl (fun x2 ex2 => ?_)
  obtain rfl : x2 = (-1) := ex2.trans (by decide)
  clear ex2
  refine ab_callS_a (As := [.long ((c : Int32).toInt64), .long 0, .long (-1)]) (rest := []) d_M_isComponent_13 (c_M_in) (ab_mkC s_M_in (Nat.le_of_ble_eq_true rfl) (Nat.le_of_ble_eq_true rfl) (by decide) (by decide)) (k10 93 rfl rfl) t_M_in rfl (Nat.le_of_ble_eq_true rfl) (fun h4 q3 => ?_)
  subst q3
  refine ab_topi (fun x5 ex5 => ?_)
  obtain rfl : x5 = 0 := ex5.trans (in_e (lo := 0) (hi := (-1)) (by decide) (by decide) (by decide))
  clear ex5
  exact ab_zret d_M_isComponent_16 rfl rfl (Nat.le_refl _) (Nat.le_refl _) (by exact ⟨rfl, rfl⟩)
set_option maxRecDepth 20000 in
set_option maxHeartbeats 2000000 in
theorem r_M_isMember {h : List ab_E}  {p0 p1 p2 p4 p5 p6 p7 p8 p9 p10 p11 p12 p13 p14 p15 p16 p17 p18 p19 p20 p21 p22 p23 p24 p25 p26 p27 p28 : Value} {t0 t1 t2 t3 t4 t5 t6 t7 t8 t9 t10 t11 t12 t13 t14 t15 t17 t18 t19 t20 t21 t22 t23 t24 t25 t26 t27 t28 t29 t30 t31 t32 t33 t34 t35 t36 t37 t38 t39 t40 t41 t42 : Value} {m tx : Nat} {e c k : Int32}  (po : h[m]? = some (.inr (12, [p0, p1, p2, .ref tx, p4, p5, p6, p7, p8, p9, p10, p11, p12, p13, p14, p15, p16, p17, p18, p19, p20, p21, p22, p23, p24, p25, p26, p27, p28]))) (to : h[tx]? = some (.inr (14, [t0, t1, t2, t3, t4, t5, t6, t7, t8, t9, t10, t11, t12, t13, t14, t15, .int 0, t17, t18, t19, t20, t21, t22, t23, t24, t25, t26, t27, t28, t29, t30, t31, t32, t33, t34, t35, t36, t37, t38, t39, t40, t41, t42])))  : ab_M y_M_isMember { frames := 2, cells := 0, slots := 0, locals := 80 } [.ref m, .int e, .int c, .int k] h (ab_A (some (.int (0))) (fun h1 => h = h1)) := by
  refine ab_of2 (lv := [some (.ref m), some (.int e), some (.int c), some (.int k)]) 0 rfl rfl (Nat.le_of_ble_eq_true rfl) ?_
  refine ab_aload_n d_M_isMember_0 rfl rfl rfl ?_
  refine ab_iload_n d_M_isMember_1 rfl rfl ?_
  refine ab_callV_a (As := [.int c]) (rest := []) d_M_isMember_2 (r_M_isComponent po to) (ab_mkC s_M_isComponent (Nat.le_of_ble_eq_true rfl) (Nat.le_of_ble_eq_true rfl) (by decide) (by decide)) (k12 190 rfl rfl) i_M_isComponent v_M_isComponent po rfl rfl (Nat.le_of_ble_eq_true rfl) (fun h2 q1 => ?_)
  subst q1
  refine ab_if_eq (tgt := 57) d_M_isMember_5 (by decide) (fun q3 => ?_) (fun q3 => by exact absurd (by decide) q3)
  refine ab_iconst (v := 0) d_M_isMember_57 (by decide) ?_
  exact ab_zret d_M_isMember_58 rfl rfl (Nat.le_refl _) (Nat.le_refl _) (by exact ⟨rfl, rfl⟩)
set_option maxRecDepth 20000 in
set_option maxHeartbeats 2000000 in
theorem r_MWorld_isAlive {h : List ab_E}  {p0 p1 p2 p3 p4 p6 p7 p8 p9 p10 p11 p12 p13 p14 p15 p16 p17 : Value} {v al : Nat} {e : Int32}  (po : h[v]? = some (.inr (13, [p0, p1, p2, p3, p4, .ref al, p6, p7, p8, p9, p10, p11, p12, p13, p14, p15, p16, p17]))) (qa : h[al]? = some (.inl (.boolean, 256, .inl (fun _ => 0))))  : ab_M y_MWorld_isAlive { frames := 0, cells := 0, slots := 0, locals := 0 } [.ref v, .int e] h (ab_A (some (.int (0))) (fun h1 => h = h1)) := by
  refine ab_of2 (lv := [some (.ref v), some (.int e), none]) 1 rfl rfl (Nat.le_of_ble_eq_true rfl) ?_
  refine ab_iload_n d_MWorld_isAlive_0 rfl rfl ?_
  refine ab_sipush (v := 255) d_MWorld_isAlive_1 (by decide) ?_
  refine ab_iand d_MWorld_isAlive_4 ?_
  refine ab_istore_n (lv' := [some (.ref v), some (.int e), some (.int (e &&& 255))]) d_MWorld_isAlive_5 rfl (by decide) rfl ?_
  refine ab_aload_n d_MWorld_isAlive_6 rfl rfl rfl ?_
  refine ab_get (f := 5) d_MWorld_isAlive_7 po rfl (by decide) (k9 100 rfl rfl) rfl ?_
  refine ab_iload_n d_MWorld_isAlive_10 rfl rfl ?_
  refine ab_zald d_MWorld_isAlive_11 tZ qa (in255 e) ?_
  refine ab_topi (fun x1 ex1 => ?_)
  obtain rfl : x1 = 0 := ex1.trans rfl
  clear ex1
  refine ab_if_eq (tgt := 28) d_MWorld_isAlive_12 (by decide) (fun q2 => ?_) (fun q2 => by exact absurd (by decide) q2)
  refine ab_iconst (v := 0) d_MWorld_isAlive_28 (by decide) ?_
  exact ab_zret d_MWorld_isAlive_29 rfl rfl (Nat.le_refl _) (Nat.le_refl _) (by exact ⟨rfl, rfl⟩)
set_option maxRecDepth 20000 in
set_option maxHeartbeats 2000000 in
theorem r_MText_groups {h : List ab_E}  {p0 p1 p2 p3 p4 p5 p6 p7 p8 p9 p10 p11 p12 p13 p14 p15 p16 p17 p18 p19 p20 p21 p22 p23 p24 p25 p26 p27 p28 p30 p31 p32 p33 p34 p35 p36 p37 p38 p39 p40 p41 p42 : Value} {t : Nat}  (po : h[t]? = some (.inr (14, [p0, p1, p2, p3, p4, p5, p6, p7, p8, p9, p10, p11, p12, p13, p14, p15, p16, p17, p18, p19, p20, p21, p22, p23, p24, p25, p26, p27, p28, .int 0, p30, p31, p32, p33, p34, p35, p36, p37, p38, p39, p40, p41, p42])))  : ab_M y_MText_groups { frames := 0, cells := 0, slots := 0, locals := 0 } [.ref t] h (ab_A (some (.int (0))) (fun h1 => h = h1)) := by
  refine ab_of2 (lv := [some (.ref t)]) 0 rfl rfl (Nat.le_of_ble_eq_true rfl) ?_
  refine ab_aload_n d_MText_groups_0 rfl rfl rfl ?_
  refine ab_get (f := 29) d_MText_groups_1 po rfl (by decide) (k8 213 rfl rfl) rfl ?_
  refine ab_if_ne (tgt := 11) d_MText_groups_4 (by decide) (fun q1 => by exact absurd q1 (by decide)) (fun q1 => ?_)
  refine ab_iconst (v := 0) d_MText_groups_7 (by decide) ?_
  refine ab_goto (tgt := 24) d_MText_groups_8 (by decide) ?_
  exact ab_iret d_MText_groups_24 rfl (Nat.le_refl _) (Nat.le_refl _) (by exact ⟨rfl, rfl⟩)
set_option maxRecDepth 20000 in
set_option maxHeartbeats 2000000 in
theorem l_r_entities {Po : Outcome → List ab_E → Prop} {mc ms cells slots : Nat} {h : List ab_E} {p0 p1 p2 p3 p4 p6 p7 p8 p9 p10 p11 p12 p13 p14 p15 p16 p17 : Value} {v al : Nat} (po : h[v]? = some (.inr (13, [p0, p1, p2, p3, p4, .ref al, p6, p7, p8, p9, p10, p11, p12, p13, p14, p15, p16, p17]))) (qa : h[al]? = some (.inl (.boolean, 256, .inl (fun _ => 0))))  (hcl : cells ≤ ({ frames := 0, cells := 0, slots := 0, locals := 0 } : Room).cells) (hsl : slots ≤ ({ frames := 0, cells := 0, slots := 0, locals := 0 } : Room).slots) (hk : ab_V y_MWorld_entities { frames := 0, cells := 0, slots := 0, locals := 0 } Po mc ms cells slots 34 [some (.ref v), some (.int 0), some (.int (nI 256))] [] h) : ∀ (n i : Nat), i + n = 256 → ab_V y_MWorld_entities { frames := 0, cells := 0, slots := 0, locals := 0 } Po mc ms cells slots 4 [some (.ref v), some (.int 0), some (.int (nI i))] [] h := by
  intro n
  induction n with
  | zero =>
    intro i hi
    refine ab_iload_n d_MWorld_entities_4 rfl rfl ?_
    refine ab_sipush (v := 256) d_MWorld_entities_5 (by decide) ?_
    refine ab_icmp_ge (tgt := 34) d_MWorld_entities_8 (by decide) (fun q1 => ?_) (fun q1 => ?_)
    · have hiN : i = 256 := (by omega)
      subst hiN
      exact hk
    · exact absurd (nI_le (a := 256) (b := i) (by omega) (by omega)) q1
  | succ n ih =>
    intro i hi
    refine ab_iload_n d_MWorld_entities_4 rfl rfl ?_
    refine ab_sipush (v := 256) d_MWorld_entities_5 (by decide) ?_
    refine ab_icmp_ge (tgt := 34) d_MWorld_entities_8 (by decide) (fun q1 => ?_) (fun q1 => ?_)
    · exact absurd ((nI_leI (a := 256) (b := i) (by omega) (by omega)).mp q1) (by omega)
    · refine ab_iload_n d_MWorld_entities_11 rfl rfl ?_
      refine ab_aload_n d_MWorld_entities_12 rfl rfl rfl ?_
      refine ab_get (f := 5) d_MWorld_entities_13 po rfl (by decide) (k9 100 rfl rfl) rfl ?_
      refine ab_iload_n d_MWorld_entities_16 rfl rfl ?_
      refine ab_zald d_MWorld_entities_17 tZ qa (vp_in_nI (by omega) (by decide)) ?_
      refine ab_topi (fun x2 ex2 => ?_)
      obtain rfl : x2 = 0 := ex2.trans rfl
      clear ex2
      refine ab_if_eq (tgt := 25) d_MWorld_entities_18 (by decide) (fun q3 => ?_) (fun q3 => by exact absurd (by decide) q3)
      refine ab_iconst (v := 0) d_MWorld_entities_25 (by decide) ?_
      refine ab_iadd d_MWorld_entities_26 ?_
      refine ab_topi (fun x4 ex4 => ?_)
      obtain rfl : x4 = 0 := ex4.trans (by decide)
      clear ex4
      refine ab_istore_n (lv' := [some (.ref v), some (.int 0), some (.int (nI i))]) d_MWorld_entities_27 rfl (by decide) rfl ?_
      obtain ⟨x5, ex5⟩ : ∃ q : Int32, q = nI i + 1 := ⟨_, rfl⟩
      refine ab_iinc (v := x5) (lv' := [some (.ref v), some (.int 0), some (.int x5)]) d_MWorld_entities_28 rfl (by rw [ex5]; rfl) (by decide) rfl ?_
      refine ab_goto (tgt := 4) d_MWorld_entities_31 (by decide) ?_
      subst ex5
      rw [nI_1]
      refine ab_widen (cells' := cells) (slots' := slots) (by first | exact Nat.le_refl _ | (show _ ≤ _; omega)) (by first | exact Nat.le_refl _ | (show _ ≤ _; omega)) ?_
      exact ih (i + 1) (by omega)
set_option maxRecDepth 20000 in
set_option maxHeartbeats 2000000 in
theorem r_MWorld_entities {h : List ab_E}  {p0 p1 p2 p3 p4 p6 p7 p8 p9 p10 p11 p12 p13 p14 p15 p16 p17 : Value} {v al : Nat}  (po : h[v]? = some (.inr (13, [p0, p1, p2, p3, p4, .ref al, p6, p7, p8, p9, p10, p11, p12, p13, p14, p15, p16, p17]))) (qa : h[al]? = some (.inl (.boolean, 256, .inl (fun _ => 0))))  : ab_M y_MWorld_entities { frames := 0, cells := 0, slots := 0, locals := 0 } [.ref v] h (ab_A (some (.int (0))) (fun h1 => h = h1)) := by
  refine ab_of2 (lv := [some (.ref v), none, none]) 2 rfl rfl (Nat.le_of_ble_eq_true rfl) ?_
  refine ab_iconst (v := 0) d_MWorld_entities_0 (by decide) ?_
  refine ab_istore_n (lv' := [some (.ref v), some (.int 0), none]) d_MWorld_entities_1 rfl (by decide) rfl ?_
  refine ab_iconst (v := 0) d_MWorld_entities_2 (by decide) ?_
  refine ab_istore_n (lv' := [some (.ref v), some (.int 0), some (.int 0)]) d_MWorld_entities_3 rfl (by decide) rfl ?_
  refine l_r_entities po qa (Nat.le_refl _) (Nat.le_refl _) ?_ 256 0 (by omega)
  refine ab_iload_n d_MWorld_entities_34 rfl rfl ?_
  exact ab_iret d_MWorld_entities_35 rfl (Nat.le_refl _) (Nat.le_refl _) (by exact ⟨rfl, rfl⟩)
set_option maxRecDepth 20000 in
set_option maxHeartbeats 2000000 in
theorem l_r_entity {Po : Outcome → List ab_E → Prop} {mc ms cells slots : Nat} {h : List ab_E} {p0 p1 p2 p3 p4 p5 p6 p7 p8 p10 p11 p12 p13 p14 p15 p16 p17 p18 p19 p20 p21 p22 p23 p24 p25 p26 p27 p28 : Value} {n0 n1 n2 n3 n4 n6 n7 n8 n9 n10 n11 n12 n13 n14 n15 n16 n17 : Value} {m nw al : Nat} {k : Int32} (po : h[m]? = some (.inr (12, [p0, p1, p2, p3, p4, p5, p6, p7, p8, .ref nw, p10, p11, p12, p13, p14, p15, p16, p17, p18, p19, p20, p21, p22, p23, p24, p25, p26, p27, p28]))) (no : h[nw]? = some (.inr (13, [n0, n1, n2, n3, n4, .ref al, n6, n7, n8, n9, n10, n11, n12, n13, n14, n15, n16, n17]))) (qa : h[al]? = some (.inl (.boolean, 256, .inl (fun _ => 0)))) (hk0 : ¬ k < 0) (hcl : cells ≤ ({ frames := 0, cells := 0, slots := 0, locals := 0 } : Room).cells) (hsl : slots ≤ ({ frames := 0, cells := 0, slots := 0, locals := 0 } : Room).slots) (hk : ab_V y_M_entity { frames := 0, cells := 0, slots := 0, locals := 0 } Po mc ms cells slots 57 [some (.ref m), some (.int k), some (.int k), some (.int (nI 256))] [] h) : ∀ (n i : Nat), i + n = 256 → ab_V y_M_entity { frames := 0, cells := 0, slots := 0, locals := 0 } Po mc ms cells slots 9 [some (.ref m), some (.int k), some (.int k), some (.int (nI i))] [] h := by
  intro n
  induction n with
  | zero =>
    intro i hi
    refine ab_iload_n d_M_entity_9 rfl rfl ?_
    refine ab_sipush (v := 256) d_M_entity_10 (by decide) ?_
    refine ab_icmp_ge (tgt := 57) d_M_entity_13 (by decide) (fun q1 => ?_) (fun q1 => ?_)
    · have hiN : i = 256 := (by omega)
      subst hiN
      exact hk
    · exact absurd (nI_le (a := 256) (b := i) (by omega) (by omega)) q1
  | succ n ih =>
    intro i hi
    refine ab_iload_n d_M_entity_9 rfl rfl ?_
    refine ab_sipush (v := 256) d_M_entity_10 (by decide) ?_
    refine ab_icmp_ge (tgt := 57) d_M_entity_13 (by decide) (fun q1 => ?_) (fun q1 => ?_)
    · exact absurd ((nI_leI (a := 256) (b := i) (by omega) (by omega)).mp q1) (by omega)
    · refine ab_iload_n d_M_entity_16 rfl rfl ?_
      refine ab_if_lt (tgt := 57) d_M_entity_17 (by decide) (fun q2 => ?_) (fun q2 => ?_)
      · exact absurd q2 hk0
      · refine ab_aload_n d_M_entity_20 rfl rfl rfl ?_
        refine ab_get (f := 9) d_M_entity_21 po rfl (by decide) (k10 2 rfl rfl) rfl ?_
        refine ab_getN (f := 5) d_M_entity_24 no rfl (by decide) (k9 102 rfl rfl) rfl ?_
        refine ab_iload_n d_M_entity_27 rfl rfl ?_
        refine ab_zald d_M_entity_28 tZ qa (vp_in_nI (by omega) (by decide)) ?_
        refine ab_topi (fun x3 ex3 => ?_)
        obtain rfl : x3 = 0 := ex3.trans rfl
        clear ex3
        refine ab_if_ne (tgt := 35) d_M_entity_29 (by decide) (fun q4 => by exact absurd q4 (by decide)) (fun q4 => ?_)
        refine ab_goto (tgt := 51) d_M_entity_32 (by decide) ?_
        obtain ⟨x5, ex5⟩ : ∃ q : Int32, q = nI i + 1 := ⟨_, rfl⟩
        refine ab_iinc (v := x5) (lv' := [some (.ref m), some (.int k), some (.int k), some (.int x5)]) d_M_entity_51 rfl (by rw [ex5]; rfl) (by decide) rfl ?_
        refine ab_goto (tgt := 9) d_M_entity_54 (by decide) ?_
        subst ex5
        rw [nI_1]
        refine ab_widen (cells' := cells) (slots' := slots) (by first | exact Nat.le_refl _ | (show _ ≤ _; omega)) (by first | exact Nat.le_refl _ | (show _ ≤ _; omega)) ?_
        exact ih (i + 1) (by omega)
def sq_M_end (n : Int32) : Int32 := if n < 0 then (0) else if 0 < n then (0) else (1)
set_option maxRecDepth 20000 in
set_option maxHeartbeats 2000000 in
theorem f_M_end {h : List ab_E}  {m : Nat} {w n : Int32}  (h0 : at_M0 h m w) : ab_M y_M_end { frames := 1, cells := 0, slots := 0, locals := 40 } [.ref m, .int n] h (ab_A (some (.int (sq_M_end n))) (fun h1 => True)) := by
  obtain ⟨hM, hT, hO, hS, hN, hD, hR⟩ := h0
  have hM0 := hM; obtain ⟨gmo, gm1, gm14, gm15, gm16, gm17, gm18, gm19, gm21, gm25, gm26⟩ := hM
  replace gmo : h[m]? = some (.inr (12, [.int 0, .ref (m + 1), .int 0, .ref (m + 2), .ref (m + 33), .int 0, .int (-1), .int (-1), .ref (m + 64), .ref (m + 74), .ref (m + 84), .ref (m + 94), .int 1, .int 0, .ref (m + 99), .ref (m + 100), .ref (m + 101), .ref (m + 102), .ref (m + 103), .ref (m + 104), .int 0, .ref (m + 105), .int 0, .int 0, .int 0, .ref (m + 106), .ref (m + 107), .int 0, .int 0])) := gmo
  replace gm1 : h[m + 1]? = some (.inl (.byte, 6000, .inl (fun _ => 0))) := (by rw [a0_M_0 w (by decide)] at gm1; exact gm1)
  replace gm14 : h[m + 99]? = some (.inl (.int, 256, .inl (fun _ => 0))) := (by rw [a0_M_0 w (by decide)] at gm14; exact gm14)
  replace gm15 : h[m + 100]? = some (.inl (.boolean, 256, .inl (fun _ => 0))) := (by rw [a0_M_0 w (by decide)] at gm15; exact gm15)
  replace gm16 : h[m + 101]? = some (.inl (.int, 64, .inl (fun _ => 0))) := (by rw [a0_M_0 w (by decide)] at gm16; exact gm16)
  replace gm17 : h[m + 102]? = some (.inl (.int, 4, .inl (fun _ => 0))) := (by rw [a0_M_0 w (by decide)] at gm17; exact gm17)
  replace gm18 : h[m + 103]? = some (.inl (.int, 4, .inl (fun _ => 0))) := (by rw [a0_M_0 w (by decide)] at gm18; exact gm18)
  replace gm19 : h[m + 104]? = some (.inl (.int, 256, .inl (fun _ => 0))) := (by rw [a0_M_0 w (by decide)] at gm19; exact gm19)
  replace gm21 : h[m + 105]? = some (.inl (.byte, 58000, .inl (fun _ => 0))) := (by rw [a0_M_0 w (by decide)] at gm21; exact gm21)
  replace gm25 : h[m + 106]? = some (.inl (.boolean, 8, .inl (a0_M w 25))) := gm25
  replace gm26 : h[m + 107]? = some (.inl (.boolean, 8, .inl (fun _ => 0))) := (by rw [a0_M_0 w (by decide)] at gm26; exact gm26)
  refine ab_of2 (lv := [some (.ref m), some (.int n)]) 0 rfl rfl (Nat.le_of_ble_eq_true rfl) ?_
  refine ab_aload_n d_M_end_0 rfl rfl rfl ?_
  refine ab_iconst (v := 0) d_M_end_1 (by decide) ?_
  refine ab_put (f := 0) d_M_end_2 gmo rfl (by decide) (k9 233 rfl rfl) rfl rfl (fun _ => rfl) (fun _ => rfl) (Nat.le_of_ble_eq_true rfl) ?_
  show ab_V _ _ _ _ _ _ _ 5 [some (.ref m), some (.int n)] [] (h.set m (.inr (12, [.int 0, .ref (m + 1), .int 0, .ref (m + 2), .ref (m + 33), .int 0, .int (-1), .int (-1), .ref (m + 64), .ref (m + 74), .ref (m + 84), .ref (m + 94), .int 1, .int 0, .ref (m + 99), .ref (m + 100), .ref (m + 101), .ref (m + 102), .ref (m + 103), .ref (m + 104), .int 0, .ref (m + 105), .int 0, .int 0, .int 0, .ref (m + 106), .ref (m + 107), .int 0, .int 0])))
  refine ab_gen (fun h1 e2 => ?_)
  have c3 : h1[m]? = some (.inr (12, [.int 0, .ref (m + 1), .int 0, .ref (m + 2), .ref (m + 33), .int 0, .int (-1), .int (-1), .ref (m + 64), .ref (m + 74), .ref (m + 84), .ref (m + 94), .int 1, .int 0, .ref (m + 99), .ref (m + 100), .ref (m + 101), .ref (m + 102), .ref (m + 103), .ref (m + 104), .int 0, .ref (m + 105), .int 0, .int 0, .int 0, .ref (m + 106), .ref (m + 107), .int 0, .int 0])) := ab_self e2 gmo
  have c4 : h1[m+1]? = some (.inl (.byte, 6000, .inl (fun _ => 0))) := ab_other e2 (by omega) gm1
  have c5 : h1[m+99]? = some (.inl (.int, 256, .inl (fun _ => 0))) := ab_other e2 (by omega) gm14
  have c6 : h1[m+100]? = some (.inl (.boolean, 256, .inl (fun _ => 0))) := ab_other e2 (by omega) gm15
  have c7 : h1[m+101]? = some (.inl (.int, 64, .inl (fun _ => 0))) := ab_other e2 (by omega) gm16
  have c8 : h1[m+102]? = some (.inl (.int, 4, .inl (fun _ => 0))) := ab_other e2 (by omega) gm17
  have c9 : h1[m+103]? = some (.inl (.int, 4, .inl (fun _ => 0))) := ab_other e2 (by omega) gm18
  have c10 : h1[m+104]? = some (.inl (.int, 256, .inl (fun _ => 0))) := ab_other e2 (by omega) gm19
  have c11 : h1[m+105]? = some (.inl (.byte, 58000, .inl (fun _ => 0))) := ab_other e2 (by omega) gm21
  have c12 : h1[m+106]? = some (.inl (.boolean, 8, .inl (a0_M w 25))) := ab_other e2 (by omega) gm25
  have c13 : h1[m+107]? = some (.inl (.boolean, 8, .inl (fun _ => 0))) := ab_other e2 (by omega) gm26
  have fr14 : ab_fr (fun _ => True) h h1 := ab_fr_set (ab_fr_rf _ _) e2 (by trivial)
  clear e2
  refine ab_iload_n d_M_end_5 rfl rfl ?_
  refine ab_i2l d_M_end_6 ?_
  refine ab_lconst (v := 0) d_M_end_7 (by decide) ?_
  refine ab_aload_n d_M_end_8 rfl rfl rfl ?_
  refine ab_get (f := 2) d_M_end_9 c3 rfl (by decide) (k9 235 rfl rfl) rfl ?_
  refine ab_i2l d_M_end_12 ?_
  refine ab_topl (fun x15 ex15 => ?_)
  obtain rfl : x15 = 0 := ex15.trans (by decide)
  clear ex15
  refine ab_callS_a (As := [.long ((n : Int32).toInt64), .long 0, .long 0]) (rest := []) d_M_end_13 (c_M_in) (ab_mkC s_M_in (Nat.le_of_ble_eq_true rfl) (Nat.le_of_ble_eq_true rfl) (by decide) (by decide)) (k10 93 rfl rfl) t_M_in rfl (Nat.le_of_ble_eq_true rfl) (fun h17 q16 => ?_)
  subst q16
  by_cases t18 : n < 0
  · refine ab_topi (fun x19 ex19 => ?_)
    obtain rfl : x19 = 0 := ex19.trans (in_1 (lo := 0) (hi := 0) (by decide) (by decide) t18)
    clear ex19
    refine ab_if_ne (tgt := 21) d_M_end_16 (by decide) (fun q20 => by exact absurd q20 (by decide)) (fun q20 => ?_)
    refine ab_iconst (v := 0) d_M_end_19 (by decide) ?_
    exact ab_zret d_M_end_20 rfl rfl (Nat.le_refl _) (Nat.le_refl _) (by unfold sq_M_end; rw [if_pos t18]; exact ⟨rfl, trivial⟩)
  by_cases t21 : 0 < n
  · refine ab_topi (fun x22 ex22 => ?_)
    obtain rfl : x22 = 0 := ex22.trans (in_2 (lo := 0) (hi := 0) (by decide) (by decide) t21)
    clear ex22
    refine ab_if_ne (tgt := 21) d_M_end_16 (by decide) (fun q23 => by exact absurd q23 (by decide)) (fun q23 => ?_)
    refine ab_iconst (v := 0) d_M_end_19 (by decide) ?_
    exact ab_zret d_M_end_20 rfl rfl (Nat.le_refl _) (Nat.le_refl _) (by unfold sq_M_end; rw [if_neg t18]; rw [if_pos t21]; exact ⟨rfl, trivial⟩)
  refine ab_topi (fun x24 ex24 => ?_)
  obtain rfl : x24 = 1 := ex24.trans (in_3 (lo := 0) (hi := 0) (by decide) (by decide) t18 t21)
  clear ex24
  refine ab_if_ne (tgt := 21) d_M_end_16 (by decide) (fun q25 => ?_) (fun q25 => by exact absurd q25 (by decide))
  refine ab_aload_n d_M_end_21 rfl rfl rfl ?_
  refine ab_iload_n d_M_end_22 rfl rfl ?_
  refine ab_put (f := 2) d_M_end_23 c3 rfl (by decide) (k9 235 rfl rfl) rfl rfl (fun _ => rfl) (fun _ => rfl) (Nat.le_of_ble_eq_true rfl) ?_
  show ab_V _ _ _ _ _ _ _ 26 [some (.ref m), some (.int n)] [] (h1.set m (.inr (12, [.int 0, .ref (m + 1), .int n, .ref (m + 2), .ref (m + 33), .int 0, .int (-1), .int (-1), .ref (m + 64), .ref (m + 74), .ref (m + 84), .ref (m + 94), .int 1, .int 0, .ref (m + 99), .ref (m + 100), .ref (m + 101), .ref (m + 102), .ref (m + 103), .ref (m + 104), .int 0, .ref (m + 105), .int 0, .int 0, .int 0, .ref (m + 106), .ref (m + 107), .int 0, .int 0])))
  refine ab_gen (fun h26 e27 => ?_)
  have c28 : h26[m]? = some (.inr (12, [.int 0, .ref (m + 1), .int n, .ref (m + 2), .ref (m + 33), .int 0, .int (-1), .int (-1), .ref (m + 64), .ref (m + 74), .ref (m + 84), .ref (m + 94), .int 1, .int 0, .ref (m + 99), .ref (m + 100), .ref (m + 101), .ref (m + 102), .ref (m + 103), .ref (m + 104), .int 0, .ref (m + 105), .int 0, .int 0, .int 0, .ref (m + 106), .ref (m + 107), .int 0, .int 0])) := ab_self e27 c3
  have c29 : h26[m+1]? = some (.inl (.byte, 6000, .inl (fun _ => 0))) := ab_other e27 (by omega) c4
  have c30 : h26[m+99]? = some (.inl (.int, 256, .inl (fun _ => 0))) := ab_other e27 (by omega) c5
  have c31 : h26[m+100]? = some (.inl (.boolean, 256, .inl (fun _ => 0))) := ab_other e27 (by omega) c6
  have c32 : h26[m+101]? = some (.inl (.int, 64, .inl (fun _ => 0))) := ab_other e27 (by omega) c7
  have c33 : h26[m+102]? = some (.inl (.int, 4, .inl (fun _ => 0))) := ab_other e27 (by omega) c8
  have c34 : h26[m+103]? = some (.inl (.int, 4, .inl (fun _ => 0))) := ab_other e27 (by omega) c9
  have c35 : h26[m+104]? = some (.inl (.int, 256, .inl (fun _ => 0))) := ab_other e27 (by omega) c10
  have c36 : h26[m+105]? = some (.inl (.byte, 58000, .inl (fun _ => 0))) := ab_other e27 (by omega) c11
  have c37 : h26[m+106]? = some (.inl (.boolean, 8, .inl (a0_M w 25))) := ab_other e27 (by omega) c12
  have c38 : h26[m+107]? = some (.inl (.boolean, 8, .inl (fun _ => 0))) := ab_other e27 (by omega) c13
  have fr39 : ab_fr (fun _ => True) h h26 := ab_fr_set fr14 e27 (by trivial)
  clear c3 c4 c5 c6 c7 c8 c9 c10 c11 c12 c13 fr14 e27
  try clear h1
  refine ab_iconst (v := 1) d_M_end_26 (by decide) ?_
  exact ab_zret d_M_end_27 rfl rfl (Nat.le_refl _) (Nat.le_refl _) (by unfold sq_M_end; rw [if_neg t18]; rw [if_neg t21]; exact ⟨rfl, trivial⟩)
def sq_M_fault (n : Int32) : Int32 := if ¬ n = (0 : Int32) then if ¬ n = (1 : Int32) then ((-1)) else ((-1)) else ((-1))
set_option maxRecDepth 20000 in
set_option maxHeartbeats 2000000 in
theorem f_M_fault {h : List ab_E}  {m : Nat} {w n : Int32}  (h0 : at_M0 h m w) : ab_M y_M_fault { frames := 1, cells := 0, slots := 0, locals := 40 } [.ref m, .int n] h (ab_A (some (.int (sq_M_fault n))) (fun h1 => True)) := by
  obtain ⟨hM, hT, hO, hS, hN, hD, hR⟩ := h0
  have hM0 := hM; obtain ⟨gmo, gm1, gm14, gm15, gm16, gm17, gm18, gm19, gm21, gm25, gm26⟩ := hM
  replace gmo : h[m]? = some (.inr (12, [.int 0, .ref (m + 1), .int 0, .ref (m + 2), .ref (m + 33), .int 0, .int (-1), .int (-1), .ref (m + 64), .ref (m + 74), .ref (m + 84), .ref (m + 94), .int 1, .int 0, .ref (m + 99), .ref (m + 100), .ref (m + 101), .ref (m + 102), .ref (m + 103), .ref (m + 104), .int 0, .ref (m + 105), .int 0, .int 0, .int 0, .ref (m + 106), .ref (m + 107), .int 0, .int 0])) := gmo
  replace gm1 : h[m + 1]? = some (.inl (.byte, 6000, .inl (fun _ => 0))) := (by rw [a0_M_0 w (by decide)] at gm1; exact gm1)
  replace gm14 : h[m + 99]? = some (.inl (.int, 256, .inl (fun _ => 0))) := (by rw [a0_M_0 w (by decide)] at gm14; exact gm14)
  replace gm15 : h[m + 100]? = some (.inl (.boolean, 256, .inl (fun _ => 0))) := (by rw [a0_M_0 w (by decide)] at gm15; exact gm15)
  replace gm16 : h[m + 101]? = some (.inl (.int, 64, .inl (fun _ => 0))) := (by rw [a0_M_0 w (by decide)] at gm16; exact gm16)
  replace gm17 : h[m + 102]? = some (.inl (.int, 4, .inl (fun _ => 0))) := (by rw [a0_M_0 w (by decide)] at gm17; exact gm17)
  replace gm18 : h[m + 103]? = some (.inl (.int, 4, .inl (fun _ => 0))) := (by rw [a0_M_0 w (by decide)] at gm18; exact gm18)
  replace gm19 : h[m + 104]? = some (.inl (.int, 256, .inl (fun _ => 0))) := (by rw [a0_M_0 w (by decide)] at gm19; exact gm19)
  replace gm21 : h[m + 105]? = some (.inl (.byte, 58000, .inl (fun _ => 0))) := (by rw [a0_M_0 w (by decide)] at gm21; exact gm21)
  replace gm25 : h[m + 106]? = some (.inl (.boolean, 8, .inl (a0_M w 25))) := gm25
  replace gm26 : h[m + 107]? = some (.inl (.boolean, 8, .inl (fun _ => 0))) := (by rw [a0_M_0 w (by decide)] at gm26; exact gm26)
  refine ab_of2 (lv := [some (.ref m), some (.int n)]) 0 rfl rfl (Nat.le_of_ble_eq_true rfl) ?_
  refine ab_aload_n d_M_fault_0 rfl rfl rfl ?_
  refine ab_iconst (v := 0) d_M_fault_1 (by decide) ?_
  refine ab_put (f := 0) d_M_fault_2 gmo rfl (by decide) (k9 233 rfl rfl) rfl rfl (fun _ => rfl) (fun _ => rfl) (Nat.le_of_ble_eq_true rfl) ?_
  show ab_V _ _ _ _ _ _ _ 5 [some (.ref m), some (.int n)] [] (h.set m (.inr (12, [.int 0, .ref (m + 1), .int 0, .ref (m + 2), .ref (m + 33), .int 0, .int (-1), .int (-1), .ref (m + 64), .ref (m + 74), .ref (m + 84), .ref (m + 94), .int 1, .int 0, .ref (m + 99), .ref (m + 100), .ref (m + 101), .ref (m + 102), .ref (m + 103), .ref (m + 104), .int 0, .ref (m + 105), .int 0, .int 0, .int 0, .ref (m + 106), .ref (m + 107), .int 0, .int 0])))
  refine ab_gen (fun h1 e2 => ?_)
  have c3 : h1[m]? = some (.inr (12, [.int 0, .ref (m + 1), .int 0, .ref (m + 2), .ref (m + 33), .int 0, .int (-1), .int (-1), .ref (m + 64), .ref (m + 74), .ref (m + 84), .ref (m + 94), .int 1, .int 0, .ref (m + 99), .ref (m + 100), .ref (m + 101), .ref (m + 102), .ref (m + 103), .ref (m + 104), .int 0, .ref (m + 105), .int 0, .int 0, .int 0, .ref (m + 106), .ref (m + 107), .int 0, .int 0])) := ab_self e2 gmo
  have c4 : h1[m+1]? = some (.inl (.byte, 6000, .inl (fun _ => 0))) := ab_other e2 (by omega) gm1
  have c5 : h1[m+99]? = some (.inl (.int, 256, .inl (fun _ => 0))) := ab_other e2 (by omega) gm14
  have c6 : h1[m+100]? = some (.inl (.boolean, 256, .inl (fun _ => 0))) := ab_other e2 (by omega) gm15
  have c7 : h1[m+101]? = some (.inl (.int, 64, .inl (fun _ => 0))) := ab_other e2 (by omega) gm16
  have c8 : h1[m+102]? = some (.inl (.int, 4, .inl (fun _ => 0))) := ab_other e2 (by omega) gm17
  have c9 : h1[m+103]? = some (.inl (.int, 4, .inl (fun _ => 0))) := ab_other e2 (by omega) gm18
  have c10 : h1[m+104]? = some (.inl (.int, 256, .inl (fun _ => 0))) := ab_other e2 (by omega) gm19
  have c11 : h1[m+105]? = some (.inl (.byte, 58000, .inl (fun _ => 0))) := ab_other e2 (by omega) gm21
  have c12 : h1[m+106]? = some (.inl (.boolean, 8, .inl (a0_M w 25))) := ab_other e2 (by omega) gm25
  have c13 : h1[m+107]? = some (.inl (.boolean, 8, .inl (fun _ => 0))) := ab_other e2 (by omega) gm26
  have fr14 : ab_fr (fun _ => True) h h1 := ab_fr_set (ab_fr_rf _ _) e2 (by trivial)
  clear e2
  refine ab_iload_n d_M_fault_5 rfl rfl ?_
  refine ab_if_ne (tgt := 16) d_M_fault_6 (by decide) (fun q15 => ?_) (fun q15 => ?_)
  · refine ab_iload_n d_M_fault_16 rfl rfl ?_
    refine ab_iconst (v := 1) d_M_fault_17 (by decide) ?_
    refine ab_icmp_ne (tgt := 28) d_M_fault_18 (by decide) (fun q16 => ?_) (fun q16 => ?_)
    · refine ab_iconst (v := (-1)) d_M_fault_28 (by decide) ?_
      exact ab_iret d_M_fault_29 rfl (Nat.le_refl _) (Nat.le_refl _) (by unfold sq_M_fault; rw [if_pos q15]; rw [if_pos q16]; exact ⟨rfl, trivial⟩)
    · refine ab_aload_n d_M_fault_21 rfl rfl rfl ?_
      refine ab_get (f := 6) d_M_fault_22 c3 rfl (by decide) (k9 239 rfl rfl) rfl ?_
      refine ab_goto (tgt := 29) d_M_fault_25 (by decide) ?_
      exact ab_iret d_M_fault_29 rfl (Nat.le_refl _) (Nat.le_refl _) (by unfold sq_M_fault; rw [if_pos q15]; rw [if_neg (fun z => z q16)]; exact ⟨rfl, trivial⟩)
  · refine ab_aload_n d_M_fault_9 rfl rfl rfl ?_
    refine ab_get (f := 7) d_M_fault_10 c3 rfl (by decide) (k10 0 rfl rfl) rfl ?_
    refine ab_goto (tgt := 29) d_M_fault_13 (by decide) ?_
    exact ab_iret d_M_fault_29 rfl (Nat.le_refl _) (Nat.le_refl _) (by unfold sq_M_fault; rw [if_neg (fun z => z q15)]; exact ⟨rfl, trivial⟩)
def sq_M_make (n : Int32) : Int32 := ((-1))
set_option maxRecDepth 20000 in
set_option maxHeartbeats 2000000 in
theorem f_M_make {h : List ab_E}     {m : Nat} {w n : Int32}     (h0 : at_M0 h m w) : ab_M y_M_make { frames := 1, cells := 0, slots := 0, locals := 40 } [.ref m, .int n] h (ab_A (some (.int (sq_M_make n))) (fun h1 => True)) := by
  obtain ⟨hM, hT, hO, hS, hN, hD, hR⟩ := h0
  have hM0 := hM; obtain ⟨gmo, gm1, gm14, gm15, gm16, gm17, gm18, gm19, gm21, gm25, gm26⟩ := hM
  replace gmo : h[m]? = some (.inr (12, [.int 0, .ref (m + 1), .int 0, .ref (m + 2), .ref (m + 33), .int 0, .int (-1), .int (-1), .ref (m + 64), .ref (m + 74), .ref (m + 84), .ref (m + 94), .int 1, .int 0, .ref (m + 99), .ref (m + 100), .ref (m + 101), .ref (m + 102), .ref (m + 103), .ref (m + 104), .int 0, .ref (m + 105), .int 0, .int 0, .int 0, .ref (m + 106), .ref (m + 107), .int 0, .int 0])) := gmo
  replace gm1 : h[m + 1]? = some (.inl (.byte, 6000, .inl (fun _ => 0))) := (by rw [a0_M_0 w (by decide)] at gm1; exact gm1)
  replace gm14 : h[m + 99]? = some (.inl (.int, 256, .inl (fun _ => 0))) := (by rw [a0_M_0 w (by decide)] at gm14; exact gm14)
  replace gm15 : h[m + 100]? = some (.inl (.boolean, 256, .inl (fun _ => 0))) := (by rw [a0_M_0 w (by decide)] at gm15; exact gm15)
  replace gm16 : h[m + 101]? = some (.inl (.int, 64, .inl (fun _ => 0))) := (by rw [a0_M_0 w (by decide)] at gm16; exact gm16)
  replace gm17 : h[m + 102]? = some (.inl (.int, 4, .inl (fun _ => 0))) := (by rw [a0_M_0 w (by decide)] at gm17; exact gm17)
  replace gm18 : h[m + 103]? = some (.inl (.int, 4, .inl (fun _ => 0))) := (by rw [a0_M_0 w (by decide)] at gm18; exact gm18)
  replace gm19 : h[m + 104]? = some (.inl (.int, 256, .inl (fun _ => 0))) := (by rw [a0_M_0 w (by decide)] at gm19; exact gm19)
  replace gm21 : h[m + 105]? = some (.inl (.byte, 58000, .inl (fun _ => 0))) := (by rw [a0_M_0 w (by decide)] at gm21; exact gm21)
  replace gm25 : h[m + 106]? = some (.inl (.boolean, 8, .inl (a0_M w 25))) := gm25
  replace gm26 : h[m + 107]? = some (.inl (.boolean, 8, .inl (fun _ => 0))) := (by rw [a0_M_0 w (by decide)] at gm26; exact gm26)
  have hT0 := hT; obtain ⟨gto, gt0, gt3, gt4, gt5, gt6, gt7, gt8, gt13, gt14, gt15, gt17, gt18, gt19, gt20, gt22, gt23, gt24, gt25, gt27, gt28, gt30, gt31, gt32, gt33, gt34, gt35, gt36, gt38, gt39, gt40⟩ := hT
  replace gto : h[m + 2]? = some (.inr (14, [.ref (m + 2 + 1), .int 0, .int 0, .ref (m + 2 + 2), .ref (m + 2 + 3), .ref (m + 2 + 4), .ref (m + 2 + 5), .ref (m + 2 + 6), .ref (m + 2 + 7), .int 0, .int 0, .int 0, .int 0, .ref (m + 2 + 8), .ref (m + 2 + 9), .ref (m + 2 + 10), .int 0, .ref (m + 2 + 11), .ref (m + 2 + 12), .ref (m + 2 + 13), .ref (m + 2 + 14), .int 0, .ref (m + 2 + 15), .ref (m + 2 + 16), .ref (m + 2 + 17), .ref (m + 2 + 18), .int 0, .ref (m + 2 + 19), .ref (m + 2 + 20), .int 0, .ref (m + 2 + 21), .ref (m + 2 + 22), .ref (m + 2 + 23), .ref (m + 2 + 24), .ref (m + 2 + 25), .ref (m + 2 + 26), .ref (m + 2 + 27), .int 0, .ref (m + 2 + 28), .ref (m + 2 + 29), .ref (m + 2 + 30), .int 0, .int 0])) := gto
  replace gt0 : h[m + 2 + 1]? = some (.inl (.byte, 6000, .inl (fun _ => 0))) := gt0
  replace gt3 : h[m + 2 + 2]? = some (.inl (.int, 6002, .inl (fun _ => 0))) := gt3
  replace gt4 : h[m + 2 + 3]? = some (.inl (.int, 6002, .inl (fun _ => 0))) := gt4
  replace gt5 : h[m + 2 + 4]? = some (.inl (.int, 6002, .inl (fun _ => 0))) := gt5
  replace gt6 : h[m + 2 + 5]? = some (.inl (.int, 6002, .inl (fun _ => 0))) := gt6
  replace gt7 : h[m + 2 + 6]? = some (.inl (.boolean, 6002, .inl (fun _ => 0))) := gt7
  replace gt8 : h[m + 2 + 7]? = some (.inl (.int, 6002, .inl (fun _ => 0))) := gt8
  replace gt13 : h[m + 2 + 8]? = some (.inl (.int, 56, .inl (fun _ => 0))) := gt13
  replace gt14 : h[m + 2 + 9]? = some (.inl (.int, 56, .inl (fun _ => 0))) := gt14
  replace gt15 : h[m + 2 + 10]? = some (.inl (.int, 56, .inl (fun _ => 0))) := gt15
  replace gt17 : h[m + 2 + 11]? = some (.inl (.int, 16, .inl (fun _ => 0))) := gt17
  replace gt18 : h[m + 2 + 12]? = some (.inl (.int, 17, .inl (fun _ => 0))) := gt18
  replace gt19 : h[m + 2 + 13]? = some (.inl (.int, 48, .inl (fun _ => 0))) := gt19
  replace gt20 : h[m + 2 + 14]? = some (.inl (.int, 48, .inl (fun _ => 0))) := gt20
  replace gt22 : h[m + 2 + 15]? = some (.inl (.int, 8, .inl (fun _ => 0))) := gt22
  replace gt23 : h[m + 2 + 16]? = some (.inl (.int, 8, .inl (fun _ => 0))) := gt23
  replace gt24 : h[m + 2 + 17]? = some (.inl (.int, 32, .inl (fun _ => 0))) := gt24
  replace gt25 : h[m + 2 + 18]? = some (.inl (.int, 32, .inl (fun _ => 0))) := gt25
  replace gt27 : h[m + 2 + 19]? = some (.inl (.int, 16, .inl (fun _ => 0))) := gt27
  replace gt28 : h[m + 2 + 20]? = some (.inl (.int, 768, .inl (fun _ => 0))) := gt28
  replace gt30 : h[m + 2 + 21]? = some (.inl (.int, 16, .inl (fun _ => 0))) := gt30
  replace gt31 : h[m + 2 + 22]? = some (.inl (.int, 16, .inl (fun _ => 0))) := gt31
  replace gt32 : h[m + 2 + 23]? = some (.inl (.int, 16, .inl (fun _ => 0))) := gt32
  replace gt33 : h[m + 2 + 24]? = some (.inl (.int, 16, .inl (fun _ => 0))) := gt33
  replace gt34 : h[m + 2 + 25]? = some (.inl (.int, 16, .inl (fun _ => 0))) := gt34
  replace gt35 : h[m + 2 + 26]? = some (.inl (.int, 16, .inl (fun _ => 0))) := gt35
  replace gt36 : h[m + 2 + 27]? = some (.inl (.int, 16, .inl (fun _ => 0))) := gt36
  replace gt38 : h[m + 2 + 28]? = some (.inl (.int, 12, .inl (fun _ => 0))) := gt38
  replace gt39 : h[m + 2 + 29]? = some (.inl (.int, 12, .inl (fun _ => 0))) := gt39
  replace gt40 : h[m + 2 + 30]? = some (.inl (.boolean, 12, .inl (fun _ => 0))) := gt40
  have hS0 := hS; obtain ⟨gso, gs4, gs5, gs6, gs7, gs9, gs10, gs11, gs12, gs17⟩ := hS
  replace gso : h[m + 64]? = some (.inr (13, [.int 0, .int 0, .int 0, .int 0, .ref (m + 64 + 1), .ref (m + 64 + 2), .ref (m + 64 + 3), .ref (m + 64 + 4), .int 0, .ref (m + 64 + 5), .ref (m + 64 + 6), .ref (m + 64 + 7), .ref (m + 64 + 8), .int (-1), .int 0, .int 0, .int 0, .ref (m + 64 + 9)])) := gso
  replace gs4 : h[m + 64 + 1]? = some (.inl (.int, 256, .inl (fun _ => 0))) := gs4
  replace gs5 : h[m + 64 + 2]? = some (.inl (.boolean, 256, .inl (fun _ => 0))) := gs5
  replace gs6 : h[m + 64 + 3]? = some (.inl (.int, 256, .inl (fun _ => 0))) := gs6
  replace gs7 : h[m + 64 + 4]? = some (.inl (.int, 12288, .inl (fun _ => 0))) := gs7
  replace gs9 : h[m + 64 + 5]? = some (.inl (.int, 256, .inl (fun _ => 0))) := gs9
  replace gs10 : h[m + 64 + 6]? = some (.inl (.int, 256, .inl (fun _ => 0))) := gs10
  replace gs11 : h[m + 64 + 7]? = some (.inl (.int, 256, .inl (fun _ => 0))) := gs11
  replace gs12 : h[m + 64 + 8]? = some (.inl (.int, 1024, .inl (fun _ => 0))) := gs12
  replace gs17 : h[m + 64 + 9]? = some (.inl (.int, 32, .inl (fun _ => 0))) := gs17
  have hN0 := hN; obtain ⟨gno, gn4, gn5, gn6, gn7, gn9, gn10, gn11, gn12, gn17⟩ := hN
  replace gno : h[m + 74]? = some (.inr (13, [.int 0, .int 0, .int 0, .int 0, .ref (m + 74 + 1), .ref (m + 74 + 2), .ref (m + 74 + 3), .ref (m + 74 + 4), .int 0, .ref (m + 74 + 5), .ref (m + 74 + 6), .ref (m + 74 + 7), .ref (m + 74 + 8), .int (-1), .int 0, .int 0, .int 0, .ref (m + 74 + 9)])) := gno
  replace gn4 : h[m + 74 + 1]? = some (.inl (.int, 256, .inl (fun _ => 0))) := gn4
  replace gn5 : h[m + 74 + 2]? = some (.inl (.boolean, 256, .inl (fun _ => 0))) := gn5
  replace gn6 : h[m + 74 + 3]? = some (.inl (.int, 256, .inl (fun _ => 0))) := gn6
  replace gn7 : h[m + 74 + 4]? = some (.inl (.int, 12288, .inl (fun _ => 0))) := gn7
  replace gn9 : h[m + 74 + 5]? = some (.inl (.int, 256, .inl (fun _ => 0))) := gn9
  replace gn10 : h[m + 74 + 6]? = some (.inl (.int, 256, .inl (fun _ => 0))) := gn10
  replace gn11 : h[m + 74 + 7]? = some (.inl (.int, 256, .inl (fun _ => 0))) := gn11
  replace gn12 : h[m + 74 + 8]? = some (.inl (.int, 1024, .inl (fun _ => 0))) := gn12
  replace gn17 : h[m + 74 + 9]? = some (.inl (.int, 32, .inl (fun _ => 0))) := gn17
  refine ab_of2 (lv := [some (.ref m), some (.int n), none]) 1 rfl rfl (Nat.le_of_ble_eq_true rfl) ?_
  refine ab_aload_n d_M_make_0 rfl rfl rfl ?_
  refine ab_iconst (v := 0) d_M_make_1 (by decide) ?_
  refine ab_put (f := 0) d_M_make_2 gmo rfl (by decide) (k9 233 rfl rfl) rfl rfl (fun _ => rfl) (fun _ => rfl) (Nat.le_of_ble_eq_true rfl) ?_
  show ab_V _ _ _ _ _ _ _ 5 [some (.ref m), some (.int n), none] [] (h.set m (.inr (12, [.int 0, .ref (m + 1), .int 0, .ref (m + 2), .ref (m + 33), .int 0, .int (-1), .int (-1), .ref (m + 64), .ref (m + 74), .ref (m + 84), .ref (m + 94), .int 1, .int 0, .ref (m + 99), .ref (m + 100), .ref (m + 101), .ref (m + 102), .ref (m + 103), .ref (m + 104), .int 0, .ref (m + 105), .int 0, .int 0, .int 0, .ref (m + 106), .ref (m + 107), .int 0, .int 0])))
  refine ab_gen (fun h1 e2 => ?_)
  have c3 : h1[m]? = some (.inr (12, [.int 0, .ref (m + 1), .int 0, .ref (m + 2), .ref (m + 33), .int 0, .int (-1), .int (-1), .ref (m + 64), .ref (m + 74), .ref (m + 84), .ref (m + 94), .int 1, .int 0, .ref (m + 99), .ref (m + 100), .ref (m + 101), .ref (m + 102), .ref (m + 103), .ref (m + 104), .int 0, .ref (m + 105), .int 0, .int 0, .int 0, .ref (m + 106), .ref (m + 107), .int 0, .int 0])) := ab_self e2 gmo
  have c4 : h1[m+1]? = some (.inl (.byte, 6000, .inl (fun _ => 0))) := ab_other e2 (by omega) gm1
  have c5 : h1[m+99]? = some (.inl (.int, 256, .inl (fun _ => 0))) := ab_other e2 (by omega) gm14
  have c6 : h1[m+100]? = some (.inl (.boolean, 256, .inl (fun _ => 0))) := ab_other e2 (by omega) gm15
  have c7 : h1[m+101]? = some (.inl (.int, 64, .inl (fun _ => 0))) := ab_other e2 (by omega) gm16
  have c8 : h1[m+102]? = some (.inl (.int, 4, .inl (fun _ => 0))) := ab_other e2 (by omega) gm17
  have c9 : h1[m+103]? = some (.inl (.int, 4, .inl (fun _ => 0))) := ab_other e2 (by omega) gm18
  have c10 : h1[m+104]? = some (.inl (.int, 256, .inl (fun _ => 0))) := ab_other e2 (by omega) gm19
  have c11 : h1[m+105]? = some (.inl (.byte, 58000, .inl (fun _ => 0))) := ab_other e2 (by omega) gm21
  have c12 : h1[m+106]? = some (.inl (.boolean, 8, .inl (a0_M w 25))) := ab_other e2 (by omega) gm25
  have c13 : h1[m+107]? = some (.inl (.boolean, 8, .inl (fun _ => 0))) := ab_other e2 (by omega) gm26
  have c14 : h1[m+2]? = some (.inr (14, [.ref (m + 2 + 1), .int 0, .int 0, .ref (m + 2 + 2), .ref (m + 2 + 3), .ref (m + 2 + 4), .ref (m + 2 + 5), .ref (m + 2 + 6), .ref (m + 2 + 7), .int 0, .int 0, .int 0, .int 0, .ref (m + 2 + 8), .ref (m + 2 + 9), .ref (m + 2 + 10), .int 0, .ref (m + 2 + 11), .ref (m + 2 + 12), .ref (m + 2 + 13), .ref (m + 2 + 14), .int 0, .ref (m + 2 + 15), .ref (m + 2 + 16), .ref (m + 2 + 17), .ref (m + 2 + 18), .int 0, .ref (m + 2 + 19), .ref (m + 2 + 20), .int 0, .ref (m + 2 + 21), .ref (m + 2 + 22), .ref (m + 2 + 23), .ref (m + 2 + 24), .ref (m + 2 + 25), .ref (m + 2 + 26), .ref (m + 2 + 27), .int 0, .ref (m + 2 + 28), .ref (m + 2 + 29), .ref (m + 2 + 30), .int 0, .int 0])) := ab_other e2 (by omega) gto
  have c15 : h1[m+2+1]? = some (.inl (.byte, 6000, .inl (fun _ => 0))) := ab_other e2 (by omega) gt0
  have c16 : h1[m+2+2]? = some (.inl (.int, 6002, .inl (fun _ => 0))) := ab_other e2 (by omega) gt3
  have c17 : h1[m+2+3]? = some (.inl (.int, 6002, .inl (fun _ => 0))) := ab_other e2 (by omega) gt4
  have c18 : h1[m+2+4]? = some (.inl (.int, 6002, .inl (fun _ => 0))) := ab_other e2 (by omega) gt5
  have c19 : h1[m+2+5]? = some (.inl (.int, 6002, .inl (fun _ => 0))) := ab_other e2 (by omega) gt6
  have c20 : h1[m+2+6]? = some (.inl (.boolean, 6002, .inl (fun _ => 0))) := ab_other e2 (by omega) gt7
  have c21 : h1[m+2+7]? = some (.inl (.int, 6002, .inl (fun _ => 0))) := ab_other e2 (by omega) gt8
  have c22 : h1[m+2+8]? = some (.inl (.int, 56, .inl (fun _ => 0))) := ab_other e2 (by omega) gt13
  have c23 : h1[m+2+9]? = some (.inl (.int, 56, .inl (fun _ => 0))) := ab_other e2 (by omega) gt14
  have c24 : h1[m+2+10]? = some (.inl (.int, 56, .inl (fun _ => 0))) := ab_other e2 (by omega) gt15
  have c25 : h1[m+2+11]? = some (.inl (.int, 16, .inl (fun _ => 0))) := ab_other e2 (by omega) gt17
  have c26 : h1[m+2+12]? = some (.inl (.int, 17, .inl (fun _ => 0))) := ab_other e2 (by omega) gt18
  have c27 : h1[m+2+13]? = some (.inl (.int, 48, .inl (fun _ => 0))) := ab_other e2 (by omega) gt19
  have c28 : h1[m+2+14]? = some (.inl (.int, 48, .inl (fun _ => 0))) := ab_other e2 (by omega) gt20
  have c29 : h1[m+2+15]? = some (.inl (.int, 8, .inl (fun _ => 0))) := ab_other e2 (by omega) gt22
  have c30 : h1[m+2+16]? = some (.inl (.int, 8, .inl (fun _ => 0))) := ab_other e2 (by omega) gt23
  have c31 : h1[m+2+17]? = some (.inl (.int, 32, .inl (fun _ => 0))) := ab_other e2 (by omega) gt24
  have c32 : h1[m+2+18]? = some (.inl (.int, 32, .inl (fun _ => 0))) := ab_other e2 (by omega) gt25
  have c33 : h1[m+2+19]? = some (.inl (.int, 16, .inl (fun _ => 0))) := ab_other e2 (by omega) gt27
  have c34 : h1[m+2+20]? = some (.inl (.int, 768, .inl (fun _ => 0))) := ab_other e2 (by omega) gt28
  have c35 : h1[m+2+21]? = some (.inl (.int, 16, .inl (fun _ => 0))) := ab_other e2 (by omega) gt30
  have c36 : h1[m+2+22]? = some (.inl (.int, 16, .inl (fun _ => 0))) := ab_other e2 (by omega) gt31
  have c37 : h1[m+2+23]? = some (.inl (.int, 16, .inl (fun _ => 0))) := ab_other e2 (by omega) gt32
  have c38 : h1[m+2+24]? = some (.inl (.int, 16, .inl (fun _ => 0))) := ab_other e2 (by omega) gt33
  have c39 : h1[m+2+25]? = some (.inl (.int, 16, .inl (fun _ => 0))) := ab_other e2 (by omega) gt34
  have c40 : h1[m+2+26]? = some (.inl (.int, 16, .inl (fun _ => 0))) := ab_other e2 (by omega) gt35
  have c41 : h1[m+2+27]? = some (.inl (.int, 16, .inl (fun _ => 0))) := ab_other e2 (by omega) gt36
  have c42 : h1[m+2+28]? = some (.inl (.int, 12, .inl (fun _ => 0))) := ab_other e2 (by omega) gt38
  have c43 : h1[m+2+29]? = some (.inl (.int, 12, .inl (fun _ => 0))) := ab_other e2 (by omega) gt39
  have c44 : h1[m+2+30]? = some (.inl (.boolean, 12, .inl (fun _ => 0))) := ab_other e2 (by omega) gt40
  have c45 : h1[m+64]? = some (.inr (13, [.int 0, .int 0, .int 0, .int 0, .ref (m + 64 + 1), .ref (m + 64 + 2), .ref (m + 64 + 3), .ref (m + 64 + 4), .int 0, .ref (m + 64 + 5), .ref (m + 64 + 6), .ref (m + 64 + 7), .ref (m + 64 + 8), .int (-1), .int 0, .int 0, .int 0, .ref (m + 64 + 9)])) := ab_other e2 (by omega) gso
  have c46 : h1[m+64+1]? = some (.inl (.int, 256, .inl (fun _ => 0))) := ab_other e2 (by omega) gs4
  have c47 : h1[m+64+2]? = some (.inl (.boolean, 256, .inl (fun _ => 0))) := ab_other e2 (by omega) gs5
  have c48 : h1[m+64+3]? = some (.inl (.int, 256, .inl (fun _ => 0))) := ab_other e2 (by omega) gs6
  have c49 : h1[m+64+4]? = some (.inl (.int, 12288, .inl (fun _ => 0))) := ab_other e2 (by omega) gs7
  have c50 : h1[m+64+5]? = some (.inl (.int, 256, .inl (fun _ => 0))) := ab_other e2 (by omega) gs9
  have c51 : h1[m+64+6]? = some (.inl (.int, 256, .inl (fun _ => 0))) := ab_other e2 (by omega) gs10
  have c52 : h1[m+64+7]? = some (.inl (.int, 256, .inl (fun _ => 0))) := ab_other e2 (by omega) gs11
  have c53 : h1[m+64+8]? = some (.inl (.int, 1024, .inl (fun _ => 0))) := ab_other e2 (by omega) gs12
  have c54 : h1[m+64+9]? = some (.inl (.int, 32, .inl (fun _ => 0))) := ab_other e2 (by omega) gs17
  have c55 : h1[m+74]? = some (.inr (13, [.int 0, .int 0, .int 0, .int 0, .ref (m + 74 + 1), .ref (m + 74 + 2), .ref (m + 74 + 3), .ref (m + 74 + 4), .int 0, .ref (m + 74 + 5), .ref (m + 74 + 6), .ref (m + 74 + 7), .ref (m + 74 + 8), .int (-1), .int 0, .int 0, .int 0, .ref (m + 74 + 9)])) := ab_other e2 (by omega) gno
  have c56 : h1[m+74+1]? = some (.inl (.int, 256, .inl (fun _ => 0))) := ab_other e2 (by omega) gn4
  have c57 : h1[m+74+2]? = some (.inl (.boolean, 256, .inl (fun _ => 0))) := ab_other e2 (by omega) gn5
  have c58 : h1[m+74+3]? = some (.inl (.int, 256, .inl (fun _ => 0))) := ab_other e2 (by omega) gn6
  have c59 : h1[m+74+4]? = some (.inl (.int, 12288, .inl (fun _ => 0))) := ab_other e2 (by omega) gn7
  have c60 : h1[m+74+5]? = some (.inl (.int, 256, .inl (fun _ => 0))) := ab_other e2 (by omega) gn9
  have c61 : h1[m+74+6]? = some (.inl (.int, 256, .inl (fun _ => 0))) := ab_other e2 (by omega) gn10
  have c62 : h1[m+74+7]? = some (.inl (.int, 256, .inl (fun _ => 0))) := ab_other e2 (by omega) gn11
  have c63 : h1[m+74+8]? = some (.inl (.int, 1024, .inl (fun _ => 0))) := ab_other e2 (by omega) gn12
  have c64 : h1[m+74+9]? = some (.inl (.int, 32, .inl (fun _ => 0))) := ab_other e2 (by omega) gn17
  have fr65 : ab_fr (fun _ => True) h h1 := ab_fr_set (ab_fr_rf _ _) e2 (by trivial)
  clear e2
  refine ab_aload_n d_M_make_5 rfl rfl rfl ?_
  refine ab_callV_a (As := []) (rest := []) d_M_make_6 (r_M_isQuiet c3 c55 c45) (ab_mkC s_M_isQuiet (Nat.le_of_ble_eq_true rfl) (Nat.le_of_ble_eq_true rfl) (by decide) (by decide)) (k11 166 rfl rfl) i_M_isQuiet v_M_isQuiet c3 rfl rfl (Nat.le_of_ble_eq_true rfl) (fun h67 q66 => ?_)
  subst q66
  refine ab_if_ne (tgt := 15) d_M_make_9 (by decide) (fun q68 => ?_) (fun q68 => by exact absurd q68 (by decide))
  refine ab_iload_n d_M_make_15 rfl rfl ?_
  refine ab_i2l d_M_make_16 ?_
  refine ab_lconst (v := 0) d_M_make_17 (by decide) ?_
  refine ab_aload_n d_M_make_18 rfl rfl rfl ?_
  refine ab_get (f := 3) d_M_make_19 c3 rfl (by decide) (k9 236 rfl rfl) rfl ?_
  refine ab_getN (f := 26) d_M_make_22 c14 rfl (by decide) (k8 206 rfl rfl) rfl ?_
  refine ab_iconst (v := 1) d_M_make_25 (by decide) ?_
  refine ab_isub d_M_make_26 ?_
  refine ab_topi (fun x69 ex69 => ?_)
  obtain rfl : x69 = (-1) := ex69.trans (by decide)
  clear ex69
  refine ab_i2l d_M_make_27 ?_
  refine ab_topl (fun x70 ex70 => ?_)
  obtain rfl : x70 = (-1) := ex70.trans (by decide)
  clear ex70
  refine ab_callS_a (As := [.long ((n : Int32).toInt64), .long 0, .long (-1)]) (rest := []) d_M_make_28 (c_M_in) (ab_mkC s_M_in (Nat.le_of_ble_eq_true rfl) (Nat.le_of_ble_eq_true rfl) (by decide) (by decide)) (k10 93 rfl rfl) t_M_in rfl (Nat.le_of_ble_eq_true rfl) (fun h72 q71 => ?_)
  subst q71
  refine ab_topi (fun x73 ex73 => ?_)
  obtain rfl : x73 = 0 := ex73.trans (in_e (lo := 0) (hi := (-1)) (by decide) (by decide) (by decide))
  clear ex73
  refine ab_if_ne (tgt := 36) d_M_make_31 (by decide) (fun q74 => by exact absurd q74 (by decide)) (fun q74 => ?_)
  refine ab_iconst (v := (-1)) d_M_make_34 (by decide) ?_
  exact ab_iret d_M_make_35 rfl (Nat.le_refl _) (Nat.le_refl _) (by unfold sq_M_make; exact ⟨rfl, trivial⟩)
def sq_M_change (a : Int32) (b : Int32) (c : Int32) : Int32 := if a < 0 then ((-1)) else if 2 < a then ((-1)) else ((-1))
set_option maxRecDepth 20000 in
set_option maxHeartbeats 2000000 in
theorem f_M_change {h : List ab_E}     {m : Nat} {w a b c : Int32}     (h0 : at_M0 h m w) : ab_M y_M_change { frames := 1, cells := 0, slots := 0, locals := 40 } [.ref m, .int a, .int b, .int c] h (ab_A (some (.int (sq_M_change a b c))) (fun h1 => True)) := by
  obtain ⟨hM, hT, hO, hS, hN, hD, hR⟩ := h0
  have hM0 := hM; obtain ⟨gmo, gm1, gm14, gm15, gm16, gm17, gm18, gm19, gm21, gm25, gm26⟩ := hM
  replace gmo : h[m]? = some (.inr (12, [.int 0, .ref (m + 1), .int 0, .ref (m + 2), .ref (m + 33), .int 0, .int (-1), .int (-1), .ref (m + 64), .ref (m + 74), .ref (m + 84), .ref (m + 94), .int 1, .int 0, .ref (m + 99), .ref (m + 100), .ref (m + 101), .ref (m + 102), .ref (m + 103), .ref (m + 104), .int 0, .ref (m + 105), .int 0, .int 0, .int 0, .ref (m + 106), .ref (m + 107), .int 0, .int 0])) := gmo
  replace gm1 : h[m + 1]? = some (.inl (.byte, 6000, .inl (fun _ => 0))) := (by rw [a0_M_0 w (by decide)] at gm1; exact gm1)
  replace gm14 : h[m + 99]? = some (.inl (.int, 256, .inl (fun _ => 0))) := (by rw [a0_M_0 w (by decide)] at gm14; exact gm14)
  replace gm15 : h[m + 100]? = some (.inl (.boolean, 256, .inl (fun _ => 0))) := (by rw [a0_M_0 w (by decide)] at gm15; exact gm15)
  replace gm16 : h[m + 101]? = some (.inl (.int, 64, .inl (fun _ => 0))) := (by rw [a0_M_0 w (by decide)] at gm16; exact gm16)
  replace gm17 : h[m + 102]? = some (.inl (.int, 4, .inl (fun _ => 0))) := (by rw [a0_M_0 w (by decide)] at gm17; exact gm17)
  replace gm18 : h[m + 103]? = some (.inl (.int, 4, .inl (fun _ => 0))) := (by rw [a0_M_0 w (by decide)] at gm18; exact gm18)
  replace gm19 : h[m + 104]? = some (.inl (.int, 256, .inl (fun _ => 0))) := (by rw [a0_M_0 w (by decide)] at gm19; exact gm19)
  replace gm21 : h[m + 105]? = some (.inl (.byte, 58000, .inl (fun _ => 0))) := (by rw [a0_M_0 w (by decide)] at gm21; exact gm21)
  replace gm25 : h[m + 106]? = some (.inl (.boolean, 8, .inl (a0_M w 25))) := gm25
  replace gm26 : h[m + 107]? = some (.inl (.boolean, 8, .inl (fun _ => 0))) := (by rw [a0_M_0 w (by decide)] at gm26; exact gm26)
  have hT0 := hT; obtain ⟨gto, gt0, gt3, gt4, gt5, gt6, gt7, gt8, gt13, gt14, gt15, gt17, gt18, gt19, gt20, gt22, gt23, gt24, gt25, gt27, gt28, gt30, gt31, gt32, gt33, gt34, gt35, gt36, gt38, gt39, gt40⟩ := hT
  replace gto : h[m + 2]? = some (.inr (14, [.ref (m + 2 + 1), .int 0, .int 0, .ref (m + 2 + 2), .ref (m + 2 + 3), .ref (m + 2 + 4), .ref (m + 2 + 5), .ref (m + 2 + 6), .ref (m + 2 + 7), .int 0, .int 0, .int 0, .int 0, .ref (m + 2 + 8), .ref (m + 2 + 9), .ref (m + 2 + 10), .int 0, .ref (m + 2 + 11), .ref (m + 2 + 12), .ref (m + 2 + 13), .ref (m + 2 + 14), .int 0, .ref (m + 2 + 15), .ref (m + 2 + 16), .ref (m + 2 + 17), .ref (m + 2 + 18), .int 0, .ref (m + 2 + 19), .ref (m + 2 + 20), .int 0, .ref (m + 2 + 21), .ref (m + 2 + 22), .ref (m + 2 + 23), .ref (m + 2 + 24), .ref (m + 2 + 25), .ref (m + 2 + 26), .ref (m + 2 + 27), .int 0, .ref (m + 2 + 28), .ref (m + 2 + 29), .ref (m + 2 + 30), .int 0, .int 0])) := gto
  replace gt0 : h[m + 2 + 1]? = some (.inl (.byte, 6000, .inl (fun _ => 0))) := gt0
  replace gt3 : h[m + 2 + 2]? = some (.inl (.int, 6002, .inl (fun _ => 0))) := gt3
  replace gt4 : h[m + 2 + 3]? = some (.inl (.int, 6002, .inl (fun _ => 0))) := gt4
  replace gt5 : h[m + 2 + 4]? = some (.inl (.int, 6002, .inl (fun _ => 0))) := gt5
  replace gt6 : h[m + 2 + 5]? = some (.inl (.int, 6002, .inl (fun _ => 0))) := gt6
  replace gt7 : h[m + 2 + 6]? = some (.inl (.boolean, 6002, .inl (fun _ => 0))) := gt7
  replace gt8 : h[m + 2 + 7]? = some (.inl (.int, 6002, .inl (fun _ => 0))) := gt8
  replace gt13 : h[m + 2 + 8]? = some (.inl (.int, 56, .inl (fun _ => 0))) := gt13
  replace gt14 : h[m + 2 + 9]? = some (.inl (.int, 56, .inl (fun _ => 0))) := gt14
  replace gt15 : h[m + 2 + 10]? = some (.inl (.int, 56, .inl (fun _ => 0))) := gt15
  replace gt17 : h[m + 2 + 11]? = some (.inl (.int, 16, .inl (fun _ => 0))) := gt17
  replace gt18 : h[m + 2 + 12]? = some (.inl (.int, 17, .inl (fun _ => 0))) := gt18
  replace gt19 : h[m + 2 + 13]? = some (.inl (.int, 48, .inl (fun _ => 0))) := gt19
  replace gt20 : h[m + 2 + 14]? = some (.inl (.int, 48, .inl (fun _ => 0))) := gt20
  replace gt22 : h[m + 2 + 15]? = some (.inl (.int, 8, .inl (fun _ => 0))) := gt22
  replace gt23 : h[m + 2 + 16]? = some (.inl (.int, 8, .inl (fun _ => 0))) := gt23
  replace gt24 : h[m + 2 + 17]? = some (.inl (.int, 32, .inl (fun _ => 0))) := gt24
  replace gt25 : h[m + 2 + 18]? = some (.inl (.int, 32, .inl (fun _ => 0))) := gt25
  replace gt27 : h[m + 2 + 19]? = some (.inl (.int, 16, .inl (fun _ => 0))) := gt27
  replace gt28 : h[m + 2 + 20]? = some (.inl (.int, 768, .inl (fun _ => 0))) := gt28
  replace gt30 : h[m + 2 + 21]? = some (.inl (.int, 16, .inl (fun _ => 0))) := gt30
  replace gt31 : h[m + 2 + 22]? = some (.inl (.int, 16, .inl (fun _ => 0))) := gt31
  replace gt32 : h[m + 2 + 23]? = some (.inl (.int, 16, .inl (fun _ => 0))) := gt32
  replace gt33 : h[m + 2 + 24]? = some (.inl (.int, 16, .inl (fun _ => 0))) := gt33
  replace gt34 : h[m + 2 + 25]? = some (.inl (.int, 16, .inl (fun _ => 0))) := gt34
  replace gt35 : h[m + 2 + 26]? = some (.inl (.int, 16, .inl (fun _ => 0))) := gt35
  replace gt36 : h[m + 2 + 27]? = some (.inl (.int, 16, .inl (fun _ => 0))) := gt36
  replace gt38 : h[m + 2 + 28]? = some (.inl (.int, 12, .inl (fun _ => 0))) := gt38
  replace gt39 : h[m + 2 + 29]? = some (.inl (.int, 12, .inl (fun _ => 0))) := gt39
  replace gt40 : h[m + 2 + 30]? = some (.inl (.boolean, 12, .inl (fun _ => 0))) := gt40
  have hS0 := hS; obtain ⟨gso, gs4, gs5, gs6, gs7, gs9, gs10, gs11, gs12, gs17⟩ := hS
  replace gso : h[m + 64]? = some (.inr (13, [.int 0, .int 0, .int 0, .int 0, .ref (m + 64 + 1), .ref (m + 64 + 2), .ref (m + 64 + 3), .ref (m + 64 + 4), .int 0, .ref (m + 64 + 5), .ref (m + 64 + 6), .ref (m + 64 + 7), .ref (m + 64 + 8), .int (-1), .int 0, .int 0, .int 0, .ref (m + 64 + 9)])) := gso
  replace gs4 : h[m + 64 + 1]? = some (.inl (.int, 256, .inl (fun _ => 0))) := gs4
  replace gs5 : h[m + 64 + 2]? = some (.inl (.boolean, 256, .inl (fun _ => 0))) := gs5
  replace gs6 : h[m + 64 + 3]? = some (.inl (.int, 256, .inl (fun _ => 0))) := gs6
  replace gs7 : h[m + 64 + 4]? = some (.inl (.int, 12288, .inl (fun _ => 0))) := gs7
  replace gs9 : h[m + 64 + 5]? = some (.inl (.int, 256, .inl (fun _ => 0))) := gs9
  replace gs10 : h[m + 64 + 6]? = some (.inl (.int, 256, .inl (fun _ => 0))) := gs10
  replace gs11 : h[m + 64 + 7]? = some (.inl (.int, 256, .inl (fun _ => 0))) := gs11
  replace gs12 : h[m + 64 + 8]? = some (.inl (.int, 1024, .inl (fun _ => 0))) := gs12
  replace gs17 : h[m + 64 + 9]? = some (.inl (.int, 32, .inl (fun _ => 0))) := gs17
  have hN0 := hN; obtain ⟨gno, gn4, gn5, gn6, gn7, gn9, gn10, gn11, gn12, gn17⟩ := hN
  replace gno : h[m + 74]? = some (.inr (13, [.int 0, .int 0, .int 0, .int 0, .ref (m + 74 + 1), .ref (m + 74 + 2), .ref (m + 74 + 3), .ref (m + 74 + 4), .int 0, .ref (m + 74 + 5), .ref (m + 74 + 6), .ref (m + 74 + 7), .ref (m + 74 + 8), .int (-1), .int 0, .int 0, .int 0, .ref (m + 74 + 9)])) := gno
  replace gn4 : h[m + 74 + 1]? = some (.inl (.int, 256, .inl (fun _ => 0))) := gn4
  replace gn5 : h[m + 74 + 2]? = some (.inl (.boolean, 256, .inl (fun _ => 0))) := gn5
  replace gn6 : h[m + 74 + 3]? = some (.inl (.int, 256, .inl (fun _ => 0))) := gn6
  replace gn7 : h[m + 74 + 4]? = some (.inl (.int, 12288, .inl (fun _ => 0))) := gn7
  replace gn9 : h[m + 74 + 5]? = some (.inl (.int, 256, .inl (fun _ => 0))) := gn9
  replace gn10 : h[m + 74 + 6]? = some (.inl (.int, 256, .inl (fun _ => 0))) := gn10
  replace gn11 : h[m + 74 + 7]? = some (.inl (.int, 256, .inl (fun _ => 0))) := gn11
  replace gn12 : h[m + 74 + 8]? = some (.inl (.int, 1024, .inl (fun _ => 0))) := gn12
  replace gn17 : h[m + 74 + 9]? = some (.inl (.int, 32, .inl (fun _ => 0))) := gn17
  refine ab_of2 (lv := [some (.ref m), some (.int a), some (.int b), some (.int c), none]) 1 rfl rfl (Nat.le_of_ble_eq_true rfl) ?_
  refine ab_aload_n d_M_change_0 rfl rfl rfl ?_
  refine ab_iconst (v := 0) d_M_change_1 (by decide) ?_
  refine ab_put (f := 0) d_M_change_2 gmo rfl (by decide) (k9 233 rfl rfl) rfl rfl (fun _ => rfl) (fun _ => rfl) (Nat.le_of_ble_eq_true rfl) ?_
  show ab_V _ _ _ _ _ _ _ 5 [some (.ref m), some (.int a), some (.int b), some (.int c), none] [] (h.set m (.inr (12, [.int 0, .ref (m + 1), .int 0, .ref (m + 2), .ref (m + 33), .int 0, .int (-1), .int (-1), .ref (m + 64), .ref (m + 74), .ref (m + 84), .ref (m + 94), .int 1, .int 0, .ref (m + 99), .ref (m + 100), .ref (m + 101), .ref (m + 102), .ref (m + 103), .ref (m + 104), .int 0, .ref (m + 105), .int 0, .int 0, .int 0, .ref (m + 106), .ref (m + 107), .int 0, .int 0])))
  refine ab_gen (fun h1 e2 => ?_)
  have c3 : h1[m]? = some (.inr (12, [.int 0, .ref (m + 1), .int 0, .ref (m + 2), .ref (m + 33), .int 0, .int (-1), .int (-1), .ref (m + 64), .ref (m + 74), .ref (m + 84), .ref (m + 94), .int 1, .int 0, .ref (m + 99), .ref (m + 100), .ref (m + 101), .ref (m + 102), .ref (m + 103), .ref (m + 104), .int 0, .ref (m + 105), .int 0, .int 0, .int 0, .ref (m + 106), .ref (m + 107), .int 0, .int 0])) := ab_self e2 gmo
  have c4 : h1[m+1]? = some (.inl (.byte, 6000, .inl (fun _ => 0))) := ab_other e2 (by omega) gm1
  have c5 : h1[m+99]? = some (.inl (.int, 256, .inl (fun _ => 0))) := ab_other e2 (by omega) gm14
  have c6 : h1[m+100]? = some (.inl (.boolean, 256, .inl (fun _ => 0))) := ab_other e2 (by omega) gm15
  have c7 : h1[m+101]? = some (.inl (.int, 64, .inl (fun _ => 0))) := ab_other e2 (by omega) gm16
  have c8 : h1[m+102]? = some (.inl (.int, 4, .inl (fun _ => 0))) := ab_other e2 (by omega) gm17
  have c9 : h1[m+103]? = some (.inl (.int, 4, .inl (fun _ => 0))) := ab_other e2 (by omega) gm18
  have c10 : h1[m+104]? = some (.inl (.int, 256, .inl (fun _ => 0))) := ab_other e2 (by omega) gm19
  have c11 : h1[m+105]? = some (.inl (.byte, 58000, .inl (fun _ => 0))) := ab_other e2 (by omega) gm21
  have c12 : h1[m+106]? = some (.inl (.boolean, 8, .inl (a0_M w 25))) := ab_other e2 (by omega) gm25
  have c13 : h1[m+107]? = some (.inl (.boolean, 8, .inl (fun _ => 0))) := ab_other e2 (by omega) gm26
  have c14 : h1[m+2]? = some (.inr (14, [.ref (m + 2 + 1), .int 0, .int 0, .ref (m + 2 + 2), .ref (m + 2 + 3), .ref (m + 2 + 4), .ref (m + 2 + 5), .ref (m + 2 + 6), .ref (m + 2 + 7), .int 0, .int 0, .int 0, .int 0, .ref (m + 2 + 8), .ref (m + 2 + 9), .ref (m + 2 + 10), .int 0, .ref (m + 2 + 11), .ref (m + 2 + 12), .ref (m + 2 + 13), .ref (m + 2 + 14), .int 0, .ref (m + 2 + 15), .ref (m + 2 + 16), .ref (m + 2 + 17), .ref (m + 2 + 18), .int 0, .ref (m + 2 + 19), .ref (m + 2 + 20), .int 0, .ref (m + 2 + 21), .ref (m + 2 + 22), .ref (m + 2 + 23), .ref (m + 2 + 24), .ref (m + 2 + 25), .ref (m + 2 + 26), .ref (m + 2 + 27), .int 0, .ref (m + 2 + 28), .ref (m + 2 + 29), .ref (m + 2 + 30), .int 0, .int 0])) := ab_other e2 (by omega) gto
  have c15 : h1[m+2+1]? = some (.inl (.byte, 6000, .inl (fun _ => 0))) := ab_other e2 (by omega) gt0
  have c16 : h1[m+2+2]? = some (.inl (.int, 6002, .inl (fun _ => 0))) := ab_other e2 (by omega) gt3
  have c17 : h1[m+2+3]? = some (.inl (.int, 6002, .inl (fun _ => 0))) := ab_other e2 (by omega) gt4
  have c18 : h1[m+2+4]? = some (.inl (.int, 6002, .inl (fun _ => 0))) := ab_other e2 (by omega) gt5
  have c19 : h1[m+2+5]? = some (.inl (.int, 6002, .inl (fun _ => 0))) := ab_other e2 (by omega) gt6
  have c20 : h1[m+2+6]? = some (.inl (.boolean, 6002, .inl (fun _ => 0))) := ab_other e2 (by omega) gt7
  have c21 : h1[m+2+7]? = some (.inl (.int, 6002, .inl (fun _ => 0))) := ab_other e2 (by omega) gt8
  have c22 : h1[m+2+8]? = some (.inl (.int, 56, .inl (fun _ => 0))) := ab_other e2 (by omega) gt13
  have c23 : h1[m+2+9]? = some (.inl (.int, 56, .inl (fun _ => 0))) := ab_other e2 (by omega) gt14
  have c24 : h1[m+2+10]? = some (.inl (.int, 56, .inl (fun _ => 0))) := ab_other e2 (by omega) gt15
  have c25 : h1[m+2+11]? = some (.inl (.int, 16, .inl (fun _ => 0))) := ab_other e2 (by omega) gt17
  have c26 : h1[m+2+12]? = some (.inl (.int, 17, .inl (fun _ => 0))) := ab_other e2 (by omega) gt18
  have c27 : h1[m+2+13]? = some (.inl (.int, 48, .inl (fun _ => 0))) := ab_other e2 (by omega) gt19
  have c28 : h1[m+2+14]? = some (.inl (.int, 48, .inl (fun _ => 0))) := ab_other e2 (by omega) gt20
  have c29 : h1[m+2+15]? = some (.inl (.int, 8, .inl (fun _ => 0))) := ab_other e2 (by omega) gt22
  have c30 : h1[m+2+16]? = some (.inl (.int, 8, .inl (fun _ => 0))) := ab_other e2 (by omega) gt23
  have c31 : h1[m+2+17]? = some (.inl (.int, 32, .inl (fun _ => 0))) := ab_other e2 (by omega) gt24
  have c32 : h1[m+2+18]? = some (.inl (.int, 32, .inl (fun _ => 0))) := ab_other e2 (by omega) gt25
  have c33 : h1[m+2+19]? = some (.inl (.int, 16, .inl (fun _ => 0))) := ab_other e2 (by omega) gt27
  have c34 : h1[m+2+20]? = some (.inl (.int, 768, .inl (fun _ => 0))) := ab_other e2 (by omega) gt28
  have c35 : h1[m+2+21]? = some (.inl (.int, 16, .inl (fun _ => 0))) := ab_other e2 (by omega) gt30
  have c36 : h1[m+2+22]? = some (.inl (.int, 16, .inl (fun _ => 0))) := ab_other e2 (by omega) gt31
  have c37 : h1[m+2+23]? = some (.inl (.int, 16, .inl (fun _ => 0))) := ab_other e2 (by omega) gt32
  have c38 : h1[m+2+24]? = some (.inl (.int, 16, .inl (fun _ => 0))) := ab_other e2 (by omega) gt33
  have c39 : h1[m+2+25]? = some (.inl (.int, 16, .inl (fun _ => 0))) := ab_other e2 (by omega) gt34
  have c40 : h1[m+2+26]? = some (.inl (.int, 16, .inl (fun _ => 0))) := ab_other e2 (by omega) gt35
  have c41 : h1[m+2+27]? = some (.inl (.int, 16, .inl (fun _ => 0))) := ab_other e2 (by omega) gt36
  have c42 : h1[m+2+28]? = some (.inl (.int, 12, .inl (fun _ => 0))) := ab_other e2 (by omega) gt38
  have c43 : h1[m+2+29]? = some (.inl (.int, 12, .inl (fun _ => 0))) := ab_other e2 (by omega) gt39
  have c44 : h1[m+2+30]? = some (.inl (.boolean, 12, .inl (fun _ => 0))) := ab_other e2 (by omega) gt40
  have c45 : h1[m+64]? = some (.inr (13, [.int 0, .int 0, .int 0, .int 0, .ref (m + 64 + 1), .ref (m + 64 + 2), .ref (m + 64 + 3), .ref (m + 64 + 4), .int 0, .ref (m + 64 + 5), .ref (m + 64 + 6), .ref (m + 64 + 7), .ref (m + 64 + 8), .int (-1), .int 0, .int 0, .int 0, .ref (m + 64 + 9)])) := ab_other e2 (by omega) gso
  have c46 : h1[m+64+1]? = some (.inl (.int, 256, .inl (fun _ => 0))) := ab_other e2 (by omega) gs4
  have c47 : h1[m+64+2]? = some (.inl (.boolean, 256, .inl (fun _ => 0))) := ab_other e2 (by omega) gs5
  have c48 : h1[m+64+3]? = some (.inl (.int, 256, .inl (fun _ => 0))) := ab_other e2 (by omega) gs6
  have c49 : h1[m+64+4]? = some (.inl (.int, 12288, .inl (fun _ => 0))) := ab_other e2 (by omega) gs7
  have c50 : h1[m+64+5]? = some (.inl (.int, 256, .inl (fun _ => 0))) := ab_other e2 (by omega) gs9
  have c51 : h1[m+64+6]? = some (.inl (.int, 256, .inl (fun _ => 0))) := ab_other e2 (by omega) gs10
  have c52 : h1[m+64+7]? = some (.inl (.int, 256, .inl (fun _ => 0))) := ab_other e2 (by omega) gs11
  have c53 : h1[m+64+8]? = some (.inl (.int, 1024, .inl (fun _ => 0))) := ab_other e2 (by omega) gs12
  have c54 : h1[m+64+9]? = some (.inl (.int, 32, .inl (fun _ => 0))) := ab_other e2 (by omega) gs17
  have c55 : h1[m+74]? = some (.inr (13, [.int 0, .int 0, .int 0, .int 0, .ref (m + 74 + 1), .ref (m + 74 + 2), .ref (m + 74 + 3), .ref (m + 74 + 4), .int 0, .ref (m + 74 + 5), .ref (m + 74 + 6), .ref (m + 74 + 7), .ref (m + 74 + 8), .int (-1), .int 0, .int 0, .int 0, .ref (m + 74 + 9)])) := ab_other e2 (by omega) gno
  have c56 : h1[m+74+1]? = some (.inl (.int, 256, .inl (fun _ => 0))) := ab_other e2 (by omega) gn4
  have c57 : h1[m+74+2]? = some (.inl (.boolean, 256, .inl (fun _ => 0))) := ab_other e2 (by omega) gn5
  have c58 : h1[m+74+3]? = some (.inl (.int, 256, .inl (fun _ => 0))) := ab_other e2 (by omega) gn6
  have c59 : h1[m+74+4]? = some (.inl (.int, 12288, .inl (fun _ => 0))) := ab_other e2 (by omega) gn7
  have c60 : h1[m+74+5]? = some (.inl (.int, 256, .inl (fun _ => 0))) := ab_other e2 (by omega) gn9
  have c61 : h1[m+74+6]? = some (.inl (.int, 256, .inl (fun _ => 0))) := ab_other e2 (by omega) gn10
  have c62 : h1[m+74+7]? = some (.inl (.int, 256, .inl (fun _ => 0))) := ab_other e2 (by omega) gn11
  have c63 : h1[m+74+8]? = some (.inl (.int, 1024, .inl (fun _ => 0))) := ab_other e2 (by omega) gn12
  have c64 : h1[m+74+9]? = some (.inl (.int, 32, .inl (fun _ => 0))) := ab_other e2 (by omega) gn17
  have fr65 : ab_fr (fun _ => True) h h1 := ab_fr_set (ab_fr_rf _ _) e2 (by trivial)
  clear e2
  refine ab_aload_n d_M_change_5 rfl rfl rfl ?_
  refine ab_callV_a (As := []) (rest := []) d_M_change_6 (r_M_isQuiet c3 c55 c45) (ab_mkC s_M_isQuiet (Nat.le_of_ble_eq_true rfl) (Nat.le_of_ble_eq_true rfl) (by decide) (by decide)) (k11 166 rfl rfl) i_M_isQuiet v_M_isQuiet c3 rfl rfl (Nat.le_of_ble_eq_true rfl) (fun h67 q66 => ?_)
  subst q66
  refine ab_if_ne (tgt := 15) d_M_change_9 (by decide) (fun q68 => ?_) (fun q68 => by exact absurd q68 (by decide))
  refine ab_iload_n d_M_change_15 rfl rfl ?_
  refine ab_i2l d_M_change_16 ?_
  refine ab_lconst (v := 0) d_M_change_17 (by decide) ?_
  refine ab_ldc2 d_M_change_18 (k12 188 rfl rfl) ?_
  refine ab_callS_a (As := [.long ((a : Int32).toInt64), .long 0, .long 2]) (rest := []) d_M_change_21 (c_M_in) (ab_mkC s_M_in (Nat.le_of_ble_eq_true rfl) (Nat.le_of_ble_eq_true rfl) (by decide) (by decide)) (k10 93 rfl rfl) t_M_in rfl (Nat.le_of_ble_eq_true rfl) (fun h70 q69 => ?_)
  subst q69
  by_cases t71 : a < 0
  · refine ab_topi (fun x72 ex72 => ?_)
    obtain rfl : x72 = 0 := ex72.trans (in_1 (lo := 0) (hi := 2) (by decide) (by decide) t71)
    clear ex72
    refine ab_if_eq (tgt := 50) d_M_change_24 (by decide) (fun q73 => ?_) (fun q73 => by exact absurd (by decide) q73)
    refine ab_iconst (v := (-1)) d_M_change_50 (by decide) ?_
    exact ab_iret d_M_change_51 rfl (Nat.le_refl _) (Nat.le_refl _) (by unfold sq_M_change; rw [if_pos t71]; exact ⟨rfl, trivial⟩)
  by_cases t74 : 2 < a
  · refine ab_topi (fun x75 ex75 => ?_)
    obtain rfl : x75 = 0 := ex75.trans (in_2 (lo := 0) (hi := 2) (by decide) (by decide) t74)
    clear ex75
    refine ab_if_eq (tgt := 50) d_M_change_24 (by decide) (fun q76 => ?_) (fun q76 => by exact absurd (by decide) q76)
    refine ab_iconst (v := (-1)) d_M_change_50 (by decide) ?_
    exact ab_iret d_M_change_51 rfl (Nat.le_refl _) (Nat.le_refl _) (by unfold sq_M_change; rw [if_neg t71]; rw [if_pos t74]; exact ⟨rfl, trivial⟩)
  refine ab_topi (fun x77 ex77 => ?_)
  obtain rfl : x77 = 1 := ex77.trans (in_3 (lo := 0) (hi := 2) (by decide) (by decide) t71 t74)
  clear ex77
  refine ab_if_eq (tgt := 50) d_M_change_24 (by decide) (fun q78 => by exact absurd q78 (by decide)) (fun q78 => ?_)
  refine ab_aload_n d_M_change_27 rfl rfl rfl ?_
  refine ab_get (f := 9) d_M_change_28 c3 rfl (by decide) (k10 2 rfl rfl) rfl ?_
  refine ab_iload_n d_M_change_31 rfl rfl ?_
  refine ab_callV_a (As := [.int b]) (rest := []) d_M_change_32 (r_MWorld_isAlive c55 c57) (ab_mkC s_MWorld_isAlive (Nat.le_of_ble_eq_true rfl) (Nat.le_of_ble_eq_true rfl) (by decide) (by decide)) (k12 189 rfl rfl) i_MWorld_isAlive v_MWorld_isAlive c55 rfl rfl (Nat.le_of_ble_eq_true rfl) (fun h80 q79 => ?_)
  subst q79
  refine ab_if_eq (tgt := 50) d_M_change_35 (by decide) (fun q81 => ?_) (fun q81 => by exact absurd (by decide) q81)
  refine ab_iconst (v := (-1)) d_M_change_50 (by decide) ?_
  exact ab_iret d_M_change_51 rfl (Nat.le_refl _) (Nat.le_refl _) (by unfold sq_M_change; rw [if_neg t71]; rw [if_neg t74]; exact ⟨rfl, trivial⟩)
def sq_M_set (a : Int32) (b : Int32) (c : Int32) (d : Int32) : Int32 := ((-1))
set_option maxRecDepth 20000 in
set_option maxHeartbeats 2000000 in
theorem f_M_set {h : List ab_E}     {m : Nat} {w a b c d : Int32}     (h0 : at_M0 h m w) : ab_M y_M_set { frames := 3, cells := 0, slots := 0, locals := 120 } [.ref m, .int a, .int b, .int c, .int d] h (ab_A (some (.int (sq_M_set a b c d))) (fun h1 => True)) := by
  obtain ⟨hM, hT, hO, hS, hN, hD, hR⟩ := h0
  have hM0 := hM; obtain ⟨gmo, gm1, gm14, gm15, gm16, gm17, gm18, gm19, gm21, gm25, gm26⟩ := hM
  replace gmo : h[m]? = some (.inr (12, [.int 0, .ref (m + 1), .int 0, .ref (m + 2), .ref (m + 33), .int 0, .int (-1), .int (-1), .ref (m + 64), .ref (m + 74), .ref (m + 84), .ref (m + 94), .int 1, .int 0, .ref (m + 99), .ref (m + 100), .ref (m + 101), .ref (m + 102), .ref (m + 103), .ref (m + 104), .int 0, .ref (m + 105), .int 0, .int 0, .int 0, .ref (m + 106), .ref (m + 107), .int 0, .int 0])) := gmo
  replace gm1 : h[m + 1]? = some (.inl (.byte, 6000, .inl (fun _ => 0))) := (by rw [a0_M_0 w (by decide)] at gm1; exact gm1)
  replace gm14 : h[m + 99]? = some (.inl (.int, 256, .inl (fun _ => 0))) := (by rw [a0_M_0 w (by decide)] at gm14; exact gm14)
  replace gm15 : h[m + 100]? = some (.inl (.boolean, 256, .inl (fun _ => 0))) := (by rw [a0_M_0 w (by decide)] at gm15; exact gm15)
  replace gm16 : h[m + 101]? = some (.inl (.int, 64, .inl (fun _ => 0))) := (by rw [a0_M_0 w (by decide)] at gm16; exact gm16)
  replace gm17 : h[m + 102]? = some (.inl (.int, 4, .inl (fun _ => 0))) := (by rw [a0_M_0 w (by decide)] at gm17; exact gm17)
  replace gm18 : h[m + 103]? = some (.inl (.int, 4, .inl (fun _ => 0))) := (by rw [a0_M_0 w (by decide)] at gm18; exact gm18)
  replace gm19 : h[m + 104]? = some (.inl (.int, 256, .inl (fun _ => 0))) := (by rw [a0_M_0 w (by decide)] at gm19; exact gm19)
  replace gm21 : h[m + 105]? = some (.inl (.byte, 58000, .inl (fun _ => 0))) := (by rw [a0_M_0 w (by decide)] at gm21; exact gm21)
  replace gm25 : h[m + 106]? = some (.inl (.boolean, 8, .inl (a0_M w 25))) := gm25
  replace gm26 : h[m + 107]? = some (.inl (.boolean, 8, .inl (fun _ => 0))) := (by rw [a0_M_0 w (by decide)] at gm26; exact gm26)
  have hT0 := hT; obtain ⟨gto, gt0, gt3, gt4, gt5, gt6, gt7, gt8, gt13, gt14, gt15, gt17, gt18, gt19, gt20, gt22, gt23, gt24, gt25, gt27, gt28, gt30, gt31, gt32, gt33, gt34, gt35, gt36, gt38, gt39, gt40⟩ := hT
  replace gto : h[m + 2]? = some (.inr (14, [.ref (m + 2 + 1), .int 0, .int 0, .ref (m + 2 + 2), .ref (m + 2 + 3), .ref (m + 2 + 4), .ref (m + 2 + 5), .ref (m + 2 + 6), .ref (m + 2 + 7), .int 0, .int 0, .int 0, .int 0, .ref (m + 2 + 8), .ref (m + 2 + 9), .ref (m + 2 + 10), .int 0, .ref (m + 2 + 11), .ref (m + 2 + 12), .ref (m + 2 + 13), .ref (m + 2 + 14), .int 0, .ref (m + 2 + 15), .ref (m + 2 + 16), .ref (m + 2 + 17), .ref (m + 2 + 18), .int 0, .ref (m + 2 + 19), .ref (m + 2 + 20), .int 0, .ref (m + 2 + 21), .ref (m + 2 + 22), .ref (m + 2 + 23), .ref (m + 2 + 24), .ref (m + 2 + 25), .ref (m + 2 + 26), .ref (m + 2 + 27), .int 0, .ref (m + 2 + 28), .ref (m + 2 + 29), .ref (m + 2 + 30), .int 0, .int 0])) := gto
  replace gt0 : h[m + 2 + 1]? = some (.inl (.byte, 6000, .inl (fun _ => 0))) := gt0
  replace gt3 : h[m + 2 + 2]? = some (.inl (.int, 6002, .inl (fun _ => 0))) := gt3
  replace gt4 : h[m + 2 + 3]? = some (.inl (.int, 6002, .inl (fun _ => 0))) := gt4
  replace gt5 : h[m + 2 + 4]? = some (.inl (.int, 6002, .inl (fun _ => 0))) := gt5
  replace gt6 : h[m + 2 + 5]? = some (.inl (.int, 6002, .inl (fun _ => 0))) := gt6
  replace gt7 : h[m + 2 + 6]? = some (.inl (.boolean, 6002, .inl (fun _ => 0))) := gt7
  replace gt8 : h[m + 2 + 7]? = some (.inl (.int, 6002, .inl (fun _ => 0))) := gt8
  replace gt13 : h[m + 2 + 8]? = some (.inl (.int, 56, .inl (fun _ => 0))) := gt13
  replace gt14 : h[m + 2 + 9]? = some (.inl (.int, 56, .inl (fun _ => 0))) := gt14
  replace gt15 : h[m + 2 + 10]? = some (.inl (.int, 56, .inl (fun _ => 0))) := gt15
  replace gt17 : h[m + 2 + 11]? = some (.inl (.int, 16, .inl (fun _ => 0))) := gt17
  replace gt18 : h[m + 2 + 12]? = some (.inl (.int, 17, .inl (fun _ => 0))) := gt18
  replace gt19 : h[m + 2 + 13]? = some (.inl (.int, 48, .inl (fun _ => 0))) := gt19
  replace gt20 : h[m + 2 + 14]? = some (.inl (.int, 48, .inl (fun _ => 0))) := gt20
  replace gt22 : h[m + 2 + 15]? = some (.inl (.int, 8, .inl (fun _ => 0))) := gt22
  replace gt23 : h[m + 2 + 16]? = some (.inl (.int, 8, .inl (fun _ => 0))) := gt23
  replace gt24 : h[m + 2 + 17]? = some (.inl (.int, 32, .inl (fun _ => 0))) := gt24
  replace gt25 : h[m + 2 + 18]? = some (.inl (.int, 32, .inl (fun _ => 0))) := gt25
  replace gt27 : h[m + 2 + 19]? = some (.inl (.int, 16, .inl (fun _ => 0))) := gt27
  replace gt28 : h[m + 2 + 20]? = some (.inl (.int, 768, .inl (fun _ => 0))) := gt28
  replace gt30 : h[m + 2 + 21]? = some (.inl (.int, 16, .inl (fun _ => 0))) := gt30
  replace gt31 : h[m + 2 + 22]? = some (.inl (.int, 16, .inl (fun _ => 0))) := gt31
  replace gt32 : h[m + 2 + 23]? = some (.inl (.int, 16, .inl (fun _ => 0))) := gt32
  replace gt33 : h[m + 2 + 24]? = some (.inl (.int, 16, .inl (fun _ => 0))) := gt33
  replace gt34 : h[m + 2 + 25]? = some (.inl (.int, 16, .inl (fun _ => 0))) := gt34
  replace gt35 : h[m + 2 + 26]? = some (.inl (.int, 16, .inl (fun _ => 0))) := gt35
  replace gt36 : h[m + 2 + 27]? = some (.inl (.int, 16, .inl (fun _ => 0))) := gt36
  replace gt38 : h[m + 2 + 28]? = some (.inl (.int, 12, .inl (fun _ => 0))) := gt38
  replace gt39 : h[m + 2 + 29]? = some (.inl (.int, 12, .inl (fun _ => 0))) := gt39
  replace gt40 : h[m + 2 + 30]? = some (.inl (.boolean, 12, .inl (fun _ => 0))) := gt40
  have hS0 := hS; obtain ⟨gso, gs4, gs5, gs6, gs7, gs9, gs10, gs11, gs12, gs17⟩ := hS
  replace gso : h[m + 64]? = some (.inr (13, [.int 0, .int 0, .int 0, .int 0, .ref (m + 64 + 1), .ref (m + 64 + 2), .ref (m + 64 + 3), .ref (m + 64 + 4), .int 0, .ref (m + 64 + 5), .ref (m + 64 + 6), .ref (m + 64 + 7), .ref (m + 64 + 8), .int (-1), .int 0, .int 0, .int 0, .ref (m + 64 + 9)])) := gso
  replace gs4 : h[m + 64 + 1]? = some (.inl (.int, 256, .inl (fun _ => 0))) := gs4
  replace gs5 : h[m + 64 + 2]? = some (.inl (.boolean, 256, .inl (fun _ => 0))) := gs5
  replace gs6 : h[m + 64 + 3]? = some (.inl (.int, 256, .inl (fun _ => 0))) := gs6
  replace gs7 : h[m + 64 + 4]? = some (.inl (.int, 12288, .inl (fun _ => 0))) := gs7
  replace gs9 : h[m + 64 + 5]? = some (.inl (.int, 256, .inl (fun _ => 0))) := gs9
  replace gs10 : h[m + 64 + 6]? = some (.inl (.int, 256, .inl (fun _ => 0))) := gs10
  replace gs11 : h[m + 64 + 7]? = some (.inl (.int, 256, .inl (fun _ => 0))) := gs11
  replace gs12 : h[m + 64 + 8]? = some (.inl (.int, 1024, .inl (fun _ => 0))) := gs12
  replace gs17 : h[m + 64 + 9]? = some (.inl (.int, 32, .inl (fun _ => 0))) := gs17
  have hN0 := hN; obtain ⟨gno, gn4, gn5, gn6, gn7, gn9, gn10, gn11, gn12, gn17⟩ := hN
  replace gno : h[m + 74]? = some (.inr (13, [.int 0, .int 0, .int 0, .int 0, .ref (m + 74 + 1), .ref (m + 74 + 2), .ref (m + 74 + 3), .ref (m + 74 + 4), .int 0, .ref (m + 74 + 5), .ref (m + 74 + 6), .ref (m + 74 + 7), .ref (m + 74 + 8), .int (-1), .int 0, .int 0, .int 0, .ref (m + 74 + 9)])) := gno
  replace gn4 : h[m + 74 + 1]? = some (.inl (.int, 256, .inl (fun _ => 0))) := gn4
  replace gn5 : h[m + 74 + 2]? = some (.inl (.boolean, 256, .inl (fun _ => 0))) := gn5
  replace gn6 : h[m + 74 + 3]? = some (.inl (.int, 256, .inl (fun _ => 0))) := gn6
  replace gn7 : h[m + 74 + 4]? = some (.inl (.int, 12288, .inl (fun _ => 0))) := gn7
  replace gn9 : h[m + 74 + 5]? = some (.inl (.int, 256, .inl (fun _ => 0))) := gn9
  replace gn10 : h[m + 74 + 6]? = some (.inl (.int, 256, .inl (fun _ => 0))) := gn10
  replace gn11 : h[m + 74 + 7]? = some (.inl (.int, 256, .inl (fun _ => 0))) := gn11
  replace gn12 : h[m + 74 + 8]? = some (.inl (.int, 1024, .inl (fun _ => 0))) := gn12
  replace gn17 : h[m + 74 + 9]? = some (.inl (.int, 32, .inl (fun _ => 0))) := gn17
  refine ab_of2 (lv := [some (.ref m), some (.int a), some (.int b), some (.int c), some (.int d), none, none]) 2 rfl rfl (Nat.le_of_ble_eq_true rfl) ?_
  refine ab_aload_n d_M_set_0 rfl rfl rfl ?_
  refine ab_iconst (v := 0) d_M_set_1 (by decide) ?_
  refine ab_put (f := 0) d_M_set_2 gmo rfl (by decide) (k9 233 rfl rfl) rfl rfl (fun _ => rfl) (fun _ => rfl) (Nat.le_of_ble_eq_true rfl) ?_
  show ab_V _ _ _ _ _ _ _ 5 [some (.ref m), some (.int a), some (.int b), some (.int c), some (.int d), none, none] [] (h.set m (.inr (12, [.int 0, .ref (m + 1), .int 0, .ref (m + 2), .ref (m + 33), .int 0, .int (-1), .int (-1), .ref (m + 64), .ref (m + 74), .ref (m + 84), .ref (m + 94), .int 1, .int 0, .ref (m + 99), .ref (m + 100), .ref (m + 101), .ref (m + 102), .ref (m + 103), .ref (m + 104), .int 0, .ref (m + 105), .int 0, .int 0, .int 0, .ref (m + 106), .ref (m + 107), .int 0, .int 0])))
  refine ab_gen (fun h1 e2 => ?_)
  have c3 : h1[m]? = some (.inr (12, [.int 0, .ref (m + 1), .int 0, .ref (m + 2), .ref (m + 33), .int 0, .int (-1), .int (-1), .ref (m + 64), .ref (m + 74), .ref (m + 84), .ref (m + 94), .int 1, .int 0, .ref (m + 99), .ref (m + 100), .ref (m + 101), .ref (m + 102), .ref (m + 103), .ref (m + 104), .int 0, .ref (m + 105), .int 0, .int 0, .int 0, .ref (m + 106), .ref (m + 107), .int 0, .int 0])) := ab_self e2 gmo
  have c4 : h1[m+1]? = some (.inl (.byte, 6000, .inl (fun _ => 0))) := ab_other e2 (by omega) gm1
  have c5 : h1[m+99]? = some (.inl (.int, 256, .inl (fun _ => 0))) := ab_other e2 (by omega) gm14
  have c6 : h1[m+100]? = some (.inl (.boolean, 256, .inl (fun _ => 0))) := ab_other e2 (by omega) gm15
  have c7 : h1[m+101]? = some (.inl (.int, 64, .inl (fun _ => 0))) := ab_other e2 (by omega) gm16
  have c8 : h1[m+102]? = some (.inl (.int, 4, .inl (fun _ => 0))) := ab_other e2 (by omega) gm17
  have c9 : h1[m+103]? = some (.inl (.int, 4, .inl (fun _ => 0))) := ab_other e2 (by omega) gm18
  have c10 : h1[m+104]? = some (.inl (.int, 256, .inl (fun _ => 0))) := ab_other e2 (by omega) gm19
  have c11 : h1[m+105]? = some (.inl (.byte, 58000, .inl (fun _ => 0))) := ab_other e2 (by omega) gm21
  have c12 : h1[m+106]? = some (.inl (.boolean, 8, .inl (a0_M w 25))) := ab_other e2 (by omega) gm25
  have c13 : h1[m+107]? = some (.inl (.boolean, 8, .inl (fun _ => 0))) := ab_other e2 (by omega) gm26
  have c14 : h1[m+2]? = some (.inr (14, [.ref (m + 2 + 1), .int 0, .int 0, .ref (m + 2 + 2), .ref (m + 2 + 3), .ref (m + 2 + 4), .ref (m + 2 + 5), .ref (m + 2 + 6), .ref (m + 2 + 7), .int 0, .int 0, .int 0, .int 0, .ref (m + 2 + 8), .ref (m + 2 + 9), .ref (m + 2 + 10), .int 0, .ref (m + 2 + 11), .ref (m + 2 + 12), .ref (m + 2 + 13), .ref (m + 2 + 14), .int 0, .ref (m + 2 + 15), .ref (m + 2 + 16), .ref (m + 2 + 17), .ref (m + 2 + 18), .int 0, .ref (m + 2 + 19), .ref (m + 2 + 20), .int 0, .ref (m + 2 + 21), .ref (m + 2 + 22), .ref (m + 2 + 23), .ref (m + 2 + 24), .ref (m + 2 + 25), .ref (m + 2 + 26), .ref (m + 2 + 27), .int 0, .ref (m + 2 + 28), .ref (m + 2 + 29), .ref (m + 2 + 30), .int 0, .int 0])) := ab_other e2 (by omega) gto
  have c15 : h1[m+2+1]? = some (.inl (.byte, 6000, .inl (fun _ => 0))) := ab_other e2 (by omega) gt0
  have c16 : h1[m+2+2]? = some (.inl (.int, 6002, .inl (fun _ => 0))) := ab_other e2 (by omega) gt3
  have c17 : h1[m+2+3]? = some (.inl (.int, 6002, .inl (fun _ => 0))) := ab_other e2 (by omega) gt4
  have c18 : h1[m+2+4]? = some (.inl (.int, 6002, .inl (fun _ => 0))) := ab_other e2 (by omega) gt5
  have c19 : h1[m+2+5]? = some (.inl (.int, 6002, .inl (fun _ => 0))) := ab_other e2 (by omega) gt6
  have c20 : h1[m+2+6]? = some (.inl (.boolean, 6002, .inl (fun _ => 0))) := ab_other e2 (by omega) gt7
  have c21 : h1[m+2+7]? = some (.inl (.int, 6002, .inl (fun _ => 0))) := ab_other e2 (by omega) gt8
  have c22 : h1[m+2+8]? = some (.inl (.int, 56, .inl (fun _ => 0))) := ab_other e2 (by omega) gt13
  have c23 : h1[m+2+9]? = some (.inl (.int, 56, .inl (fun _ => 0))) := ab_other e2 (by omega) gt14
  have c24 : h1[m+2+10]? = some (.inl (.int, 56, .inl (fun _ => 0))) := ab_other e2 (by omega) gt15
  have c25 : h1[m+2+11]? = some (.inl (.int, 16, .inl (fun _ => 0))) := ab_other e2 (by omega) gt17
  have c26 : h1[m+2+12]? = some (.inl (.int, 17, .inl (fun _ => 0))) := ab_other e2 (by omega) gt18
  have c27 : h1[m+2+13]? = some (.inl (.int, 48, .inl (fun _ => 0))) := ab_other e2 (by omega) gt19
  have c28 : h1[m+2+14]? = some (.inl (.int, 48, .inl (fun _ => 0))) := ab_other e2 (by omega) gt20
  have c29 : h1[m+2+15]? = some (.inl (.int, 8, .inl (fun _ => 0))) := ab_other e2 (by omega) gt22
  have c30 : h1[m+2+16]? = some (.inl (.int, 8, .inl (fun _ => 0))) := ab_other e2 (by omega) gt23
  have c31 : h1[m+2+17]? = some (.inl (.int, 32, .inl (fun _ => 0))) := ab_other e2 (by omega) gt24
  have c32 : h1[m+2+18]? = some (.inl (.int, 32, .inl (fun _ => 0))) := ab_other e2 (by omega) gt25
  have c33 : h1[m+2+19]? = some (.inl (.int, 16, .inl (fun _ => 0))) := ab_other e2 (by omega) gt27
  have c34 : h1[m+2+20]? = some (.inl (.int, 768, .inl (fun _ => 0))) := ab_other e2 (by omega) gt28
  have c35 : h1[m+2+21]? = some (.inl (.int, 16, .inl (fun _ => 0))) := ab_other e2 (by omega) gt30
  have c36 : h1[m+2+22]? = some (.inl (.int, 16, .inl (fun _ => 0))) := ab_other e2 (by omega) gt31
  have c37 : h1[m+2+23]? = some (.inl (.int, 16, .inl (fun _ => 0))) := ab_other e2 (by omega) gt32
  have c38 : h1[m+2+24]? = some (.inl (.int, 16, .inl (fun _ => 0))) := ab_other e2 (by omega) gt33
  have c39 : h1[m+2+25]? = some (.inl (.int, 16, .inl (fun _ => 0))) := ab_other e2 (by omega) gt34
  have c40 : h1[m+2+26]? = some (.inl (.int, 16, .inl (fun _ => 0))) := ab_other e2 (by omega) gt35
  have c41 : h1[m+2+27]? = some (.inl (.int, 16, .inl (fun _ => 0))) := ab_other e2 (by omega) gt36
  have c42 : h1[m+2+28]? = some (.inl (.int, 12, .inl (fun _ => 0))) := ab_other e2 (by omega) gt38
  have c43 : h1[m+2+29]? = some (.inl (.int, 12, .inl (fun _ => 0))) := ab_other e2 (by omega) gt39
  have c44 : h1[m+2+30]? = some (.inl (.boolean, 12, .inl (fun _ => 0))) := ab_other e2 (by omega) gt40
  have c45 : h1[m+64]? = some (.inr (13, [.int 0, .int 0, .int 0, .int 0, .ref (m + 64 + 1), .ref (m + 64 + 2), .ref (m + 64 + 3), .ref (m + 64 + 4), .int 0, .ref (m + 64 + 5), .ref (m + 64 + 6), .ref (m + 64 + 7), .ref (m + 64 + 8), .int (-1), .int 0, .int 0, .int 0, .ref (m + 64 + 9)])) := ab_other e2 (by omega) gso
  have c46 : h1[m+64+1]? = some (.inl (.int, 256, .inl (fun _ => 0))) := ab_other e2 (by omega) gs4
  have c47 : h1[m+64+2]? = some (.inl (.boolean, 256, .inl (fun _ => 0))) := ab_other e2 (by omega) gs5
  have c48 : h1[m+64+3]? = some (.inl (.int, 256, .inl (fun _ => 0))) := ab_other e2 (by omega) gs6
  have c49 : h1[m+64+4]? = some (.inl (.int, 12288, .inl (fun _ => 0))) := ab_other e2 (by omega) gs7
  have c50 : h1[m+64+5]? = some (.inl (.int, 256, .inl (fun _ => 0))) := ab_other e2 (by omega) gs9
  have c51 : h1[m+64+6]? = some (.inl (.int, 256, .inl (fun _ => 0))) := ab_other e2 (by omega) gs10
  have c52 : h1[m+64+7]? = some (.inl (.int, 256, .inl (fun _ => 0))) := ab_other e2 (by omega) gs11
  have c53 : h1[m+64+8]? = some (.inl (.int, 1024, .inl (fun _ => 0))) := ab_other e2 (by omega) gs12
  have c54 : h1[m+64+9]? = some (.inl (.int, 32, .inl (fun _ => 0))) := ab_other e2 (by omega) gs17
  have c55 : h1[m+74]? = some (.inr (13, [.int 0, .int 0, .int 0, .int 0, .ref (m + 74 + 1), .ref (m + 74 + 2), .ref (m + 74 + 3), .ref (m + 74 + 4), .int 0, .ref (m + 74 + 5), .ref (m + 74 + 6), .ref (m + 74 + 7), .ref (m + 74 + 8), .int (-1), .int 0, .int 0, .int 0, .ref (m + 74 + 9)])) := ab_other e2 (by omega) gno
  have c56 : h1[m+74+1]? = some (.inl (.int, 256, .inl (fun _ => 0))) := ab_other e2 (by omega) gn4
  have c57 : h1[m+74+2]? = some (.inl (.boolean, 256, .inl (fun _ => 0))) := ab_other e2 (by omega) gn5
  have c58 : h1[m+74+3]? = some (.inl (.int, 256, .inl (fun _ => 0))) := ab_other e2 (by omega) gn6
  have c59 : h1[m+74+4]? = some (.inl (.int, 12288, .inl (fun _ => 0))) := ab_other e2 (by omega) gn7
  have c60 : h1[m+74+5]? = some (.inl (.int, 256, .inl (fun _ => 0))) := ab_other e2 (by omega) gn9
  have c61 : h1[m+74+6]? = some (.inl (.int, 256, .inl (fun _ => 0))) := ab_other e2 (by omega) gn10
  have c62 : h1[m+74+7]? = some (.inl (.int, 256, .inl (fun _ => 0))) := ab_other e2 (by omega) gn11
  have c63 : h1[m+74+8]? = some (.inl (.int, 1024, .inl (fun _ => 0))) := ab_other e2 (by omega) gn12
  have c64 : h1[m+74+9]? = some (.inl (.int, 32, .inl (fun _ => 0))) := ab_other e2 (by omega) gn17
  have fr65 : ab_fr (fun _ => True) h h1 := ab_fr_set (ab_fr_rf _ _) e2 (by trivial)
  clear e2
  refine ab_aload_n d_M_set_5 rfl rfl rfl ?_
  refine ab_callV_a (As := []) (rest := []) d_M_set_6 (r_M_isQuiet c3 c55 c45) (ab_mkC s_M_isQuiet (Nat.le_of_ble_eq_true rfl) (Nat.le_of_ble_eq_true rfl) (by decide) (by decide)) (k11 166 rfl rfl) i_M_isQuiet v_M_isQuiet c3 rfl rfl (Nat.le_of_ble_eq_true rfl) (fun h67 q66 => ?_)
  subst q66
  refine ab_if_ne (tgt := 15) d_M_set_9 (by decide) (fun q68 => ?_) (fun q68 => by exact absurd q68 (by decide))
  refine ab_aload_n d_M_set_15 rfl rfl rfl ?_
  refine ab_iload_n d_M_set_16 rfl rfl ?_
  refine ab_iload_n d_M_set_17 rfl rfl ?_
  refine ab_iload_n d_M_set_18 rfl rfl ?_
  refine ab_callV_a (As := [.int a, .int b, .int c]) (rest := []) d_M_set_19 (r_M_isMember c3 c14) (ab_mkC s_M_isMember (Nat.le_of_ble_eq_true rfl) (Nat.le_of_ble_eq_true rfl) (by decide) (by decide)) (k12 201 rfl rfl) i_M_isMember v_M_isMember c3 rfl rfl (Nat.le_of_ble_eq_true rfl) (fun h70 q69 => ?_)
  subst q69
  refine ab_if_ne (tgt := 27) d_M_set_22 (by decide) (fun q71 => by exact absurd q71 (by decide)) (fun q71 => ?_)
  refine ab_iconst (v := (-1)) d_M_set_25 (by decide) ?_
  exact ab_iret d_M_set_26 rfl (Nat.le_refl _) (Nat.le_refl _) (by unfold sq_M_set; exact ⟨rfl, trivial⟩)
def sq_M_has (a : Int32) (b : Int32) : Int32 := (0)
set_option maxRecDepth 20000 in
set_option maxHeartbeats 2000000 in
theorem f_M_has {h : List ab_E}   {m : Nat} {w a b : Int32}   (h0 : at_M0 h m w) : ab_M y_M_has { frames := 2, cells := 0, slots := 0, locals := 80 } [.ref m, .int a, .int b] h (ab_A (some (.int (sq_M_has a b))) (fun h1 => True)) := by
  obtain ⟨hM, hT, hO, hS, hN, hD, hR⟩ := h0
  have hM0 := hM; obtain ⟨gmo, gm1, gm14, gm15, gm16, gm17, gm18, gm19, gm21, gm25, gm26⟩ := hM
  replace gmo : h[m]? = some (.inr (12, [.int 0, .ref (m + 1), .int 0, .ref (m + 2), .ref (m + 33), .int 0, .int (-1), .int (-1), .ref (m + 64), .ref (m + 74), .ref (m + 84), .ref (m + 94), .int 1, .int 0, .ref (m + 99), .ref (m + 100), .ref (m + 101), .ref (m + 102), .ref (m + 103), .ref (m + 104), .int 0, .ref (m + 105), .int 0, .int 0, .int 0, .ref (m + 106), .ref (m + 107), .int 0, .int 0])) := gmo
  replace gm1 : h[m + 1]? = some (.inl (.byte, 6000, .inl (fun _ => 0))) := (by rw [a0_M_0 w (by decide)] at gm1; exact gm1)
  replace gm14 : h[m + 99]? = some (.inl (.int, 256, .inl (fun _ => 0))) := (by rw [a0_M_0 w (by decide)] at gm14; exact gm14)
  replace gm15 : h[m + 100]? = some (.inl (.boolean, 256, .inl (fun _ => 0))) := (by rw [a0_M_0 w (by decide)] at gm15; exact gm15)
  replace gm16 : h[m + 101]? = some (.inl (.int, 64, .inl (fun _ => 0))) := (by rw [a0_M_0 w (by decide)] at gm16; exact gm16)
  replace gm17 : h[m + 102]? = some (.inl (.int, 4, .inl (fun _ => 0))) := (by rw [a0_M_0 w (by decide)] at gm17; exact gm17)
  replace gm18 : h[m + 103]? = some (.inl (.int, 4, .inl (fun _ => 0))) := (by rw [a0_M_0 w (by decide)] at gm18; exact gm18)
  replace gm19 : h[m + 104]? = some (.inl (.int, 256, .inl (fun _ => 0))) := (by rw [a0_M_0 w (by decide)] at gm19; exact gm19)
  replace gm21 : h[m + 105]? = some (.inl (.byte, 58000, .inl (fun _ => 0))) := (by rw [a0_M_0 w (by decide)] at gm21; exact gm21)
  replace gm25 : h[m + 106]? = some (.inl (.boolean, 8, .inl (a0_M w 25))) := gm25
  replace gm26 : h[m + 107]? = some (.inl (.boolean, 8, .inl (fun _ => 0))) := (by rw [a0_M_0 w (by decide)] at gm26; exact gm26)
  have hT0 := hT; obtain ⟨gto, gt0, gt3, gt4, gt5, gt6, gt7, gt8, gt13, gt14, gt15, gt17, gt18, gt19, gt20, gt22, gt23, gt24, gt25, gt27, gt28, gt30, gt31, gt32, gt33, gt34, gt35, gt36, gt38, gt39, gt40⟩ := hT
  replace gto : h[m + 2]? = some (.inr (14, [.ref (m + 2 + 1), .int 0, .int 0, .ref (m + 2 + 2), .ref (m + 2 + 3), .ref (m + 2 + 4), .ref (m + 2 + 5), .ref (m + 2 + 6), .ref (m + 2 + 7), .int 0, .int 0, .int 0, .int 0, .ref (m + 2 + 8), .ref (m + 2 + 9), .ref (m + 2 + 10), .int 0, .ref (m + 2 + 11), .ref (m + 2 + 12), .ref (m + 2 + 13), .ref (m + 2 + 14), .int 0, .ref (m + 2 + 15), .ref (m + 2 + 16), .ref (m + 2 + 17), .ref (m + 2 + 18), .int 0, .ref (m + 2 + 19), .ref (m + 2 + 20), .int 0, .ref (m + 2 + 21), .ref (m + 2 + 22), .ref (m + 2 + 23), .ref (m + 2 + 24), .ref (m + 2 + 25), .ref (m + 2 + 26), .ref (m + 2 + 27), .int 0, .ref (m + 2 + 28), .ref (m + 2 + 29), .ref (m + 2 + 30), .int 0, .int 0])) := gto
  replace gt0 : h[m + 2 + 1]? = some (.inl (.byte, 6000, .inl (fun _ => 0))) := gt0
  replace gt3 : h[m + 2 + 2]? = some (.inl (.int, 6002, .inl (fun _ => 0))) := gt3
  replace gt4 : h[m + 2 + 3]? = some (.inl (.int, 6002, .inl (fun _ => 0))) := gt4
  replace gt5 : h[m + 2 + 4]? = some (.inl (.int, 6002, .inl (fun _ => 0))) := gt5
  replace gt6 : h[m + 2 + 5]? = some (.inl (.int, 6002, .inl (fun _ => 0))) := gt6
  replace gt7 : h[m + 2 + 6]? = some (.inl (.boolean, 6002, .inl (fun _ => 0))) := gt7
  replace gt8 : h[m + 2 + 7]? = some (.inl (.int, 6002, .inl (fun _ => 0))) := gt8
  replace gt13 : h[m + 2 + 8]? = some (.inl (.int, 56, .inl (fun _ => 0))) := gt13
  replace gt14 : h[m + 2 + 9]? = some (.inl (.int, 56, .inl (fun _ => 0))) := gt14
  replace gt15 : h[m + 2 + 10]? = some (.inl (.int, 56, .inl (fun _ => 0))) := gt15
  replace gt17 : h[m + 2 + 11]? = some (.inl (.int, 16, .inl (fun _ => 0))) := gt17
  replace gt18 : h[m + 2 + 12]? = some (.inl (.int, 17, .inl (fun _ => 0))) := gt18
  replace gt19 : h[m + 2 + 13]? = some (.inl (.int, 48, .inl (fun _ => 0))) := gt19
  replace gt20 : h[m + 2 + 14]? = some (.inl (.int, 48, .inl (fun _ => 0))) := gt20
  replace gt22 : h[m + 2 + 15]? = some (.inl (.int, 8, .inl (fun _ => 0))) := gt22
  replace gt23 : h[m + 2 + 16]? = some (.inl (.int, 8, .inl (fun _ => 0))) := gt23
  replace gt24 : h[m + 2 + 17]? = some (.inl (.int, 32, .inl (fun _ => 0))) := gt24
  replace gt25 : h[m + 2 + 18]? = some (.inl (.int, 32, .inl (fun _ => 0))) := gt25
  replace gt27 : h[m + 2 + 19]? = some (.inl (.int, 16, .inl (fun _ => 0))) := gt27
  replace gt28 : h[m + 2 + 20]? = some (.inl (.int, 768, .inl (fun _ => 0))) := gt28
  replace gt30 : h[m + 2 + 21]? = some (.inl (.int, 16, .inl (fun _ => 0))) := gt30
  replace gt31 : h[m + 2 + 22]? = some (.inl (.int, 16, .inl (fun _ => 0))) := gt31
  replace gt32 : h[m + 2 + 23]? = some (.inl (.int, 16, .inl (fun _ => 0))) := gt32
  replace gt33 : h[m + 2 + 24]? = some (.inl (.int, 16, .inl (fun _ => 0))) := gt33
  replace gt34 : h[m + 2 + 25]? = some (.inl (.int, 16, .inl (fun _ => 0))) := gt34
  replace gt35 : h[m + 2 + 26]? = some (.inl (.int, 16, .inl (fun _ => 0))) := gt35
  replace gt36 : h[m + 2 + 27]? = some (.inl (.int, 16, .inl (fun _ => 0))) := gt36
  replace gt38 : h[m + 2 + 28]? = some (.inl (.int, 12, .inl (fun _ => 0))) := gt38
  replace gt39 : h[m + 2 + 29]? = some (.inl (.int, 12, .inl (fun _ => 0))) := gt39
  replace gt40 : h[m + 2 + 30]? = some (.inl (.boolean, 12, .inl (fun _ => 0))) := gt40
  refine ab_of2 (lv := [some (.ref m), some (.int a), some (.int b)]) 0 rfl rfl (Nat.le_of_ble_eq_true rfl) ?_
  refine ab_aload_n d_M_has_0 rfl rfl rfl ?_
  refine ab_iconst (v := 0) d_M_has_1 (by decide) ?_
  refine ab_put (f := 0) d_M_has_2 gmo rfl (by decide) (k9 233 rfl rfl) rfl rfl (fun _ => rfl) (fun _ => rfl) (Nat.le_of_ble_eq_true rfl) ?_
  show ab_V _ _ _ _ _ _ _ 5 [some (.ref m), some (.int a), some (.int b)] [] (h.set m (.inr (12, [.int 0, .ref (m + 1), .int 0, .ref (m + 2), .ref (m + 33), .int 0, .int (-1), .int (-1), .ref (m + 64), .ref (m + 74), .ref (m + 84), .ref (m + 94), .int 1, .int 0, .ref (m + 99), .ref (m + 100), .ref (m + 101), .ref (m + 102), .ref (m + 103), .ref (m + 104), .int 0, .ref (m + 105), .int 0, .int 0, .int 0, .ref (m + 106), .ref (m + 107), .int 0, .int 0])))
  refine ab_gen (fun h1 e2 => ?_)
  have c3 : h1[m]? = some (.inr (12, [.int 0, .ref (m + 1), .int 0, .ref (m + 2), .ref (m + 33), .int 0, .int (-1), .int (-1), .ref (m + 64), .ref (m + 74), .ref (m + 84), .ref (m + 94), .int 1, .int 0, .ref (m + 99), .ref (m + 100), .ref (m + 101), .ref (m + 102), .ref (m + 103), .ref (m + 104), .int 0, .ref (m + 105), .int 0, .int 0, .int 0, .ref (m + 106), .ref (m + 107), .int 0, .int 0])) := ab_self e2 gmo
  have c4 : h1[m+1]? = some (.inl (.byte, 6000, .inl (fun _ => 0))) := ab_other e2 (by omega) gm1
  have c5 : h1[m+99]? = some (.inl (.int, 256, .inl (fun _ => 0))) := ab_other e2 (by omega) gm14
  have c6 : h1[m+100]? = some (.inl (.boolean, 256, .inl (fun _ => 0))) := ab_other e2 (by omega) gm15
  have c7 : h1[m+101]? = some (.inl (.int, 64, .inl (fun _ => 0))) := ab_other e2 (by omega) gm16
  have c8 : h1[m+102]? = some (.inl (.int, 4, .inl (fun _ => 0))) := ab_other e2 (by omega) gm17
  have c9 : h1[m+103]? = some (.inl (.int, 4, .inl (fun _ => 0))) := ab_other e2 (by omega) gm18
  have c10 : h1[m+104]? = some (.inl (.int, 256, .inl (fun _ => 0))) := ab_other e2 (by omega) gm19
  have c11 : h1[m+105]? = some (.inl (.byte, 58000, .inl (fun _ => 0))) := ab_other e2 (by omega) gm21
  have c12 : h1[m+106]? = some (.inl (.boolean, 8, .inl (a0_M w 25))) := ab_other e2 (by omega) gm25
  have c13 : h1[m+107]? = some (.inl (.boolean, 8, .inl (fun _ => 0))) := ab_other e2 (by omega) gm26
  have c14 : h1[m+2]? = some (.inr (14, [.ref (m + 2 + 1), .int 0, .int 0, .ref (m + 2 + 2), .ref (m + 2 + 3), .ref (m + 2 + 4), .ref (m + 2 + 5), .ref (m + 2 + 6), .ref (m + 2 + 7), .int 0, .int 0, .int 0, .int 0, .ref (m + 2 + 8), .ref (m + 2 + 9), .ref (m + 2 + 10), .int 0, .ref (m + 2 + 11), .ref (m + 2 + 12), .ref (m + 2 + 13), .ref (m + 2 + 14), .int 0, .ref (m + 2 + 15), .ref (m + 2 + 16), .ref (m + 2 + 17), .ref (m + 2 + 18), .int 0, .ref (m + 2 + 19), .ref (m + 2 + 20), .int 0, .ref (m + 2 + 21), .ref (m + 2 + 22), .ref (m + 2 + 23), .ref (m + 2 + 24), .ref (m + 2 + 25), .ref (m + 2 + 26), .ref (m + 2 + 27), .int 0, .ref (m + 2 + 28), .ref (m + 2 + 29), .ref (m + 2 + 30), .int 0, .int 0])) := ab_other e2 (by omega) gto
  have c15 : h1[m+2+1]? = some (.inl (.byte, 6000, .inl (fun _ => 0))) := ab_other e2 (by omega) gt0
  have c16 : h1[m+2+2]? = some (.inl (.int, 6002, .inl (fun _ => 0))) := ab_other e2 (by omega) gt3
  have c17 : h1[m+2+3]? = some (.inl (.int, 6002, .inl (fun _ => 0))) := ab_other e2 (by omega) gt4
  have c18 : h1[m+2+4]? = some (.inl (.int, 6002, .inl (fun _ => 0))) := ab_other e2 (by omega) gt5
  have c19 : h1[m+2+5]? = some (.inl (.int, 6002, .inl (fun _ => 0))) := ab_other e2 (by omega) gt6
  have c20 : h1[m+2+6]? = some (.inl (.boolean, 6002, .inl (fun _ => 0))) := ab_other e2 (by omega) gt7
  have c21 : h1[m+2+7]? = some (.inl (.int, 6002, .inl (fun _ => 0))) := ab_other e2 (by omega) gt8
  have c22 : h1[m+2+8]? = some (.inl (.int, 56, .inl (fun _ => 0))) := ab_other e2 (by omega) gt13
  have c23 : h1[m+2+9]? = some (.inl (.int, 56, .inl (fun _ => 0))) := ab_other e2 (by omega) gt14
  have c24 : h1[m+2+10]? = some (.inl (.int, 56, .inl (fun _ => 0))) := ab_other e2 (by omega) gt15
  have c25 : h1[m+2+11]? = some (.inl (.int, 16, .inl (fun _ => 0))) := ab_other e2 (by omega) gt17
  have c26 : h1[m+2+12]? = some (.inl (.int, 17, .inl (fun _ => 0))) := ab_other e2 (by omega) gt18
  have c27 : h1[m+2+13]? = some (.inl (.int, 48, .inl (fun _ => 0))) := ab_other e2 (by omega) gt19
  have c28 : h1[m+2+14]? = some (.inl (.int, 48, .inl (fun _ => 0))) := ab_other e2 (by omega) gt20
  have c29 : h1[m+2+15]? = some (.inl (.int, 8, .inl (fun _ => 0))) := ab_other e2 (by omega) gt22
  have c30 : h1[m+2+16]? = some (.inl (.int, 8, .inl (fun _ => 0))) := ab_other e2 (by omega) gt23
  have c31 : h1[m+2+17]? = some (.inl (.int, 32, .inl (fun _ => 0))) := ab_other e2 (by omega) gt24
  have c32 : h1[m+2+18]? = some (.inl (.int, 32, .inl (fun _ => 0))) := ab_other e2 (by omega) gt25
  have c33 : h1[m+2+19]? = some (.inl (.int, 16, .inl (fun _ => 0))) := ab_other e2 (by omega) gt27
  have c34 : h1[m+2+20]? = some (.inl (.int, 768, .inl (fun _ => 0))) := ab_other e2 (by omega) gt28
  have c35 : h1[m+2+21]? = some (.inl (.int, 16, .inl (fun _ => 0))) := ab_other e2 (by omega) gt30
  have c36 : h1[m+2+22]? = some (.inl (.int, 16, .inl (fun _ => 0))) := ab_other e2 (by omega) gt31
  have c37 : h1[m+2+23]? = some (.inl (.int, 16, .inl (fun _ => 0))) := ab_other e2 (by omega) gt32
  have c38 : h1[m+2+24]? = some (.inl (.int, 16, .inl (fun _ => 0))) := ab_other e2 (by omega) gt33
  have c39 : h1[m+2+25]? = some (.inl (.int, 16, .inl (fun _ => 0))) := ab_other e2 (by omega) gt34
  have c40 : h1[m+2+26]? = some (.inl (.int, 16, .inl (fun _ => 0))) := ab_other e2 (by omega) gt35
  have c41 : h1[m+2+27]? = some (.inl (.int, 16, .inl (fun _ => 0))) := ab_other e2 (by omega) gt36
  have c42 : h1[m+2+28]? = some (.inl (.int, 12, .inl (fun _ => 0))) := ab_other e2 (by omega) gt38
  have c43 : h1[m+2+29]? = some (.inl (.int, 12, .inl (fun _ => 0))) := ab_other e2 (by omega) gt39
  have c44 : h1[m+2+30]? = some (.inl (.boolean, 12, .inl (fun _ => 0))) := ab_other e2 (by omega) gt40
  have fr45 : ab_fr (fun _ => True) h h1 := ab_fr_set (ab_fr_rf _ _) e2 (by trivial)
  clear e2
  refine ab_aload_n d_M_has_5 rfl rfl rfl ?_
  refine ab_iload_n d_M_has_6 rfl rfl ?_
  refine ab_callV_a (As := [.int b]) (rest := []) d_M_has_7 (r_M_isComponent c3 c14) (ab_mkC s_M_isComponent (Nat.le_of_ble_eq_true rfl) (Nat.le_of_ble_eq_true rfl) (by decide) (by decide)) (k12 190 rfl rfl) i_M_isComponent v_M_isComponent c3 rfl rfl (Nat.le_of_ble_eq_true rfl) (fun h47 q46 => ?_)
  subst q46
  refine ab_if_eq (tgt := 29) d_M_has_10 (by decide) (fun q48 => ?_) (fun q48 => by exact absurd (by decide) q48)
  refine ab_iconst (v := 0) d_M_has_29 (by decide) ?_
  exact ab_zret d_M_has_30 rfl rfl (Nat.le_refl _) (Nat.le_refl _) (by unfold sq_M_has; exact ⟨rfl, trivial⟩)
def sq_M_entity (k : Int32) : Int32 := ((-1))
set_option maxRecDepth 20000 in
set_option maxHeartbeats 2000000 in
theorem f_M_entity {h : List ab_E}   {m : Nat} {w k : Int32}   (h0 : at_M0 h m w) : ab_M y_M_entity { frames := 0, cells := 0, slots := 0, locals := 0 } [.ref m, .int k] h (ab_A (some (.int (sq_M_entity k))) (fun h1 => True)) := by
  obtain ⟨hM, hT, hO, hS, hN, hD, hR⟩ := h0
  have hM0 := hM; obtain ⟨gmo, gm1, gm14, gm15, gm16, gm17, gm18, gm19, gm21, gm25, gm26⟩ := hM
  replace gmo : h[m]? = some (.inr (12, [.int 0, .ref (m + 1), .int 0, .ref (m + 2), .ref (m + 33), .int 0, .int (-1), .int (-1), .ref (m + 64), .ref (m + 74), .ref (m + 84), .ref (m + 94), .int 1, .int 0, .ref (m + 99), .ref (m + 100), .ref (m + 101), .ref (m + 102), .ref (m + 103), .ref (m + 104), .int 0, .ref (m + 105), .int 0, .int 0, .int 0, .ref (m + 106), .ref (m + 107), .int 0, .int 0])) := gmo
  replace gm1 : h[m + 1]? = some (.inl (.byte, 6000, .inl (fun _ => 0))) := (by rw [a0_M_0 w (by decide)] at gm1; exact gm1)
  replace gm14 : h[m + 99]? = some (.inl (.int, 256, .inl (fun _ => 0))) := (by rw [a0_M_0 w (by decide)] at gm14; exact gm14)
  replace gm15 : h[m + 100]? = some (.inl (.boolean, 256, .inl (fun _ => 0))) := (by rw [a0_M_0 w (by decide)] at gm15; exact gm15)
  replace gm16 : h[m + 101]? = some (.inl (.int, 64, .inl (fun _ => 0))) := (by rw [a0_M_0 w (by decide)] at gm16; exact gm16)
  replace gm17 : h[m + 102]? = some (.inl (.int, 4, .inl (fun _ => 0))) := (by rw [a0_M_0 w (by decide)] at gm17; exact gm17)
  replace gm18 : h[m + 103]? = some (.inl (.int, 4, .inl (fun _ => 0))) := (by rw [a0_M_0 w (by decide)] at gm18; exact gm18)
  replace gm19 : h[m + 104]? = some (.inl (.int, 256, .inl (fun _ => 0))) := (by rw [a0_M_0 w (by decide)] at gm19; exact gm19)
  replace gm21 : h[m + 105]? = some (.inl (.byte, 58000, .inl (fun _ => 0))) := (by rw [a0_M_0 w (by decide)] at gm21; exact gm21)
  replace gm25 : h[m + 106]? = some (.inl (.boolean, 8, .inl (a0_M w 25))) := gm25
  replace gm26 : h[m + 107]? = some (.inl (.boolean, 8, .inl (fun _ => 0))) := (by rw [a0_M_0 w (by decide)] at gm26; exact gm26)
  have hN0 := hN; obtain ⟨gno, gn4, gn5, gn6, gn7, gn9, gn10, gn11, gn12, gn17⟩ := hN
  replace gno : h[m + 74]? = some (.inr (13, [.int 0, .int 0, .int 0, .int 0, .ref (m + 74 + 1), .ref (m + 74 + 2), .ref (m + 74 + 3), .ref (m + 74 + 4), .int 0, .ref (m + 74 + 5), .ref (m + 74 + 6), .ref (m + 74 + 7), .ref (m + 74 + 8), .int (-1), .int 0, .int 0, .int 0, .ref (m + 74 + 9)])) := gno
  replace gn4 : h[m + 74 + 1]? = some (.inl (.int, 256, .inl (fun _ => 0))) := gn4
  replace gn5 : h[m + 74 + 2]? = some (.inl (.boolean, 256, .inl (fun _ => 0))) := gn5
  replace gn6 : h[m + 74 + 3]? = some (.inl (.int, 256, .inl (fun _ => 0))) := gn6
  replace gn7 : h[m + 74 + 4]? = some (.inl (.int, 12288, .inl (fun _ => 0))) := gn7
  replace gn9 : h[m + 74 + 5]? = some (.inl (.int, 256, .inl (fun _ => 0))) := gn9
  replace gn10 : h[m + 74 + 6]? = some (.inl (.int, 256, .inl (fun _ => 0))) := gn10
  replace gn11 : h[m + 74 + 7]? = some (.inl (.int, 256, .inl (fun _ => 0))) := gn11
  replace gn12 : h[m + 74 + 8]? = some (.inl (.int, 1024, .inl (fun _ => 0))) := gn12
  replace gn17 : h[m + 74 + 9]? = some (.inl (.int, 32, .inl (fun _ => 0))) := gn17
  refine ab_of2 (lv := [some (.ref m), some (.int k), none, none]) 2 rfl rfl (Nat.le_of_ble_eq_true rfl) ?_
  refine ab_aload_n d_M_entity_0 rfl rfl rfl ?_
  refine ab_iconst (v := 0) d_M_entity_1 (by decide) ?_
  refine ab_put (f := 0) d_M_entity_2 gmo rfl (by decide) (k9 233 rfl rfl) rfl rfl (fun _ => rfl) (fun _ => rfl) (Nat.le_of_ble_eq_true rfl) ?_
  show ab_V _ _ _ _ _ _ _ 5 [some (.ref m), some (.int k), none, none] [] (h.set m (.inr (12, [.int 0, .ref (m + 1), .int 0, .ref (m + 2), .ref (m + 33), .int 0, .int (-1), .int (-1), .ref (m + 64), .ref (m + 74), .ref (m + 84), .ref (m + 94), .int 1, .int 0, .ref (m + 99), .ref (m + 100), .ref (m + 101), .ref (m + 102), .ref (m + 103), .ref (m + 104), .int 0, .ref (m + 105), .int 0, .int 0, .int 0, .ref (m + 106), .ref (m + 107), .int 0, .int 0])))
  refine ab_gen (fun h1 e2 => ?_)
  have c3 : h1[m]? = some (.inr (12, [.int 0, .ref (m + 1), .int 0, .ref (m + 2), .ref (m + 33), .int 0, .int (-1), .int (-1), .ref (m + 64), .ref (m + 74), .ref (m + 84), .ref (m + 94), .int 1, .int 0, .ref (m + 99), .ref (m + 100), .ref (m + 101), .ref (m + 102), .ref (m + 103), .ref (m + 104), .int 0, .ref (m + 105), .int 0, .int 0, .int 0, .ref (m + 106), .ref (m + 107), .int 0, .int 0])) := ab_self e2 gmo
  have c4 : h1[m+1]? = some (.inl (.byte, 6000, .inl (fun _ => 0))) := ab_other e2 (by omega) gm1
  have c5 : h1[m+99]? = some (.inl (.int, 256, .inl (fun _ => 0))) := ab_other e2 (by omega) gm14
  have c6 : h1[m+100]? = some (.inl (.boolean, 256, .inl (fun _ => 0))) := ab_other e2 (by omega) gm15
  have c7 : h1[m+101]? = some (.inl (.int, 64, .inl (fun _ => 0))) := ab_other e2 (by omega) gm16
  have c8 : h1[m+102]? = some (.inl (.int, 4, .inl (fun _ => 0))) := ab_other e2 (by omega) gm17
  have c9 : h1[m+103]? = some (.inl (.int, 4, .inl (fun _ => 0))) := ab_other e2 (by omega) gm18
  have c10 : h1[m+104]? = some (.inl (.int, 256, .inl (fun _ => 0))) := ab_other e2 (by omega) gm19
  have c11 : h1[m+105]? = some (.inl (.byte, 58000, .inl (fun _ => 0))) := ab_other e2 (by omega) gm21
  have c12 : h1[m+106]? = some (.inl (.boolean, 8, .inl (a0_M w 25))) := ab_other e2 (by omega) gm25
  have c13 : h1[m+107]? = some (.inl (.boolean, 8, .inl (fun _ => 0))) := ab_other e2 (by omega) gm26
  have c14 : h1[m+74]? = some (.inr (13, [.int 0, .int 0, .int 0, .int 0, .ref (m + 74 + 1), .ref (m + 74 + 2), .ref (m + 74 + 3), .ref (m + 74 + 4), .int 0, .ref (m + 74 + 5), .ref (m + 74 + 6), .ref (m + 74 + 7), .ref (m + 74 + 8), .int (-1), .int 0, .int 0, .int 0, .ref (m + 74 + 9)])) := ab_other e2 (by omega) gno
  have c15 : h1[m+74+1]? = some (.inl (.int, 256, .inl (fun _ => 0))) := ab_other e2 (by omega) gn4
  have c16 : h1[m+74+2]? = some (.inl (.boolean, 256, .inl (fun _ => 0))) := ab_other e2 (by omega) gn5
  have c17 : h1[m+74+3]? = some (.inl (.int, 256, .inl (fun _ => 0))) := ab_other e2 (by omega) gn6
  have c18 : h1[m+74+4]? = some (.inl (.int, 12288, .inl (fun _ => 0))) := ab_other e2 (by omega) gn7
  have c19 : h1[m+74+5]? = some (.inl (.int, 256, .inl (fun _ => 0))) := ab_other e2 (by omega) gn9
  have c20 : h1[m+74+6]? = some (.inl (.int, 256, .inl (fun _ => 0))) := ab_other e2 (by omega) gn10
  have c21 : h1[m+74+7]? = some (.inl (.int, 256, .inl (fun _ => 0))) := ab_other e2 (by omega) gn11
  have c22 : h1[m+74+8]? = some (.inl (.int, 1024, .inl (fun _ => 0))) := ab_other e2 (by omega) gn12
  have c23 : h1[m+74+9]? = some (.inl (.int, 32, .inl (fun _ => 0))) := ab_other e2 (by omega) gn17
  have fr24 : ab_fr (fun _ => True) h h1 := ab_fr_set (ab_fr_rf _ _) e2 (by trivial)
  clear e2
  refine ab_iload_n d_M_entity_5 rfl rfl ?_
  refine ab_istore_n (lv' := [some (.ref m), some (.int k), some (.int k), none]) d_M_entity_6 rfl (by decide) rfl ?_
  refine ab_iconst (v := 0) d_M_entity_7 (by decide) ?_
  refine ab_istore_n (lv' := [some (.ref m), some (.int k), some (.int k), some (.int 0)]) d_M_entity_8 rfl (by decide) rfl ?_
  by_cases hk0 : k < 0
  · refine ab_iload_n d_M_entity_9 rfl rfl ?_
    refine ab_sipush (v := 256) d_M_entity_10 (by decide) ?_
    refine ab_icmp_ge (tgt := 57) d_M_entity_13 (by decide) (fun q25 => by exact absurd q25 (by decide)) (fun q25 => ?_)
    refine ab_iload_n d_M_entity_16 rfl rfl ?_
    refine ab_if_lt (tgt := 57) d_M_entity_17 (by decide) (fun q26 => ?_) (fun q26 => ?_)
    · refine ab_iconst (v := (-1)) d_M_entity_57 (by decide) ?_
      exact ab_iret d_M_entity_58 rfl (Nat.le_refl _) (Nat.le_refl _) (by unfold sq_M_entity; exact ⟨rfl, trivial⟩)
    · exact absurd hk0 q26
  refine l_r_entity c3 c14 c16 hk0 (Nat.le_refl _) (Nat.le_refl _) ?_ 256 0 (by omega)
  refine ab_iconst (v := (-1)) d_M_entity_57 (by decide) ?_
  exact ab_iret d_M_entity_58 rfl (Nat.le_refl _) (Nat.le_refl _) (by unfold sq_M_entity; exact ⟨rfl, trivial⟩)
def sq_M_row (a : Int32) (k : Int32) : Int32 := if k < (0 : Int32) then ((-1)) else ((-1))
set_option maxRecDepth 20000 in
set_option maxHeartbeats 2000000 in
theorem f_M_row {h : List ab_E}   {m : Nat} {w a k : Int32}   (h0 : at_M0 h m w) : ab_M y_M_row { frames := 1, cells := 0, slots := 0, locals := 40 } [.ref m, .int a, .int k] h (ab_A (some (.int (sq_M_row a k))) (fun h1 => True)) := by
  obtain ⟨hM, hT, hO, hS, hN, hD, hR⟩ := h0
  have hM0 := hM; obtain ⟨gmo, gm1, gm14, gm15, gm16, gm17, gm18, gm19, gm21, gm25, gm26⟩ := hM
  replace gmo : h[m]? = some (.inr (12, [.int 0, .ref (m + 1), .int 0, .ref (m + 2), .ref (m + 33), .int 0, .int (-1), .int (-1), .ref (m + 64), .ref (m + 74), .ref (m + 84), .ref (m + 94), .int 1, .int 0, .ref (m + 99), .ref (m + 100), .ref (m + 101), .ref (m + 102), .ref (m + 103), .ref (m + 104), .int 0, .ref (m + 105), .int 0, .int 0, .int 0, .ref (m + 106), .ref (m + 107), .int 0, .int 0])) := gmo
  replace gm1 : h[m + 1]? = some (.inl (.byte, 6000, .inl (fun _ => 0))) := (by rw [a0_M_0 w (by decide)] at gm1; exact gm1)
  replace gm14 : h[m + 99]? = some (.inl (.int, 256, .inl (fun _ => 0))) := (by rw [a0_M_0 w (by decide)] at gm14; exact gm14)
  replace gm15 : h[m + 100]? = some (.inl (.boolean, 256, .inl (fun _ => 0))) := (by rw [a0_M_0 w (by decide)] at gm15; exact gm15)
  replace gm16 : h[m + 101]? = some (.inl (.int, 64, .inl (fun _ => 0))) := (by rw [a0_M_0 w (by decide)] at gm16; exact gm16)
  replace gm17 : h[m + 102]? = some (.inl (.int, 4, .inl (fun _ => 0))) := (by rw [a0_M_0 w (by decide)] at gm17; exact gm17)
  replace gm18 : h[m + 103]? = some (.inl (.int, 4, .inl (fun _ => 0))) := (by rw [a0_M_0 w (by decide)] at gm18; exact gm18)
  replace gm19 : h[m + 104]? = some (.inl (.int, 256, .inl (fun _ => 0))) := (by rw [a0_M_0 w (by decide)] at gm19; exact gm19)
  replace gm21 : h[m + 105]? = some (.inl (.byte, 58000, .inl (fun _ => 0))) := (by rw [a0_M_0 w (by decide)] at gm21; exact gm21)
  replace gm25 : h[m + 106]? = some (.inl (.boolean, 8, .inl (a0_M w 25))) := gm25
  replace gm26 : h[m + 107]? = some (.inl (.boolean, 8, .inl (fun _ => 0))) := (by rw [a0_M_0 w (by decide)] at gm26; exact gm26)
  have hT0 := hT; obtain ⟨gto, gt0, gt3, gt4, gt5, gt6, gt7, gt8, gt13, gt14, gt15, gt17, gt18, gt19, gt20, gt22, gt23, gt24, gt25, gt27, gt28, gt30, gt31, gt32, gt33, gt34, gt35, gt36, gt38, gt39, gt40⟩ := hT
  replace gto : h[m + 2]? = some (.inr (14, [.ref (m + 2 + 1), .int 0, .int 0, .ref (m + 2 + 2), .ref (m + 2 + 3), .ref (m + 2 + 4), .ref (m + 2 + 5), .ref (m + 2 + 6), .ref (m + 2 + 7), .int 0, .int 0, .int 0, .int 0, .ref (m + 2 + 8), .ref (m + 2 + 9), .ref (m + 2 + 10), .int 0, .ref (m + 2 + 11), .ref (m + 2 + 12), .ref (m + 2 + 13), .ref (m + 2 + 14), .int 0, .ref (m + 2 + 15), .ref (m + 2 + 16), .ref (m + 2 + 17), .ref (m + 2 + 18), .int 0, .ref (m + 2 + 19), .ref (m + 2 + 20), .int 0, .ref (m + 2 + 21), .ref (m + 2 + 22), .ref (m + 2 + 23), .ref (m + 2 + 24), .ref (m + 2 + 25), .ref (m + 2 + 26), .ref (m + 2 + 27), .int 0, .ref (m + 2 + 28), .ref (m + 2 + 29), .ref (m + 2 + 30), .int 0, .int 0])) := gto
  replace gt0 : h[m + 2 + 1]? = some (.inl (.byte, 6000, .inl (fun _ => 0))) := gt0
  replace gt3 : h[m + 2 + 2]? = some (.inl (.int, 6002, .inl (fun _ => 0))) := gt3
  replace gt4 : h[m + 2 + 3]? = some (.inl (.int, 6002, .inl (fun _ => 0))) := gt4
  replace gt5 : h[m + 2 + 4]? = some (.inl (.int, 6002, .inl (fun _ => 0))) := gt5
  replace gt6 : h[m + 2 + 5]? = some (.inl (.int, 6002, .inl (fun _ => 0))) := gt6
  replace gt7 : h[m + 2 + 6]? = some (.inl (.boolean, 6002, .inl (fun _ => 0))) := gt7
  replace gt8 : h[m + 2 + 7]? = some (.inl (.int, 6002, .inl (fun _ => 0))) := gt8
  replace gt13 : h[m + 2 + 8]? = some (.inl (.int, 56, .inl (fun _ => 0))) := gt13
  replace gt14 : h[m + 2 + 9]? = some (.inl (.int, 56, .inl (fun _ => 0))) := gt14
  replace gt15 : h[m + 2 + 10]? = some (.inl (.int, 56, .inl (fun _ => 0))) := gt15
  replace gt17 : h[m + 2 + 11]? = some (.inl (.int, 16, .inl (fun _ => 0))) := gt17
  replace gt18 : h[m + 2 + 12]? = some (.inl (.int, 17, .inl (fun _ => 0))) := gt18
  replace gt19 : h[m + 2 + 13]? = some (.inl (.int, 48, .inl (fun _ => 0))) := gt19
  replace gt20 : h[m + 2 + 14]? = some (.inl (.int, 48, .inl (fun _ => 0))) := gt20
  replace gt22 : h[m + 2 + 15]? = some (.inl (.int, 8, .inl (fun _ => 0))) := gt22
  replace gt23 : h[m + 2 + 16]? = some (.inl (.int, 8, .inl (fun _ => 0))) := gt23
  replace gt24 : h[m + 2 + 17]? = some (.inl (.int, 32, .inl (fun _ => 0))) := gt24
  replace gt25 : h[m + 2 + 18]? = some (.inl (.int, 32, .inl (fun _ => 0))) := gt25
  replace gt27 : h[m + 2 + 19]? = some (.inl (.int, 16, .inl (fun _ => 0))) := gt27
  replace gt28 : h[m + 2 + 20]? = some (.inl (.int, 768, .inl (fun _ => 0))) := gt28
  replace gt30 : h[m + 2 + 21]? = some (.inl (.int, 16, .inl (fun _ => 0))) := gt30
  replace gt31 : h[m + 2 + 22]? = some (.inl (.int, 16, .inl (fun _ => 0))) := gt31
  replace gt32 : h[m + 2 + 23]? = some (.inl (.int, 16, .inl (fun _ => 0))) := gt32
  replace gt33 : h[m + 2 + 24]? = some (.inl (.int, 16, .inl (fun _ => 0))) := gt33
  replace gt34 : h[m + 2 + 25]? = some (.inl (.int, 16, .inl (fun _ => 0))) := gt34
  replace gt35 : h[m + 2 + 26]? = some (.inl (.int, 16, .inl (fun _ => 0))) := gt35
  replace gt36 : h[m + 2 + 27]? = some (.inl (.int, 16, .inl (fun _ => 0))) := gt36
  replace gt38 : h[m + 2 + 28]? = some (.inl (.int, 12, .inl (fun _ => 0))) := gt38
  replace gt39 : h[m + 2 + 29]? = some (.inl (.int, 12, .inl (fun _ => 0))) := gt39
  replace gt40 : h[m + 2 + 30]? = some (.inl (.boolean, 12, .inl (fun _ => 0))) := gt40
  refine ab_of2 (lv := [some (.ref m), some (.int a), some (.int k), none, none]) 2 rfl rfl (Nat.le_of_ble_eq_true rfl) ?_
  refine ab_aload_n d_M_row_0 rfl rfl rfl ?_
  refine ab_iconst (v := 0) d_M_row_1 (by decide) ?_
  refine ab_put (f := 0) d_M_row_2 gmo rfl (by decide) (k9 233 rfl rfl) rfl rfl (fun _ => rfl) (fun _ => rfl) (Nat.le_of_ble_eq_true rfl) ?_
  show ab_V _ _ _ _ _ _ _ 5 [some (.ref m), some (.int a), some (.int k), none, none] [] (h.set m (.inr (12, [.int 0, .ref (m + 1), .int 0, .ref (m + 2), .ref (m + 33), .int 0, .int (-1), .int (-1), .ref (m + 64), .ref (m + 74), .ref (m + 84), .ref (m + 94), .int 1, .int 0, .ref (m + 99), .ref (m + 100), .ref (m + 101), .ref (m + 102), .ref (m + 103), .ref (m + 104), .int 0, .ref (m + 105), .int 0, .int 0, .int 0, .ref (m + 106), .ref (m + 107), .int 0, .int 0])))
  refine ab_gen (fun h1 e2 => ?_)
  have c3 : h1[m]? = some (.inr (12, [.int 0, .ref (m + 1), .int 0, .ref (m + 2), .ref (m + 33), .int 0, .int (-1), .int (-1), .ref (m + 64), .ref (m + 74), .ref (m + 84), .ref (m + 94), .int 1, .int 0, .ref (m + 99), .ref (m + 100), .ref (m + 101), .ref (m + 102), .ref (m + 103), .ref (m + 104), .int 0, .ref (m + 105), .int 0, .int 0, .int 0, .ref (m + 106), .ref (m + 107), .int 0, .int 0])) := ab_self e2 gmo
  have c4 : h1[m+1]? = some (.inl (.byte, 6000, .inl (fun _ => 0))) := ab_other e2 (by omega) gm1
  have c5 : h1[m+99]? = some (.inl (.int, 256, .inl (fun _ => 0))) := ab_other e2 (by omega) gm14
  have c6 : h1[m+100]? = some (.inl (.boolean, 256, .inl (fun _ => 0))) := ab_other e2 (by omega) gm15
  have c7 : h1[m+101]? = some (.inl (.int, 64, .inl (fun _ => 0))) := ab_other e2 (by omega) gm16
  have c8 : h1[m+102]? = some (.inl (.int, 4, .inl (fun _ => 0))) := ab_other e2 (by omega) gm17
  have c9 : h1[m+103]? = some (.inl (.int, 4, .inl (fun _ => 0))) := ab_other e2 (by omega) gm18
  have c10 : h1[m+104]? = some (.inl (.int, 256, .inl (fun _ => 0))) := ab_other e2 (by omega) gm19
  have c11 : h1[m+105]? = some (.inl (.byte, 58000, .inl (fun _ => 0))) := ab_other e2 (by omega) gm21
  have c12 : h1[m+106]? = some (.inl (.boolean, 8, .inl (a0_M w 25))) := ab_other e2 (by omega) gm25
  have c13 : h1[m+107]? = some (.inl (.boolean, 8, .inl (fun _ => 0))) := ab_other e2 (by omega) gm26
  have c14 : h1[m+2]? = some (.inr (14, [.ref (m + 2 + 1), .int 0, .int 0, .ref (m + 2 + 2), .ref (m + 2 + 3), .ref (m + 2 + 4), .ref (m + 2 + 5), .ref (m + 2 + 6), .ref (m + 2 + 7), .int 0, .int 0, .int 0, .int 0, .ref (m + 2 + 8), .ref (m + 2 + 9), .ref (m + 2 + 10), .int 0, .ref (m + 2 + 11), .ref (m + 2 + 12), .ref (m + 2 + 13), .ref (m + 2 + 14), .int 0, .ref (m + 2 + 15), .ref (m + 2 + 16), .ref (m + 2 + 17), .ref (m + 2 + 18), .int 0, .ref (m + 2 + 19), .ref (m + 2 + 20), .int 0, .ref (m + 2 + 21), .ref (m + 2 + 22), .ref (m + 2 + 23), .ref (m + 2 + 24), .ref (m + 2 + 25), .ref (m + 2 + 26), .ref (m + 2 + 27), .int 0, .ref (m + 2 + 28), .ref (m + 2 + 29), .ref (m + 2 + 30), .int 0, .int 0])) := ab_other e2 (by omega) gto
  have c15 : h1[m+2+1]? = some (.inl (.byte, 6000, .inl (fun _ => 0))) := ab_other e2 (by omega) gt0
  have c16 : h1[m+2+2]? = some (.inl (.int, 6002, .inl (fun _ => 0))) := ab_other e2 (by omega) gt3
  have c17 : h1[m+2+3]? = some (.inl (.int, 6002, .inl (fun _ => 0))) := ab_other e2 (by omega) gt4
  have c18 : h1[m+2+4]? = some (.inl (.int, 6002, .inl (fun _ => 0))) := ab_other e2 (by omega) gt5
  have c19 : h1[m+2+5]? = some (.inl (.int, 6002, .inl (fun _ => 0))) := ab_other e2 (by omega) gt6
  have c20 : h1[m+2+6]? = some (.inl (.boolean, 6002, .inl (fun _ => 0))) := ab_other e2 (by omega) gt7
  have c21 : h1[m+2+7]? = some (.inl (.int, 6002, .inl (fun _ => 0))) := ab_other e2 (by omega) gt8
  have c22 : h1[m+2+8]? = some (.inl (.int, 56, .inl (fun _ => 0))) := ab_other e2 (by omega) gt13
  have c23 : h1[m+2+9]? = some (.inl (.int, 56, .inl (fun _ => 0))) := ab_other e2 (by omega) gt14
  have c24 : h1[m+2+10]? = some (.inl (.int, 56, .inl (fun _ => 0))) := ab_other e2 (by omega) gt15
  have c25 : h1[m+2+11]? = some (.inl (.int, 16, .inl (fun _ => 0))) := ab_other e2 (by omega) gt17
  have c26 : h1[m+2+12]? = some (.inl (.int, 17, .inl (fun _ => 0))) := ab_other e2 (by omega) gt18
  have c27 : h1[m+2+13]? = some (.inl (.int, 48, .inl (fun _ => 0))) := ab_other e2 (by omega) gt19
  have c28 : h1[m+2+14]? = some (.inl (.int, 48, .inl (fun _ => 0))) := ab_other e2 (by omega) gt20
  have c29 : h1[m+2+15]? = some (.inl (.int, 8, .inl (fun _ => 0))) := ab_other e2 (by omega) gt22
  have c30 : h1[m+2+16]? = some (.inl (.int, 8, .inl (fun _ => 0))) := ab_other e2 (by omega) gt23
  have c31 : h1[m+2+17]? = some (.inl (.int, 32, .inl (fun _ => 0))) := ab_other e2 (by omega) gt24
  have c32 : h1[m+2+18]? = some (.inl (.int, 32, .inl (fun _ => 0))) := ab_other e2 (by omega) gt25
  have c33 : h1[m+2+19]? = some (.inl (.int, 16, .inl (fun _ => 0))) := ab_other e2 (by omega) gt27
  have c34 : h1[m+2+20]? = some (.inl (.int, 768, .inl (fun _ => 0))) := ab_other e2 (by omega) gt28
  have c35 : h1[m+2+21]? = some (.inl (.int, 16, .inl (fun _ => 0))) := ab_other e2 (by omega) gt30
  have c36 : h1[m+2+22]? = some (.inl (.int, 16, .inl (fun _ => 0))) := ab_other e2 (by omega) gt31
  have c37 : h1[m+2+23]? = some (.inl (.int, 16, .inl (fun _ => 0))) := ab_other e2 (by omega) gt32
  have c38 : h1[m+2+24]? = some (.inl (.int, 16, .inl (fun _ => 0))) := ab_other e2 (by omega) gt33
  have c39 : h1[m+2+25]? = some (.inl (.int, 16, .inl (fun _ => 0))) := ab_other e2 (by omega) gt34
  have c40 : h1[m+2+26]? = some (.inl (.int, 16, .inl (fun _ => 0))) := ab_other e2 (by omega) gt35
  have c41 : h1[m+2+27]? = some (.inl (.int, 16, .inl (fun _ => 0))) := ab_other e2 (by omega) gt36
  have c42 : h1[m+2+28]? = some (.inl (.int, 12, .inl (fun _ => 0))) := ab_other e2 (by omega) gt38
  have c43 : h1[m+2+29]? = some (.inl (.int, 12, .inl (fun _ => 0))) := ab_other e2 (by omega) gt39
  have c44 : h1[m+2+30]? = some (.inl (.boolean, 12, .inl (fun _ => 0))) := ab_other e2 (by omega) gt40
  have fr45 : ab_fr (fun _ => True) h h1 := ab_fr_set (ab_fr_rf _ _) e2 (by trivial)
  clear e2
  refine ab_iload_n d_M_row_5 rfl rfl ?_
  refine ab_istore_n (lv' := [some (.ref m), some (.int a), some (.int k), some (.int k), none]) d_M_row_6 rfl (by decide) rfl ?_
  refine ab_iconst (v := 0) d_M_row_7 (by decide) ?_
  refine ab_istore (lv' := [some (.ref m), some (.int a), some (.int k), some (.int k), some (.int 0)]) d_M_row_8 (by decide) rfl ?_
  refine ab_iload d_M_row_10 rfl ?_
  refine ab_sipush (v := 256) d_M_row_12 (by decide) ?_
  refine ab_icmp_ge (tgt := 84) d_M_row_15 (by decide) (fun q46 => by exact absurd q46 (by decide)) (fun q46 => ?_)
  refine ab_iload_n d_M_row_18 rfl rfl ?_
  refine ab_if_lt (tgt := 84) d_M_row_19 (by decide) (fun q47 => ?_) (fun q47 => ?_)
  · refine ab_iconst (v := (-1)) d_M_row_84 (by decide) ?_
    exact ab_iret d_M_row_85 rfl (Nat.le_refl _) (Nat.le_refl _) (by unfold sq_M_row; rw [if_pos q47]; exact ⟨rfl, trivial⟩)
  · refine ab_iload_n d_M_row_22 rfl rfl ?_
    refine ab_i2l d_M_row_23 ?_
    refine ab_lconst (v := 0) d_M_row_24 (by decide) ?_
    refine ab_aload_n d_M_row_25 rfl rfl rfl ?_
    refine ab_get (f := 3) d_M_row_26 c3 rfl (by decide) (k9 236 rfl rfl) rfl ?_
    refine ab_getN (f := 29) d_M_row_29 c14 rfl (by decide) (k8 212 rfl rfl) rfl ?_
    refine ab_iconst (v := 1) d_M_row_32 (by decide) ?_
    refine ab_isub d_M_row_33 ?_
    refine ab_topi (fun x48 ex48 => ?_)
    obtain rfl : x48 = (-1) := ex48.trans (by decide)
    clear ex48
    refine ab_i2l d_M_row_34 ?_
    refine ab_topl (fun x49 ex49 => ?_)
    obtain rfl : x49 = (-1) := ex49.trans (by decide)
    clear ex49
    refine ab_callS_a (As := [.long ((a : Int32).toInt64), .long 0, .long (-1)]) (rest := []) d_M_row_35 (c_M_in) (ab_mkC s_M_in (Nat.le_of_ble_eq_true rfl) (Nat.le_of_ble_eq_true rfl) (by decide) (by decide)) (k10 93 rfl rfl) t_M_in rfl (Nat.le_of_ble_eq_true rfl) (fun h51 q50 => ?_)
    subst q50
    refine ab_topi (fun x52 ex52 => ?_)
    obtain rfl : x52 = 0 := ex52.trans (in_e (lo := 0) (hi := (-1)) (by decide) (by decide) (by decide))
    clear ex52
    refine ab_if_eq (tgt := 84) d_M_row_38 (by decide) (fun q53 => ?_) (fun q53 => by exact absurd (by decide) q53)
    refine ab_iconst (v := (-1)) d_M_row_84 (by decide) ?_
    exact ab_iret d_M_row_85 rfl (Nat.le_refl _) (Nat.le_refl _) (by unfold sq_M_row; rw [if_neg q47]; exact ⟨rfl, trivial⟩)
def sq_M_group (n : Int32) : Int32 := ((-1))
set_option maxRecDepth 20000 in
set_option maxHeartbeats 2000000 in
theorem f_M_group {h : List ab_E}   {m : Nat} {w n : Int32}   (h0 : at_M0 h m w) : ab_M y_M_group { frames := 1, cells := 0, slots := 0, locals := 40 } [.ref m, .int n] h (ab_A (some (.int (sq_M_group n))) (fun h1 => True)) := by
  obtain ⟨hM, hT, hO, hS, hN, hD, hR⟩ := h0
  have hM0 := hM; obtain ⟨gmo, gm1, gm14, gm15, gm16, gm17, gm18, gm19, gm21, gm25, gm26⟩ := hM
  replace gmo : h[m]? = some (.inr (12, [.int 0, .ref (m + 1), .int 0, .ref (m + 2), .ref (m + 33), .int 0, .int (-1), .int (-1), .ref (m + 64), .ref (m + 74), .ref (m + 84), .ref (m + 94), .int 1, .int 0, .ref (m + 99), .ref (m + 100), .ref (m + 101), .ref (m + 102), .ref (m + 103), .ref (m + 104), .int 0, .ref (m + 105), .int 0, .int 0, .int 0, .ref (m + 106), .ref (m + 107), .int 0, .int 0])) := gmo
  replace gm1 : h[m + 1]? = some (.inl (.byte, 6000, .inl (fun _ => 0))) := (by rw [a0_M_0 w (by decide)] at gm1; exact gm1)
  replace gm14 : h[m + 99]? = some (.inl (.int, 256, .inl (fun _ => 0))) := (by rw [a0_M_0 w (by decide)] at gm14; exact gm14)
  replace gm15 : h[m + 100]? = some (.inl (.boolean, 256, .inl (fun _ => 0))) := (by rw [a0_M_0 w (by decide)] at gm15; exact gm15)
  replace gm16 : h[m + 101]? = some (.inl (.int, 64, .inl (fun _ => 0))) := (by rw [a0_M_0 w (by decide)] at gm16; exact gm16)
  replace gm17 : h[m + 102]? = some (.inl (.int, 4, .inl (fun _ => 0))) := (by rw [a0_M_0 w (by decide)] at gm17; exact gm17)
  replace gm18 : h[m + 103]? = some (.inl (.int, 4, .inl (fun _ => 0))) := (by rw [a0_M_0 w (by decide)] at gm18; exact gm18)
  replace gm19 : h[m + 104]? = some (.inl (.int, 256, .inl (fun _ => 0))) := (by rw [a0_M_0 w (by decide)] at gm19; exact gm19)
  replace gm21 : h[m + 105]? = some (.inl (.byte, 58000, .inl (fun _ => 0))) := (by rw [a0_M_0 w (by decide)] at gm21; exact gm21)
  replace gm25 : h[m + 106]? = some (.inl (.boolean, 8, .inl (a0_M w 25))) := gm25
  replace gm26 : h[m + 107]? = some (.inl (.boolean, 8, .inl (fun _ => 0))) := (by rw [a0_M_0 w (by decide)] at gm26; exact gm26)
  have hT0 := hT; obtain ⟨gto, gt0, gt3, gt4, gt5, gt6, gt7, gt8, gt13, gt14, gt15, gt17, gt18, gt19, gt20, gt22, gt23, gt24, gt25, gt27, gt28, gt30, gt31, gt32, gt33, gt34, gt35, gt36, gt38, gt39, gt40⟩ := hT
  replace gto : h[m + 2]? = some (.inr (14, [.ref (m + 2 + 1), .int 0, .int 0, .ref (m + 2 + 2), .ref (m + 2 + 3), .ref (m + 2 + 4), .ref (m + 2 + 5), .ref (m + 2 + 6), .ref (m + 2 + 7), .int 0, .int 0, .int 0, .int 0, .ref (m + 2 + 8), .ref (m + 2 + 9), .ref (m + 2 + 10), .int 0, .ref (m + 2 + 11), .ref (m + 2 + 12), .ref (m + 2 + 13), .ref (m + 2 + 14), .int 0, .ref (m + 2 + 15), .ref (m + 2 + 16), .ref (m + 2 + 17), .ref (m + 2 + 18), .int 0, .ref (m + 2 + 19), .ref (m + 2 + 20), .int 0, .ref (m + 2 + 21), .ref (m + 2 + 22), .ref (m + 2 + 23), .ref (m + 2 + 24), .ref (m + 2 + 25), .ref (m + 2 + 26), .ref (m + 2 + 27), .int 0, .ref (m + 2 + 28), .ref (m + 2 + 29), .ref (m + 2 + 30), .int 0, .int 0])) := gto
  replace gt0 : h[m + 2 + 1]? = some (.inl (.byte, 6000, .inl (fun _ => 0))) := gt0
  replace gt3 : h[m + 2 + 2]? = some (.inl (.int, 6002, .inl (fun _ => 0))) := gt3
  replace gt4 : h[m + 2 + 3]? = some (.inl (.int, 6002, .inl (fun _ => 0))) := gt4
  replace gt5 : h[m + 2 + 4]? = some (.inl (.int, 6002, .inl (fun _ => 0))) := gt5
  replace gt6 : h[m + 2 + 5]? = some (.inl (.int, 6002, .inl (fun _ => 0))) := gt6
  replace gt7 : h[m + 2 + 6]? = some (.inl (.boolean, 6002, .inl (fun _ => 0))) := gt7
  replace gt8 : h[m + 2 + 7]? = some (.inl (.int, 6002, .inl (fun _ => 0))) := gt8
  replace gt13 : h[m + 2 + 8]? = some (.inl (.int, 56, .inl (fun _ => 0))) := gt13
  replace gt14 : h[m + 2 + 9]? = some (.inl (.int, 56, .inl (fun _ => 0))) := gt14
  replace gt15 : h[m + 2 + 10]? = some (.inl (.int, 56, .inl (fun _ => 0))) := gt15
  replace gt17 : h[m + 2 + 11]? = some (.inl (.int, 16, .inl (fun _ => 0))) := gt17
  replace gt18 : h[m + 2 + 12]? = some (.inl (.int, 17, .inl (fun _ => 0))) := gt18
  replace gt19 : h[m + 2 + 13]? = some (.inl (.int, 48, .inl (fun _ => 0))) := gt19
  replace gt20 : h[m + 2 + 14]? = some (.inl (.int, 48, .inl (fun _ => 0))) := gt20
  replace gt22 : h[m + 2 + 15]? = some (.inl (.int, 8, .inl (fun _ => 0))) := gt22
  replace gt23 : h[m + 2 + 16]? = some (.inl (.int, 8, .inl (fun _ => 0))) := gt23
  replace gt24 : h[m + 2 + 17]? = some (.inl (.int, 32, .inl (fun _ => 0))) := gt24
  replace gt25 : h[m + 2 + 18]? = some (.inl (.int, 32, .inl (fun _ => 0))) := gt25
  replace gt27 : h[m + 2 + 19]? = some (.inl (.int, 16, .inl (fun _ => 0))) := gt27
  replace gt28 : h[m + 2 + 20]? = some (.inl (.int, 768, .inl (fun _ => 0))) := gt28
  replace gt30 : h[m + 2 + 21]? = some (.inl (.int, 16, .inl (fun _ => 0))) := gt30
  replace gt31 : h[m + 2 + 22]? = some (.inl (.int, 16, .inl (fun _ => 0))) := gt31
  replace gt32 : h[m + 2 + 23]? = some (.inl (.int, 16, .inl (fun _ => 0))) := gt32
  replace gt33 : h[m + 2 + 24]? = some (.inl (.int, 16, .inl (fun _ => 0))) := gt33
  replace gt34 : h[m + 2 + 25]? = some (.inl (.int, 16, .inl (fun _ => 0))) := gt34
  replace gt35 : h[m + 2 + 26]? = some (.inl (.int, 16, .inl (fun _ => 0))) := gt35
  replace gt36 : h[m + 2 + 27]? = some (.inl (.int, 16, .inl (fun _ => 0))) := gt36
  replace gt38 : h[m + 2 + 28]? = some (.inl (.int, 12, .inl (fun _ => 0))) := gt38
  replace gt39 : h[m + 2 + 29]? = some (.inl (.int, 12, .inl (fun _ => 0))) := gt39
  replace gt40 : h[m + 2 + 30]? = some (.inl (.boolean, 12, .inl (fun _ => 0))) := gt40
  refine ab_of2 (lv := [some (.ref m), some (.int n)]) 0 rfl rfl (Nat.le_of_ble_eq_true rfl) ?_
  refine ab_aload_n d_M_group_0 rfl rfl rfl ?_
  refine ab_iconst (v := 0) d_M_group_1 (by decide) ?_
  refine ab_put (f := 0) d_M_group_2 gmo rfl (by decide) (k9 233 rfl rfl) rfl rfl (fun _ => rfl) (fun _ => rfl) (Nat.le_of_ble_eq_true rfl) ?_
  show ab_V _ _ _ _ _ _ _ 5 [some (.ref m), some (.int n)] [] (h.set m (.inr (12, [.int 0, .ref (m + 1), .int 0, .ref (m + 2), .ref (m + 33), .int 0, .int (-1), .int (-1), .ref (m + 64), .ref (m + 74), .ref (m + 84), .ref (m + 94), .int 1, .int 0, .ref (m + 99), .ref (m + 100), .ref (m + 101), .ref (m + 102), .ref (m + 103), .ref (m + 104), .int 0, .ref (m + 105), .int 0, .int 0, .int 0, .ref (m + 106), .ref (m + 107), .int 0, .int 0])))
  refine ab_gen (fun h1 e2 => ?_)
  have c3 : h1[m]? = some (.inr (12, [.int 0, .ref (m + 1), .int 0, .ref (m + 2), .ref (m + 33), .int 0, .int (-1), .int (-1), .ref (m + 64), .ref (m + 74), .ref (m + 84), .ref (m + 94), .int 1, .int 0, .ref (m + 99), .ref (m + 100), .ref (m + 101), .ref (m + 102), .ref (m + 103), .ref (m + 104), .int 0, .ref (m + 105), .int 0, .int 0, .int 0, .ref (m + 106), .ref (m + 107), .int 0, .int 0])) := ab_self e2 gmo
  have c4 : h1[m+1]? = some (.inl (.byte, 6000, .inl (fun _ => 0))) := ab_other e2 (by omega) gm1
  have c5 : h1[m+99]? = some (.inl (.int, 256, .inl (fun _ => 0))) := ab_other e2 (by omega) gm14
  have c6 : h1[m+100]? = some (.inl (.boolean, 256, .inl (fun _ => 0))) := ab_other e2 (by omega) gm15
  have c7 : h1[m+101]? = some (.inl (.int, 64, .inl (fun _ => 0))) := ab_other e2 (by omega) gm16
  have c8 : h1[m+102]? = some (.inl (.int, 4, .inl (fun _ => 0))) := ab_other e2 (by omega) gm17
  have c9 : h1[m+103]? = some (.inl (.int, 4, .inl (fun _ => 0))) := ab_other e2 (by omega) gm18
  have c10 : h1[m+104]? = some (.inl (.int, 256, .inl (fun _ => 0))) := ab_other e2 (by omega) gm19
  have c11 : h1[m+105]? = some (.inl (.byte, 58000, .inl (fun _ => 0))) := ab_other e2 (by omega) gm21
  have c12 : h1[m+106]? = some (.inl (.boolean, 8, .inl (a0_M w 25))) := ab_other e2 (by omega) gm25
  have c13 : h1[m+107]? = some (.inl (.boolean, 8, .inl (fun _ => 0))) := ab_other e2 (by omega) gm26
  have c14 : h1[m+2]? = some (.inr (14, [.ref (m + 2 + 1), .int 0, .int 0, .ref (m + 2 + 2), .ref (m + 2 + 3), .ref (m + 2 + 4), .ref (m + 2 + 5), .ref (m + 2 + 6), .ref (m + 2 + 7), .int 0, .int 0, .int 0, .int 0, .ref (m + 2 + 8), .ref (m + 2 + 9), .ref (m + 2 + 10), .int 0, .ref (m + 2 + 11), .ref (m + 2 + 12), .ref (m + 2 + 13), .ref (m + 2 + 14), .int 0, .ref (m + 2 + 15), .ref (m + 2 + 16), .ref (m + 2 + 17), .ref (m + 2 + 18), .int 0, .ref (m + 2 + 19), .ref (m + 2 + 20), .int 0, .ref (m + 2 + 21), .ref (m + 2 + 22), .ref (m + 2 + 23), .ref (m + 2 + 24), .ref (m + 2 + 25), .ref (m + 2 + 26), .ref (m + 2 + 27), .int 0, .ref (m + 2 + 28), .ref (m + 2 + 29), .ref (m + 2 + 30), .int 0, .int 0])) := ab_other e2 (by omega) gto
  have c15 : h1[m+2+1]? = some (.inl (.byte, 6000, .inl (fun _ => 0))) := ab_other e2 (by omega) gt0
  have c16 : h1[m+2+2]? = some (.inl (.int, 6002, .inl (fun _ => 0))) := ab_other e2 (by omega) gt3
  have c17 : h1[m+2+3]? = some (.inl (.int, 6002, .inl (fun _ => 0))) := ab_other e2 (by omega) gt4
  have c18 : h1[m+2+4]? = some (.inl (.int, 6002, .inl (fun _ => 0))) := ab_other e2 (by omega) gt5
  have c19 : h1[m+2+5]? = some (.inl (.int, 6002, .inl (fun _ => 0))) := ab_other e2 (by omega) gt6
  have c20 : h1[m+2+6]? = some (.inl (.boolean, 6002, .inl (fun _ => 0))) := ab_other e2 (by omega) gt7
  have c21 : h1[m+2+7]? = some (.inl (.int, 6002, .inl (fun _ => 0))) := ab_other e2 (by omega) gt8
  have c22 : h1[m+2+8]? = some (.inl (.int, 56, .inl (fun _ => 0))) := ab_other e2 (by omega) gt13
  have c23 : h1[m+2+9]? = some (.inl (.int, 56, .inl (fun _ => 0))) := ab_other e2 (by omega) gt14
  have c24 : h1[m+2+10]? = some (.inl (.int, 56, .inl (fun _ => 0))) := ab_other e2 (by omega) gt15
  have c25 : h1[m+2+11]? = some (.inl (.int, 16, .inl (fun _ => 0))) := ab_other e2 (by omega) gt17
  have c26 : h1[m+2+12]? = some (.inl (.int, 17, .inl (fun _ => 0))) := ab_other e2 (by omega) gt18
  have c27 : h1[m+2+13]? = some (.inl (.int, 48, .inl (fun _ => 0))) := ab_other e2 (by omega) gt19
  have c28 : h1[m+2+14]? = some (.inl (.int, 48, .inl (fun _ => 0))) := ab_other e2 (by omega) gt20
  have c29 : h1[m+2+15]? = some (.inl (.int, 8, .inl (fun _ => 0))) := ab_other e2 (by omega) gt22
  have c30 : h1[m+2+16]? = some (.inl (.int, 8, .inl (fun _ => 0))) := ab_other e2 (by omega) gt23
  have c31 : h1[m+2+17]? = some (.inl (.int, 32, .inl (fun _ => 0))) := ab_other e2 (by omega) gt24
  have c32 : h1[m+2+18]? = some (.inl (.int, 32, .inl (fun _ => 0))) := ab_other e2 (by omega) gt25
  have c33 : h1[m+2+19]? = some (.inl (.int, 16, .inl (fun _ => 0))) := ab_other e2 (by omega) gt27
  have c34 : h1[m+2+20]? = some (.inl (.int, 768, .inl (fun _ => 0))) := ab_other e2 (by omega) gt28
  have c35 : h1[m+2+21]? = some (.inl (.int, 16, .inl (fun _ => 0))) := ab_other e2 (by omega) gt30
  have c36 : h1[m+2+22]? = some (.inl (.int, 16, .inl (fun _ => 0))) := ab_other e2 (by omega) gt31
  have c37 : h1[m+2+23]? = some (.inl (.int, 16, .inl (fun _ => 0))) := ab_other e2 (by omega) gt32
  have c38 : h1[m+2+24]? = some (.inl (.int, 16, .inl (fun _ => 0))) := ab_other e2 (by omega) gt33
  have c39 : h1[m+2+25]? = some (.inl (.int, 16, .inl (fun _ => 0))) := ab_other e2 (by omega) gt34
  have c40 : h1[m+2+26]? = some (.inl (.int, 16, .inl (fun _ => 0))) := ab_other e2 (by omega) gt35
  have c41 : h1[m+2+27]? = some (.inl (.int, 16, .inl (fun _ => 0))) := ab_other e2 (by omega) gt36
  have c42 : h1[m+2+28]? = some (.inl (.int, 12, .inl (fun _ => 0))) := ab_other e2 (by omega) gt38
  have c43 : h1[m+2+29]? = some (.inl (.int, 12, .inl (fun _ => 0))) := ab_other e2 (by omega) gt39
  have c44 : h1[m+2+30]? = some (.inl (.boolean, 12, .inl (fun _ => 0))) := ab_other e2 (by omega) gt40
  have fr45 : ab_fr (fun _ => True) h h1 := ab_fr_set (ab_fr_rf _ _) e2 (by trivial)
  clear e2
  refine ab_iload_n d_M_group_5 rfl rfl ?_
  refine ab_i2l d_M_group_6 ?_
  refine ab_lconst (v := 0) d_M_group_7 (by decide) ?_
  refine ab_aload_n d_M_group_8 rfl rfl rfl ?_
  refine ab_get (f := 3) d_M_group_9 c3 rfl (by decide) (k9 236 rfl rfl) rfl ?_
  refine ab_getN (f := 29) d_M_group_12 c14 rfl (by decide) (k8 212 rfl rfl) rfl ?_
  refine ab_iconst (v := 1) d_M_group_15 (by decide) ?_
  refine ab_isub d_M_group_16 ?_
  refine ab_topi (fun x46 ex46 => ?_)
  obtain rfl : x46 = (-1) := ex46.trans (by decide)
  clear ex46
  refine ab_i2l d_M_group_17 ?_
  refine ab_topl (fun x47 ex47 => ?_)
  obtain rfl : x47 = (-1) := ex47.trans (by decide)
  clear ex47
  refine ab_callS_a (As := [.long ((n : Int32).toInt64), .long 0, .long (-1)]) (rest := []) d_M_group_18 (c_M_in) (ab_mkC s_M_in (Nat.le_of_ble_eq_true rfl) (Nat.le_of_ble_eq_true rfl) (by decide) (by decide)) (k10 93 rfl rfl) t_M_in rfl (Nat.le_of_ble_eq_true rfl) (fun h49 q48 => ?_)
  subst q48
  refine ab_topi (fun x50 ex50 => ?_)
  obtain rfl : x50 = 0 := ex50.trans (in_e (lo := 0) (hi := (-1)) (by decide) (by decide) (by decide))
  clear ex50
  refine ab_if_eq (tgt := 36) d_M_group_21 (by decide) (fun q51 => ?_) (fun q51 => by exact absurd (by decide) q51)
  refine ab_iconst (v := (-1)) d_M_group_36 (by decide) ?_
  exact ab_iret d_M_group_37 rfl (Nat.le_refl _) (Nat.le_refl _) (by unfold sq_M_group; exact ⟨rfl, trivial⟩)
def sq_M_failure (n : Int32) : Int32 := ((-1))
set_option maxRecDepth 20000 in
set_option maxHeartbeats 2000000 in
theorem f_M_failure {h : List ab_E}   {m : Nat} {w n : Int32}   (h0 : at_M0 h m w) : ab_M y_M_failure { frames := 1, cells := 0, slots := 0, locals := 40 } [.ref m, .int n] h (ab_A (some (.int (sq_M_failure n))) (fun h1 => True)) := by
  obtain ⟨hM, hT, hO, hS, hN, hD, hR⟩ := h0
  have hM0 := hM; obtain ⟨gmo, gm1, gm14, gm15, gm16, gm17, gm18, gm19, gm21, gm25, gm26⟩ := hM
  replace gmo : h[m]? = some (.inr (12, [.int 0, .ref (m + 1), .int 0, .ref (m + 2), .ref (m + 33), .int 0, .int (-1), .int (-1), .ref (m + 64), .ref (m + 74), .ref (m + 84), .ref (m + 94), .int 1, .int 0, .ref (m + 99), .ref (m + 100), .ref (m + 101), .ref (m + 102), .ref (m + 103), .ref (m + 104), .int 0, .ref (m + 105), .int 0, .int 0, .int 0, .ref (m + 106), .ref (m + 107), .int 0, .int 0])) := gmo
  replace gm1 : h[m + 1]? = some (.inl (.byte, 6000, .inl (fun _ => 0))) := (by rw [a0_M_0 w (by decide)] at gm1; exact gm1)
  replace gm14 : h[m + 99]? = some (.inl (.int, 256, .inl (fun _ => 0))) := (by rw [a0_M_0 w (by decide)] at gm14; exact gm14)
  replace gm15 : h[m + 100]? = some (.inl (.boolean, 256, .inl (fun _ => 0))) := (by rw [a0_M_0 w (by decide)] at gm15; exact gm15)
  replace gm16 : h[m + 101]? = some (.inl (.int, 64, .inl (fun _ => 0))) := (by rw [a0_M_0 w (by decide)] at gm16; exact gm16)
  replace gm17 : h[m + 102]? = some (.inl (.int, 4, .inl (fun _ => 0))) := (by rw [a0_M_0 w (by decide)] at gm17; exact gm17)
  replace gm18 : h[m + 103]? = some (.inl (.int, 4, .inl (fun _ => 0))) := (by rw [a0_M_0 w (by decide)] at gm18; exact gm18)
  replace gm19 : h[m + 104]? = some (.inl (.int, 256, .inl (fun _ => 0))) := (by rw [a0_M_0 w (by decide)] at gm19; exact gm19)
  replace gm21 : h[m + 105]? = some (.inl (.byte, 58000, .inl (fun _ => 0))) := (by rw [a0_M_0 w (by decide)] at gm21; exact gm21)
  replace gm25 : h[m + 106]? = some (.inl (.boolean, 8, .inl (a0_M w 25))) := gm25
  replace gm26 : h[m + 107]? = some (.inl (.boolean, 8, .inl (fun _ => 0))) := (by rw [a0_M_0 w (by decide)] at gm26; exact gm26)
  have hN0 := hN; obtain ⟨gno, gn4, gn5, gn6, gn7, gn9, gn10, gn11, gn12, gn17⟩ := hN
  replace gno : h[m + 74]? = some (.inr (13, [.int 0, .int 0, .int 0, .int 0, .ref (m + 74 + 1), .ref (m + 74 + 2), .ref (m + 74 + 3), .ref (m + 74 + 4), .int 0, .ref (m + 74 + 5), .ref (m + 74 + 6), .ref (m + 74 + 7), .ref (m + 74 + 8), .int (-1), .int 0, .int 0, .int 0, .ref (m + 74 + 9)])) := gno
  replace gn4 : h[m + 74 + 1]? = some (.inl (.int, 256, .inl (fun _ => 0))) := gn4
  replace gn5 : h[m + 74 + 2]? = some (.inl (.boolean, 256, .inl (fun _ => 0))) := gn5
  replace gn6 : h[m + 74 + 3]? = some (.inl (.int, 256, .inl (fun _ => 0))) := gn6
  replace gn7 : h[m + 74 + 4]? = some (.inl (.int, 12288, .inl (fun _ => 0))) := gn7
  replace gn9 : h[m + 74 + 5]? = some (.inl (.int, 256, .inl (fun _ => 0))) := gn9
  replace gn10 : h[m + 74 + 6]? = some (.inl (.int, 256, .inl (fun _ => 0))) := gn10
  replace gn11 : h[m + 74 + 7]? = some (.inl (.int, 256, .inl (fun _ => 0))) := gn11
  replace gn12 : h[m + 74 + 8]? = some (.inl (.int, 1024, .inl (fun _ => 0))) := gn12
  replace gn17 : h[m + 74 + 9]? = some (.inl (.int, 32, .inl (fun _ => 0))) := gn17
  refine ab_of2 (lv := [some (.ref m), some (.int n)]) 0 rfl rfl (Nat.le_of_ble_eq_true rfl) ?_
  refine ab_aload_n d_M_failure_0 rfl rfl rfl ?_
  refine ab_iconst (v := 0) d_M_failure_1 (by decide) ?_
  refine ab_put (f := 0) d_M_failure_2 gmo rfl (by decide) (k9 233 rfl rfl) rfl rfl (fun _ => rfl) (fun _ => rfl) (Nat.le_of_ble_eq_true rfl) ?_
  show ab_V _ _ _ _ _ _ _ 5 [some (.ref m), some (.int n)] [] (h.set m (.inr (12, [.int 0, .ref (m + 1), .int 0, .ref (m + 2), .ref (m + 33), .int 0, .int (-1), .int (-1), .ref (m + 64), .ref (m + 74), .ref (m + 84), .ref (m + 94), .int 1, .int 0, .ref (m + 99), .ref (m + 100), .ref (m + 101), .ref (m + 102), .ref (m + 103), .ref (m + 104), .int 0, .ref (m + 105), .int 0, .int 0, .int 0, .ref (m + 106), .ref (m + 107), .int 0, .int 0])))
  refine ab_gen (fun h1 e2 => ?_)
  have c3 : h1[m]? = some (.inr (12, [.int 0, .ref (m + 1), .int 0, .ref (m + 2), .ref (m + 33), .int 0, .int (-1), .int (-1), .ref (m + 64), .ref (m + 74), .ref (m + 84), .ref (m + 94), .int 1, .int 0, .ref (m + 99), .ref (m + 100), .ref (m + 101), .ref (m + 102), .ref (m + 103), .ref (m + 104), .int 0, .ref (m + 105), .int 0, .int 0, .int 0, .ref (m + 106), .ref (m + 107), .int 0, .int 0])) := ab_self e2 gmo
  have c4 : h1[m+1]? = some (.inl (.byte, 6000, .inl (fun _ => 0))) := ab_other e2 (by omega) gm1
  have c5 : h1[m+99]? = some (.inl (.int, 256, .inl (fun _ => 0))) := ab_other e2 (by omega) gm14
  have c6 : h1[m+100]? = some (.inl (.boolean, 256, .inl (fun _ => 0))) := ab_other e2 (by omega) gm15
  have c7 : h1[m+101]? = some (.inl (.int, 64, .inl (fun _ => 0))) := ab_other e2 (by omega) gm16
  have c8 : h1[m+102]? = some (.inl (.int, 4, .inl (fun _ => 0))) := ab_other e2 (by omega) gm17
  have c9 : h1[m+103]? = some (.inl (.int, 4, .inl (fun _ => 0))) := ab_other e2 (by omega) gm18
  have c10 : h1[m+104]? = some (.inl (.int, 256, .inl (fun _ => 0))) := ab_other e2 (by omega) gm19
  have c11 : h1[m+105]? = some (.inl (.byte, 58000, .inl (fun _ => 0))) := ab_other e2 (by omega) gm21
  have c12 : h1[m+106]? = some (.inl (.boolean, 8, .inl (a0_M w 25))) := ab_other e2 (by omega) gm25
  have c13 : h1[m+107]? = some (.inl (.boolean, 8, .inl (fun _ => 0))) := ab_other e2 (by omega) gm26
  have c14 : h1[m+74]? = some (.inr (13, [.int 0, .int 0, .int 0, .int 0, .ref (m + 74 + 1), .ref (m + 74 + 2), .ref (m + 74 + 3), .ref (m + 74 + 4), .int 0, .ref (m + 74 + 5), .ref (m + 74 + 6), .ref (m + 74 + 7), .ref (m + 74 + 8), .int (-1), .int 0, .int 0, .int 0, .ref (m + 74 + 9)])) := ab_other e2 (by omega) gno
  have c15 : h1[m+74+1]? = some (.inl (.int, 256, .inl (fun _ => 0))) := ab_other e2 (by omega) gn4
  have c16 : h1[m+74+2]? = some (.inl (.boolean, 256, .inl (fun _ => 0))) := ab_other e2 (by omega) gn5
  have c17 : h1[m+74+3]? = some (.inl (.int, 256, .inl (fun _ => 0))) := ab_other e2 (by omega) gn6
  have c18 : h1[m+74+4]? = some (.inl (.int, 12288, .inl (fun _ => 0))) := ab_other e2 (by omega) gn7
  have c19 : h1[m+74+5]? = some (.inl (.int, 256, .inl (fun _ => 0))) := ab_other e2 (by omega) gn9
  have c20 : h1[m+74+6]? = some (.inl (.int, 256, .inl (fun _ => 0))) := ab_other e2 (by omega) gn10
  have c21 : h1[m+74+7]? = some (.inl (.int, 256, .inl (fun _ => 0))) := ab_other e2 (by omega) gn11
  have c22 : h1[m+74+8]? = some (.inl (.int, 1024, .inl (fun _ => 0))) := ab_other e2 (by omega) gn12
  have c23 : h1[m+74+9]? = some (.inl (.int, 32, .inl (fun _ => 0))) := ab_other e2 (by omega) gn17
  have fr24 : ab_fr (fun _ => True) h h1 := ab_fr_set (ab_fr_rf _ _) e2 (by trivial)
  clear e2
  refine ab_aload_n d_M_failure_5 rfl rfl rfl ?_
  refine ab_get (f := 9) d_M_failure_6 c3 rfl (by decide) (k10 2 rfl rfl) rfl ?_
  refine ab_getN (f := 13) d_M_failure_9 c14 rfl (by decide) (k9 128 rfl rfl) rfl ?_
  refine ab_if_ge (tgt := 17) d_M_failure_12 (by decide) (fun q25 => by exact absurd q25 (by decide)) (fun q25 => ?_)
  refine ab_iconst (v := (-1)) d_M_failure_15 (by decide) ?_
  exact ab_iret d_M_failure_16 rfl (Nat.le_refl _) (Nat.le_refl _) (by unfold sq_M_failure; exact ⟨rfl, trivial⟩)
def sq_M_pending (k : Int32) (n : Int32) : Int32 := ((-1))
set_option maxRecDepth 20000 in
set_option maxHeartbeats 2000000 in
theorem f_M_pending {h : List ab_E}    {m : Nat} {w k n : Int32}    (h0 : at_M0 h m w) : ab_M y_M_pending { frames := 1, cells := 0, slots := 0, locals := 40 } [.ref m, .int k, .int n] h (ab_A (some (.int (sq_M_pending k n))) (fun h1 => True)) := by
  obtain ⟨hM, hT, hO, hS, hN, hD, hR⟩ := h0
  have hM0 := hM; obtain ⟨gmo, gm1, gm14, gm15, gm16, gm17, gm18, gm19, gm21, gm25, gm26⟩ := hM
  replace gmo : h[m]? = some (.inr (12, [.int 0, .ref (m + 1), .int 0, .ref (m + 2), .ref (m + 33), .int 0, .int (-1), .int (-1), .ref (m + 64), .ref (m + 74), .ref (m + 84), .ref (m + 94), .int 1, .int 0, .ref (m + 99), .ref (m + 100), .ref (m + 101), .ref (m + 102), .ref (m + 103), .ref (m + 104), .int 0, .ref (m + 105), .int 0, .int 0, .int 0, .ref (m + 106), .ref (m + 107), .int 0, .int 0])) := gmo
  replace gm1 : h[m + 1]? = some (.inl (.byte, 6000, .inl (fun _ => 0))) := (by rw [a0_M_0 w (by decide)] at gm1; exact gm1)
  replace gm14 : h[m + 99]? = some (.inl (.int, 256, .inl (fun _ => 0))) := (by rw [a0_M_0 w (by decide)] at gm14; exact gm14)
  replace gm15 : h[m + 100]? = some (.inl (.boolean, 256, .inl (fun _ => 0))) := (by rw [a0_M_0 w (by decide)] at gm15; exact gm15)
  replace gm16 : h[m + 101]? = some (.inl (.int, 64, .inl (fun _ => 0))) := (by rw [a0_M_0 w (by decide)] at gm16; exact gm16)
  replace gm17 : h[m + 102]? = some (.inl (.int, 4, .inl (fun _ => 0))) := (by rw [a0_M_0 w (by decide)] at gm17; exact gm17)
  replace gm18 : h[m + 103]? = some (.inl (.int, 4, .inl (fun _ => 0))) := (by rw [a0_M_0 w (by decide)] at gm18; exact gm18)
  replace gm19 : h[m + 104]? = some (.inl (.int, 256, .inl (fun _ => 0))) := (by rw [a0_M_0 w (by decide)] at gm19; exact gm19)
  replace gm21 : h[m + 105]? = some (.inl (.byte, 58000, .inl (fun _ => 0))) := (by rw [a0_M_0 w (by decide)] at gm21; exact gm21)
  replace gm25 : h[m + 106]? = some (.inl (.boolean, 8, .inl (a0_M w 25))) := gm25
  replace gm26 : h[m + 107]? = some (.inl (.boolean, 8, .inl (fun _ => 0))) := (by rw [a0_M_0 w (by decide)] at gm26; exact gm26)
  have hT0 := hT; obtain ⟨gto, gt0, gt3, gt4, gt5, gt6, gt7, gt8, gt13, gt14, gt15, gt17, gt18, gt19, gt20, gt22, gt23, gt24, gt25, gt27, gt28, gt30, gt31, gt32, gt33, gt34, gt35, gt36, gt38, gt39, gt40⟩ := hT
  replace gto : h[m + 2]? = some (.inr (14, [.ref (m + 2 + 1), .int 0, .int 0, .ref (m + 2 + 2), .ref (m + 2 + 3), .ref (m + 2 + 4), .ref (m + 2 + 5), .ref (m + 2 + 6), .ref (m + 2 + 7), .int 0, .int 0, .int 0, .int 0, .ref (m + 2 + 8), .ref (m + 2 + 9), .ref (m + 2 + 10), .int 0, .ref (m + 2 + 11), .ref (m + 2 + 12), .ref (m + 2 + 13), .ref (m + 2 + 14), .int 0, .ref (m + 2 + 15), .ref (m + 2 + 16), .ref (m + 2 + 17), .ref (m + 2 + 18), .int 0, .ref (m + 2 + 19), .ref (m + 2 + 20), .int 0, .ref (m + 2 + 21), .ref (m + 2 + 22), .ref (m + 2 + 23), .ref (m + 2 + 24), .ref (m + 2 + 25), .ref (m + 2 + 26), .ref (m + 2 + 27), .int 0, .ref (m + 2 + 28), .ref (m + 2 + 29), .ref (m + 2 + 30), .int 0, .int 0])) := gto
  replace gt0 : h[m + 2 + 1]? = some (.inl (.byte, 6000, .inl (fun _ => 0))) := gt0
  replace gt3 : h[m + 2 + 2]? = some (.inl (.int, 6002, .inl (fun _ => 0))) := gt3
  replace gt4 : h[m + 2 + 3]? = some (.inl (.int, 6002, .inl (fun _ => 0))) := gt4
  replace gt5 : h[m + 2 + 4]? = some (.inl (.int, 6002, .inl (fun _ => 0))) := gt5
  replace gt6 : h[m + 2 + 5]? = some (.inl (.int, 6002, .inl (fun _ => 0))) := gt6
  replace gt7 : h[m + 2 + 6]? = some (.inl (.boolean, 6002, .inl (fun _ => 0))) := gt7
  replace gt8 : h[m + 2 + 7]? = some (.inl (.int, 6002, .inl (fun _ => 0))) := gt8
  replace gt13 : h[m + 2 + 8]? = some (.inl (.int, 56, .inl (fun _ => 0))) := gt13
  replace gt14 : h[m + 2 + 9]? = some (.inl (.int, 56, .inl (fun _ => 0))) := gt14
  replace gt15 : h[m + 2 + 10]? = some (.inl (.int, 56, .inl (fun _ => 0))) := gt15
  replace gt17 : h[m + 2 + 11]? = some (.inl (.int, 16, .inl (fun _ => 0))) := gt17
  replace gt18 : h[m + 2 + 12]? = some (.inl (.int, 17, .inl (fun _ => 0))) := gt18
  replace gt19 : h[m + 2 + 13]? = some (.inl (.int, 48, .inl (fun _ => 0))) := gt19
  replace gt20 : h[m + 2 + 14]? = some (.inl (.int, 48, .inl (fun _ => 0))) := gt20
  replace gt22 : h[m + 2 + 15]? = some (.inl (.int, 8, .inl (fun _ => 0))) := gt22
  replace gt23 : h[m + 2 + 16]? = some (.inl (.int, 8, .inl (fun _ => 0))) := gt23
  replace gt24 : h[m + 2 + 17]? = some (.inl (.int, 32, .inl (fun _ => 0))) := gt24
  replace gt25 : h[m + 2 + 18]? = some (.inl (.int, 32, .inl (fun _ => 0))) := gt25
  replace gt27 : h[m + 2 + 19]? = some (.inl (.int, 16, .inl (fun _ => 0))) := gt27
  replace gt28 : h[m + 2 + 20]? = some (.inl (.int, 768, .inl (fun _ => 0))) := gt28
  replace gt30 : h[m + 2 + 21]? = some (.inl (.int, 16, .inl (fun _ => 0))) := gt30
  replace gt31 : h[m + 2 + 22]? = some (.inl (.int, 16, .inl (fun _ => 0))) := gt31
  replace gt32 : h[m + 2 + 23]? = some (.inl (.int, 16, .inl (fun _ => 0))) := gt32
  replace gt33 : h[m + 2 + 24]? = some (.inl (.int, 16, .inl (fun _ => 0))) := gt33
  replace gt34 : h[m + 2 + 25]? = some (.inl (.int, 16, .inl (fun _ => 0))) := gt34
  replace gt35 : h[m + 2 + 26]? = some (.inl (.int, 16, .inl (fun _ => 0))) := gt35
  replace gt36 : h[m + 2 + 27]? = some (.inl (.int, 16, .inl (fun _ => 0))) := gt36
  replace gt38 : h[m + 2 + 28]? = some (.inl (.int, 12, .inl (fun _ => 0))) := gt38
  replace gt39 : h[m + 2 + 29]? = some (.inl (.int, 12, .inl (fun _ => 0))) := gt39
  replace gt40 : h[m + 2 + 30]? = some (.inl (.boolean, 12, .inl (fun _ => 0))) := gt40
  have hN0 := hN; obtain ⟨gno, gn4, gn5, gn6, gn7, gn9, gn10, gn11, gn12, gn17⟩ := hN
  replace gno : h[m + 74]? = some (.inr (13, [.int 0, .int 0, .int 0, .int 0, .ref (m + 74 + 1), .ref (m + 74 + 2), .ref (m + 74 + 3), .ref (m + 74 + 4), .int 0, .ref (m + 74 + 5), .ref (m + 74 + 6), .ref (m + 74 + 7), .ref (m + 74 + 8), .int (-1), .int 0, .int 0, .int 0, .ref (m + 74 + 9)])) := gno
  replace gn4 : h[m + 74 + 1]? = some (.inl (.int, 256, .inl (fun _ => 0))) := gn4
  replace gn5 : h[m + 74 + 2]? = some (.inl (.boolean, 256, .inl (fun _ => 0))) := gn5
  replace gn6 : h[m + 74 + 3]? = some (.inl (.int, 256, .inl (fun _ => 0))) := gn6
  replace gn7 : h[m + 74 + 4]? = some (.inl (.int, 12288, .inl (fun _ => 0))) := gn7
  replace gn9 : h[m + 74 + 5]? = some (.inl (.int, 256, .inl (fun _ => 0))) := gn9
  replace gn10 : h[m + 74 + 6]? = some (.inl (.int, 256, .inl (fun _ => 0))) := gn10
  replace gn11 : h[m + 74 + 7]? = some (.inl (.int, 256, .inl (fun _ => 0))) := gn11
  replace gn12 : h[m + 74 + 8]? = some (.inl (.int, 1024, .inl (fun _ => 0))) := gn12
  replace gn17 : h[m + 74 + 9]? = some (.inl (.int, 32, .inl (fun _ => 0))) := gn17
  refine ab_of2 (lv := [some (.ref m), some (.int k), some (.int n)]) 0 rfl rfl (Nat.le_of_ble_eq_true rfl) ?_
  refine ab_aload_n d_M_pending_0 rfl rfl rfl ?_
  refine ab_iconst (v := 0) d_M_pending_1 (by decide) ?_
  refine ab_put (f := 0) d_M_pending_2 gmo rfl (by decide) (k9 233 rfl rfl) rfl rfl (fun _ => rfl) (fun _ => rfl) (Nat.le_of_ble_eq_true rfl) ?_
  show ab_V _ _ _ _ _ _ _ 5 [some (.ref m), some (.int k), some (.int n)] [] (h.set m (.inr (12, [.int 0, .ref (m + 1), .int 0, .ref (m + 2), .ref (m + 33), .int 0, .int (-1), .int (-1), .ref (m + 64), .ref (m + 74), .ref (m + 84), .ref (m + 94), .int 1, .int 0, .ref (m + 99), .ref (m + 100), .ref (m + 101), .ref (m + 102), .ref (m + 103), .ref (m + 104), .int 0, .ref (m + 105), .int 0, .int 0, .int 0, .ref (m + 106), .ref (m + 107), .int 0, .int 0])))
  refine ab_gen (fun h1 e2 => ?_)
  have c3 : h1[m]? = some (.inr (12, [.int 0, .ref (m + 1), .int 0, .ref (m + 2), .ref (m + 33), .int 0, .int (-1), .int (-1), .ref (m + 64), .ref (m + 74), .ref (m + 84), .ref (m + 94), .int 1, .int 0, .ref (m + 99), .ref (m + 100), .ref (m + 101), .ref (m + 102), .ref (m + 103), .ref (m + 104), .int 0, .ref (m + 105), .int 0, .int 0, .int 0, .ref (m + 106), .ref (m + 107), .int 0, .int 0])) := ab_self e2 gmo
  have c4 : h1[m+1]? = some (.inl (.byte, 6000, .inl (fun _ => 0))) := ab_other e2 (by omega) gm1
  have c5 : h1[m+99]? = some (.inl (.int, 256, .inl (fun _ => 0))) := ab_other e2 (by omega) gm14
  have c6 : h1[m+100]? = some (.inl (.boolean, 256, .inl (fun _ => 0))) := ab_other e2 (by omega) gm15
  have c7 : h1[m+101]? = some (.inl (.int, 64, .inl (fun _ => 0))) := ab_other e2 (by omega) gm16
  have c8 : h1[m+102]? = some (.inl (.int, 4, .inl (fun _ => 0))) := ab_other e2 (by omega) gm17
  have c9 : h1[m+103]? = some (.inl (.int, 4, .inl (fun _ => 0))) := ab_other e2 (by omega) gm18
  have c10 : h1[m+104]? = some (.inl (.int, 256, .inl (fun _ => 0))) := ab_other e2 (by omega) gm19
  have c11 : h1[m+105]? = some (.inl (.byte, 58000, .inl (fun _ => 0))) := ab_other e2 (by omega) gm21
  have c12 : h1[m+106]? = some (.inl (.boolean, 8, .inl (a0_M w 25))) := ab_other e2 (by omega) gm25
  have c13 : h1[m+107]? = some (.inl (.boolean, 8, .inl (fun _ => 0))) := ab_other e2 (by omega) gm26
  have c14 : h1[m+2]? = some (.inr (14, [.ref (m + 2 + 1), .int 0, .int 0, .ref (m + 2 + 2), .ref (m + 2 + 3), .ref (m + 2 + 4), .ref (m + 2 + 5), .ref (m + 2 + 6), .ref (m + 2 + 7), .int 0, .int 0, .int 0, .int 0, .ref (m + 2 + 8), .ref (m + 2 + 9), .ref (m + 2 + 10), .int 0, .ref (m + 2 + 11), .ref (m + 2 + 12), .ref (m + 2 + 13), .ref (m + 2 + 14), .int 0, .ref (m + 2 + 15), .ref (m + 2 + 16), .ref (m + 2 + 17), .ref (m + 2 + 18), .int 0, .ref (m + 2 + 19), .ref (m + 2 + 20), .int 0, .ref (m + 2 + 21), .ref (m + 2 + 22), .ref (m + 2 + 23), .ref (m + 2 + 24), .ref (m + 2 + 25), .ref (m + 2 + 26), .ref (m + 2 + 27), .int 0, .ref (m + 2 + 28), .ref (m + 2 + 29), .ref (m + 2 + 30), .int 0, .int 0])) := ab_other e2 (by omega) gto
  have c15 : h1[m+2+1]? = some (.inl (.byte, 6000, .inl (fun _ => 0))) := ab_other e2 (by omega) gt0
  have c16 : h1[m+2+2]? = some (.inl (.int, 6002, .inl (fun _ => 0))) := ab_other e2 (by omega) gt3
  have c17 : h1[m+2+3]? = some (.inl (.int, 6002, .inl (fun _ => 0))) := ab_other e2 (by omega) gt4
  have c18 : h1[m+2+4]? = some (.inl (.int, 6002, .inl (fun _ => 0))) := ab_other e2 (by omega) gt5
  have c19 : h1[m+2+5]? = some (.inl (.int, 6002, .inl (fun _ => 0))) := ab_other e2 (by omega) gt6
  have c20 : h1[m+2+6]? = some (.inl (.boolean, 6002, .inl (fun _ => 0))) := ab_other e2 (by omega) gt7
  have c21 : h1[m+2+7]? = some (.inl (.int, 6002, .inl (fun _ => 0))) := ab_other e2 (by omega) gt8
  have c22 : h1[m+2+8]? = some (.inl (.int, 56, .inl (fun _ => 0))) := ab_other e2 (by omega) gt13
  have c23 : h1[m+2+9]? = some (.inl (.int, 56, .inl (fun _ => 0))) := ab_other e2 (by omega) gt14
  have c24 : h1[m+2+10]? = some (.inl (.int, 56, .inl (fun _ => 0))) := ab_other e2 (by omega) gt15
  have c25 : h1[m+2+11]? = some (.inl (.int, 16, .inl (fun _ => 0))) := ab_other e2 (by omega) gt17
  have c26 : h1[m+2+12]? = some (.inl (.int, 17, .inl (fun _ => 0))) := ab_other e2 (by omega) gt18
  have c27 : h1[m+2+13]? = some (.inl (.int, 48, .inl (fun _ => 0))) := ab_other e2 (by omega) gt19
  have c28 : h1[m+2+14]? = some (.inl (.int, 48, .inl (fun _ => 0))) := ab_other e2 (by omega) gt20
  have c29 : h1[m+2+15]? = some (.inl (.int, 8, .inl (fun _ => 0))) := ab_other e2 (by omega) gt22
  have c30 : h1[m+2+16]? = some (.inl (.int, 8, .inl (fun _ => 0))) := ab_other e2 (by omega) gt23
  have c31 : h1[m+2+17]? = some (.inl (.int, 32, .inl (fun _ => 0))) := ab_other e2 (by omega) gt24
  have c32 : h1[m+2+18]? = some (.inl (.int, 32, .inl (fun _ => 0))) := ab_other e2 (by omega) gt25
  have c33 : h1[m+2+19]? = some (.inl (.int, 16, .inl (fun _ => 0))) := ab_other e2 (by omega) gt27
  have c34 : h1[m+2+20]? = some (.inl (.int, 768, .inl (fun _ => 0))) := ab_other e2 (by omega) gt28
  have c35 : h1[m+2+21]? = some (.inl (.int, 16, .inl (fun _ => 0))) := ab_other e2 (by omega) gt30
  have c36 : h1[m+2+22]? = some (.inl (.int, 16, .inl (fun _ => 0))) := ab_other e2 (by omega) gt31
  have c37 : h1[m+2+23]? = some (.inl (.int, 16, .inl (fun _ => 0))) := ab_other e2 (by omega) gt32
  have c38 : h1[m+2+24]? = some (.inl (.int, 16, .inl (fun _ => 0))) := ab_other e2 (by omega) gt33
  have c39 : h1[m+2+25]? = some (.inl (.int, 16, .inl (fun _ => 0))) := ab_other e2 (by omega) gt34
  have c40 : h1[m+2+26]? = some (.inl (.int, 16, .inl (fun _ => 0))) := ab_other e2 (by omega) gt35
  have c41 : h1[m+2+27]? = some (.inl (.int, 16, .inl (fun _ => 0))) := ab_other e2 (by omega) gt36
  have c42 : h1[m+2+28]? = some (.inl (.int, 12, .inl (fun _ => 0))) := ab_other e2 (by omega) gt38
  have c43 : h1[m+2+29]? = some (.inl (.int, 12, .inl (fun _ => 0))) := ab_other e2 (by omega) gt39
  have c44 : h1[m+2+30]? = some (.inl (.boolean, 12, .inl (fun _ => 0))) := ab_other e2 (by omega) gt40
  have c45 : h1[m+74]? = some (.inr (13, [.int 0, .int 0, .int 0, .int 0, .ref (m + 74 + 1), .ref (m + 74 + 2), .ref (m + 74 + 3), .ref (m + 74 + 4), .int 0, .ref (m + 74 + 5), .ref (m + 74 + 6), .ref (m + 74 + 7), .ref (m + 74 + 8), .int (-1), .int 0, .int 0, .int 0, .ref (m + 74 + 9)])) := ab_other e2 (by omega) gno
  have c46 : h1[m+74+1]? = some (.inl (.int, 256, .inl (fun _ => 0))) := ab_other e2 (by omega) gn4
  have c47 : h1[m+74+2]? = some (.inl (.boolean, 256, .inl (fun _ => 0))) := ab_other e2 (by omega) gn5
  have c48 : h1[m+74+3]? = some (.inl (.int, 256, .inl (fun _ => 0))) := ab_other e2 (by omega) gn6
  have c49 : h1[m+74+4]? = some (.inl (.int, 12288, .inl (fun _ => 0))) := ab_other e2 (by omega) gn7
  have c50 : h1[m+74+5]? = some (.inl (.int, 256, .inl (fun _ => 0))) := ab_other e2 (by omega) gn9
  have c51 : h1[m+74+6]? = some (.inl (.int, 256, .inl (fun _ => 0))) := ab_other e2 (by omega) gn10
  have c52 : h1[m+74+7]? = some (.inl (.int, 256, .inl (fun _ => 0))) := ab_other e2 (by omega) gn11
  have c53 : h1[m+74+8]? = some (.inl (.int, 1024, .inl (fun _ => 0))) := ab_other e2 (by omega) gn12
  have c54 : h1[m+74+9]? = some (.inl (.int, 32, .inl (fun _ => 0))) := ab_other e2 (by omega) gn17
  have fr55 : ab_fr (fun _ => True) h h1 := ab_fr_set (ab_fr_rf _ _) e2 (by trivial)
  clear e2
  refine ab_iload_n d_M_pending_5 rfl rfl ?_
  refine ab_i2l d_M_pending_6 ?_
  refine ab_lconst (v := 0) d_M_pending_7 (by decide) ?_
  refine ab_aload_n d_M_pending_8 rfl rfl rfl ?_
  refine ab_get (f := 9) d_M_pending_9 c3 rfl (by decide) (k10 2 rfl rfl) rfl ?_
  refine ab_getN (f := 8) d_M_pending_12 c45 rfl (by decide) (k9 112 rfl rfl) rfl ?_
  refine ab_iconst (v := 1) d_M_pending_15 (by decide) ?_
  refine ab_isub d_M_pending_16 ?_
  refine ab_topi (fun x56 ex56 => ?_)
  obtain rfl : x56 = (-1) := ex56.trans (by decide)
  clear ex56
  refine ab_i2l d_M_pending_17 ?_
  refine ab_topl (fun x57 ex57 => ?_)
  obtain rfl : x57 = (-1) := ex57.trans (by decide)
  clear ex57
  refine ab_callS_a (As := [.long ((k : Int32).toInt64), .long 0, .long (-1)]) (rest := []) d_M_pending_18 (c_M_in) (ab_mkC s_M_in (Nat.le_of_ble_eq_true rfl) (Nat.le_of_ble_eq_true rfl) (by decide) (by decide)) (k10 93 rfl rfl) t_M_in rfl (Nat.le_of_ble_eq_true rfl) (fun h59 q58 => ?_)
  subst q58
  refine ab_topi (fun x60 ex60 => ?_)
  obtain rfl : x60 = 0 := ex60.trans (in_e (lo := 0) (hi := (-1)) (by decide) (by decide) (by decide))
  clear ex60
  refine ab_if_eq (tgt := 28) d_M_pending_21 (by decide) (fun q61 => ?_) (fun q61 => by exact absurd (by decide) q61)
  refine ab_iconst (v := (-1)) d_M_pending_28 (by decide) ?_
  exact ab_iret d_M_pending_29 rfl (Nat.le_refl _) (Nat.le_refl _) (by unfold sq_M_pending; exact ⟨rfl, trivial⟩)
set_option maxRecDepth 20000 in
set_option maxHeartbeats 2000000 in
theorem f_M_pace {h : List ab_E}  {m : Nat} {w n : Int32}  (h0 : at_M0 h m w) : ab_M y_M_pace { frames := 1, cells := 0, slots := 0, locals := 40 } [.ref m, .int n] h (ab_A none (fun h1 => True)) := by
  obtain ⟨hM, hT, hO, hS, hN, hD, hR⟩ := h0
  have hM0 := hM; obtain ⟨gmo, gm1, gm14, gm15, gm16, gm17, gm18, gm19, gm21, gm25, gm26⟩ := hM
  replace gmo : h[m]? = some (.inr (12, [.int 0, .ref (m + 1), .int 0, .ref (m + 2), .ref (m + 33), .int 0, .int (-1), .int (-1), .ref (m + 64), .ref (m + 74), .ref (m + 84), .ref (m + 94), .int 1, .int 0, .ref (m + 99), .ref (m + 100), .ref (m + 101), .ref (m + 102), .ref (m + 103), .ref (m + 104), .int 0, .ref (m + 105), .int 0, .int 0, .int 0, .ref (m + 106), .ref (m + 107), .int 0, .int 0])) := gmo
  replace gm1 : h[m + 1]? = some (.inl (.byte, 6000, .inl (fun _ => 0))) := (by rw [a0_M_0 w (by decide)] at gm1; exact gm1)
  replace gm14 : h[m + 99]? = some (.inl (.int, 256, .inl (fun _ => 0))) := (by rw [a0_M_0 w (by decide)] at gm14; exact gm14)
  replace gm15 : h[m + 100]? = some (.inl (.boolean, 256, .inl (fun _ => 0))) := (by rw [a0_M_0 w (by decide)] at gm15; exact gm15)
  replace gm16 : h[m + 101]? = some (.inl (.int, 64, .inl (fun _ => 0))) := (by rw [a0_M_0 w (by decide)] at gm16; exact gm16)
  replace gm17 : h[m + 102]? = some (.inl (.int, 4, .inl (fun _ => 0))) := (by rw [a0_M_0 w (by decide)] at gm17; exact gm17)
  replace gm18 : h[m + 103]? = some (.inl (.int, 4, .inl (fun _ => 0))) := (by rw [a0_M_0 w (by decide)] at gm18; exact gm18)
  replace gm19 : h[m + 104]? = some (.inl (.int, 256, .inl (fun _ => 0))) := (by rw [a0_M_0 w (by decide)] at gm19; exact gm19)
  replace gm21 : h[m + 105]? = some (.inl (.byte, 58000, .inl (fun _ => 0))) := (by rw [a0_M_0 w (by decide)] at gm21; exact gm21)
  replace gm25 : h[m + 106]? = some (.inl (.boolean, 8, .inl (a0_M w 25))) := gm25
  replace gm26 : h[m + 107]? = some (.inl (.boolean, 8, .inl (fun _ => 0))) := (by rw [a0_M_0 w (by decide)] at gm26; exact gm26)
  refine ab_of2 (lv := [some (.ref m), some (.int n)]) 0 rfl rfl (Nat.le_of_ble_eq_true rfl) ?_
  refine ab_aload_n d_M_pace_0 rfl rfl rfl ?_
  refine ab_iconst (v := 0) d_M_pace_1 (by decide) ?_
  refine ab_put (f := 0) d_M_pace_2 gmo rfl (by decide) (k9 233 rfl rfl) rfl rfl (fun _ => rfl) (fun _ => rfl) (Nat.le_of_ble_eq_true rfl) ?_
  show ab_V _ _ _ _ _ _ _ 5 [some (.ref m), some (.int n)] [] (h.set m (.inr (12, [.int 0, .ref (m + 1), .int 0, .ref (m + 2), .ref (m + 33), .int 0, .int (-1), .int (-1), .ref (m + 64), .ref (m + 74), .ref (m + 84), .ref (m + 94), .int 1, .int 0, .ref (m + 99), .ref (m + 100), .ref (m + 101), .ref (m + 102), .ref (m + 103), .ref (m + 104), .int 0, .ref (m + 105), .int 0, .int 0, .int 0, .ref (m + 106), .ref (m + 107), .int 0, .int 0])))
  refine ab_gen (fun h1 e2 => ?_)
  have c3 : h1[m]? = some (.inr (12, [.int 0, .ref (m + 1), .int 0, .ref (m + 2), .ref (m + 33), .int 0, .int (-1), .int (-1), .ref (m + 64), .ref (m + 74), .ref (m + 84), .ref (m + 94), .int 1, .int 0, .ref (m + 99), .ref (m + 100), .ref (m + 101), .ref (m + 102), .ref (m + 103), .ref (m + 104), .int 0, .ref (m + 105), .int 0, .int 0, .int 0, .ref (m + 106), .ref (m + 107), .int 0, .int 0])) := ab_self e2 gmo
  have c4 : h1[m+1]? = some (.inl (.byte, 6000, .inl (fun _ => 0))) := ab_other e2 (by omega) gm1
  have c5 : h1[m+99]? = some (.inl (.int, 256, .inl (fun _ => 0))) := ab_other e2 (by omega) gm14
  have c6 : h1[m+100]? = some (.inl (.boolean, 256, .inl (fun _ => 0))) := ab_other e2 (by omega) gm15
  have c7 : h1[m+101]? = some (.inl (.int, 64, .inl (fun _ => 0))) := ab_other e2 (by omega) gm16
  have c8 : h1[m+102]? = some (.inl (.int, 4, .inl (fun _ => 0))) := ab_other e2 (by omega) gm17
  have c9 : h1[m+103]? = some (.inl (.int, 4, .inl (fun _ => 0))) := ab_other e2 (by omega) gm18
  have c10 : h1[m+104]? = some (.inl (.int, 256, .inl (fun _ => 0))) := ab_other e2 (by omega) gm19
  have c11 : h1[m+105]? = some (.inl (.byte, 58000, .inl (fun _ => 0))) := ab_other e2 (by omega) gm21
  have c12 : h1[m+106]? = some (.inl (.boolean, 8, .inl (a0_M w 25))) := ab_other e2 (by omega) gm25
  have c13 : h1[m+107]? = some (.inl (.boolean, 8, .inl (fun _ => 0))) := ab_other e2 (by omega) gm26
  have fr14 : ab_fr (fun _ => True) h h1 := ab_fr_set (ab_fr_rf _ _) e2 (by trivial)
  clear e2
  exact ab_vret d_M_pace_5 rfl (Nat.le_refl _) (Nat.le_refl _) (by exact ⟨rfl, trivial⟩)
def sq_M_bend (k : Int32) (n : Int32) : Int32 := (0)
set_option maxRecDepth 20000 in
set_option maxHeartbeats 2000000 in
theorem f_M_bend {h : List ab_E}  {m : Nat} {w k n : Int32}  (h0 : at_M0 h m w) : ab_M y_M_bend { frames := 1, cells := 0, slots := 0, locals := 40 } [.ref m, .int k, .int n] h (ab_A (some (.int (sq_M_bend k n))) (fun h1 => True)) := by
  obtain ⟨hM, hT, hO, hS, hN, hD, hR⟩ := h0
  have hM0 := hM; obtain ⟨gmo, gm1, gm14, gm15, gm16, gm17, gm18, gm19, gm21, gm25, gm26⟩ := hM
  replace gmo : h[m]? = some (.inr (12, [.int 0, .ref (m + 1), .int 0, .ref (m + 2), .ref (m + 33), .int 0, .int (-1), .int (-1), .ref (m + 64), .ref (m + 74), .ref (m + 84), .ref (m + 94), .int 1, .int 0, .ref (m + 99), .ref (m + 100), .ref (m + 101), .ref (m + 102), .ref (m + 103), .ref (m + 104), .int 0, .ref (m + 105), .int 0, .int 0, .int 0, .ref (m + 106), .ref (m + 107), .int 0, .int 0])) := gmo
  replace gm1 : h[m + 1]? = some (.inl (.byte, 6000, .inl (fun _ => 0))) := (by rw [a0_M_0 w (by decide)] at gm1; exact gm1)
  replace gm14 : h[m + 99]? = some (.inl (.int, 256, .inl (fun _ => 0))) := (by rw [a0_M_0 w (by decide)] at gm14; exact gm14)
  replace gm15 : h[m + 100]? = some (.inl (.boolean, 256, .inl (fun _ => 0))) := (by rw [a0_M_0 w (by decide)] at gm15; exact gm15)
  replace gm16 : h[m + 101]? = some (.inl (.int, 64, .inl (fun _ => 0))) := (by rw [a0_M_0 w (by decide)] at gm16; exact gm16)
  replace gm17 : h[m + 102]? = some (.inl (.int, 4, .inl (fun _ => 0))) := (by rw [a0_M_0 w (by decide)] at gm17; exact gm17)
  replace gm18 : h[m + 103]? = some (.inl (.int, 4, .inl (fun _ => 0))) := (by rw [a0_M_0 w (by decide)] at gm18; exact gm18)
  replace gm19 : h[m + 104]? = some (.inl (.int, 256, .inl (fun _ => 0))) := (by rw [a0_M_0 w (by decide)] at gm19; exact gm19)
  replace gm21 : h[m + 105]? = some (.inl (.byte, 58000, .inl (fun _ => 0))) := (by rw [a0_M_0 w (by decide)] at gm21; exact gm21)
  replace gm25 : h[m + 106]? = some (.inl (.boolean, 8, .inl (a0_M w 25))) := gm25
  replace gm26 : h[m + 107]? = some (.inl (.boolean, 8, .inl (fun _ => 0))) := (by rw [a0_M_0 w (by decide)] at gm26; exact gm26)
  refine ab_of2 (lv := [some (.ref m), some (.int k), some (.int n)]) 0 rfl rfl (Nat.le_of_ble_eq_true rfl) ?_
  refine ab_aload_n d_M_bend_0 rfl rfl rfl ?_
  refine ab_iconst (v := 0) d_M_bend_1 (by decide) ?_
  refine ab_put (f := 0) d_M_bend_2 gmo rfl (by decide) (k9 233 rfl rfl) rfl rfl (fun _ => rfl) (fun _ => rfl) (Nat.le_of_ble_eq_true rfl) ?_
  show ab_V _ _ _ _ _ _ _ 5 [some (.ref m), some (.int k), some (.int n)] [] (h.set m (.inr (12, [.int 0, .ref (m + 1), .int 0, .ref (m + 2), .ref (m + 33), .int 0, .int (-1), .int (-1), .ref (m + 64), .ref (m + 74), .ref (m + 84), .ref (m + 94), .int 1, .int 0, .ref (m + 99), .ref (m + 100), .ref (m + 101), .ref (m + 102), .ref (m + 103), .ref (m + 104), .int 0, .ref (m + 105), .int 0, .int 0, .int 0, .ref (m + 106), .ref (m + 107), .int 0, .int 0])))
  refine ab_gen (fun h1 e2 => ?_)
  have c3 : h1[m]? = some (.inr (12, [.int 0, .ref (m + 1), .int 0, .ref (m + 2), .ref (m + 33), .int 0, .int (-1), .int (-1), .ref (m + 64), .ref (m + 74), .ref (m + 84), .ref (m + 94), .int 1, .int 0, .ref (m + 99), .ref (m + 100), .ref (m + 101), .ref (m + 102), .ref (m + 103), .ref (m + 104), .int 0, .ref (m + 105), .int 0, .int 0, .int 0, .ref (m + 106), .ref (m + 107), .int 0, .int 0])) := ab_self e2 gmo
  have c4 : h1[m+1]? = some (.inl (.byte, 6000, .inl (fun _ => 0))) := ab_other e2 (by omega) gm1
  have c5 : h1[m+99]? = some (.inl (.int, 256, .inl (fun _ => 0))) := ab_other e2 (by omega) gm14
  have c6 : h1[m+100]? = some (.inl (.boolean, 256, .inl (fun _ => 0))) := ab_other e2 (by omega) gm15
  have c7 : h1[m+101]? = some (.inl (.int, 64, .inl (fun _ => 0))) := ab_other e2 (by omega) gm16
  have c8 : h1[m+102]? = some (.inl (.int, 4, .inl (fun _ => 0))) := ab_other e2 (by omega) gm17
  have c9 : h1[m+103]? = some (.inl (.int, 4, .inl (fun _ => 0))) := ab_other e2 (by omega) gm18
  have c10 : h1[m+104]? = some (.inl (.int, 256, .inl (fun _ => 0))) := ab_other e2 (by omega) gm19
  have c11 : h1[m+105]? = some (.inl (.byte, 58000, .inl (fun _ => 0))) := ab_other e2 (by omega) gm21
  have c12 : h1[m+106]? = some (.inl (.boolean, 8, .inl (a0_M w 25))) := ab_other e2 (by omega) gm25
  have c13 : h1[m+107]? = some (.inl (.boolean, 8, .inl (fun _ => 0))) := ab_other e2 (by omega) gm26
  have fr14 : ab_fr (fun _ => True) h h1 := ab_fr_set (ab_fr_rf _ _) e2 (by trivial)
  clear e2
  refine ab_iload_n d_M_bend_5 rfl rfl ?_
  refine ab_i2l d_M_bend_6 ?_
  refine ab_lconst (v := 0) d_M_bend_7 (by decide) ?_
  refine ab_aload_n d_M_bend_8 rfl rfl rfl ?_
  refine ab_get (f := 22) d_M_bend_9 c3 rfl (by decide) (k10 15 rfl rfl) rfl ?_
  refine ab_iconst (v := 1) d_M_bend_12 (by decide) ?_
  refine ab_isub d_M_bend_13 ?_
  refine ab_topi (fun x15 ex15 => ?_)
  obtain rfl : x15 = (-1) := ex15.trans (by decide)
  clear ex15
  refine ab_i2l d_M_bend_14 ?_
  refine ab_topl (fun x16 ex16 => ?_)
  obtain rfl : x16 = (-1) := ex16.trans (by decide)
  clear ex16
  refine ab_callS_a (As := [.long ((k : Int32).toInt64), .long 0, .long (-1)]) (rest := []) d_M_bend_15 (c_M_in) (ab_mkC s_M_in (Nat.le_of_ble_eq_true rfl) (Nat.le_of_ble_eq_true rfl) (by decide) (by decide)) (k10 93 rfl rfl) t_M_in rfl (Nat.le_of_ble_eq_true rfl) (fun h18 q17 => ?_)
  subst q17
  refine ab_topi (fun x19 ex19 => ?_)
  obtain rfl : x19 = 0 := ex19.trans (in_e (lo := 0) (hi := (-1)) (by decide) (by decide) (by decide))
  clear ex19
  refine ab_if_ne (tgt := 23) d_M_bend_18 (by decide) (fun q20 => by exact absurd q20 (by decide)) (fun q20 => ?_)
  refine ab_iconst (v := 0) d_M_bend_21 (by decide) ?_
  exact ab_zret d_M_bend_22 rfl rfl (Nat.le_refl _) (Nat.le_refl _) (by unfold sq_M_bend; exact ⟨rfl, trivial⟩)
def sq_M_cut (n : Int32) : Int32 := if n < 0 then (0) else if 0 < n then (0) else (1)
set_option maxRecDepth 20000 in
set_option maxHeartbeats 2000000 in
theorem f_M_cut {h : List ab_E}  {m : Nat} {w n : Int32}  (h0 : at_M0 h m w) : ab_M y_M_cut { frames := 1, cells := 0, slots := 0, locals := 40 } [.ref m, .int n] h (ab_A (some (.int (sq_M_cut n))) (fun h1 => True)) := by
  obtain ⟨hM, hT, hO, hS, hN, hD, hR⟩ := h0
  have hM0 := hM; obtain ⟨gmo, gm1, gm14, gm15, gm16, gm17, gm18, gm19, gm21, gm25, gm26⟩ := hM
  replace gmo : h[m]? = some (.inr (12, [.int 0, .ref (m + 1), .int 0, .ref (m + 2), .ref (m + 33), .int 0, .int (-1), .int (-1), .ref (m + 64), .ref (m + 74), .ref (m + 84), .ref (m + 94), .int 1, .int 0, .ref (m + 99), .ref (m + 100), .ref (m + 101), .ref (m + 102), .ref (m + 103), .ref (m + 104), .int 0, .ref (m + 105), .int 0, .int 0, .int 0, .ref (m + 106), .ref (m + 107), .int 0, .int 0])) := gmo
  replace gm1 : h[m + 1]? = some (.inl (.byte, 6000, .inl (fun _ => 0))) := (by rw [a0_M_0 w (by decide)] at gm1; exact gm1)
  replace gm14 : h[m + 99]? = some (.inl (.int, 256, .inl (fun _ => 0))) := (by rw [a0_M_0 w (by decide)] at gm14; exact gm14)
  replace gm15 : h[m + 100]? = some (.inl (.boolean, 256, .inl (fun _ => 0))) := (by rw [a0_M_0 w (by decide)] at gm15; exact gm15)
  replace gm16 : h[m + 101]? = some (.inl (.int, 64, .inl (fun _ => 0))) := (by rw [a0_M_0 w (by decide)] at gm16; exact gm16)
  replace gm17 : h[m + 102]? = some (.inl (.int, 4, .inl (fun _ => 0))) := (by rw [a0_M_0 w (by decide)] at gm17; exact gm17)
  replace gm18 : h[m + 103]? = some (.inl (.int, 4, .inl (fun _ => 0))) := (by rw [a0_M_0 w (by decide)] at gm18; exact gm18)
  replace gm19 : h[m + 104]? = some (.inl (.int, 256, .inl (fun _ => 0))) := (by rw [a0_M_0 w (by decide)] at gm19; exact gm19)
  replace gm21 : h[m + 105]? = some (.inl (.byte, 58000, .inl (fun _ => 0))) := (by rw [a0_M_0 w (by decide)] at gm21; exact gm21)
  replace gm25 : h[m + 106]? = some (.inl (.boolean, 8, .inl (a0_M w 25))) := gm25
  replace gm26 : h[m + 107]? = some (.inl (.boolean, 8, .inl (fun _ => 0))) := (by rw [a0_M_0 w (by decide)] at gm26; exact gm26)
  refine ab_of2 (lv := [some (.ref m), some (.int n)]) 0 rfl rfl (Nat.le_of_ble_eq_true rfl) ?_
  refine ab_aload_n d_M_cut_0 rfl rfl rfl ?_
  refine ab_iconst (v := 0) d_M_cut_1 (by decide) ?_
  refine ab_put (f := 0) d_M_cut_2 gmo rfl (by decide) (k9 233 rfl rfl) rfl rfl (fun _ => rfl) (fun _ => rfl) (Nat.le_of_ble_eq_true rfl) ?_
  show ab_V _ _ _ _ _ _ _ 5 [some (.ref m), some (.int n)] [] (h.set m (.inr (12, [.int 0, .ref (m + 1), .int 0, .ref (m + 2), .ref (m + 33), .int 0, .int (-1), .int (-1), .ref (m + 64), .ref (m + 74), .ref (m + 84), .ref (m + 94), .int 1, .int 0, .ref (m + 99), .ref (m + 100), .ref (m + 101), .ref (m + 102), .ref (m + 103), .ref (m + 104), .int 0, .ref (m + 105), .int 0, .int 0, .int 0, .ref (m + 106), .ref (m + 107), .int 0, .int 0])))
  refine ab_gen (fun h1 e2 => ?_)
  have c3 : h1[m]? = some (.inr (12, [.int 0, .ref (m + 1), .int 0, .ref (m + 2), .ref (m + 33), .int 0, .int (-1), .int (-1), .ref (m + 64), .ref (m + 74), .ref (m + 84), .ref (m + 94), .int 1, .int 0, .ref (m + 99), .ref (m + 100), .ref (m + 101), .ref (m + 102), .ref (m + 103), .ref (m + 104), .int 0, .ref (m + 105), .int 0, .int 0, .int 0, .ref (m + 106), .ref (m + 107), .int 0, .int 0])) := ab_self e2 gmo
  have c4 : h1[m+1]? = some (.inl (.byte, 6000, .inl (fun _ => 0))) := ab_other e2 (by omega) gm1
  have c5 : h1[m+99]? = some (.inl (.int, 256, .inl (fun _ => 0))) := ab_other e2 (by omega) gm14
  have c6 : h1[m+100]? = some (.inl (.boolean, 256, .inl (fun _ => 0))) := ab_other e2 (by omega) gm15
  have c7 : h1[m+101]? = some (.inl (.int, 64, .inl (fun _ => 0))) := ab_other e2 (by omega) gm16
  have c8 : h1[m+102]? = some (.inl (.int, 4, .inl (fun _ => 0))) := ab_other e2 (by omega) gm17
  have c9 : h1[m+103]? = some (.inl (.int, 4, .inl (fun _ => 0))) := ab_other e2 (by omega) gm18
  have c10 : h1[m+104]? = some (.inl (.int, 256, .inl (fun _ => 0))) := ab_other e2 (by omega) gm19
  have c11 : h1[m+105]? = some (.inl (.byte, 58000, .inl (fun _ => 0))) := ab_other e2 (by omega) gm21
  have c12 : h1[m+106]? = some (.inl (.boolean, 8, .inl (a0_M w 25))) := ab_other e2 (by omega) gm25
  have c13 : h1[m+107]? = some (.inl (.boolean, 8, .inl (fun _ => 0))) := ab_other e2 (by omega) gm26
  have fr14 : ab_fr (fun _ => True) h h1 := ab_fr_set (ab_fr_rf _ _) e2 (by trivial)
  clear e2
  refine ab_iload_n d_M_cut_5 rfl rfl ?_
  refine ab_i2l d_M_cut_6 ?_
  refine ab_lconst (v := 0) d_M_cut_7 (by decide) ?_
  refine ab_aload_n d_M_cut_8 rfl rfl rfl ?_
  refine ab_get (f := 22) d_M_cut_9 c3 rfl (by decide) (k10 15 rfl rfl) rfl ?_
  refine ab_i2l d_M_cut_12 ?_
  refine ab_topl (fun x15 ex15 => ?_)
  obtain rfl : x15 = 0 := ex15.trans (by decide)
  clear ex15
  refine ab_callS_a (As := [.long ((n : Int32).toInt64), .long 0, .long 0]) (rest := []) d_M_cut_13 (c_M_in) (ab_mkC s_M_in (Nat.le_of_ble_eq_true rfl) (Nat.le_of_ble_eq_true rfl) (by decide) (by decide)) (k10 93 rfl rfl) t_M_in rfl (Nat.le_of_ble_eq_true rfl) (fun h17 q16 => ?_)
  subst q16
  by_cases t18 : n < 0
  · refine ab_topi (fun x19 ex19 => ?_)
    obtain rfl : x19 = 0 := ex19.trans (in_1 (lo := 0) (hi := 0) (by decide) (by decide) t18)
    clear ex19
    refine ab_if_ne (tgt := 21) d_M_cut_16 (by decide) (fun q20 => by exact absurd q20 (by decide)) (fun q20 => ?_)
    refine ab_iconst (v := 0) d_M_cut_19 (by decide) ?_
    exact ab_zret d_M_cut_20 rfl rfl (Nat.le_refl _) (Nat.le_refl _) (by unfold sq_M_cut; rw [if_pos t18]; exact ⟨rfl, trivial⟩)
  by_cases t21 : 0 < n
  · refine ab_topi (fun x22 ex22 => ?_)
    obtain rfl : x22 = 0 := ex22.trans (in_2 (lo := 0) (hi := 0) (by decide) (by decide) t21)
    clear ex22
    refine ab_if_ne (tgt := 21) d_M_cut_16 (by decide) (fun q23 => by exact absurd q23 (by decide)) (fun q23 => ?_)
    refine ab_iconst (v := 0) d_M_cut_19 (by decide) ?_
    exact ab_zret d_M_cut_20 rfl rfl (Nat.le_refl _) (Nat.le_refl _) (by unfold sq_M_cut; rw [if_neg t18]; rw [if_pos t21]; exact ⟨rfl, trivial⟩)
  refine ab_topi (fun x24 ex24 => ?_)
  obtain rfl : x24 = 1 := ex24.trans (in_3 (lo := 0) (hi := 0) (by decide) (by decide) t18 t21)
  clear ex24
  refine ab_if_ne (tgt := 21) d_M_cut_16 (by decide) (fun q25 => ?_) (fun q25 => by exact absurd q25 (by decide))
  refine ab_aload_n d_M_cut_21 rfl rfl rfl ?_
  refine ab_iload_n d_M_cut_22 rfl rfl ?_
  refine ab_put (f := 22) d_M_cut_23 c3 rfl (by decide) (k10 15 rfl rfl) rfl rfl (fun _ => rfl) (fun _ => rfl) (Nat.le_of_ble_eq_true rfl) ?_
  show ab_V _ _ _ _ _ _ _ 26 [some (.ref m), some (.int n)] [] (h1.set m (.inr (12, [.int 0, .ref (m + 1), .int 0, .ref (m + 2), .ref (m + 33), .int 0, .int (-1), .int (-1), .ref (m + 64), .ref (m + 74), .ref (m + 84), .ref (m + 94), .int 1, .int 0, .ref (m + 99), .ref (m + 100), .ref (m + 101), .ref (m + 102), .ref (m + 103), .ref (m + 104), .int 0, .ref (m + 105), .int n, .int 0, .int 0, .ref (m + 106), .ref (m + 107), .int 0, .int 0])))
  refine ab_gen (fun h26 e27 => ?_)
  have c28 : h26[m]? = some (.inr (12, [.int 0, .ref (m + 1), .int 0, .ref (m + 2), .ref (m + 33), .int 0, .int (-1), .int (-1), .ref (m + 64), .ref (m + 74), .ref (m + 84), .ref (m + 94), .int 1, .int 0, .ref (m + 99), .ref (m + 100), .ref (m + 101), .ref (m + 102), .ref (m + 103), .ref (m + 104), .int 0, .ref (m + 105), .int n, .int 0, .int 0, .ref (m + 106), .ref (m + 107), .int 0, .int 0])) := ab_self e27 c3
  have c29 : h26[m+1]? = some (.inl (.byte, 6000, .inl (fun _ => 0))) := ab_other e27 (by omega) c4
  have c30 : h26[m+99]? = some (.inl (.int, 256, .inl (fun _ => 0))) := ab_other e27 (by omega) c5
  have c31 : h26[m+100]? = some (.inl (.boolean, 256, .inl (fun _ => 0))) := ab_other e27 (by omega) c6
  have c32 : h26[m+101]? = some (.inl (.int, 64, .inl (fun _ => 0))) := ab_other e27 (by omega) c7
  have c33 : h26[m+102]? = some (.inl (.int, 4, .inl (fun _ => 0))) := ab_other e27 (by omega) c8
  have c34 : h26[m+103]? = some (.inl (.int, 4, .inl (fun _ => 0))) := ab_other e27 (by omega) c9
  have c35 : h26[m+104]? = some (.inl (.int, 256, .inl (fun _ => 0))) := ab_other e27 (by omega) c10
  have c36 : h26[m+105]? = some (.inl (.byte, 58000, .inl (fun _ => 0))) := ab_other e27 (by omega) c11
  have c37 : h26[m+106]? = some (.inl (.boolean, 8, .inl (a0_M w 25))) := ab_other e27 (by omega) c12
  have c38 : h26[m+107]? = some (.inl (.boolean, 8, .inl (fun _ => 0))) := ab_other e27 (by omega) c13
  have fr39 : ab_fr (fun _ => True) h h26 := ab_fr_set fr14 e27 (by trivial)
  clear c3 c4 c5 c6 c7 c8 c9 c10 c11 c12 c13 fr14 e27
  try clear h1
  refine ab_iconst (v := 1) d_M_cut_26 (by decide) ?_
  exact ab_zret d_M_cut_27 rfl rfl (Nat.le_refl _) (Nat.le_refl _) (by unfold sq_M_cut; rw [if_neg t18]; rw [if_neg t21]; exact ⟨rfl, trivial⟩)
def sq_M_byteOut (n : Int32) : Int32 := ((-1))
set_option maxRecDepth 20000 in
set_option maxHeartbeats 2000000 in
theorem f_M_byteOut {h : List ab_E}  {m : Nat} {w n : Int32}  (h0 : at_M0 h m w) : ab_M y_M_byteOut { frames := 1, cells := 0, slots := 0, locals := 40 } [.ref m, .int n] h (ab_A (some (.int (sq_M_byteOut n))) (fun h1 => True)) := by
  obtain ⟨hM, hT, hO, hS, hN, hD, hR⟩ := h0
  have hM0 := hM; obtain ⟨gmo, gm1, gm14, gm15, gm16, gm17, gm18, gm19, gm21, gm25, gm26⟩ := hM
  replace gmo : h[m]? = some (.inr (12, [.int 0, .ref (m + 1), .int 0, .ref (m + 2), .ref (m + 33), .int 0, .int (-1), .int (-1), .ref (m + 64), .ref (m + 74), .ref (m + 84), .ref (m + 94), .int 1, .int 0, .ref (m + 99), .ref (m + 100), .ref (m + 101), .ref (m + 102), .ref (m + 103), .ref (m + 104), .int 0, .ref (m + 105), .int 0, .int 0, .int 0, .ref (m + 106), .ref (m + 107), .int 0, .int 0])) := gmo
  replace gm1 : h[m + 1]? = some (.inl (.byte, 6000, .inl (fun _ => 0))) := (by rw [a0_M_0 w (by decide)] at gm1; exact gm1)
  replace gm14 : h[m + 99]? = some (.inl (.int, 256, .inl (fun _ => 0))) := (by rw [a0_M_0 w (by decide)] at gm14; exact gm14)
  replace gm15 : h[m + 100]? = some (.inl (.boolean, 256, .inl (fun _ => 0))) := (by rw [a0_M_0 w (by decide)] at gm15; exact gm15)
  replace gm16 : h[m + 101]? = some (.inl (.int, 64, .inl (fun _ => 0))) := (by rw [a0_M_0 w (by decide)] at gm16; exact gm16)
  replace gm17 : h[m + 102]? = some (.inl (.int, 4, .inl (fun _ => 0))) := (by rw [a0_M_0 w (by decide)] at gm17; exact gm17)
  replace gm18 : h[m + 103]? = some (.inl (.int, 4, .inl (fun _ => 0))) := (by rw [a0_M_0 w (by decide)] at gm18; exact gm18)
  replace gm19 : h[m + 104]? = some (.inl (.int, 256, .inl (fun _ => 0))) := (by rw [a0_M_0 w (by decide)] at gm19; exact gm19)
  replace gm21 : h[m + 105]? = some (.inl (.byte, 58000, .inl (fun _ => 0))) := (by rw [a0_M_0 w (by decide)] at gm21; exact gm21)
  replace gm25 : h[m + 106]? = some (.inl (.boolean, 8, .inl (a0_M w 25))) := gm25
  replace gm26 : h[m + 107]? = some (.inl (.boolean, 8, .inl (fun _ => 0))) := (by rw [a0_M_0 w (by decide)] at gm26; exact gm26)
  refine ab_of2 (lv := [some (.ref m), some (.int n)]) 0 rfl rfl (Nat.le_of_ble_eq_true rfl) ?_
  refine ab_aload_n d_M_byteOut_0 rfl rfl rfl ?_
  refine ab_iconst (v := 0) d_M_byteOut_1 (by decide) ?_
  refine ab_put (f := 0) d_M_byteOut_2 gmo rfl (by decide) (k9 233 rfl rfl) rfl rfl (fun _ => rfl) (fun _ => rfl) (Nat.le_of_ble_eq_true rfl) ?_
  show ab_V _ _ _ _ _ _ _ 5 [some (.ref m), some (.int n)] [] (h.set m (.inr (12, [.int 0, .ref (m + 1), .int 0, .ref (m + 2), .ref (m + 33), .int 0, .int (-1), .int (-1), .ref (m + 64), .ref (m + 74), .ref (m + 84), .ref (m + 94), .int 1, .int 0, .ref (m + 99), .ref (m + 100), .ref (m + 101), .ref (m + 102), .ref (m + 103), .ref (m + 104), .int 0, .ref (m + 105), .int 0, .int 0, .int 0, .ref (m + 106), .ref (m + 107), .int 0, .int 0])))
  refine ab_gen (fun h1 e2 => ?_)
  have c3 : h1[m]? = some (.inr (12, [.int 0, .ref (m + 1), .int 0, .ref (m + 2), .ref (m + 33), .int 0, .int (-1), .int (-1), .ref (m + 64), .ref (m + 74), .ref (m + 84), .ref (m + 94), .int 1, .int 0, .ref (m + 99), .ref (m + 100), .ref (m + 101), .ref (m + 102), .ref (m + 103), .ref (m + 104), .int 0, .ref (m + 105), .int 0, .int 0, .int 0, .ref (m + 106), .ref (m + 107), .int 0, .int 0])) := ab_self e2 gmo
  have c4 : h1[m+1]? = some (.inl (.byte, 6000, .inl (fun _ => 0))) := ab_other e2 (by omega) gm1
  have c5 : h1[m+99]? = some (.inl (.int, 256, .inl (fun _ => 0))) := ab_other e2 (by omega) gm14
  have c6 : h1[m+100]? = some (.inl (.boolean, 256, .inl (fun _ => 0))) := ab_other e2 (by omega) gm15
  have c7 : h1[m+101]? = some (.inl (.int, 64, .inl (fun _ => 0))) := ab_other e2 (by omega) gm16
  have c8 : h1[m+102]? = some (.inl (.int, 4, .inl (fun _ => 0))) := ab_other e2 (by omega) gm17
  have c9 : h1[m+103]? = some (.inl (.int, 4, .inl (fun _ => 0))) := ab_other e2 (by omega) gm18
  have c10 : h1[m+104]? = some (.inl (.int, 256, .inl (fun _ => 0))) := ab_other e2 (by omega) gm19
  have c11 : h1[m+105]? = some (.inl (.byte, 58000, .inl (fun _ => 0))) := ab_other e2 (by omega) gm21
  have c12 : h1[m+106]? = some (.inl (.boolean, 8, .inl (a0_M w 25))) := ab_other e2 (by omega) gm25
  have c13 : h1[m+107]? = some (.inl (.boolean, 8, .inl (fun _ => 0))) := ab_other e2 (by omega) gm26
  have fr14 : ab_fr (fun _ => True) h h1 := ab_fr_set (ab_fr_rf _ _) e2 (by trivial)
  clear e2
  refine ab_iload_n d_M_byteOut_5 rfl rfl ?_
  refine ab_i2l d_M_byteOut_6 ?_
  refine ab_lconst (v := 0) d_M_byteOut_7 (by decide) ?_
  refine ab_aload_n d_M_byteOut_8 rfl rfl rfl ?_
  refine ab_get (f := 22) d_M_byteOut_9 c3 rfl (by decide) (k10 15 rfl rfl) rfl ?_
  refine ab_iconst (v := 1) d_M_byteOut_12 (by decide) ?_
  refine ab_isub d_M_byteOut_13 ?_
  refine ab_topi (fun x15 ex15 => ?_)
  obtain rfl : x15 = (-1) := ex15.trans (by decide)
  clear ex15
  refine ab_i2l d_M_byteOut_14 ?_
  refine ab_topl (fun x16 ex16 => ?_)
  obtain rfl : x16 = (-1) := ex16.trans (by decide)
  clear ex16
  refine ab_callS_a (As := [.long ((n : Int32).toInt64), .long 0, .long (-1)]) (rest := []) d_M_byteOut_15 (c_M_in) (ab_mkC s_M_in (Nat.le_of_ble_eq_true rfl) (Nat.le_of_ble_eq_true rfl) (by decide) (by decide)) (k10 93 rfl rfl) t_M_in rfl (Nat.le_of_ble_eq_true rfl) (fun h18 q17 => ?_)
  subst q17
  refine ab_topi (fun x19 ex19 => ?_)
  obtain rfl : x19 = 0 := ex19.trans (in_e (lo := 0) (hi := (-1)) (by decide) (by decide) (by decide))
  clear ex19
  refine ab_if_eq (tgt := 34) d_M_byteOut_18 (by decide) (fun q20 => ?_) (fun q20 => by exact absurd (by decide) q20)
  refine ab_iconst (v := (-1)) d_M_byteOut_34 (by decide) ?_
  exact ab_iret d_M_byteOut_35 rfl (Nat.le_refl _) (Nat.le_refl _) (by unfold sq_M_byteOut; exact ⟨rfl, trivial⟩)
def sq_M_load  : Int32 := (-2000000)
set_option maxRecDepth 20000 in
set_option maxHeartbeats 2000000 in
theorem f_M_load {h : List ab_E}    {m : Nat} {w : Int32}    (h0 : at_M0 h m w) : ab_M y_M_load { frames := 1, cells := 0, slots := 0, locals := 40 } [.ref m] h (ab_A (some (.int (sq_M_load ))) (fun h1 => True)) := by
  obtain ⟨hM, hT, hO, hS, hN, hD, hR⟩ := h0
  have hM0 := hM; obtain ⟨gmo, gm1, gm14, gm15, gm16, gm17, gm18, gm19, gm21, gm25, gm26⟩ := hM
  replace gmo : h[m]? = some (.inr (12, [.int 0, .ref (m + 1), .int 0, .ref (m + 2), .ref (m + 33), .int 0, .int (-1), .int (-1), .ref (m + 64), .ref (m + 74), .ref (m + 84), .ref (m + 94), .int 1, .int 0, .ref (m + 99), .ref (m + 100), .ref (m + 101), .ref (m + 102), .ref (m + 103), .ref (m + 104), .int 0, .ref (m + 105), .int 0, .int 0, .int 0, .ref (m + 106), .ref (m + 107), .int 0, .int 0])) := gmo
  replace gm1 : h[m + 1]? = some (.inl (.byte, 6000, .inl (fun _ => 0))) := (by rw [a0_M_0 w (by decide)] at gm1; exact gm1)
  replace gm14 : h[m + 99]? = some (.inl (.int, 256, .inl (fun _ => 0))) := (by rw [a0_M_0 w (by decide)] at gm14; exact gm14)
  replace gm15 : h[m + 100]? = some (.inl (.boolean, 256, .inl (fun _ => 0))) := (by rw [a0_M_0 w (by decide)] at gm15; exact gm15)
  replace gm16 : h[m + 101]? = some (.inl (.int, 64, .inl (fun _ => 0))) := (by rw [a0_M_0 w (by decide)] at gm16; exact gm16)
  replace gm17 : h[m + 102]? = some (.inl (.int, 4, .inl (fun _ => 0))) := (by rw [a0_M_0 w (by decide)] at gm17; exact gm17)
  replace gm18 : h[m + 103]? = some (.inl (.int, 4, .inl (fun _ => 0))) := (by rw [a0_M_0 w (by decide)] at gm18; exact gm18)
  replace gm19 : h[m + 104]? = some (.inl (.int, 256, .inl (fun _ => 0))) := (by rw [a0_M_0 w (by decide)] at gm19; exact gm19)
  replace gm21 : h[m + 105]? = some (.inl (.byte, 58000, .inl (fun _ => 0))) := (by rw [a0_M_0 w (by decide)] at gm21; exact gm21)
  replace gm25 : h[m + 106]? = some (.inl (.boolean, 8, .inl (a0_M w 25))) := gm25
  replace gm26 : h[m + 107]? = some (.inl (.boolean, 8, .inl (fun _ => 0))) := (by rw [a0_M_0 w (by decide)] at gm26; exact gm26)
  have hS0 := hS; obtain ⟨gso, gs4, gs5, gs6, gs7, gs9, gs10, gs11, gs12, gs17⟩ := hS
  replace gso : h[m + 64]? = some (.inr (13, [.int 0, .int 0, .int 0, .int 0, .ref (m + 64 + 1), .ref (m + 64 + 2), .ref (m + 64 + 3), .ref (m + 64 + 4), .int 0, .ref (m + 64 + 5), .ref (m + 64 + 6), .ref (m + 64 + 7), .ref (m + 64 + 8), .int (-1), .int 0, .int 0, .int 0, .ref (m + 64 + 9)])) := gso
  replace gs4 : h[m + 64 + 1]? = some (.inl (.int, 256, .inl (fun _ => 0))) := gs4
  replace gs5 : h[m + 64 + 2]? = some (.inl (.boolean, 256, .inl (fun _ => 0))) := gs5
  replace gs6 : h[m + 64 + 3]? = some (.inl (.int, 256, .inl (fun _ => 0))) := gs6
  replace gs7 : h[m + 64 + 4]? = some (.inl (.int, 12288, .inl (fun _ => 0))) := gs7
  replace gs9 : h[m + 64 + 5]? = some (.inl (.int, 256, .inl (fun _ => 0))) := gs9
  replace gs10 : h[m + 64 + 6]? = some (.inl (.int, 256, .inl (fun _ => 0))) := gs10
  replace gs11 : h[m + 64 + 7]? = some (.inl (.int, 256, .inl (fun _ => 0))) := gs11
  replace gs12 : h[m + 64 + 8]? = some (.inl (.int, 1024, .inl (fun _ => 0))) := gs12
  replace gs17 : h[m + 64 + 9]? = some (.inl (.int, 32, .inl (fun _ => 0))) := gs17
  have hN0 := hN; obtain ⟨gno, gn4, gn5, gn6, gn7, gn9, gn10, gn11, gn12, gn17⟩ := hN
  replace gno : h[m + 74]? = some (.inr (13, [.int 0, .int 0, .int 0, .int 0, .ref (m + 74 + 1), .ref (m + 74 + 2), .ref (m + 74 + 3), .ref (m + 74 + 4), .int 0, .ref (m + 74 + 5), .ref (m + 74 + 6), .ref (m + 74 + 7), .ref (m + 74 + 8), .int (-1), .int 0, .int 0, .int 0, .ref (m + 74 + 9)])) := gno
  replace gn4 : h[m + 74 + 1]? = some (.inl (.int, 256, .inl (fun _ => 0))) := gn4
  replace gn5 : h[m + 74 + 2]? = some (.inl (.boolean, 256, .inl (fun _ => 0))) := gn5
  replace gn6 : h[m + 74 + 3]? = some (.inl (.int, 256, .inl (fun _ => 0))) := gn6
  replace gn7 : h[m + 74 + 4]? = some (.inl (.int, 12288, .inl (fun _ => 0))) := gn7
  replace gn9 : h[m + 74 + 5]? = some (.inl (.int, 256, .inl (fun _ => 0))) := gn9
  replace gn10 : h[m + 74 + 6]? = some (.inl (.int, 256, .inl (fun _ => 0))) := gn10
  replace gn11 : h[m + 74 + 7]? = some (.inl (.int, 256, .inl (fun _ => 0))) := gn11
  replace gn12 : h[m + 74 + 8]? = some (.inl (.int, 1024, .inl (fun _ => 0))) := gn12
  replace gn17 : h[m + 74 + 9]? = some (.inl (.int, 32, .inl (fun _ => 0))) := gn17
  refine ab_of2 (lv := [some (.ref m), none]) 1 rfl rfl (Nat.le_of_ble_eq_true rfl) ?_
  refine ab_aload_n d_M_load_0 rfl rfl rfl ?_
  refine ab_iconst (v := 0) d_M_load_1 (by decide) ?_
  refine ab_put (f := 0) d_M_load_2 gmo rfl (by decide) (k9 233 rfl rfl) rfl rfl (fun _ => rfl) (fun _ => rfl) (Nat.le_of_ble_eq_true rfl) ?_
  show ab_V _ _ _ _ _ _ _ 5 [some (.ref m), none] [] (h.set m (.inr (12, [.int 0, .ref (m + 1), .int 0, .ref (m + 2), .ref (m + 33), .int 0, .int (-1), .int (-1), .ref (m + 64), .ref (m + 74), .ref (m + 84), .ref (m + 94), .int 1, .int 0, .ref (m + 99), .ref (m + 100), .ref (m + 101), .ref (m + 102), .ref (m + 103), .ref (m + 104), .int 0, .ref (m + 105), .int 0, .int 0, .int 0, .ref (m + 106), .ref (m + 107), .int 0, .int 0])))
  refine ab_gen (fun h1 e2 => ?_)
  have c3 : h1[m]? = some (.inr (12, [.int 0, .ref (m + 1), .int 0, .ref (m + 2), .ref (m + 33), .int 0, .int (-1), .int (-1), .ref (m + 64), .ref (m + 74), .ref (m + 84), .ref (m + 94), .int 1, .int 0, .ref (m + 99), .ref (m + 100), .ref (m + 101), .ref (m + 102), .ref (m + 103), .ref (m + 104), .int 0, .ref (m + 105), .int 0, .int 0, .int 0, .ref (m + 106), .ref (m + 107), .int 0, .int 0])) := ab_self e2 gmo
  have c4 : h1[m+1]? = some (.inl (.byte, 6000, .inl (fun _ => 0))) := ab_other e2 (by omega) gm1
  have c5 : h1[m+99]? = some (.inl (.int, 256, .inl (fun _ => 0))) := ab_other e2 (by omega) gm14
  have c6 : h1[m+100]? = some (.inl (.boolean, 256, .inl (fun _ => 0))) := ab_other e2 (by omega) gm15
  have c7 : h1[m+101]? = some (.inl (.int, 64, .inl (fun _ => 0))) := ab_other e2 (by omega) gm16
  have c8 : h1[m+102]? = some (.inl (.int, 4, .inl (fun _ => 0))) := ab_other e2 (by omega) gm17
  have c9 : h1[m+103]? = some (.inl (.int, 4, .inl (fun _ => 0))) := ab_other e2 (by omega) gm18
  have c10 : h1[m+104]? = some (.inl (.int, 256, .inl (fun _ => 0))) := ab_other e2 (by omega) gm19
  have c11 : h1[m+105]? = some (.inl (.byte, 58000, .inl (fun _ => 0))) := ab_other e2 (by omega) gm21
  have c12 : h1[m+106]? = some (.inl (.boolean, 8, .inl (a0_M w 25))) := ab_other e2 (by omega) gm25
  have c13 : h1[m+107]? = some (.inl (.boolean, 8, .inl (fun _ => 0))) := ab_other e2 (by omega) gm26
  have c14 : h1[m+64]? = some (.inr (13, [.int 0, .int 0, .int 0, .int 0, .ref (m + 64 + 1), .ref (m + 64 + 2), .ref (m + 64 + 3), .ref (m + 64 + 4), .int 0, .ref (m + 64 + 5), .ref (m + 64 + 6), .ref (m + 64 + 7), .ref (m + 64 + 8), .int (-1), .int 0, .int 0, .int 0, .ref (m + 64 + 9)])) := ab_other e2 (by omega) gso
  have c15 : h1[m+64+1]? = some (.inl (.int, 256, .inl (fun _ => 0))) := ab_other e2 (by omega) gs4
  have c16 : h1[m+64+2]? = some (.inl (.boolean, 256, .inl (fun _ => 0))) := ab_other e2 (by omega) gs5
  have c17 : h1[m+64+3]? = some (.inl (.int, 256, .inl (fun _ => 0))) := ab_other e2 (by omega) gs6
  have c18 : h1[m+64+4]? = some (.inl (.int, 12288, .inl (fun _ => 0))) := ab_other e2 (by omega) gs7
  have c19 : h1[m+64+5]? = some (.inl (.int, 256, .inl (fun _ => 0))) := ab_other e2 (by omega) gs9
  have c20 : h1[m+64+6]? = some (.inl (.int, 256, .inl (fun _ => 0))) := ab_other e2 (by omega) gs10
  have c21 : h1[m+64+7]? = some (.inl (.int, 256, .inl (fun _ => 0))) := ab_other e2 (by omega) gs11
  have c22 : h1[m+64+8]? = some (.inl (.int, 1024, .inl (fun _ => 0))) := ab_other e2 (by omega) gs12
  have c23 : h1[m+64+9]? = some (.inl (.int, 32, .inl (fun _ => 0))) := ab_other e2 (by omega) gs17
  have c24 : h1[m+74]? = some (.inr (13, [.int 0, .int 0, .int 0, .int 0, .ref (m + 74 + 1), .ref (m + 74 + 2), .ref (m + 74 + 3), .ref (m + 74 + 4), .int 0, .ref (m + 74 + 5), .ref (m + 74 + 6), .ref (m + 74 + 7), .ref (m + 74 + 8), .int (-1), .int 0, .int 0, .int 0, .ref (m + 74 + 9)])) := ab_other e2 (by omega) gno
  have c25 : h1[m+74+1]? = some (.inl (.int, 256, .inl (fun _ => 0))) := ab_other e2 (by omega) gn4
  have c26 : h1[m+74+2]? = some (.inl (.boolean, 256, .inl (fun _ => 0))) := ab_other e2 (by omega) gn5
  have c27 : h1[m+74+3]? = some (.inl (.int, 256, .inl (fun _ => 0))) := ab_other e2 (by omega) gn6
  have c28 : h1[m+74+4]? = some (.inl (.int, 12288, .inl (fun _ => 0))) := ab_other e2 (by omega) gn7
  have c29 : h1[m+74+5]? = some (.inl (.int, 256, .inl (fun _ => 0))) := ab_other e2 (by omega) gn9
  have c30 : h1[m+74+6]? = some (.inl (.int, 256, .inl (fun _ => 0))) := ab_other e2 (by omega) gn10
  have c31 : h1[m+74+7]? = some (.inl (.int, 256, .inl (fun _ => 0))) := ab_other e2 (by omega) gn11
  have c32 : h1[m+74+8]? = some (.inl (.int, 1024, .inl (fun _ => 0))) := ab_other e2 (by omega) gn12
  have c33 : h1[m+74+9]? = some (.inl (.int, 32, .inl (fun _ => 0))) := ab_other e2 (by omega) gn17
  have fr34 : ab_fr (fun _ => True) h h1 := ab_fr_set (ab_fr_rf _ _) e2 (by trivial)
  clear e2
  refine ab_aload_n d_M_load_5 rfl rfl rfl ?_
  refine ab_callV_a (As := []) (rest := []) d_M_load_6 (r_M_isQuiet c3 c24 c14) (ab_mkC s_M_isQuiet (Nat.le_of_ble_eq_true rfl) (Nat.le_of_ble_eq_true rfl) (by decide) (by decide)) (k11 166 rfl rfl) i_M_isQuiet v_M_isQuiet c3 rfl rfl (Nat.le_of_ble_eq_true rfl) (fun h36 q35 => ?_)
  subst q35
  refine ab_if_ne (tgt := 16) d_M_load_9 (by decide) (fun q37 => ?_) (fun q37 => by exact absurd q37 (by decide))
  refine ab_aload_n d_M_load_16 rfl rfl rfl ?_
  refine ab_get (f := 5) d_M_load_17 c3 rfl (by decide) (k9 238 rfl rfl) rfl ?_
  refine ab_if_ne (tgt := 27) d_M_load_20 (by decide) (fun q38 => by exact absurd q38 (by decide)) (fun q38 => ?_)
  refine ab_ldcw d_M_load_23 (k13 57 rfl rfl) ?_
  exact ab_iret d_M_load_26 rfl (Nat.le_refl _) (Nat.le_refl _) (by unfold sq_M_load; exact ⟨rfl, trivial⟩)
def sq_M_get (a : Int32) (b : Int32) (c : Int32) : Int32 := (0)
set_option maxRecDepth 20000 in
set_option maxHeartbeats 2000000 in
theorem f_M_get {h : List ab_E}   {m : Nat} {w a b c : Int32}   (h0 : at_M0 h m w) : ab_M y_M_get { frames := 3, cells := 0, slots := 0, locals := 120 } [.ref m, .int a, .int b, .int c] h (ab_A (some (.int (sq_M_get a b c))) (fun h1 => ∃ fs : List Value, h1[m]? = some (.inr (12, .int 1 :: fs)))) := by
  obtain ⟨hM, hT, hO, hS, hN, hD, hR⟩ := h0
  have hM0 := hM; obtain ⟨gmo, gm1, gm14, gm15, gm16, gm17, gm18, gm19, gm21, gm25, gm26⟩ := hM
  replace gmo : h[m]? = some (.inr (12, [.int 0, .ref (m + 1), .int 0, .ref (m + 2), .ref (m + 33), .int 0, .int (-1), .int (-1), .ref (m + 64), .ref (m + 74), .ref (m + 84), .ref (m + 94), .int 1, .int 0, .ref (m + 99), .ref (m + 100), .ref (m + 101), .ref (m + 102), .ref (m + 103), .ref (m + 104), .int 0, .ref (m + 105), .int 0, .int 0, .int 0, .ref (m + 106), .ref (m + 107), .int 0, .int 0])) := gmo
  replace gm1 : h[m + 1]? = some (.inl (.byte, 6000, .inl (fun _ => 0))) := (by rw [a0_M_0 w (by decide)] at gm1; exact gm1)
  replace gm14 : h[m + 99]? = some (.inl (.int, 256, .inl (fun _ => 0))) := (by rw [a0_M_0 w (by decide)] at gm14; exact gm14)
  replace gm15 : h[m + 100]? = some (.inl (.boolean, 256, .inl (fun _ => 0))) := (by rw [a0_M_0 w (by decide)] at gm15; exact gm15)
  replace gm16 : h[m + 101]? = some (.inl (.int, 64, .inl (fun _ => 0))) := (by rw [a0_M_0 w (by decide)] at gm16; exact gm16)
  replace gm17 : h[m + 102]? = some (.inl (.int, 4, .inl (fun _ => 0))) := (by rw [a0_M_0 w (by decide)] at gm17; exact gm17)
  replace gm18 : h[m + 103]? = some (.inl (.int, 4, .inl (fun _ => 0))) := (by rw [a0_M_0 w (by decide)] at gm18; exact gm18)
  replace gm19 : h[m + 104]? = some (.inl (.int, 256, .inl (fun _ => 0))) := (by rw [a0_M_0 w (by decide)] at gm19; exact gm19)
  replace gm21 : h[m + 105]? = some (.inl (.byte, 58000, .inl (fun _ => 0))) := (by rw [a0_M_0 w (by decide)] at gm21; exact gm21)
  replace gm25 : h[m + 106]? = some (.inl (.boolean, 8, .inl (a0_M w 25))) := gm25
  replace gm26 : h[m + 107]? = some (.inl (.boolean, 8, .inl (fun _ => 0))) := (by rw [a0_M_0 w (by decide)] at gm26; exact gm26)
  have hT0 := hT; obtain ⟨gto, gt0, gt3, gt4, gt5, gt6, gt7, gt8, gt13, gt14, gt15, gt17, gt18, gt19, gt20, gt22, gt23, gt24, gt25, gt27, gt28, gt30, gt31, gt32, gt33, gt34, gt35, gt36, gt38, gt39, gt40⟩ := hT
  replace gto : h[m + 2]? = some (.inr (14, [.ref (m + 2 + 1), .int 0, .int 0, .ref (m + 2 + 2), .ref (m + 2 + 3), .ref (m + 2 + 4), .ref (m + 2 + 5), .ref (m + 2 + 6), .ref (m + 2 + 7), .int 0, .int 0, .int 0, .int 0, .ref (m + 2 + 8), .ref (m + 2 + 9), .ref (m + 2 + 10), .int 0, .ref (m + 2 + 11), .ref (m + 2 + 12), .ref (m + 2 + 13), .ref (m + 2 + 14), .int 0, .ref (m + 2 + 15), .ref (m + 2 + 16), .ref (m + 2 + 17), .ref (m + 2 + 18), .int 0, .ref (m + 2 + 19), .ref (m + 2 + 20), .int 0, .ref (m + 2 + 21), .ref (m + 2 + 22), .ref (m + 2 + 23), .ref (m + 2 + 24), .ref (m + 2 + 25), .ref (m + 2 + 26), .ref (m + 2 + 27), .int 0, .ref (m + 2 + 28), .ref (m + 2 + 29), .ref (m + 2 + 30), .int 0, .int 0])) := gto
  replace gt0 : h[m + 2 + 1]? = some (.inl (.byte, 6000, .inl (fun _ => 0))) := gt0
  replace gt3 : h[m + 2 + 2]? = some (.inl (.int, 6002, .inl (fun _ => 0))) := gt3
  replace gt4 : h[m + 2 + 3]? = some (.inl (.int, 6002, .inl (fun _ => 0))) := gt4
  replace gt5 : h[m + 2 + 4]? = some (.inl (.int, 6002, .inl (fun _ => 0))) := gt5
  replace gt6 : h[m + 2 + 5]? = some (.inl (.int, 6002, .inl (fun _ => 0))) := gt6
  replace gt7 : h[m + 2 + 6]? = some (.inl (.boolean, 6002, .inl (fun _ => 0))) := gt7
  replace gt8 : h[m + 2 + 7]? = some (.inl (.int, 6002, .inl (fun _ => 0))) := gt8
  replace gt13 : h[m + 2 + 8]? = some (.inl (.int, 56, .inl (fun _ => 0))) := gt13
  replace gt14 : h[m + 2 + 9]? = some (.inl (.int, 56, .inl (fun _ => 0))) := gt14
  replace gt15 : h[m + 2 + 10]? = some (.inl (.int, 56, .inl (fun _ => 0))) := gt15
  replace gt17 : h[m + 2 + 11]? = some (.inl (.int, 16, .inl (fun _ => 0))) := gt17
  replace gt18 : h[m + 2 + 12]? = some (.inl (.int, 17, .inl (fun _ => 0))) := gt18
  replace gt19 : h[m + 2 + 13]? = some (.inl (.int, 48, .inl (fun _ => 0))) := gt19
  replace gt20 : h[m + 2 + 14]? = some (.inl (.int, 48, .inl (fun _ => 0))) := gt20
  replace gt22 : h[m + 2 + 15]? = some (.inl (.int, 8, .inl (fun _ => 0))) := gt22
  replace gt23 : h[m + 2 + 16]? = some (.inl (.int, 8, .inl (fun _ => 0))) := gt23
  replace gt24 : h[m + 2 + 17]? = some (.inl (.int, 32, .inl (fun _ => 0))) := gt24
  replace gt25 : h[m + 2 + 18]? = some (.inl (.int, 32, .inl (fun _ => 0))) := gt25
  replace gt27 : h[m + 2 + 19]? = some (.inl (.int, 16, .inl (fun _ => 0))) := gt27
  replace gt28 : h[m + 2 + 20]? = some (.inl (.int, 768, .inl (fun _ => 0))) := gt28
  replace gt30 : h[m + 2 + 21]? = some (.inl (.int, 16, .inl (fun _ => 0))) := gt30
  replace gt31 : h[m + 2 + 22]? = some (.inl (.int, 16, .inl (fun _ => 0))) := gt31
  replace gt32 : h[m + 2 + 23]? = some (.inl (.int, 16, .inl (fun _ => 0))) := gt32
  replace gt33 : h[m + 2 + 24]? = some (.inl (.int, 16, .inl (fun _ => 0))) := gt33
  replace gt34 : h[m + 2 + 25]? = some (.inl (.int, 16, .inl (fun _ => 0))) := gt34
  replace gt35 : h[m + 2 + 26]? = some (.inl (.int, 16, .inl (fun _ => 0))) := gt35
  replace gt36 : h[m + 2 + 27]? = some (.inl (.int, 16, .inl (fun _ => 0))) := gt36
  replace gt38 : h[m + 2 + 28]? = some (.inl (.int, 12, .inl (fun _ => 0))) := gt38
  replace gt39 : h[m + 2 + 29]? = some (.inl (.int, 12, .inl (fun _ => 0))) := gt39
  replace gt40 : h[m + 2 + 30]? = some (.inl (.boolean, 12, .inl (fun _ => 0))) := gt40
  refine ab_of2 (lv := [some (.ref m), some (.int a), some (.int b), some (.int c)]) 0 rfl rfl (Nat.le_of_ble_eq_true rfl) ?_
  refine ab_aload_n d_M_get_0 rfl rfl rfl ?_
  refine ab_aload_n d_M_get_1 rfl rfl rfl ?_
  refine ab_iload_n d_M_get_2 rfl rfl ?_
  refine ab_iload_n d_M_get_3 rfl rfl ?_
  refine ab_iload_n d_M_get_4 rfl rfl ?_
  refine ab_callV_a (As := [.int a, .int b, .int c]) (rest := [.ref m]) d_M_get_5 (r_M_isMember gmo gto) (ab_mkC s_M_isMember (Nat.le_of_ble_eq_true rfl) (Nat.le_of_ble_eq_true rfl) (by decide) (by decide)) (k12 201 rfl rfl) i_M_isMember v_M_isMember gmo rfl rfl (Nat.le_of_ble_eq_true rfl) (fun h2 q1 => ?_)
  subst q1
  refine ab_if_eq (tgt := 15) d_M_get_8 (by decide) (fun q3 => ?_) (fun q3 => by exact absurd (by decide) q3)
  refine ab_iconst (v := 1) d_M_get_15 (by decide) ?_
  refine ab_put (f := 0) d_M_get_16 gmo rfl (by decide) (k9 233 rfl rfl) rfl rfl (fun _ => rfl) (fun _ => rfl) (Nat.le_of_ble_eq_true rfl) ?_
  show ab_V _ _ _ _ _ _ _ 19 [some (.ref m), some (.int a), some (.int b), some (.int c)] [] (h.set m (.inr (12, [.int 1, .ref (m + 1), .int 0, .ref (m + 2), .ref (m + 33), .int 0, .int (-1), .int (-1), .ref (m + 64), .ref (m + 74), .ref (m + 84), .ref (m + 94), .int 1, .int 0, .ref (m + 99), .ref (m + 100), .ref (m + 101), .ref (m + 102), .ref (m + 103), .ref (m + 104), .int 0, .ref (m + 105), .int 0, .int 0, .int 0, .ref (m + 106), .ref (m + 107), .int 0, .int 0])))
  refine ab_gen (fun h4 e5 => ?_)
  have c6 : h4[m]? = some (.inr (12, [.int 1, .ref (m + 1), .int 0, .ref (m + 2), .ref (m + 33), .int 0, .int (-1), .int (-1), .ref (m + 64), .ref (m + 74), .ref (m + 84), .ref (m + 94), .int 1, .int 0, .ref (m + 99), .ref (m + 100), .ref (m + 101), .ref (m + 102), .ref (m + 103), .ref (m + 104), .int 0, .ref (m + 105), .int 0, .int 0, .int 0, .ref (m + 106), .ref (m + 107), .int 0, .int 0])) := ab_self e5 gmo
  have c7 : h4[m+1]? = some (.inl (.byte, 6000, .inl (fun _ => 0))) := ab_other e5 (by omega) gm1
  have c8 : h4[m+99]? = some (.inl (.int, 256, .inl (fun _ => 0))) := ab_other e5 (by omega) gm14
  have c9 : h4[m+100]? = some (.inl (.boolean, 256, .inl (fun _ => 0))) := ab_other e5 (by omega) gm15
  have c10 : h4[m+101]? = some (.inl (.int, 64, .inl (fun _ => 0))) := ab_other e5 (by omega) gm16
  have c11 : h4[m+102]? = some (.inl (.int, 4, .inl (fun _ => 0))) := ab_other e5 (by omega) gm17
  have c12 : h4[m+103]? = some (.inl (.int, 4, .inl (fun _ => 0))) := ab_other e5 (by omega) gm18
  have c13 : h4[m+104]? = some (.inl (.int, 256, .inl (fun _ => 0))) := ab_other e5 (by omega) gm19
  have c14 : h4[m+105]? = some (.inl (.byte, 58000, .inl (fun _ => 0))) := ab_other e5 (by omega) gm21
  have c15 : h4[m+106]? = some (.inl (.boolean, 8, .inl (a0_M w 25))) := ab_other e5 (by omega) gm25
  have c16 : h4[m+107]? = some (.inl (.boolean, 8, .inl (fun _ => 0))) := ab_other e5 (by omega) gm26
  have c17 : h4[m+2]? = some (.inr (14, [.ref (m + 2 + 1), .int 0, .int 0, .ref (m + 2 + 2), .ref (m + 2 + 3), .ref (m + 2 + 4), .ref (m + 2 + 5), .ref (m + 2 + 6), .ref (m + 2 + 7), .int 0, .int 0, .int 0, .int 0, .ref (m + 2 + 8), .ref (m + 2 + 9), .ref (m + 2 + 10), .int 0, .ref (m + 2 + 11), .ref (m + 2 + 12), .ref (m + 2 + 13), .ref (m + 2 + 14), .int 0, .ref (m + 2 + 15), .ref (m + 2 + 16), .ref (m + 2 + 17), .ref (m + 2 + 18), .int 0, .ref (m + 2 + 19), .ref (m + 2 + 20), .int 0, .ref (m + 2 + 21), .ref (m + 2 + 22), .ref (m + 2 + 23), .ref (m + 2 + 24), .ref (m + 2 + 25), .ref (m + 2 + 26), .ref (m + 2 + 27), .int 0, .ref (m + 2 + 28), .ref (m + 2 + 29), .ref (m + 2 + 30), .int 0, .int 0])) := ab_other e5 (by omega) gto
  have c18 : h4[m+2+1]? = some (.inl (.byte, 6000, .inl (fun _ => 0))) := ab_other e5 (by omega) gt0
  have c19 : h4[m+2+2]? = some (.inl (.int, 6002, .inl (fun _ => 0))) := ab_other e5 (by omega) gt3
  have c20 : h4[m+2+3]? = some (.inl (.int, 6002, .inl (fun _ => 0))) := ab_other e5 (by omega) gt4
  have c21 : h4[m+2+4]? = some (.inl (.int, 6002, .inl (fun _ => 0))) := ab_other e5 (by omega) gt5
  have c22 : h4[m+2+5]? = some (.inl (.int, 6002, .inl (fun _ => 0))) := ab_other e5 (by omega) gt6
  have c23 : h4[m+2+6]? = some (.inl (.boolean, 6002, .inl (fun _ => 0))) := ab_other e5 (by omega) gt7
  have c24 : h4[m+2+7]? = some (.inl (.int, 6002, .inl (fun _ => 0))) := ab_other e5 (by omega) gt8
  have c25 : h4[m+2+8]? = some (.inl (.int, 56, .inl (fun _ => 0))) := ab_other e5 (by omega) gt13
  have c26 : h4[m+2+9]? = some (.inl (.int, 56, .inl (fun _ => 0))) := ab_other e5 (by omega) gt14
  have c27 : h4[m+2+10]? = some (.inl (.int, 56, .inl (fun _ => 0))) := ab_other e5 (by omega) gt15
  have c28 : h4[m+2+11]? = some (.inl (.int, 16, .inl (fun _ => 0))) := ab_other e5 (by omega) gt17
  have c29 : h4[m+2+12]? = some (.inl (.int, 17, .inl (fun _ => 0))) := ab_other e5 (by omega) gt18
  have c30 : h4[m+2+13]? = some (.inl (.int, 48, .inl (fun _ => 0))) := ab_other e5 (by omega) gt19
  have c31 : h4[m+2+14]? = some (.inl (.int, 48, .inl (fun _ => 0))) := ab_other e5 (by omega) gt20
  have c32 : h4[m+2+15]? = some (.inl (.int, 8, .inl (fun _ => 0))) := ab_other e5 (by omega) gt22
  have c33 : h4[m+2+16]? = some (.inl (.int, 8, .inl (fun _ => 0))) := ab_other e5 (by omega) gt23
  have c34 : h4[m+2+17]? = some (.inl (.int, 32, .inl (fun _ => 0))) := ab_other e5 (by omega) gt24
  have c35 : h4[m+2+18]? = some (.inl (.int, 32, .inl (fun _ => 0))) := ab_other e5 (by omega) gt25
  have c36 : h4[m+2+19]? = some (.inl (.int, 16, .inl (fun _ => 0))) := ab_other e5 (by omega) gt27
  have c37 : h4[m+2+20]? = some (.inl (.int, 768, .inl (fun _ => 0))) := ab_other e5 (by omega) gt28
  have c38 : h4[m+2+21]? = some (.inl (.int, 16, .inl (fun _ => 0))) := ab_other e5 (by omega) gt30
  have c39 : h4[m+2+22]? = some (.inl (.int, 16, .inl (fun _ => 0))) := ab_other e5 (by omega) gt31
  have c40 : h4[m+2+23]? = some (.inl (.int, 16, .inl (fun _ => 0))) := ab_other e5 (by omega) gt32
  have c41 : h4[m+2+24]? = some (.inl (.int, 16, .inl (fun _ => 0))) := ab_other e5 (by omega) gt33
  have c42 : h4[m+2+25]? = some (.inl (.int, 16, .inl (fun _ => 0))) := ab_other e5 (by omega) gt34
  have c43 : h4[m+2+26]? = some (.inl (.int, 16, .inl (fun _ => 0))) := ab_other e5 (by omega) gt35
  have c44 : h4[m+2+27]? = some (.inl (.int, 16, .inl (fun _ => 0))) := ab_other e5 (by omega) gt36
  have c45 : h4[m+2+28]? = some (.inl (.int, 12, .inl (fun _ => 0))) := ab_other e5 (by omega) gt38
  have c46 : h4[m+2+29]? = some (.inl (.int, 12, .inl (fun _ => 0))) := ab_other e5 (by omega) gt39
  have c47 : h4[m+2+30]? = some (.inl (.boolean, 12, .inl (fun _ => 0))) := ab_other e5 (by omega) gt40
  have fr48 : ab_fr (fun _ => True) h h4 := ab_fr_set (ab_fr_rf _ _) e5 (by trivial)
  clear e5
  refine ab_aload_n d_M_get_19 rfl rfl rfl ?_
  refine ab_get (f := 0) d_M_get_20 c6 rfl (by decide) (k9 233 rfl rfl) rfl ?_
  refine ab_if_le (tgt := 30) d_M_get_23 (by decide) (fun q49 => by exact absurd q49 (by decide)) (fun q49 => ?_)
  refine ab_iconst (v := 0) d_M_get_26 (by decide) ?_
  refine ab_goto (tgt := 58) d_M_get_27 (by decide) ?_
  exact ab_iret d_M_get_58 rfl (Nat.le_refl _) (Nat.le_refl _) (by unfold sq_M_get; exact ⟨rfl, ⟨_, c6⟩⟩)
def sq_M_shown (n : Int32) : Int32 := (0)
set_option maxRecDepth 20000 in
set_option maxHeartbeats 2000000 in
theorem f_M_shown {h : List ab_E}  {m : Nat} {w n : Int32}  (h0 : at_M0 h m w) : ab_M y_M_shown { frames := 3, cells := 0, slots := 0, locals := 120 } [.ref m, .int n] h (ab_A (some (.int (sq_M_shown n))) (fun h1 => ∃ fs : List Value, h1[m]? = some (.inr (12, .int 1 :: fs)))) := by
  obtain ⟨hM, hT, hO, hS, hN, hD, hR⟩ := h0
  have hM0 := hM; obtain ⟨gmo, gm1, gm14, gm15, gm16, gm17, gm18, gm19, gm21, gm25, gm26⟩ := hM
  replace gmo : h[m]? = some (.inr (12, [.int 0, .ref (m + 1), .int 0, .ref (m + 2), .ref (m + 33), .int 0, .int (-1), .int (-1), .ref (m + 64), .ref (m + 74), .ref (m + 84), .ref (m + 94), .int 1, .int 0, .ref (m + 99), .ref (m + 100), .ref (m + 101), .ref (m + 102), .ref (m + 103), .ref (m + 104), .int 0, .ref (m + 105), .int 0, .int 0, .int 0, .ref (m + 106), .ref (m + 107), .int 0, .int 0])) := gmo
  replace gm1 : h[m + 1]? = some (.inl (.byte, 6000, .inl (fun _ => 0))) := (by rw [a0_M_0 w (by decide)] at gm1; exact gm1)
  replace gm14 : h[m + 99]? = some (.inl (.int, 256, .inl (fun _ => 0))) := (by rw [a0_M_0 w (by decide)] at gm14; exact gm14)
  replace gm15 : h[m + 100]? = some (.inl (.boolean, 256, .inl (fun _ => 0))) := (by rw [a0_M_0 w (by decide)] at gm15; exact gm15)
  replace gm16 : h[m + 101]? = some (.inl (.int, 64, .inl (fun _ => 0))) := (by rw [a0_M_0 w (by decide)] at gm16; exact gm16)
  replace gm17 : h[m + 102]? = some (.inl (.int, 4, .inl (fun _ => 0))) := (by rw [a0_M_0 w (by decide)] at gm17; exact gm17)
  replace gm18 : h[m + 103]? = some (.inl (.int, 4, .inl (fun _ => 0))) := (by rw [a0_M_0 w (by decide)] at gm18; exact gm18)
  replace gm19 : h[m + 104]? = some (.inl (.int, 256, .inl (fun _ => 0))) := (by rw [a0_M_0 w (by decide)] at gm19; exact gm19)
  replace gm21 : h[m + 105]? = some (.inl (.byte, 58000, .inl (fun _ => 0))) := (by rw [a0_M_0 w (by decide)] at gm21; exact gm21)
  replace gm25 : h[m + 106]? = some (.inl (.boolean, 8, .inl (a0_M w 25))) := gm25
  replace gm26 : h[m + 107]? = some (.inl (.boolean, 8, .inl (fun _ => 0))) := (by rw [a0_M_0 w (by decide)] at gm26; exact gm26)
  refine ab_of2 (lv := [some (.ref m), some (.int n)]) 0 rfl rfl (Nat.le_of_ble_eq_true rfl) ?_
  refine ab_aload_n d_M_shown_0 rfl rfl rfl ?_
  refine ab_iload_n d_M_shown_1 rfl rfl ?_
  refine ab_i2l d_M_shown_2 ?_
  refine ab_lconst (v := 0) d_M_shown_3 (by decide) ?_
  refine ab_aload_n d_M_shown_4 rfl rfl rfl ?_
  refine ab_get (f := 20) d_M_shown_5 gmo rfl (by decide) (k10 13 rfl rfl) rfl ?_
  refine ab_sipush (v := 256) d_M_shown_8 (by decide) ?_
  refine ab_icmp_ge (tgt := 21) d_M_shown_11 (by decide) (fun q1 => by exact absurd q1 (by decide)) (fun q1 => ?_)
  refine ab_aload_n d_M_shown_14 rfl rfl rfl ?_
  refine ab_get (f := 20) d_M_shown_15 gmo rfl (by decide) (k10 13 rfl rfl) rfl ?_
  refine ab_goto (tgt := 24) d_M_shown_18 (by decide) ?_
  refine ab_iconst (v := 1) d_M_shown_24 (by decide) ?_
  refine ab_isub d_M_shown_25 ?_
  refine ab_topi (fun x2 ex2 => ?_)
  obtain rfl : x2 = (-1) := ex2.trans (by decide)
  clear ex2
  refine ab_i2l d_M_shown_26 ?_
  refine ab_topl (fun x3 ex3 => ?_)
  obtain rfl : x3 = (-1) := ex3.trans (by decide)
  clear ex3
  refine ab_callS_a (As := [.long ((n : Int32).toInt64), .long 0, .long (-1)]) (rest := [.ref m]) d_M_shown_27 (c_M_in) (ab_mkC s_M_in (Nat.le_of_ble_eq_true rfl) (Nat.le_of_ble_eq_true rfl) (by decide) (by decide)) (k10 93 rfl rfl) t_M_in rfl (Nat.le_of_ble_eq_true rfl) (fun h5 q4 => ?_)
  subst q4
  refine ab_topi (fun x6 ex6 => ?_)
  obtain rfl : x6 = 0 := ex6.trans (in_e (lo := 0) (hi := (-1)) (by decide) (by decide) (by decide))
  clear ex6
  refine ab_if_eq (tgt := 37) d_M_shown_30 (by decide) (fun q7 => ?_) (fun q7 => by exact absurd (by decide) q7)
  refine ab_iconst (v := 1) d_M_shown_37 (by decide) ?_
  refine ab_put (f := 0) d_M_shown_38 gmo rfl (by decide) (k9 233 rfl rfl) rfl rfl (fun _ => rfl) (fun _ => rfl) (Nat.le_of_ble_eq_true rfl) ?_
  show ab_V _ _ _ _ _ _ _ 41 [some (.ref m), some (.int n)] [] (h.set m (.inr (12, [.int 1, .ref (m + 1), .int 0, .ref (m + 2), .ref (m + 33), .int 0, .int (-1), .int (-1), .ref (m + 64), .ref (m + 74), .ref (m + 84), .ref (m + 94), .int 1, .int 0, .ref (m + 99), .ref (m + 100), .ref (m + 101), .ref (m + 102), .ref (m + 103), .ref (m + 104), .int 0, .ref (m + 105), .int 0, .int 0, .int 0, .ref (m + 106), .ref (m + 107), .int 0, .int 0])))
  refine ab_gen (fun h8 e9 => ?_)
  have c10 : h8[m]? = some (.inr (12, [.int 1, .ref (m + 1), .int 0, .ref (m + 2), .ref (m + 33), .int 0, .int (-1), .int (-1), .ref (m + 64), .ref (m + 74), .ref (m + 84), .ref (m + 94), .int 1, .int 0, .ref (m + 99), .ref (m + 100), .ref (m + 101), .ref (m + 102), .ref (m + 103), .ref (m + 104), .int 0, .ref (m + 105), .int 0, .int 0, .int 0, .ref (m + 106), .ref (m + 107), .int 0, .int 0])) := ab_self e9 gmo
  have c11 : h8[m+1]? = some (.inl (.byte, 6000, .inl (fun _ => 0))) := ab_other e9 (by omega) gm1
  have c12 : h8[m+99]? = some (.inl (.int, 256, .inl (fun _ => 0))) := ab_other e9 (by omega) gm14
  have c13 : h8[m+100]? = some (.inl (.boolean, 256, .inl (fun _ => 0))) := ab_other e9 (by omega) gm15
  have c14 : h8[m+101]? = some (.inl (.int, 64, .inl (fun _ => 0))) := ab_other e9 (by omega) gm16
  have c15 : h8[m+102]? = some (.inl (.int, 4, .inl (fun _ => 0))) := ab_other e9 (by omega) gm17
  have c16 : h8[m+103]? = some (.inl (.int, 4, .inl (fun _ => 0))) := ab_other e9 (by omega) gm18
  have c17 : h8[m+104]? = some (.inl (.int, 256, .inl (fun _ => 0))) := ab_other e9 (by omega) gm19
  have c18 : h8[m+105]? = some (.inl (.byte, 58000, .inl (fun _ => 0))) := ab_other e9 (by omega) gm21
  have c19 : h8[m+106]? = some (.inl (.boolean, 8, .inl (a0_M w 25))) := ab_other e9 (by omega) gm25
  have c20 : h8[m+107]? = some (.inl (.boolean, 8, .inl (fun _ => 0))) := ab_other e9 (by omega) gm26
  have fr21 : ab_fr (fun _ => True) h h8 := ab_fr_set (ab_fr_rf _ _) e9 (by trivial)
  clear e9
  refine ab_aload_n d_M_shown_41 rfl rfl rfl ?_
  refine ab_get (f := 0) d_M_shown_42 c10 rfl (by decide) (k9 233 rfl rfl) rfl ?_
  refine ab_if_le (tgt := 52) d_M_shown_45 (by decide) (fun q22 => by exact absurd q22 (by decide)) (fun q22 => ?_)
  refine ab_iconst (v := 0) d_M_shown_48 (by decide) ?_
  refine ab_goto (tgt := 69) d_M_shown_49 (by decide) ?_
  exact ab_iret d_M_shown_69 rfl (Nat.le_refl _) (Nat.le_refl _) (by unfold sq_M_shown; exact ⟨rfl, ⟨_, c10⟩⟩)
set_option maxRecDepth 20000 in
set_option maxHeartbeats 2000000 in
theorem r_M_thrown {h : List ab_E} {m : Nat} {v : Int32} {fs : List Value} (ho : h[m]? = some (.inr (12, .int v :: fs))) : ab_M y_M_thrown { frames := 0, cells := 0, slots := 0, locals := 0 } [.ref m] h (ab_A (some (.int v)) (fun h1 => h = h1)) := by
  refine ab_of2 (lv := [some (.ref m)]) 0 rfl rfl (Nat.le_of_ble_eq_true rfl) ?_
  refine ab_aload_n d_M_thrown_0 rfl rfl rfl ?_
  refine ab_get (f := 0) d_M_thrown_1 ho rfl (by decide) (k9 233 rfl rfl) rfl ?_
  exact ab_iret d_M_thrown_4 rfl (Nat.le_refl _) (Nat.le_refl _) ⟨rfl, rfl⟩
