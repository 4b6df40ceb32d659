def sum0 : Int32 := hz 2 (hz (5 * 256) (hz 4 (hz 4 (hz 4 (hz 4 (hz 1 (hz 1 (31 * (31 * 0 + 87) + 69))))))))
set_option maxRecDepth 20000 in
set_option maxHeartbeats 2000000 in
theorem r_pw_sum {h : List ab_E}  {p0 p1 p2 p4 p5 p6 p7 p8 p10 p11 p12 p13 p14 p15 p16 p17 p18 p19 p20 p22 p25 p26 p27 p28 : Value} {t0 t1 t2 t3 t4 t5 t6 t7 t8 t9 t10 t11 t12 t13 t14 t15 t17 t18 t19 t20 t22 t23 t24 t25 t26 t27 t28 t29 t30 t31 t32 t33 t34 t35 t36 t37 t38 t39 t40 t41 t42 : Value} {n6 n7 n9 n10 n11 n12 n13 n14 n15 n16 n17 : Value} {m : Nat}  (po : h[m]? = some (.inr (12, [p0, p1, p2, .ref (m + 2), p4, p5, p6, p7, p8, .ref (m + 74), p10, p11, p12, p13, p14, p15, p16, p17, p18, p19, p20, .ref (m + 105), p22, .int 0, .int 1, p25, p26, p27, p28]))) (to : h[m + 2]? = some (.inr (14, [t0, t1, t2, t3, t4, t5, t6, t7, t8, t9, t10, t11, t12, t13, t14, t15, .int 0, t17, t18, t19, t20, .int 0, t22, t23, t24, t25, t26, t27, t28, t29, t30, t31, t32, t33, t34, t35, t36, t37, t38, t39, t40, t41, t42]))) (no : h[m + 74]? = some (.inr (13, [.int 0, .int 0, .int 0, .int 0, .ref (m + 74 + 1), .ref (m + 74 + 2), n6, n7, .int 0, n9, n10, n11, n12, n13, n14, n15, n16, n17]))) (xa : h[m + 74 + 1]? = some (.inl (.int, 256, .inl (fun _ => 0)))) (za : h[m + 74 + 2]? = some (.inl (.boolean, 256, .inl (fun _ => 0))))  : ab_M y_M_putsWorld { frames := 1, cells := 0, slots := 0, locals := 40 } [.ref m] h (ab_A none (fun h1 => h1[m]? = some (.inr (12, [p0, p1, p2, .ref (m + 2), p4, p5, p6, p7, p8, .ref (m + 74), p10, p11, p12, p13, p14, p15, p16, p17, p18, p19, p20, .ref (m + 105), p22, .int sum0, .int 1, p25, p26, p27, p28])) ∧ ab_fr (fun j => j = m) h h1)) := by
  refine ab_of2 (lv := [some (.ref m), none, none, none]) 3 rfl rfl (Nat.le_of_ble_eq_true rfl) ?_
  refine ab_aload_n d_M_putsWorld_0 rfl rfl rfl ?_
  refine ab_bipush (v := 87) d_M_putsWorld_1 (by decide) ?_
  refine ab_iconst (v := 1) d_M_putsWorld_3 (by decide) ?_
  refine ab_callV_v (As := [.int 87, .int 1]) (rest := []) d_M_putsWorld_4 (r_puts_s87 po) (ab_mkC s_M_puts (Nat.le_of_ble_eq_true rfl) (Nat.le_of_ble_eq_true rfl) (by decide) (by decide)) (k13 32 rfl rfl) i_M_puts v_M_puts po rfl rfl (Nat.le_of_ble_eq_true rfl) (fun h1 q2 => ?_)
  obtain ⟨c4, f3⟩ := q2
  have c5 : h1[m+2]? = some (.inr (14, [t0, t1, t2, t3, t4, t5, t6, t7, t8, t9, t10, t11, t12, t13, t14, t15, .int 0, t17, t18, t19, t20, .int 0, t22, t23, t24, t25, t26, t27, t28, t29, t30, t31, t32, t33, t34, t35, t36, t37, t38, t39, t40, t41, t42])) := ab_fr_at f3 to (by omega)
  have c6 : h1[m+74]? = some (.inr (13, [.int 0, .int 0, .int 0, .int 0, .ref (m + 74 + 1), .ref (m + 74 + 2), n6, n7, .int 0, n9, n10, n11, n12, n13, n14, n15, n16, n17])) := ab_fr_at f3 no (by omega)
  have c7 : h1[m+74+1]? = some (.inl (.int, 256, .inl (fun _ => 0))) := ab_fr_at f3 xa (by omega)
  have c8 : h1[m+74+2]? = some (.inl (.boolean, 256, .inl (fun _ => 0))) := ab_fr_at f3 za (by omega)
  have fr9 : ab_fr (fun j => j = m) h h1 := ab_fr_tr (ab_fr_rf _ _) f3
  clear f3
  replace c4 : h1[m]? = some (.inr (12, [p0, p1, p2, .ref (m + 2), p4, p5, p6, p7, p8, .ref (m + 74), p10, p11, p12, p13, p14, p15, p16, p17, p18, p19, p20, .ref (m + 105), p22, .int (31 * 0 + 87), .int 1, p25, p26, p27, p28])) := c4
  refine ab_aload_n d_M_putsWorld_7 rfl rfl rfl ?_
  refine ab_bipush (v := 69) d_M_putsWorld_8 (by decide) ?_
  refine ab_iconst (v := 1) d_M_putsWorld_10 (by decide) ?_
  refine ab_callV_v (As := [.int 69, .int 1]) (rest := []) d_M_putsWorld_11 (r_puts_s69 c4) (ab_mkC s_M_puts (Nat.le_of_ble_eq_true rfl) (Nat.le_of_ble_eq_true rfl) (by decide) (by decide)) (k13 32 rfl rfl) i_M_puts v_M_puts c4 rfl rfl (Nat.le_of_ble_eq_true rfl) (fun h10 q11 => ?_)
  obtain ⟨c13, f12⟩ := q11
  have c14 : h10[m+2]? = some (.inr (14, [t0, t1, t2, t3, t4, t5, t6, t7, t8, t9, t10, t11, t12, t13, t14, t15, .int 0, t17, t18, t19, t20, .int 0, t22, t23, t24, t25, t26, t27, t28, t29, t30, t31, t32, t33, t34, t35, t36, t37, t38, t39, t40, t41, t42])) := ab_fr_at f12 c5 (by omega)
  have c15 : h10[m+74]? = some (.inr (13, [.int 0, .int 0, .int 0, .int 0, .ref (m + 74 + 1), .ref (m + 74 + 2), n6, n7, .int 0, n9, n10, n11, n12, n13, n14, n15, n16, n17])) := ab_fr_at f12 c6 (by omega)
  have c16 : h10[m+74+1]? = some (.inl (.int, 256, .inl (fun _ => 0))) := ab_fr_at f12 c7 (by omega)
  have c17 : h10[m+74+2]? = some (.inl (.boolean, 256, .inl (fun _ => 0))) := ab_fr_at f12 c8 (by omega)
  have fr18 : ab_fr (fun j => j = m) h h10 := ab_fr_tr fr9 f12
  clear c5 c6 c7 c8 c4 f12 fr9
  try clear h1
  replace c13 : h10[m]? = some (.inr (12, [p0, p1, p2, .ref (m + 2), p4, p5, p6, p7, p8, .ref (m + 74), p10, p11, p12, p13, p14, p15, p16, p17, p18, p19, p20, .ref (m + 105), p22, .int (31 * (31 * 0 + 87) + 69), .int 1, p25, p26, p27, p28])) := c13
  refine ab_aload_n d_M_putsWorld_14 rfl rfl rfl ?_
  refine ab_aload_n d_M_putsWorld_15 rfl rfl rfl ?_
  refine ab_get (f := 3) d_M_putsWorld_16 c13 rfl (by decide) (k9 236 rfl rfl) rfl ?_
  refine ab_getN (f := 16) d_M_putsWorld_19 c14 rfl (by decide) (k8 180 rfl rfl) rfl ?_
  refine ab_iconst (v := 1) d_M_putsWorld_22 (by decide) ?_
  refine ab_callV_v (As := [.int 0, .int 1]) (rest := []) d_M_putsWorld_23 (r_puts_s1 c13) (ab_mkC s_M_puts (Nat.le_of_ble_eq_true rfl) (Nat.le_of_ble_eq_true rfl) (by decide) (by decide)) (k13 32 rfl rfl) i_M_puts v_M_puts c13 rfl rfl (Nat.le_of_ble_eq_true rfl) (fun h19 q20 => ?_)
  obtain ⟨c22, f21⟩ := q20
  have c23 : h19[m+2]? = some (.inr (14, [t0, t1, t2, t3, t4, t5, t6, t7, t8, t9, t10, t11, t12, t13, t14, t15, .int 0, t17, t18, t19, t20, .int 0, t22, t23, t24, t25, t26, t27, t28, t29, t30, t31, t32, t33, t34, t35, t36, t37, t38, t39, t40, t41, t42])) := ab_fr_at f21 c14 (by omega)
  have c24 : h19[m+74]? = some (.inr (13, [.int 0, .int 0, .int 0, .int 0, .ref (m + 74 + 1), .ref (m + 74 + 2), n6, n7, .int 0, n9, n10, n11, n12, n13, n14, n15, n16, n17])) := ab_fr_at f21 c15 (by omega)
  have c25 : h19[m+74+1]? = some (.inl (.int, 256, .inl (fun _ => 0))) := ab_fr_at f21 c16 (by omega)
  have c26 : h19[m+74+2]? = some (.inl (.boolean, 256, .inl (fun _ => 0))) := ab_fr_at f21 c17 (by omega)
  have fr27 : ab_fr (fun j => j = m) h h19 := ab_fr_tr fr18 f21
  clear c14 c15 c16 c17 c13 f21 fr18
  try clear h10
  replace c22 : h19[m]? = some (.inr (12, [p0, p1, p2, .ref (m + 2), p4, p5, p6, p7, p8, .ref (m + 74), p10, p11, p12, p13, p14, p15, p16, p17, p18, p19, p20, .ref (m + 105), p22, .int (hz 1 (31 * (31 * 0 + 87) + 69)), .int 1, p25, p26, p27, p28])) := c22
  refine ab_iconst (v := 0) d_M_putsWorld_26 (by decide) ?_
  refine ab_istore_n (lv' := [some (.ref m), some (.int 0), none, none]) d_M_putsWorld_27 rfl (by decide) rfl ?_
  refine ab_iload_n d_M_putsWorld_28 rfl rfl ?_
  refine ab_aload_n d_M_putsWorld_29 rfl rfl rfl ?_
  refine ab_get (f := 3) d_M_putsWorld_30 c22 rfl (by decide) (k9 236 rfl rfl) rfl ?_
  refine ab_getN (f := 16) d_M_putsWorld_33 c23 rfl (by decide) (k8 180 rfl rfl) rfl ?_
  refine ab_icmp_ge (tgt := 116) d_M_putsWorld_36 (by decide) (fun q28 => ?_) (fun q28 => by exact absurd (by decide) q28)
  refine ab_aload_n d_M_putsWorld_116 rfl rfl rfl ?_
  refine ab_aload_n d_M_putsWorld_117 rfl rfl rfl ?_
  refine ab_get (f := 3) d_M_putsWorld_118 c22 rfl (by decide) (k9 236 rfl rfl) rfl ?_
  refine ab_getN (f := 21) d_M_putsWorld_121 c23 rfl (by decide) (k8 195 rfl rfl) rfl ?_
  refine ab_iconst (v := 1) d_M_putsWorld_124 (by decide) ?_
  refine ab_callV_v (As := [.int 0, .int 1]) (rest := []) d_M_putsWorld_125 (r_puts_s1 c22) (ab_mkC s_M_puts (Nat.le_of_ble_eq_true rfl) (Nat.le_of_ble_eq_true rfl) (by decide) (by decide)) (k13 32 rfl rfl) i_M_puts v_M_puts c22 rfl rfl (Nat.le_of_ble_eq_true rfl) (fun h29 q30 => ?_)
  obtain ⟨c32, f31⟩ := q30
  have c33 : h29[m+2]? = some (.inr (14, [t0, t1, t2, t3, t4, t5, t6, t7, t8, t9, t10, t11, t12, t13, t14, t15, .int 0, t17, t18, t19, t20, .int 0, t22, t23, t24, t25, t26, t27, t28, t29, t30, t31, t32, t33, t34, t35, t36, t37, t38, t39, t40, t41, t42])) := ab_fr_at f31 c23 (by omega)
  have c34 : h29[m+74]? = some (.inr (13, [.int 0, .int 0, .int 0, .int 0, .ref (m + 74 + 1), .ref (m + 74 + 2), n6, n7, .int 0, n9, n10, n11, n12, n13, n14, n15, n16, n17])) := ab_fr_at f31 c24 (by omega)
  have c35 : h29[m+74+1]? = some (.inl (.int, 256, .inl (fun _ => 0))) := ab_fr_at f31 c25 (by omega)
  have c36 : h29[m+74+2]? = some (.inl (.boolean, 256, .inl (fun _ => 0))) := ab_fr_at f31 c26 (by omega)
  have fr37 : ab_fr (fun j => j = m) h h29 := ab_fr_tr fr27 f31
  clear c23 c24 c25 c26 c22 f31 fr27
  try clear h19
  replace c32 : h29[m]? = some (.inr (12, [p0, p1, p2, .ref (m + 2), p4, p5, p6, p7, p8, .ref (m + 74), p10, p11, p12, p13, p14, p15, p16, p17, p18, p19, p20, .ref (m + 105), p22, .int (hz 1 (hz 1 (31 * (31 * 0 + 87) + 69))), .int 1, p25, p26, p27, p28])) := c32
  refine ab_iconst (v := 0) d_M_putsWorld_128 (by decide) ?_
  refine ab_istore_n (lv' := [some (.ref m), some (.int 0), none, none]) d_M_putsWorld_129 rfl (by decide) rfl ?_
  refine ab_iload_n d_M_putsWorld_130 rfl rfl ?_
  refine ab_aload_n d_M_putsWorld_131 rfl rfl rfl ?_
  refine ab_get (f := 3) d_M_putsWorld_132 c32 rfl (by decide) (k9 236 rfl rfl) rfl ?_
  refine ab_getN (f := 21) d_M_putsWorld_135 c33 rfl (by decide) (k8 195 rfl rfl) rfl ?_
  refine ab_icmp_ge (tgt := 200) d_M_putsWorld_138 (by decide) (fun q38 => ?_) (fun q38 => by exact absurd (by decide) q38)
  refine ab_aload_n d_M_putsWorld_200 rfl rfl rfl ?_
  refine ab_aload_n d_M_putsWorld_201 rfl rfl rfl ?_
  refine ab_get (f := 9) d_M_putsWorld_202 c32 rfl (by decide) (k10 2 rfl rfl) rfl ?_
  refine ab_getN (f := 0) d_M_putsWorld_205 c34 rfl (by decide) (k9 89 rfl rfl) rfl ?_
  refine ab_iconst (v := 4) d_M_putsWorld_208 (by decide) ?_
  refine ab_callV_v (As := [.int 0, .int 4]) (rest := []) d_M_putsWorld_209 (r_puts_s4 c32) (ab_mkC s_M_puts (Nat.le_of_ble_eq_true rfl) (Nat.le_of_ble_eq_true rfl) (by decide) (by decide)) (k13 32 rfl rfl) i_M_puts v_M_puts c32 rfl rfl (Nat.le_of_ble_eq_true rfl) (fun h39 q40 => ?_)
  obtain ⟨c42, f41⟩ := q40
  have c43 : h39[m+2]? = some (.inr (14, [t0, t1, t2, t3, t4, t5, t6, t7, t8, t9, t10, t11, t12, t13, t14, t15, .int 0, t17, t18, t19, t20, .int 0, t22, t23, t24, t25, t26, t27, t28, t29, t30, t31, t32, t33, t34, t35, t36, t37, t38, t39, t40, t41, t42])) := ab_fr_at f41 c33 (by omega)
  have c44 : h39[m+74]? = some (.inr (13, [.int 0, .int 0, .int 0, .int 0, .ref (m + 74 + 1), .ref (m + 74 + 2), n6, n7, .int 0, n9, n10, n11, n12, n13, n14, n15, n16, n17])) := ab_fr_at f41 c34 (by omega)
  have c45 : h39[m+74+1]? = some (.inl (.int, 256, .inl (fun _ => 0))) := ab_fr_at f41 c35 (by omega)
  have c46 : h39[m+74+2]? = some (.inl (.boolean, 256, .inl (fun _ => 0))) := ab_fr_at f41 c36 (by omega)
  have fr47 : ab_fr (fun j => j = m) h h39 := ab_fr_tr fr37 f41
  clear c33 c34 c35 c36 c32 f41 fr37
  try clear h29
  replace c42 : h39[m]? = some (.inr (12, [p0, p1, p2, .ref (m + 2), p4, p5, p6, p7, p8, .ref (m + 74), p10, p11, p12, p13, p14, p15, p16, p17, p18, p19, p20, .ref (m + 105), p22, .int (hz 4 (hz 1 (hz 1 (31 * (31 * 0 + 87) + 69)))), .int 1, p25, p26, p27, p28])) := c42
  refine ab_aload_n d_M_putsWorld_212 rfl rfl rfl ?_
  refine ab_aload_n d_M_putsWorld_213 rfl rfl rfl ?_
  refine ab_get (f := 9) d_M_putsWorld_214 c42 rfl (by decide) (k10 2 rfl rfl) rfl ?_
  refine ab_getN (f := 1) d_M_putsWorld_217 c44 rfl (by decide) (k9 91 rfl rfl) rfl ?_
  refine ab_iconst (v := 4) d_M_putsWorld_220 (by decide) ?_
  refine ab_callV_v (As := [.int 0, .int 4]) (rest := []) d_M_putsWorld_221 (r_puts_s4 c42) (ab_mkC s_M_puts (Nat.le_of_ble_eq_true rfl) (Nat.le_of_ble_eq_true rfl) (by decide) (by decide)) (k13 32 rfl rfl) i_M_puts v_M_puts c42 rfl rfl (Nat.le_of_ble_eq_true rfl) (fun h48 q49 => ?_)
  obtain ⟨c51, f50⟩ := q49
  have c52 : h48[m+2]? = some (.inr (14, [t0, t1, t2, t3, t4, t5, t6, t7, t8, t9, t10, t11, t12, t13, t14, t15, .int 0, t17, t18, t19, t20, .int 0, t22, t23, t24, t25, t26, t27, t28, t29, t30, t31, t32, t33, t34, t35, t36, t37, t38, t39, t40, t41, t42])) := ab_fr_at f50 c43 (by omega)
  have c53 : h48[m+74]? = some (.inr (13, [.int 0, .int 0, .int 0, .int 0, .ref (m + 74 + 1), .ref (m + 74 + 2), n6, n7, .int 0, n9, n10, n11, n12, n13, n14, n15, n16, n17])) := ab_fr_at f50 c44 (by omega)
  have c54 : h48[m+74+1]? = some (.inl (.int, 256, .inl (fun _ => 0))) := ab_fr_at f50 c45 (by omega)
  have c55 : h48[m+74+2]? = some (.inl (.boolean, 256, .inl (fun _ => 0))) := ab_fr_at f50 c46 (by omega)
  have fr56 : ab_fr (fun j => j = m) h h48 := ab_fr_tr fr47 f50
  clear c43 c44 c45 c46 c42 f50 fr47
  try clear h39
  replace c51 : h48[m]? = some (.inr (12, [p0, p1, p2, .ref (m + 2), p4, p5, p6, p7, p8, .ref (m + 74), p10, p11, p12, p13, p14, p15, p16, p17, p18, p19, p20, .ref (m + 105), p22, .int (hz 4 (hz 4 (hz 1 (hz 1 (31 * (31 * 0 + 87) + 69))))), .int 1, p25, p26, p27, p28])) := c51
  refine ab_aload_n d_M_putsWorld_224 rfl rfl rfl ?_
  refine ab_aload_n d_M_putsWorld_225 rfl rfl rfl ?_
  refine ab_get (f := 9) d_M_putsWorld_226 c51 rfl (by decide) (k10 2 rfl rfl) rfl ?_
  refine ab_getN (f := 2) d_M_putsWorld_229 c53 rfl (by decide) (k9 94 rfl rfl) rfl ?_
  refine ab_iconst (v := 4) d_M_putsWorld_232 (by decide) ?_
  refine ab_callV_v (As := [.int 0, .int 4]) (rest := []) d_M_putsWorld_233 (r_puts_s4 c51) (ab_mkC s_M_puts (Nat.le_of_ble_eq_true rfl) (Nat.le_of_ble_eq_true rfl) (by decide) (by decide)) (k13 32 rfl rfl) i_M_puts v_M_puts c51 rfl rfl (Nat.le_of_ble_eq_true rfl) (fun h57 q58 => ?_)
  obtain ⟨c60, f59⟩ := q58
  have c61 : h57[m+2]? = some (.inr (14, [t0, t1, t2, t3, t4, t5, t6, t7, t8, t9, t10, t11, t12, t13, t14, t15, .int 0, t17, t18, t19, t20, .int 0, t22, t23, t24, t25, t26, t27, t28, t29, t30, t31, t32, t33, t34, t35, t36, t37, t38, t39, t40, t41, t42])) := ab_fr_at f59 c52 (by omega)
  have c62 : h57[m+74]? = some (.inr (13, [.int 0, .int 0, .int 0, .int 0, .ref (m + 74 + 1), .ref (m + 74 + 2), n6, n7, .int 0, n9, n10, n11, n12, n13, n14, n15, n16, n17])) := ab_fr_at f59 c53 (by omega)
  have c63 : h57[m+74+1]? = some (.inl (.int, 256, .inl (fun _ => 0))) := ab_fr_at f59 c54 (by omega)
  have c64 : h57[m+74+2]? = some (.inl (.boolean, 256, .inl (fun _ => 0))) := ab_fr_at f59 c55 (by omega)
  have fr65 : ab_fr (fun j => j = m) h h57 := ab_fr_tr fr56 f59
  clear c52 c53 c54 c55 c51 f59 fr56
  try clear h48
  replace c60 : h57[m]? = some (.inr (12, [p0, p1, p2, .ref (m + 2), p4, p5, p6, p7, p8, .ref (m + 74), p10, p11, p12, p13, p14, p15, p16, p17, p18, p19, p20, .ref (m + 105), p22, .int (hz 4 (hz 4 (hz 4 (hz 1 (hz 1 (31 * (31 * 0 + 87) + 69)))))), .int 1, p25, p26, p27, p28])) := c60
  refine ab_aload_n d_M_putsWorld_236 rfl rfl rfl ?_
  refine ab_aload_n d_M_putsWorld_237 rfl rfl rfl ?_
  refine ab_get (f := 9) d_M_putsWorld_238 c60 rfl (by decide) (k10 2 rfl rfl) rfl ?_
  refine ab_getN (f := 3) d_M_putsWorld_241 c62 rfl (by decide) (k9 97 rfl rfl) rfl ?_
  refine ab_iconst (v := 4) d_M_putsWorld_244 (by decide) ?_
  refine ab_callV_v (As := [.int 0, .int 4]) (rest := []) d_M_putsWorld_245 (r_puts_s4 c60) (ab_mkC s_M_puts (Nat.le_of_ble_eq_true rfl) (Nat.le_of_ble_eq_true rfl) (by decide) (by decide)) (k13 32 rfl rfl) i_M_puts v_M_puts c60 rfl rfl (Nat.le_of_ble_eq_true rfl) (fun h66 q67 => ?_)
  obtain ⟨c69, f68⟩ := q67
  have c70 : h66[m+2]? = some (.inr (14, [t0, t1, t2, t3, t4, t5, t6, t7, t8, t9, t10, t11, t12, t13, t14, t15, .int 0, t17, t18, t19, t20, .int 0, t22, t23, t24, t25, t26, t27, t28, t29, t30, t31, t32, t33, t34, t35, t36, t37, t38, t39, t40, t41, t42])) := ab_fr_at f68 c61 (by omega)
  have c71 : h66[m+74]? = some (.inr (13, [.int 0, .int 0, .int 0, .int 0, .ref (m + 74 + 1), .ref (m + 74 + 2), n6, n7, .int 0, n9, n10, n11, n12, n13, n14, n15, n16, n17])) := ab_fr_at f68 c62 (by omega)
  have c72 : h66[m+74+1]? = some (.inl (.int, 256, .inl (fun _ => 0))) := ab_fr_at f68 c63 (by omega)
  have c73 : h66[m+74+2]? = some (.inl (.boolean, 256, .inl (fun _ => 0))) := ab_fr_at f68 c64 (by omega)
  have fr74 : ab_fr (fun j => j = m) h h66 := ab_fr_tr fr65 f68
  clear c61 c62 c63 c64 c60 f68 fr65
  try clear h57
  replace c69 : h66[m]? = some (.inr (12, [p0, p1, p2, .ref (m + 2), p4, p5, p6, p7, p8, .ref (m + 74), p10, p11, p12, p13, p14, p15, p16, p17, p18, p19, p20, .ref (m + 105), p22, .int (hz 4 (hz 4 (hz 4 (hz 4 (hz 1 (hz 1 (31 * (31 * 0 + 87) + 69))))))), .int 1, p25, p26, p27, p28])) := c69
  refine ab_iconst (v := 0) d_M_putsWorld_248 (by decide) ?_
  refine ab_istore_n (lv' := [some (.ref m), some (.int 0), none, none]) d_M_putsWorld_249 rfl (by decide) rfl ?_
  obtain ⟨y75, ey75⟩ : ∃ z : Int32, z = hz 4 (hz 4 (hz 4 (hz 4 (hz 1 (hz 1 (31 * (31 * 0 + 87) + 69)))))) := ⟨_, rfl⟩
  have c76 : h66[m]? = some (.inr (12, [p0, p1, p2, .ref (m + 2), p4, p5, p6, p7, p8, .ref (m + 74), p10, p11, p12, p13, p14, p15, p16, p17, p18, p19, p20, .ref (m + 105), p22, .int (hz (5 * 0) y75), .int 1, p25, p26, p27, p28])) := (by have z := c69; rw [← ey75] at z; exact z)
  refine l_pw_sum  (Nat.le_of_ble_eq_true rfl) (Nat.le_of_ble_eq_true rfl) 256 0 h66  (by omega) c76 c71 c72 c73 (fun h77  c78 c79 c80 c81 f82 => ?_)
  have c83 : h77[m+2]? = some (.inr (14, [t0, t1, t2, t3, t4, t5, t6, t7, t8, t9, t10, t11, t12, t13, t14, t15, .int 0, t17, t18, t19, t20, .int 0, t22, t23, t24, t25, t26, t27, t28, t29, t30, t31, t32, t33, t34, t35, t36, t37, t38, t39, t40, t41, t42])) := ab_fr_at f82 c70 (by omega)
  have fr84 : ab_fr (fun j => j = m) h h77 := ab_fr_tr fr74 f82
  clear c70 c71 c72 c73 c76 f82 fr74
  try clear h66
  refine ab_aload_n d_M_putsWorld_414 rfl rfl rfl ?_
  refine ab_aload_n d_M_putsWorld_415 rfl rfl rfl ?_
  refine ab_get (f := 9) d_M_putsWorld_416 c78 rfl (by decide) (k10 2 rfl rfl) rfl ?_
  refine ab_getN (f := 8) d_M_putsWorld_419 c79 rfl (by decide) (k9 112 rfl rfl) rfl ?_
  refine ab_iconst (v := 2) d_M_putsWorld_422 (by decide) ?_
  refine ab_callV_v (As := [.int 0, .int 2]) (rest := []) d_M_putsWorld_423 (r_puts_s2 c78) (ab_mkC s_M_puts (Nat.le_of_ble_eq_true rfl) (Nat.le_of_ble_eq_true rfl) (by decide) (by decide)) (k13 32 rfl rfl) i_M_puts v_M_puts c78 rfl rfl (Nat.le_of_ble_eq_true rfl) (fun h85 q86 => ?_)
  obtain ⟨c88, f87⟩ := q86
  have c89 : h85[m+2]? = some (.inr (14, [t0, t1, t2, t3, t4, t5, t6, t7, t8, t9, t10, t11, t12, t13, t14, t15, .int 0, t17, t18, t19, t20, .int 0, t22, t23, t24, t25, t26, t27, t28, t29, t30, t31, t32, t33, t34, t35, t36, t37, t38, t39, t40, t41, t42])) := ab_fr_at f87 c83 (by omega)
  have c90 : h85[m+74]? = some (.inr (13, [.int 0, .int 0, .int 0, .int 0, .ref (m + 74 + 1), .ref (m + 74 + 2), n6, n7, .int 0, n9, n10, n11, n12, n13, n14, n15, n16, n17])) := ab_fr_at f87 c79 (by omega)
  have c91 : h85[m+74+1]? = some (.inl (.int, 256, .inl (fun _ => 0))) := ab_fr_at f87 c80 (by omega)
  have c92 : h85[m+74+2]? = some (.inl (.boolean, 256, .inl (fun _ => 0))) := ab_fr_at f87 c81 (by omega)
  have fr93 : ab_fr (fun j => j = m) h h85 := ab_fr_tr fr84 f87
  clear c83 c78 c79 c80 c81 f87 fr84
  try clear h77
  replace c88 : h85[m]? = some (.inr (12, [p0, p1, p2, .ref (m + 2), p4, p5, p6, p7, p8, .ref (m + 74), p10, p11, p12, p13, p14, p15, p16, p17, p18, p19, p20, .ref (m + 105), p22, .int (hz 2 (hz (5 * 256) y75)), .int 1, p25, p26, p27, p28])) := c88
  refine ab_iconst (v := 0) d_M_putsWorld_426 (by decide) ?_
  refine ab_istore_n (lv' := [some (.ref m), some (.int 0), none, none]) d_M_putsWorld_427 rfl (by decide) rfl ?_
  refine ab_iload_n d_M_putsWorld_428 rfl rfl ?_
  refine ab_aload_n d_M_putsWorld_429 rfl rfl rfl ?_
  refine ab_get (f := 9) d_M_putsWorld_430 c88 rfl (by decide) (k10 2 rfl rfl) rfl ?_
  refine ab_getN (f := 8) d_M_putsWorld_433 c90 rfl (by decide) (k9 112 rfl rfl) rfl ?_
  refine ab_icmp_ge (tgt := 534) d_M_putsWorld_436 (by decide) (fun q94 => ?_) (fun q94 => by exact absurd (by decide) q94)
  exact ab_vret d_M_putsWorld_534 rfl (Nat.le_refl _) (Nat.le_refl _) (by exact ⟨rfl, (by subst ey75; exact c88), fr93⟩)
set_option maxRecDepth 20000 in
set_option maxHeartbeats 2000000 in
theorem r_pw_out {h : List ab_E}  {p0 p1 p2 p4 p5 p6 p7 p8 p10 p11 p12 p13 p14 p15 p16 p17 p18 p19 p20 p23 p25 p26 p27 p28 : Value} {qf : Nat → Int32} {t0 t1 t2 t3 t4 t5 t6 t7 t8 t9 t10 t11 t12 t13 t14 t15 t17 t18 t19 t20 t22 t23 t24 t25 t26 t27 t28 t29 t30 t31 t32 t33 t34 t35 t36 t37 t38 t39 t40 t41 t42 : Value} {n6 n7 n9 n10 n11 n12 n13 n14 n15 n16 n17 : Value} {m : Nat}  (po : h[m]? = some (.inr (12, [p0, p1, p2, .ref (m + 2), p4, p5, p6, p7, p8, .ref (m + 74), p10, p11, p12, p13, p14, p15, p16, p17, p18, p19, p20, .ref (m + 105), .int 0, p23, .int 0, p25, p26, p27, p28]))) (qa : h[m + 105]? = some (.inl (.byte, 58000, .inl qf))) (to : h[m + 2]? = some (.inr (14, [t0, t1, t2, t3, t4, t5, t6, t7, t8, t9, t10, t11, t12, t13, t14, t15, .int 0, t17, t18, t19, t20, .int 0, t22, t23, t24, t25, t26, t27, t28, t29, t30, t31, t32, t33, t34, t35, t36, t37, t38, t39, t40, t41, t42]))) (no : h[m + 74]? = some (.inr (13, [.int 0, .int 0, .int 0, .int 0, .ref (m + 74 + 1), .ref (m + 74 + 2), n6, n7, .int 0, n9, n10, n11, n12, n13, n14, n15, n16, n17]))) (xa : h[m + 74 + 1]? = some (.inl (.int, 256, .inl (fun _ => 0)))) (za : h[m + 74 + 2]? = some (.inl (.boolean, 256, .inl (fun _ => 0))))  : ab_M y_M_putsWorld { frames := 1, cells := 0, slots := 0, locals := 40 } [.ref m] h (ab_A none (fun h1 => h1[m]? = some (.inr (12, [p0, p1, p2, .ref (m + 2), p4, p5, p6, p7, p8, .ref (m + 74), p10, p11, p12, p13, p14, p15, p16, p17, p18, p19, p20, .ref (m + 105), .int 1302, p23, .int 0, p25, p26, p27, p28])))) := by
  refine ab_of2 (lv := [some (.ref m), none, none, none]) 3 rfl rfl (Nat.le_of_ble_eq_true rfl) ?_
  refine ab_aload_n d_M_putsWorld_0 rfl rfl rfl ?_
  refine ab_bipush (v := 87) d_M_putsWorld_1 (by decide) ?_
  refine ab_iconst (v := 1) d_M_putsWorld_3 (by decide) ?_
  refine ab_callV_v (As := [.int 87, .int 1]) (rest := []) d_M_putsWorld_4 (r_puts_o87 (k := 0) po qa (by omega)) (ab_mkC s_M_puts (Nat.le_of_ble_eq_true rfl) (Nat.le_of_ble_eq_true rfl) (by decide) (by decide)) (k13 32 rfl rfl) i_M_puts v_M_puts po rfl rfl (Nat.le_of_ble_eq_true rfl) (fun h1 q2 => ?_)
  obtain ⟨y6, c4, c5, f3⟩ := q2
  have c7 : h1[m+2]? = some (.inr (14, [t0, t1, t2, t3, t4, t5, t6, t7, t8, t9, t10, t11, t12, t13, t14, t15, .int 0, t17, t18, t19, t20, .int 0, t22, t23, t24, t25, t26, t27, t28, t29, t30, t31, t32, t33, t34, t35, t36, t37, t38, t39, t40, t41, t42])) := ab_fr_at f3 to (by omega)
  have c8 : h1[m+74]? = some (.inr (13, [.int 0, .int 0, .int 0, .int 0, .ref (m + 74 + 1), .ref (m + 74 + 2), n6, n7, .int 0, n9, n10, n11, n12, n13, n14, n15, n16, n17])) := ab_fr_at f3 no (by omega)
  have c9 : h1[m+74+1]? = some (.inl (.int, 256, .inl (fun _ => 0))) := ab_fr_at f3 xa (by omega)
  have c10 : h1[m+74+2]? = some (.inl (.boolean, 256, .inl (fun _ => 0))) := ab_fr_at f3 za (by omega)
  have fr11 : ab_fr (fun j => j = m ∨ j = m+105) h h1 := ab_fr_tr (ab_fr_rf _ _) f3
  clear f3
  replace c4 : h1[m]? = some (.inr (12, [p0, p1, p2, .ref (m + 2), p4, p5, p6, p7, p8, .ref (m + 74), p10, p11, p12, p13, p14, p15, p16, p17, p18, p19, p20, .ref (m + 105), .int (nI 1), p23, .int 0, p25, p26, p27, p28])) := c4
  replace c5 : h1[m+105]? = some (.inl (.byte, 58000, .inl y6)) := c5
  refine ab_aload_n d_M_putsWorld_7 rfl rfl rfl ?_
  refine ab_bipush (v := 69) d_M_putsWorld_8 (by decide) ?_
  refine ab_iconst (v := 1) d_M_putsWorld_10 (by decide) ?_
  refine ab_callV_v (As := [.int 69, .int 1]) (rest := []) d_M_putsWorld_11 (r_puts_o69 (k := 1) c4 c5 (by omega)) (ab_mkC s_M_puts (Nat.le_of_ble_eq_true rfl) (Nat.le_of_ble_eq_true rfl) (by decide) (by decide)) (k13 32 rfl rfl) i_M_puts v_M_puts c4 rfl rfl (Nat.le_of_ble_eq_true rfl) (fun h12 q13 => ?_)
  obtain ⟨y17, c15, c16, f14⟩ := q13
  have c18 : h12[m+2]? = some (.inr (14, [t0, t1, t2, t3, t4, t5, t6, t7, t8, t9, t10, t11, t12, t13, t14, t15, .int 0, t17, t18, t19, t20, .int 0, t22, t23, t24, t25, t26, t27, t28, t29, t30, t31, t32, t33, t34, t35, t36, t37, t38, t39, t40, t41, t42])) := ab_fr_at f14 c7 (by omega)
  have c19 : h12[m+74]? = some (.inr (13, [.int 0, .int 0, .int 0, .int 0, .ref (m + 74 + 1), .ref (m + 74 + 2), n6, n7, .int 0, n9, n10, n11, n12, n13, n14, n15, n16, n17])) := ab_fr_at f14 c8 (by omega)
  have c20 : h12[m+74+1]? = some (.inl (.int, 256, .inl (fun _ => 0))) := ab_fr_at f14 c9 (by omega)
  have c21 : h12[m+74+2]? = some (.inl (.boolean, 256, .inl (fun _ => 0))) := ab_fr_at f14 c10 (by omega)
  have fr22 : ab_fr (fun j => j = m ∨ j = m+105) h h12 := ab_fr_tr fr11 f14
  clear c7 c8 c9 c10 c4 c5 f14 fr11
  try clear h1
  replace c15 : h12[m]? = some (.inr (12, [p0, p1, p2, .ref (m + 2), p4, p5, p6, p7, p8, .ref (m + 74), p10, p11, p12, p13, p14, p15, p16, p17, p18, p19, p20, .ref (m + 105), .int (nI 2), p23, .int 0, p25, p26, p27, p28])) := c15
  replace c16 : h12[m+105]? = some (.inl (.byte, 58000, .inl y17)) := c16
  refine ab_aload_n d_M_putsWorld_14 rfl rfl rfl ?_
  refine ab_aload_n d_M_putsWorld_15 rfl rfl rfl ?_
  refine ab_get (f := 3) d_M_putsWorld_16 c15 rfl (by decide) (k9 236 rfl rfl) rfl ?_
  refine ab_getN (f := 16) d_M_putsWorld_19 c18 rfl (by decide) (k8 180 rfl rfl) rfl ?_
  refine ab_iconst (v := 1) d_M_putsWorld_22 (by decide) ?_
  refine ab_callV_v (As := [.int 0, .int 1]) (rest := []) d_M_putsWorld_23 (r_puts_o1 (k := 2) c15 c16 (by omega)) (ab_mkC s_M_puts (Nat.le_of_ble_eq_true rfl) (Nat.le_of_ble_eq_true rfl) (by decide) (by decide)) (k13 32 rfl rfl) i_M_puts v_M_puts c15 rfl rfl (Nat.le_of_ble_eq_true rfl) (fun h23 q24 => ?_)
  obtain ⟨y28, c26, c27, f25⟩ := q24
  have c29 : h23[m+2]? = some (.inr (14, [t0, t1, t2, t3, t4, t5, t6, t7, t8, t9, t10, t11, t12, t13, t14, t15, .int 0, t17, t18, t19, t20, .int 0, t22, t23, t24, t25, t26, t27, t28, t29, t30, t31, t32, t33, t34, t35, t36, t37, t38, t39, t40, t41, t42])) := ab_fr_at f25 c18 (by omega)
  have c30 : h23[m+74]? = some (.inr (13, [.int 0, .int 0, .int 0, .int 0, .ref (m + 74 + 1), .ref (m + 74 + 2), n6, n7, .int 0, n9, n10, n11, n12, n13, n14, n15, n16, n17])) := ab_fr_at f25 c19 (by omega)
  have c31 : h23[m+74+1]? = some (.inl (.int, 256, .inl (fun _ => 0))) := ab_fr_at f25 c20 (by omega)
  have c32 : h23[m+74+2]? = some (.inl (.boolean, 256, .inl (fun _ => 0))) := ab_fr_at f25 c21 (by omega)
  have fr33 : ab_fr (fun j => j = m ∨ j = m+105) h h23 := ab_fr_tr fr22 f25
  clear c18 c19 c20 c21 c15 c16 f25 fr22
  try clear h12
  replace c26 : h23[m]? = some (.inr (12, [p0, p1, p2, .ref (m + 2), p4, p5, p6, p7, p8, .ref (m + 74), p10, p11, p12, p13, p14, p15, p16, p17, p18, p19, p20, .ref (m + 105), .int (nI 3), p23, .int 0, p25, p26, p27, p28])) := c26
  replace c27 : h23[m+105]? = some (.inl (.byte, 58000, .inl y28)) := c27
  refine ab_iconst (v := 0) d_M_putsWorld_26 (by decide) ?_
  refine ab_istore_n (lv' := [some (.ref m), some (.int 0), none, none]) d_M_putsWorld_27 rfl (by decide) rfl ?_
  refine ab_iload_n d_M_putsWorld_28 rfl rfl ?_
  refine ab_aload_n d_M_putsWorld_29 rfl rfl rfl ?_
  refine ab_get (f := 3) d_M_putsWorld_30 c26 rfl (by decide) (k9 236 rfl rfl) rfl ?_
  refine ab_getN (f := 16) d_M_putsWorld_33 c29 rfl (by decide) (k8 180 rfl rfl) rfl ?_
  refine ab_icmp_ge (tgt := 116) d_M_putsWorld_36 (by decide) (fun q34 => ?_) (fun q34 => by exact absurd (by decide) q34)
  refine ab_aload_n d_M_putsWorld_116 rfl rfl rfl ?_
  refine ab_aload_n d_M_putsWorld_117 rfl rfl rfl ?_
  refine ab_get (f := 3) d_M_putsWorld_118 c26 rfl (by decide) (k9 236 rfl rfl) rfl ?_
  refine ab_getN (f := 21) d_M_putsWorld_121 c29 rfl (by decide) (k8 195 rfl rfl) rfl ?_
  refine ab_iconst (v := 1) d_M_putsWorld_124 (by decide) ?_
  refine ab_callV_v (As := [.int 0, .int 1]) (rest := []) d_M_putsWorld_125 (r_puts_o1 (k := 3) c26 c27 (by omega)) (ab_mkC s_M_puts (Nat.le_of_ble_eq_true rfl) (Nat.le_of_ble_eq_true rfl) (by decide) (by decide)) (k13 32 rfl rfl) i_M_puts v_M_puts c26 rfl rfl (Nat.le_of_ble_eq_true rfl) (fun h35 q36 => ?_)
  obtain ⟨y40, c38, c39, f37⟩ := q36
  have c41 : h35[m+2]? = some (.inr (14, [t0, t1, t2, t3, t4, t5, t6, t7, t8, t9, t10, t11, t12, t13, t14, t15, .int 0, t17, t18, t19, t20, .int 0, t22, t23, t24, t25, t26, t27, t28, t29, t30, t31, t32, t33, t34, t35, t36, t37, t38, t39, t40, t41, t42])) := ab_fr_at f37 c29 (by omega)
  have c42 : h35[m+74]? = some (.inr (13, [.int 0, .int 0, .int 0, .int 0, .ref (m + 74 + 1), .ref (m + 74 + 2), n6, n7, .int 0, n9, n10, n11, n12, n13, n14, n15, n16, n17])) := ab_fr_at f37 c30 (by omega)
  have c43 : h35[m+74+1]? = some (.inl (.int, 256, .inl (fun _ => 0))) := ab_fr_at f37 c31 (by omega)
  have c44 : h35[m+74+2]? = some (.inl (.boolean, 256, .inl (fun _ => 0))) := ab_fr_at f37 c32 (by omega)
  have fr45 : ab_fr (fun j => j = m ∨ j = m+105) h h35 := ab_fr_tr fr33 f37
  clear c29 c30 c31 c32 c26 c27 f37 fr33
  try clear h23
  replace c38 : h35[m]? = some (.inr (12, [p0, p1, p2, .ref (m + 2), p4, p5, p6, p7, p8, .ref (m + 74), p10, p11, p12, p13, p14, p15, p16, p17, p18, p19, p20, .ref (m + 105), .int (nI 4), p23, .int 0, p25, p26, p27, p28])) := c38
  replace c39 : h35[m+105]? = some (.inl (.byte, 58000, .inl y40)) := c39
  refine ab_iconst (v := 0) d_M_putsWorld_128 (by decide) ?_
  refine ab_istore_n (lv' := [some (.ref m), some (.int 0), none, none]) d_M_putsWorld_129 rfl (by decide) rfl ?_
  refine ab_iload_n d_M_putsWorld_130 rfl rfl ?_
  refine ab_aload_n d_M_putsWorld_131 rfl rfl rfl ?_
  refine ab_get (f := 3) d_M_putsWorld_132 c38 rfl (by decide) (k9 236 rfl rfl) rfl ?_
  refine ab_getN (f := 21) d_M_putsWorld_135 c41 rfl (by decide) (k8 195 rfl rfl) rfl ?_
  refine ab_icmp_ge (tgt := 200) d_M_putsWorld_138 (by decide) (fun q46 => ?_) (fun q46 => by exact absurd (by decide) q46)
  refine ab_aload_n d_M_putsWorld_200 rfl rfl rfl ?_
  refine ab_aload_n d_M_putsWorld_201 rfl rfl rfl ?_
  refine ab_get (f := 9) d_M_putsWorld_202 c38 rfl (by decide) (k10 2 rfl rfl) rfl ?_
  refine ab_getN (f := 0) d_M_putsWorld_205 c42 rfl (by decide) (k9 89 rfl rfl) rfl ?_
  refine ab_iconst (v := 4) d_M_putsWorld_208 (by decide) ?_
  refine ab_callV_v (As := [.int 0, .int 4]) (rest := []) d_M_putsWorld_209 (r_puts_o4 (k := 4) c38 c39 (by omega)) (ab_mkC s_M_puts (Nat.le_of_ble_eq_true rfl) (Nat.le_of_ble_eq_true rfl) (by decide) (by decide)) (k13 32 rfl rfl) i_M_puts v_M_puts c38 rfl rfl (Nat.le_of_ble_eq_true rfl) (fun h47 q48 => ?_)
  obtain ⟨y52, c50, c51, f49⟩ := q48
  have c53 : h47[m+2]? = some (.inr (14, [t0, t1, t2, t3, t4, t5, t6, t7, t8, t9, t10, t11, t12, t13, t14, t15, .int 0, t17, t18, t19, t20, .int 0, t22, t23, t24, t25, t26, t27, t28, t29, t30, t31, t32, t33, t34, t35, t36, t37, t38, t39, t40, t41, t42])) := ab_fr_at f49 c41 (by omega)
  have c54 : h47[m+74]? = some (.inr (13, [.int 0, .int 0, .int 0, .int 0, .ref (m + 74 + 1), .ref (m + 74 + 2), n6, n7, .int 0, n9, n10, n11, n12, n13, n14, n15, n16, n17])) := ab_fr_at f49 c42 (by omega)
  have c55 : h47[m+74+1]? = some (.inl (.int, 256, .inl (fun _ => 0))) := ab_fr_at f49 c43 (by omega)
  have c56 : h47[m+74+2]? = some (.inl (.boolean, 256, .inl (fun _ => 0))) := ab_fr_at f49 c44 (by omega)
  have fr57 : ab_fr (fun j => j = m ∨ j = m+105) h h47 := ab_fr_tr fr45 f49
  clear c41 c42 c43 c44 c38 c39 f49 fr45
  try clear h35
  replace c50 : h47[m]? = some (.inr (12, [p0, p1, p2, .ref (m + 2), p4, p5, p6, p7, p8, .ref (m + 74), p10, p11, p12, p13, p14, p15, p16, p17, p18, p19, p20, .ref (m + 105), .int (nI 8), p23, .int 0, p25, p26, p27, p28])) := c50
  replace c51 : h47[m+105]? = some (.inl (.byte, 58000, .inl y52)) := c51
  refine ab_aload_n d_M_putsWorld_212 rfl rfl rfl ?_
  refine ab_aload_n d_M_putsWorld_213 rfl rfl rfl ?_
  refine ab_get (f := 9) d_M_putsWorld_214 c50 rfl (by decide) (k10 2 rfl rfl) rfl ?_
  refine ab_getN (f := 1) d_M_putsWorld_217 c54 rfl (by decide) (k9 91 rfl rfl) rfl ?_
  refine ab_iconst (v := 4) d_M_putsWorld_220 (by decide) ?_
  refine ab_callV_v (As := [.int 0, .int 4]) (rest := []) d_M_putsWorld_221 (r_puts_o4 (k := 8) c50 c51 (by omega)) (ab_mkC s_M_puts (Nat.le_of_ble_eq_true rfl) (Nat.le_of_ble_eq_true rfl) (by decide) (by decide)) (k13 32 rfl rfl) i_M_puts v_M_puts c50 rfl rfl (Nat.le_of_ble_eq_true rfl) (fun h58 q59 => ?_)
  obtain ⟨y63, c61, c62, f60⟩ := q59
  have c64 : h58[m+2]? = some (.inr (14, [t0, t1, t2, t3, t4, t5, t6, t7, t8, t9, t10, t11, t12, t13, t14, t15, .int 0, t17, t18, t19, t20, .int 0, t22, t23, t24, t25, t26, t27, t28, t29, t30, t31, t32, t33, t34, t35, t36, t37, t38, t39, t40, t41, t42])) := ab_fr_at f60 c53 (by omega)
  have c65 : h58[m+74]? = some (.inr (13, [.int 0, .int 0, .int 0, .int 0, .ref (m + 74 + 1), .ref (m + 74 + 2), n6, n7, .int 0, n9, n10, n11, n12, n13, n14, n15, n16, n17])) := ab_fr_at f60 c54 (by omega)
  have c66 : h58[m+74+1]? = some (.inl (.int, 256, .inl (fun _ => 0))) := ab_fr_at f60 c55 (by omega)
  have c67 : h58[m+74+2]? = some (.inl (.boolean, 256, .inl (fun _ => 0))) := ab_fr_at f60 c56 (by omega)
  have fr68 : ab_fr (fun j => j = m ∨ j = m+105) h h58 := ab_fr_tr fr57 f60
  clear c53 c54 c55 c56 c50 c51 f60 fr57
  try clear h47
  replace c61 : h58[m]? = some (.inr (12, [p0, p1, p2, .ref (m + 2), p4, p5, p6, p7, p8, .ref (m + 74), p10, p11, p12, p13, p14, p15, p16, p17, p18, p19, p20, .ref (m + 105), .int (nI 12), p23, .int 0, p25, p26, p27, p28])) := c61
  replace c62 : h58[m+105]? = some (.inl (.byte, 58000, .inl y63)) := c62
  refine ab_aload_n d_M_putsWorld_224 rfl rfl rfl ?_
  refine ab_aload_n d_M_putsWorld_225 rfl rfl rfl ?_
  refine ab_get (f := 9) d_M_putsWorld_226 c61 rfl (by decide) (k10 2 rfl rfl) rfl ?_
  refine ab_getN (f := 2) d_M_putsWorld_229 c65 rfl (by decide) (k9 94 rfl rfl) rfl ?_
  refine ab_iconst (v := 4) d_M_putsWorld_232 (by decide) ?_
  refine ab_callV_v (As := [.int 0, .int 4]) (rest := []) d_M_putsWorld_233 (r_puts_o4 (k := 12) c61 c62 (by omega)) (ab_mkC s_M_puts (Nat.le_of_ble_eq_true rfl) (Nat.le_of_ble_eq_true rfl) (by decide) (by decide)) (k13 32 rfl rfl) i_M_puts v_M_puts c61 rfl rfl (Nat.le_of_ble_eq_true rfl) (fun h69 q70 => ?_)
  obtain ⟨y74, c72, c73, f71⟩ := q70
  have c75 : h69[m+2]? = some (.inr (14, [t0, t1, t2, t3, t4, t5, t6, t7, t8, t9, t10, t11, t12, t13, t14, t15, .int 0, t17, t18, t19, t20, .int 0, t22, t23, t24, t25, t26, t27, t28, t29, t30, t31, t32, t33, t34, t35, t36, t37, t38, t39, t40, t41, t42])) := ab_fr_at f71 c64 (by omega)
  have c76 : h69[m+74]? = some (.inr (13, [.int 0, .int 0, .int 0, .int 0, .ref (m + 74 + 1), .ref (m + 74 + 2), n6, n7, .int 0, n9, n10, n11, n12, n13, n14, n15, n16, n17])) := ab_fr_at f71 c65 (by omega)
  have c77 : h69[m+74+1]? = some (.inl (.int, 256, .inl (fun _ => 0))) := ab_fr_at f71 c66 (by omega)
  have c78 : h69[m+74+2]? = some (.inl (.boolean, 256, .inl (fun _ => 0))) := ab_fr_at f71 c67 (by omega)
  have fr79 : ab_fr (fun j => j = m ∨ j = m+105) h h69 := ab_fr_tr fr68 f71
  clear c64 c65 c66 c67 c61 c62 f71 fr68
  try clear h58
  replace c72 : h69[m]? = some (.inr (12, [p0, p1, p2, .ref (m + 2), p4, p5, p6, p7, p8, .ref (m + 74), p10, p11, p12, p13, p14, p15, p16, p17, p18, p19, p20, .ref (m + 105), .int (nI 16), p23, .int 0, p25, p26, p27, p28])) := c72
  replace c73 : h69[m+105]? = some (.inl (.byte, 58000, .inl y74)) := c73
  refine ab_aload_n d_M_putsWorld_236 rfl rfl rfl ?_
  refine ab_aload_n d_M_putsWorld_237 rfl rfl rfl ?_
  refine ab_get (f := 9) d_M_putsWorld_238 c72 rfl (by decide) (k10 2 rfl rfl) rfl ?_
  refine ab_getN (f := 3) d_M_putsWorld_241 c76 rfl (by decide) (k9 97 rfl rfl) rfl ?_
  refine ab_iconst (v := 4) d_M_putsWorld_244 (by decide) ?_
  refine ab_callV_v (As := [.int 0, .int 4]) (rest := []) d_M_putsWorld_245 (r_puts_o4 (k := 16) c72 c73 (by omega)) (ab_mkC s_M_puts (Nat.le_of_ble_eq_true rfl) (Nat.le_of_ble_eq_true rfl) (by decide) (by decide)) (k13 32 rfl rfl) i_M_puts v_M_puts c72 rfl rfl (Nat.le_of_ble_eq_true rfl) (fun h80 q81 => ?_)
  obtain ⟨y85, c83, c84, f82⟩ := q81
  have c86 : h80[m+2]? = some (.inr (14, [t0, t1, t2, t3, t4, t5, t6, t7, t8, t9, t10, t11, t12, t13, t14, t15, .int 0, t17, t18, t19, t20, .int 0, t22, t23, t24, t25, t26, t27, t28, t29, t30, t31, t32, t33, t34, t35, t36, t37, t38, t39, t40, t41, t42])) := ab_fr_at f82 c75 (by omega)
  have c87 : h80[m+74]? = some (.inr (13, [.int 0, .int 0, .int 0, .int 0, .ref (m + 74 + 1), .ref (m + 74 + 2), n6, n7, .int 0, n9, n10, n11, n12, n13, n14, n15, n16, n17])) := ab_fr_at f82 c76 (by omega)
  have c88 : h80[m+74+1]? = some (.inl (.int, 256, .inl (fun _ => 0))) := ab_fr_at f82 c77 (by omega)
  have c89 : h80[m+74+2]? = some (.inl (.boolean, 256, .inl (fun _ => 0))) := ab_fr_at f82 c78 (by omega)
  have fr90 : ab_fr (fun j => j = m ∨ j = m+105) h h80 := ab_fr_tr fr79 f82
  clear c75 c76 c77 c78 c72 c73 f82 fr79
  try clear h69
  replace c83 : h80[m]? = some (.inr (12, [p0, p1, p2, .ref (m + 2), p4, p5, p6, p7, p8, .ref (m + 74), p10, p11, p12, p13, p14, p15, p16, p17, p18, p19, p20, .ref (m + 105), .int (nI 20), p23, .int 0, p25, p26, p27, p28])) := c83
  replace c84 : h80[m+105]? = some (.inl (.byte, 58000, .inl y85)) := c84
  refine ab_iconst (v := 0) d_M_putsWorld_248 (by decide) ?_
  refine ab_istore_n (lv' := [some (.ref m), some (.int 0), none, none]) d_M_putsWorld_249 rfl (by decide) rfl ?_
  refine l_pw_out  (Nat.le_of_ble_eq_true rfl) (Nat.le_of_ble_eq_true rfl) 256 0 h80 y85 (by omega) c83 c84 c87 c88 c89 (fun h91 y92 c93 c94 c95 c96 c97 f98 => ?_)
  have c99 : h91[m+2]? = some (.inr (14, [t0, t1, t2, t3, t4, t5, t6, t7, t8, t9, t10, t11, t12, t13, t14, t15, .int 0, t17, t18, t19, t20, .int 0, t22, t23, t24, t25, t26, t27, t28, t29, t30, t31, t32, t33, t34, t35, t36, t37, t38, t39, t40, t41, t42])) := ab_fr_at f98 c86 (by omega)
  have fr100 : ab_fr (fun j => j = m ∨ j = m+105) h h91 := ab_fr_tr fr90 f98
  clear c86 c87 c88 c89 c83 c84 f98 fr90
  try clear h80
  refine ab_aload_n d_M_putsWorld_414 rfl rfl rfl ?_
  refine ab_aload_n d_M_putsWorld_415 rfl rfl rfl ?_
  refine ab_get (f := 9) d_M_putsWorld_416 c93 rfl (by decide) (k10 2 rfl rfl) rfl ?_
  refine ab_getN (f := 8) d_M_putsWorld_419 c95 rfl (by decide) (k9 112 rfl rfl) rfl ?_
  refine ab_iconst (v := 2) d_M_putsWorld_422 (by decide) ?_
  refine ab_callV_v (As := [.int 0, .int 2]) (rest := []) d_M_putsWorld_423 (r_puts_o2 (k := 20 + 5 * 256) c93 c94 (by omega)) (ab_mkC s_M_puts (Nat.le_of_ble_eq_true rfl) (Nat.le_of_ble_eq_true rfl) (by decide) (by decide)) (k13 32 rfl rfl) i_M_puts v_M_puts c93 rfl rfl (Nat.le_of_ble_eq_true rfl) (fun h101 q102 => ?_)
  obtain ⟨y106, c104, c105, f103⟩ := q102
  have c107 : h101[m+2]? = some (.inr (14, [t0, t1, t2, t3, t4, t5, t6, t7, t8, t9, t10, t11, t12, t13, t14, t15, .int 0, t17, t18, t19, t20, .int 0, t22, t23, t24, t25, t26, t27, t28, t29, t30, t31, t32, t33, t34, t35, t36, t37, t38, t39, t40, t41, t42])) := ab_fr_at f103 c99 (by omega)
  have c108 : h101[m+74]? = some (.inr (13, [.int 0, .int 0, .int 0, .int 0, .ref (m + 74 + 1), .ref (m + 74 + 2), n6, n7, .int 0, n9, n10, n11, n12, n13, n14, n15, n16, n17])) := ab_fr_at f103 c95 (by omega)
  have c109 : h101[m+74+1]? = some (.inl (.int, 256, .inl (fun _ => 0))) := ab_fr_at f103 c96 (by omega)
  have c110 : h101[m+74+2]? = some (.inl (.boolean, 256, .inl (fun _ => 0))) := ab_fr_at f103 c97 (by omega)
  have fr111 : ab_fr (fun j => j = m ∨ j = m+105) h h101 := ab_fr_tr fr100 f103
  clear c99 c93 c94 c95 c96 c97 f103 fr100
  try clear h91
  replace c104 : h101[m]? = some (.inr (12, [p0, p1, p2, .ref (m + 2), p4, p5, p6, p7, p8, .ref (m + 74), p10, p11, p12, p13, p14, p15, p16, p17, p18, p19, p20, .ref (m + 105), .int (nI (20 + 5 * 256 + 2)), p23, .int 0, p25, p26, p27, p28])) := c104
  replace c105 : h101[m+105]? = some (.inl (.byte, 58000, .inl y106)) := c105
  refine ab_iconst (v := 0) d_M_putsWorld_426 (by decide) ?_
  refine ab_istore_n (lv' := [some (.ref m), some (.int 0), none, none]) d_M_putsWorld_427 rfl (by decide) rfl ?_
  refine ab_iload_n d_M_putsWorld_428 rfl rfl ?_
  refine ab_aload_n d_M_putsWorld_429 rfl rfl rfl ?_
  refine ab_get (f := 9) d_M_putsWorld_430 c104 rfl (by decide) (k10 2 rfl rfl) rfl ?_
  refine ab_getN (f := 8) d_M_putsWorld_433 c108 rfl (by decide) (k9 112 rfl rfl) rfl ?_
  refine ab_icmp_ge (tgt := 534) d_M_putsWorld_436 (by decide) (fun q112 => ?_) (fun q112 => by exact absurd (by decide) q112)
  exact ab_vret d_M_putsWorld_534 rfl (Nat.le_refl _) (Nat.le_refl _) (by exact ⟨rfl, c104⟩)
def sq_M_sum  : Int32 := (sum0)
set_option maxRecDepth 20000 in
set_option maxHeartbeats 2000000 in
theorem f_M_sum {h : List ab_E}    {m : Nat} {w : Int32}    (h0 : at_M0 h m w) : ab_M y_M_sum { frames := 2, cells := 0, slots := 0, locals := 80 } [.ref m] h (ab_A (some (.int (sq_M_sum ))) (fun h1 => True)) := by
  obtain ⟨hM, hT, hO, hS, hN, hD, hR⟩ := h0
  have hM0 := hM; obtain ⟨gmo, gm1, gm14, gm15, gm16, gm17, gm18, gm19, gm21, gm25, gm26⟩ := hM
  replace gmo : h[m]? = some (.inr (12, [.int 0, .ref (m + 1), .int 0, .ref (m + 2), .ref (m + 33), .int 0, .int (-1), .int (-1), .ref (m + 64), .ref (m + 74), .ref (m + 84), .ref (m + 94), .int 1, .int 0, .ref (m + 99), .ref (m + 100), .ref (m + 101), .ref (m + 102), .ref (m + 103), .ref (m + 104), .int 0, .ref (m + 105), .int 0, .int 0, .int 0, .ref (m + 106), .ref (m + 107), .int 0, .int 0])) := gmo
  replace gm1 : h[m + 1]? = some (.inl (.byte, 6000, .inl (fun _ => 0))) := (by rw [a0_M_0 w (by decide)] at gm1; exact gm1)
  replace gm14 : h[m + 99]? = some (.inl (.int, 256, .inl (fun _ => 0))) := (by rw [a0_M_0 w (by decide)] at gm14; exact gm14)
  replace gm15 : h[m + 100]? = some (.inl (.boolean, 256, .inl (fun _ => 0))) := (by rw [a0_M_0 w (by decide)] at gm15; exact gm15)
  replace gm16 : h[m + 101]? = some (.inl (.int, 64, .inl (fun _ => 0))) := (by rw [a0_M_0 w (by decide)] at gm16; exact gm16)
  replace gm17 : h[m + 102]? = some (.inl (.int, 4, .inl (fun _ => 0))) := (by rw [a0_M_0 w (by decide)] at gm17; exact gm17)
  replace gm18 : h[m + 103]? = some (.inl (.int, 4, .inl (fun _ => 0))) := (by rw [a0_M_0 w (by decide)] at gm18; exact gm18)
  replace gm19 : h[m + 104]? = some (.inl (.int, 256, .inl (fun _ => 0))) := (by rw [a0_M_0 w (by decide)] at gm19; exact gm19)
  replace gm21 : h[m + 105]? = some (.inl (.byte, 58000, .inl (fun _ => 0))) := (by rw [a0_M_0 w (by decide)] at gm21; exact gm21)
  replace gm25 : h[m + 106]? = some (.inl (.boolean, 8, .inl (a0_M w 25))) := gm25
  replace gm26 : h[m + 107]? = some (.inl (.boolean, 8, .inl (fun _ => 0))) := (by rw [a0_M_0 w (by decide)] at gm26; exact gm26)
  have hT0 := hT; obtain ⟨gto, gt0, gt3, gt4, gt5, gt6, gt7, gt8, gt13, gt14, gt15, gt17, gt18, gt19, gt20, gt22, gt23, gt24, gt25, gt27, gt28, gt30, gt31, gt32, gt33, gt34, gt35, gt36, gt38, gt39, gt40⟩ := hT
  replace gto : h[m + 2]? = some (.inr (14, [.ref (m + 2 + 1), .int 0, .int 0, .ref (m + 2 + 2), .ref (m + 2 + 3), .ref (m + 2 + 4), .ref (m + 2 + 5), .ref (m + 2 + 6), .ref (m + 2 + 7), .int 0, .int 0, .int 0, .int 0, .ref (m + 2 + 8), .ref (m + 2 + 9), .ref (m + 2 + 10), .int 0, .ref (m + 2 + 11), .ref (m + 2 + 12), .ref (m + 2 + 13), .ref (m + 2 + 14), .int 0, .ref (m + 2 + 15), .ref (m + 2 + 16), .ref (m + 2 + 17), .ref (m + 2 + 18), .int 0, .ref (m + 2 + 19), .ref (m + 2 + 20), .int 0, .ref (m + 2 + 21), .ref (m + 2 + 22), .ref (m + 2 + 23), .ref (m + 2 + 24), .ref (m + 2 + 25), .ref (m + 2 + 26), .ref (m + 2 + 27), .int 0, .ref (m + 2 + 28), .ref (m + 2 + 29), .ref (m + 2 + 30), .int 0, .int 0])) := gto
  replace gt0 : h[m + 2 + 1]? = some (.inl (.byte, 6000, .inl (fun _ => 0))) := gt0
  replace gt3 : h[m + 2 + 2]? = some (.inl (.int, 6002, .inl (fun _ => 0))) := gt3
  replace gt4 : h[m + 2 + 3]? = some (.inl (.int, 6002, .inl (fun _ => 0))) := gt4
  replace gt5 : h[m + 2 + 4]? = some (.inl (.int, 6002, .inl (fun _ => 0))) := gt5
  replace gt6 : h[m + 2 + 5]? = some (.inl (.int, 6002, .inl (fun _ => 0))) := gt6
  replace gt7 : h[m + 2 + 6]? = some (.inl (.boolean, 6002, .inl (fun _ => 0))) := gt7
  replace gt8 : h[m + 2 + 7]? = some (.inl (.int, 6002, .inl (fun _ => 0))) := gt8
  replace gt13 : h[m + 2 + 8]? = some (.inl (.int, 56, .inl (fun _ => 0))) := gt13
  replace gt14 : h[m + 2 + 9]? = some (.inl (.int, 56, .inl (fun _ => 0))) := gt14
  replace gt15 : h[m + 2 + 10]? = some (.inl (.int, 56, .inl (fun _ => 0))) := gt15
  replace gt17 : h[m + 2 + 11]? = some (.inl (.int, 16, .inl (fun _ => 0))) := gt17
  replace gt18 : h[m + 2 + 12]? = some (.inl (.int, 17, .inl (fun _ => 0))) := gt18
  replace gt19 : h[m + 2 + 13]? = some (.inl (.int, 48, .inl (fun _ => 0))) := gt19
  replace gt20 : h[m + 2 + 14]? = some (.inl (.int, 48, .inl (fun _ => 0))) := gt20
  replace gt22 : h[m + 2 + 15]? = some (.inl (.int, 8, .inl (fun _ => 0))) := gt22
  replace gt23 : h[m + 2 + 16]? = some (.inl (.int, 8, .inl (fun _ => 0))) := gt23
  replace gt24 : h[m + 2 + 17]? = some (.inl (.int, 32, .inl (fun _ => 0))) := gt24
  replace gt25 : h[m + 2 + 18]? = some (.inl (.int, 32, .inl (fun _ => 0))) := gt25
  replace gt27 : h[m + 2 + 19]? = some (.inl (.int, 16, .inl (fun _ => 0))) := gt27
  replace gt28 : h[m + 2 + 20]? = some (.inl (.int, 768, .inl (fun _ => 0))) := gt28
  replace gt30 : h[m + 2 + 21]? = some (.inl (.int, 16, .inl (fun _ => 0))) := gt30
  replace gt31 : h[m + 2 + 22]? = some (.inl (.int, 16, .inl (fun _ => 0))) := gt31
  replace gt32 : h[m + 2 + 23]? = some (.inl (.int, 16, .inl (fun _ => 0))) := gt32
  replace gt33 : h[m + 2 + 24]? = some (.inl (.int, 16, .inl (fun _ => 0))) := gt33
  replace gt34 : h[m + 2 + 25]? = some (.inl (.int, 16, .inl (fun _ => 0))) := gt34
  replace gt35 : h[m + 2 + 26]? = some (.inl (.int, 16, .inl (fun _ => 0))) := gt35
  replace gt36 : h[m + 2 + 27]? = some (.inl (.int, 16, .inl (fun _ => 0))) := gt36
  replace gt38 : h[m + 2 + 28]? = some (.inl (.int, 12, .inl (fun _ => 0))) := gt38
  replace gt39 : h[m + 2 + 29]? = some (.inl (.int, 12, .inl (fun _ => 0))) := gt39
  replace gt40 : h[m + 2 + 30]? = some (.inl (.boolean, 12, .inl (fun _ => 0))) := gt40
  have hN0 := hN; obtain ⟨gno, gn4, gn5, gn6, gn7, gn9, gn10, gn11, gn12, gn17⟩ := hN
  replace gno : h[m + 74]? = some (.inr (13, [.int 0, .int 0, .int 0, .int 0, .ref (m + 74 + 1), .ref (m + 74 + 2), .ref (m + 74 + 3), .ref (m + 74 + 4), .int 0, .ref (m + 74 + 5), .ref (m + 74 + 6), .ref (m + 74 + 7), .ref (m + 74 + 8), .int (-1), .int 0, .int 0, .int 0, .ref (m + 74 + 9)])) := gno
  replace gn4 : h[m + 74 + 1]? = some (.inl (.int, 256, .inl (fun _ => 0))) := gn4
  replace gn5 : h[m + 74 + 2]? = some (.inl (.boolean, 256, .inl (fun _ => 0))) := gn5
  replace gn6 : h[m + 74 + 3]? = some (.inl (.int, 256, .inl (fun _ => 0))) := gn6
  replace gn7 : h[m + 74 + 4]? = some (.inl (.int, 12288, .inl (fun _ => 0))) := gn7
  replace gn9 : h[m + 74 + 5]? = some (.inl (.int, 256, .inl (fun _ => 0))) := gn9
  replace gn10 : h[m + 74 + 6]? = some (.inl (.int, 256, .inl (fun _ => 0))) := gn10
  replace gn11 : h[m + 74 + 7]? = some (.inl (.int, 256, .inl (fun _ => 0))) := gn11
  replace gn12 : h[m + 74 + 8]? = some (.inl (.int, 1024, .inl (fun _ => 0))) := gn12
  replace gn17 : h[m + 74 + 9]? = some (.inl (.int, 32, .inl (fun _ => 0))) := gn17
  refine ab_of2 (lv := [some (.ref m)]) 0 rfl rfl (Nat.le_of_ble_eq_true rfl) ?_
  refine ab_aload_n d_M_sum_0 rfl rfl rfl ?_
  refine ab_iconst (v := 0) d_M_sum_1 (by decide) ?_
  refine ab_put (f := 0) d_M_sum_2 gmo rfl (by decide) (k9 233 rfl rfl) rfl rfl (fun _ => rfl) (fun _ => rfl) (Nat.le_of_ble_eq_true rfl) ?_
  show ab_V _ _ _ _ _ _ _ 5 [some (.ref m)] [] (h.set m (.inr (12, [.int 0, .ref (m + 1), .int 0, .ref (m + 2), .ref (m + 33), .int 0, .int (-1), .int (-1), .ref (m + 64), .ref (m + 74), .ref (m + 84), .ref (m + 94), .int 1, .int 0, .ref (m + 99), .ref (m + 100), .ref (m + 101), .ref (m + 102), .ref (m + 103), .ref (m + 104), .int 0, .ref (m + 105), .int 0, .int 0, .int 0, .ref (m + 106), .ref (m + 107), .int 0, .int 0])))
  refine ab_gen (fun h1 e2 => ?_)
  have c3 : h1[m]? = some (.inr (12, [.int 0, .ref (m + 1), .int 0, .ref (m + 2), .ref (m + 33), .int 0, .int (-1), .int (-1), .ref (m + 64), .ref (m + 74), .ref (m + 84), .ref (m + 94), .int 1, .int 0, .ref (m + 99), .ref (m + 100), .ref (m + 101), .ref (m + 102), .ref (m + 103), .ref (m + 104), .int 0, .ref (m + 105), .int 0, .int 0, .int 0, .ref (m + 106), .ref (m + 107), .int 0, .int 0])) := ab_self e2 gmo
  have c4 : h1[m+1]? = some (.inl (.byte, 6000, .inl (fun _ => 0))) := ab_other e2 (by omega) gm1
  have c5 : h1[m+99]? = some (.inl (.int, 256, .inl (fun _ => 0))) := ab_other e2 (by omega) gm14
  have c6 : h1[m+100]? = some (.inl (.boolean, 256, .inl (fun _ => 0))) := ab_other e2 (by omega) gm15
  have c7 : h1[m+101]? = some (.inl (.int, 64, .inl (fun _ => 0))) := ab_other e2 (by omega) gm16
  have c8 : h1[m+102]? = some (.inl (.int, 4, .inl (fun _ => 0))) := ab_other e2 (by omega) gm17
  have c9 : h1[m+103]? = some (.inl (.int, 4, .inl (fun _ => 0))) := ab_other e2 (by omega) gm18
  have c10 : h1[m+104]? = some (.inl (.int, 256, .inl (fun _ => 0))) := ab_other e2 (by omega) gm19
  have c11 : h1[m+105]? = some (.inl (.byte, 58000, .inl (fun _ => 0))) := ab_other e2 (by omega) gm21
  have c12 : h1[m+106]? = some (.inl (.boolean, 8, .inl (a0_M w 25))) := ab_other e2 (by omega) gm25
  have c13 : h1[m+107]? = some (.inl (.boolean, 8, .inl (fun _ => 0))) := ab_other e2 (by omega) gm26
  have c14 : h1[m+2]? = some (.inr (14, [.ref (m + 2 + 1), .int 0, .int 0, .ref (m + 2 + 2), .ref (m + 2 + 3), .ref (m + 2 + 4), .ref (m + 2 + 5), .ref (m + 2 + 6), .ref (m + 2 + 7), .int 0, .int 0, .int 0, .int 0, .ref (m + 2 + 8), .ref (m + 2 + 9), .ref (m + 2 + 10), .int 0, .ref (m + 2 + 11), .ref (m + 2 + 12), .ref (m + 2 + 13), .ref (m + 2 + 14), .int 0, .ref (m + 2 + 15), .ref (m + 2 + 16), .ref (m + 2 + 17), .ref (m + 2 + 18), .int 0, .ref (m + 2 + 19), .ref (m + 2 + 20), .int 0, .ref (m + 2 + 21), .ref (m + 2 + 22), .ref (m + 2 + 23), .ref (m + 2 + 24), .ref (m + 2 + 25), .ref (m + 2 + 26), .ref (m + 2 + 27), .int 0, .ref (m + 2 + 28), .ref (m + 2 + 29), .ref (m + 2 + 30), .int 0, .int 0])) := ab_other e2 (by omega) gto
  have c15 : h1[m+2+1]? = some (.inl (.byte, 6000, .inl (fun _ => 0))) := ab_other e2 (by omega) gt0
  have c16 : h1[m+2+2]? = some (.inl (.int, 6002, .inl (fun _ => 0))) := ab_other e2 (by omega) gt3
  have c17 : h1[m+2+3]? = some (.inl (.int, 6002, .inl (fun _ => 0))) := ab_other e2 (by omega) gt4
  have c18 : h1[m+2+4]? = some (.inl (.int, 6002, .inl (fun _ => 0))) := ab_other e2 (by omega) gt5
  have c19 : h1[m+2+5]? = some (.inl (.int, 6002, .inl (fun _ => 0))) := ab_other e2 (by omega) gt6
  have c20 : h1[m+2+6]? = some (.inl (.boolean, 6002, .inl (fun _ => 0))) := ab_other e2 (by omega) gt7
  have c21 : h1[m+2+7]? = some (.inl (.int, 6002, .inl (fun _ => 0))) := ab_other e2 (by omega) gt8
  have c22 : h1[m+2+8]? = some (.inl (.int, 56, .inl (fun _ => 0))) := ab_other e2 (by omega) gt13
  have c23 : h1[m+2+9]? = some (.inl (.int, 56, .inl (fun _ => 0))) := ab_other e2 (by omega) gt14
  have c24 : h1[m+2+10]? = some (.inl (.int, 56, .inl (fun _ => 0))) := ab_other e2 (by omega) gt15
  have c25 : h1[m+2+11]? = some (.inl (.int, 16, .inl (fun _ => 0))) := ab_other e2 (by omega) gt17
  have c26 : h1[m+2+12]? = some (.inl (.int, 17, .inl (fun _ => 0))) := ab_other e2 (by omega) gt18
  have c27 : h1[m+2+13]? = some (.inl (.int, 48, .inl (fun _ => 0))) := ab_other e2 (by omega) gt19
  have c28 : h1[m+2+14]? = some (.inl (.int, 48, .inl (fun _ => 0))) := ab_other e2 (by omega) gt20
  have c29 : h1[m+2+15]? = some (.inl (.int, 8, .inl (fun _ => 0))) := ab_other e2 (by omega) gt22
  have c30 : h1[m+2+16]? = some (.inl (.int, 8, .inl (fun _ => 0))) := ab_other e2 (by omega) gt23
  have c31 : h1[m+2+17]? = some (.inl (.int, 32, .inl (fun _ => 0))) := ab_other e2 (by omega) gt24
  have c32 : h1[m+2+18]? = some (.inl (.int, 32, .inl (fun _ => 0))) := ab_other e2 (by omega) gt25
  have c33 : h1[m+2+19]? = some (.inl (.int, 16, .inl (fun _ => 0))) := ab_other e2 (by omega) gt27
  have c34 : h1[m+2+20]? = some (.inl (.int, 768, .inl (fun _ => 0))) := ab_other e2 (by omega) gt28
  have c35 : h1[m+2+21]? = some (.inl (.int, 16, .inl (fun _ => 0))) := ab_other e2 (by omega) gt30
  have c36 : h1[m+2+22]? = some (.inl (.int, 16, .inl (fun _ => 0))) := ab_other e2 (by omega) gt31
  have c37 : h1[m+2+23]? = some (.inl (.int, 16, .inl (fun _ => 0))) := ab_other e2 (by omega) gt32
  have c38 : h1[m+2+24]? = some (.inl (.int, 16, .inl (fun _ => 0))) := ab_other e2 (by omega) gt33
  have c39 : h1[m+2+25]? = some (.inl (.int, 16, .inl (fun _ => 0))) := ab_other e2 (by omega) gt34
  have c40 : h1[m+2+26]? = some (.inl (.int, 16, .inl (fun _ => 0))) := ab_other e2 (by omega) gt35
  have c41 : h1[m+2+27]? = some (.inl (.int, 16, .inl (fun _ => 0))) := ab_other e2 (by omega) gt36
  have c42 : h1[m+2+28]? = some (.inl (.int, 12, .inl (fun _ => 0))) := ab_other e2 (by omega) gt38
  have c43 : h1[m+2+29]? = some (.inl (.int, 12, .inl (fun _ => 0))) := ab_other e2 (by omega) gt39
  have c44 : h1[m+2+30]? = some (.inl (.boolean, 12, .inl (fun _ => 0))) := ab_other e2 (by omega) gt40
  have c45 : h1[m+74]? = some (.inr (13, [.int 0, .int 0, .int 0, .int 0, .ref (m + 74 + 1), .ref (m + 74 + 2), .ref (m + 74 + 3), .ref (m + 74 + 4), .int 0, .ref (m + 74 + 5), .ref (m + 74 + 6), .ref (m + 74 + 7), .ref (m + 74 + 8), .int (-1), .int 0, .int 0, .int 0, .ref (m + 74 + 9)])) := ab_other e2 (by omega) gno
  have c46 : h1[m+74+1]? = some (.inl (.int, 256, .inl (fun _ => 0))) := ab_other e2 (by omega) gn4
  have c47 : h1[m+74+2]? = some (.inl (.boolean, 256, .inl (fun _ => 0))) := ab_other e2 (by omega) gn5
  have c48 : h1[m+74+3]? = some (.inl (.int, 256, .inl (fun _ => 0))) := ab_other e2 (by omega) gn6
  have c49 : h1[m+74+4]? = some (.inl (.int, 12288, .inl (fun _ => 0))) := ab_other e2 (by omega) gn7
  have c50 : h1[m+74+5]? = some (.inl (.int, 256, .inl (fun _ => 0))) := ab_other e2 (by omega) gn9
  have c51 : h1[m+74+6]? = some (.inl (.int, 256, .inl (fun _ => 0))) := ab_other e2 (by omega) gn10
  have c52 : h1[m+74+7]? = some (.inl (.int, 256, .inl (fun _ => 0))) := ab_other e2 (by omega) gn11
  have c53 : h1[m+74+8]? = some (.inl (.int, 1024, .inl (fun _ => 0))) := ab_other e2 (by omega) gn12
  have c54 : h1[m+74+9]? = some (.inl (.int, 32, .inl (fun _ => 0))) := ab_other e2 (by omega) gn17
  have fr55 : ab_fr (fun _ => True) h h1 := ab_fr_set (ab_fr_rf _ _) e2 (by trivial)
  clear e2
  refine ab_aload_n d_M_sum_5 rfl rfl rfl ?_
  refine ab_iconst (v := 1) d_M_sum_6 (by decide) ?_
  refine ab_put (f := 24) d_M_sum_7 c3 rfl (by decide) (k10 17 rfl rfl) rfl rfl (fun _ => rfl) (fun _ => rfl) (Nat.le_of_ble_eq_true rfl) ?_
  show ab_V _ _ _ _ _ _ _ 10 [some (.ref m)] [] (h1.set m (.inr (12, [.int 0, .ref (m + 1), .int 0, .ref (m + 2), .ref (m + 33), .int 0, .int (-1), .int (-1), .ref (m + 64), .ref (m + 74), .ref (m + 84), .ref (m + 94), .int 1, .int 0, .ref (m + 99), .ref (m + 100), .ref (m + 101), .ref (m + 102), .ref (m + 103), .ref (m + 104), .int 0, .ref (m + 105), .int 0, .int 0, .int 1, .ref (m + 106), .ref (m + 107), .int 0, .int 0])))
  refine ab_gen (fun h56 e57 => ?_)
  have c58 : h56[m]? = some (.inr (12, [.int 0, .ref (m + 1), .int 0, .ref (m + 2), .ref (m + 33), .int 0, .int (-1), .int (-1), .ref (m + 64), .ref (m + 74), .ref (m + 84), .ref (m + 94), .int 1, .int 0, .ref (m + 99), .ref (m + 100), .ref (m + 101), .ref (m + 102), .ref (m + 103), .ref (m + 104), .int 0, .ref (m + 105), .int 0, .int 0, .int 1, .ref (m + 106), .ref (m + 107), .int 0, .int 0])) := ab_self e57 c3
  have c59 : h56[m+1]? = some (.inl (.byte, 6000, .inl (fun _ => 0))) := ab_other e57 (by omega) c4
  have c60 : h56[m+99]? = some (.inl (.int, 256, .inl (fun _ => 0))) := ab_other e57 (by omega) c5
  have c61 : h56[m+100]? = some (.inl (.boolean, 256, .inl (fun _ => 0))) := ab_other e57 (by omega) c6
  have c62 : h56[m+101]? = some (.inl (.int, 64, .inl (fun _ => 0))) := ab_other e57 (by omega) c7
  have c63 : h56[m+102]? = some (.inl (.int, 4, .inl (fun _ => 0))) := ab_other e57 (by omega) c8
  have c64 : h56[m+103]? = some (.inl (.int, 4, .inl (fun _ => 0))) := ab_other e57 (by omega) c9
  have c65 : h56[m+104]? = some (.inl (.int, 256, .inl (fun _ => 0))) := ab_other e57 (by omega) c10
  have c66 : h56[m+105]? = some (.inl (.byte, 58000, .inl (fun _ => 0))) := ab_other e57 (by omega) c11
  have c67 : h56[m+106]? = some (.inl (.boolean, 8, .inl (a0_M w 25))) := ab_other e57 (by omega) c12
  have c68 : h56[m+107]? = some (.inl (.boolean, 8, .inl (fun _ => 0))) := ab_other e57 (by omega) c13
  have c69 : h56[m+2]? = some (.inr (14, [.ref (m + 2 + 1), .int 0, .int 0, .ref (m + 2 + 2), .ref (m + 2 + 3), .ref (m + 2 + 4), .ref (m + 2 + 5), .ref (m + 2 + 6), .ref (m + 2 + 7), .int 0, .int 0, .int 0, .int 0, .ref (m + 2 + 8), .ref (m + 2 + 9), .ref (m + 2 + 10), .int 0, .ref (m + 2 + 11), .ref (m + 2 + 12), .ref (m + 2 + 13), .ref (m + 2 + 14), .int 0, .ref (m + 2 + 15), .ref (m + 2 + 16), .ref (m + 2 + 17), .ref (m + 2 + 18), .int 0, .ref (m + 2 + 19), .ref (m + 2 + 20), .int 0, .ref (m + 2 + 21), .ref (m + 2 + 22), .ref (m + 2 + 23), .ref (m + 2 + 24), .ref (m + 2 + 25), .ref (m + 2 + 26), .ref (m + 2 + 27), .int 0, .ref (m + 2 + 28), .ref (m + 2 + 29), .ref (m + 2 + 30), .int 0, .int 0])) := ab_other e57 (by omega) c14
  have c70 : h56[m+2+1]? = some (.inl (.byte, 6000, .inl (fun _ => 0))) := ab_other e57 (by omega) c15
  have c71 : h56[m+2+2]? = some (.inl (.int, 6002, .inl (fun _ => 0))) := ab_other e57 (by omega) c16
  have c72 : h56[m+2+3]? = some (.inl (.int, 6002, .inl (fun _ => 0))) := ab_other e57 (by omega) c17
  have c73 : h56[m+2+4]? = some (.inl (.int, 6002, .inl (fun _ => 0))) := ab_other e57 (by omega) c18
  have c74 : h56[m+2+5]? = some (.inl (.int, 6002, .inl (fun _ => 0))) := ab_other e57 (by omega) c19
  have c75 : h56[m+2+6]? = some (.inl (.boolean, 6002, .inl (fun _ => 0))) := ab_other e57 (by omega) c20
  have c76 : h56[m+2+7]? = some (.inl (.int, 6002, .inl (fun _ => 0))) := ab_other e57 (by omega) c21
  have c77 : h56[m+2+8]? = some (.inl (.int, 56, .inl (fun _ => 0))) := ab_other e57 (by omega) c22
  have c78 : h56[m+2+9]? = some (.inl (.int, 56, .inl (fun _ => 0))) := ab_other e57 (by omega) c23
  have c79 : h56[m+2+10]? = some (.inl (.int, 56, .inl (fun _ => 0))) := ab_other e57 (by omega) c24
  have c80 : h56[m+2+11]? = some (.inl (.int, 16, .inl (fun _ => 0))) := ab_other e57 (by omega) c25
  have c81 : h56[m+2+12]? = some (.inl (.int, 17, .inl (fun _ => 0))) := ab_other e57 (by omega) c26
  have c82 : h56[m+2+13]? = some (.inl (.int, 48, .inl (fun _ => 0))) := ab_other e57 (by omega) c27
  have c83 : h56[m+2+14]? = some (.inl (.int, 48, .inl (fun _ => 0))) := ab_other e57 (by omega) c28
  have c84 : h56[m+2+15]? = some (.inl (.int, 8, .inl (fun _ => 0))) := ab_other e57 (by omega) c29
  have c85 : h56[m+2+16]? = some (.inl (.int, 8, .inl (fun _ => 0))) := ab_other e57 (by omega) c30
  have c86 : h56[m+2+17]? = some (.inl (.int, 32, .inl (fun _ => 0))) := ab_other e57 (by omega) c31
  have c87 : h56[m+2+18]? = some (.inl (.int, 32, .inl (fun _ => 0))) := ab_other e57 (by omega) c32
  have c88 : h56[m+2+19]? = some (.inl (.int, 16, .inl (fun _ => 0))) := ab_other e57 (by omega) c33
  have c89 : h56[m+2+20]? = some (.inl (.int, 768, .inl (fun _ => 0))) := ab_other e57 (by omega) c34
  have c90 : h56[m+2+21]? = some (.inl (.int, 16, .inl (fun _ => 0))) := ab_other e57 (by omega) c35
  have c91 : h56[m+2+22]? = some (.inl (.int, 16, .inl (fun _ => 0))) := ab_other e57 (by omega) c36
  have c92 : h56[m+2+23]? = some (.inl (.int, 16, .inl (fun _ => 0))) := ab_other e57 (by omega) c37
  have c93 : h56[m+2+24]? = some (.inl (.int, 16, .inl (fun _ => 0))) := ab_other e57 (by omega) c38
  have c94 : h56[m+2+25]? = some (.inl (.int, 16, .inl (fun _ => 0))) := ab_other e57 (by omega) c39
  have c95 : h56[m+2+26]? = some (.inl (.int, 16, .inl (fun _ => 0))) := ab_other e57 (by omega) c40
  have c96 : h56[m+2+27]? = some (.inl (.int, 16, .inl (fun _ => 0))) := ab_other e57 (by omega) c41
  have c97 : h56[m+2+28]? = some (.inl (.int, 12, .inl (fun _ => 0))) := ab_other e57 (by omega) c42
  have c98 : h56[m+2+29]? = some (.inl (.int, 12, .inl (fun _ => 0))) := ab_other e57 (by omega) c43
  have c99 : h56[m+2+30]? = some (.inl (.boolean, 12, .inl (fun _ => 0))) := ab_other e57 (by omega) c44
  have c100 : h56[m+74]? = some (.inr (13, [.int 0, .int 0, .int 0, .int 0, .ref (m + 74 + 1), .ref (m + 74 + 2), .ref (m + 74 + 3), .ref (m + 74 + 4), .int 0, .ref (m + 74 + 5), .ref (m + 74 + 6), .ref (m + 74 + 7), .ref (m + 74 + 8), .int (-1), .int 0, .int 0, .int 0, .ref (m + 74 + 9)])) := ab_other e57 (by omega) c45
  have c101 : h56[m+74+1]? = some (.inl (.int, 256, .inl (fun _ => 0))) := ab_other e57 (by omega) c46
  have c102 : h56[m+74+2]? = some (.inl (.boolean, 256, .inl (fun _ => 0))) := ab_other e57 (by omega) c47
  have c103 : h56[m+74+3]? = some (.inl (.int, 256, .inl (fun _ => 0))) := ab_other e57 (by omega) c48
  have c104 : h56[m+74+4]? = some (.inl (.int, 12288, .inl (fun _ => 0))) := ab_other e57 (by omega) c49
  have c105 : h56[m+74+5]? = some (.inl (.int, 256, .inl (fun _ => 0))) := ab_other e57 (by omega) c50
  have c106 : h56[m+74+6]? = some (.inl (.int, 256, .inl (fun _ => 0))) := ab_other e57 (by omega) c51
  have c107 : h56[m+74+7]? = some (.inl (.int, 256, .inl (fun _ => 0))) := ab_other e57 (by omega) c52
  have c108 : h56[m+74+8]? = some (.inl (.int, 1024, .inl (fun _ => 0))) := ab_other e57 (by omega) c53
  have c109 : h56[m+74+9]? = some (.inl (.int, 32, .inl (fun _ => 0))) := ab_other e57 (by omega) c54
  have fr110 : ab_fr (fun _ => True) h h56 := ab_fr_set fr55 e57 (by trivial)
  clear c3 c4 c5 c6 c7 c8 c9 c10 c11 c12 c13 c14 c15 c16 c17 c18 c19 c20 c21 c22 c23 c24 c25 c26 c27 c28 c29 c30 c31 c32 c33 c34 c35 c36 c37 c38 c39 c40 c41 c42 c43 c44 c45 c46 c47 c48 c49 c50 c51 c52 c53 c54 fr55 e57
  try clear h1
  refine ab_aload_n d_M_sum_10 rfl rfl rfl ?_
  refine ab_iconst (v := 0) d_M_sum_11 (by decide) ?_
  refine ab_put (f := 23) d_M_sum_12 c58 rfl (by decide) (k10 16 rfl rfl) rfl rfl (fun _ => rfl) (fun _ => rfl) (Nat.le_of_ble_eq_true rfl) ?_
  show ab_V _ _ _ _ _ _ _ 15 [some (.ref m)] [] (h56.set m (.inr (12, [.int 0, .ref (m + 1), .int 0, .ref (m + 2), .ref (m + 33), .int 0, .int (-1), .int (-1), .ref (m + 64), .ref (m + 74), .ref (m + 84), .ref (m + 94), .int 1, .int 0, .ref (m + 99), .ref (m + 100), .ref (m + 101), .ref (m + 102), .ref (m + 103), .ref (m + 104), .int 0, .ref (m + 105), .int 0, .int 0, .int 1, .ref (m + 106), .ref (m + 107), .int 0, .int 0])))
  refine ab_gen (fun h111 e112 => ?_)
  have c113 : h111[m]? = some (.inr (12, [.int 0, .ref (m + 1), .int 0, .ref (m + 2), .ref (m + 33), .int 0, .int (-1), .int (-1), .ref (m + 64), .ref (m + 74), .ref (m + 84), .ref (m + 94), .int 1, .int 0, .ref (m + 99), .ref (m + 100), .ref (m + 101), .ref (m + 102), .ref (m + 103), .ref (m + 104), .int 0, .ref (m + 105), .int 0, .int 0, .int 1, .ref (m + 106), .ref (m + 107), .int 0, .int 0])) := ab_self e112 c58
  have c114 : h111[m+1]? = some (.inl (.byte, 6000, .inl (fun _ => 0))) := ab_other e112 (by omega) c59
  have c115 : h111[m+99]? = some (.inl (.int, 256, .inl (fun _ => 0))) := ab_other e112 (by omega) c60
  have c116 : h111[m+100]? = some (.inl (.boolean, 256, .inl (fun _ => 0))) := ab_other e112 (by omega) c61
  have c117 : h111[m+101]? = some (.inl (.int, 64, .inl (fun _ => 0))) := ab_other e112 (by omega) c62
  have c118 : h111[m+102]? = some (.inl (.int, 4, .inl (fun _ => 0))) := ab_other e112 (by omega) c63
  have c119 : h111[m+103]? = some (.inl (.int, 4, .inl (fun _ => 0))) := ab_other e112 (by omega) c64
  have c120 : h111[m+104]? = some (.inl (.int, 256, .inl (fun _ => 0))) := ab_other e112 (by omega) c65
  have c121 : h111[m+105]? = some (.inl (.byte, 58000, .inl (fun _ => 0))) := ab_other e112 (by omega) c66
  have c122 : h111[m+106]? = some (.inl (.boolean, 8, .inl (a0_M w 25))) := ab_other e112 (by omega) c67
  have c123 : h111[m+107]? = some (.inl (.boolean, 8, .inl (fun _ => 0))) := ab_other e112 (by omega) c68
  have c124 : h111[m+2]? = some (.inr (14, [.ref (m + 2 + 1), .int 0, .int 0, .ref (m + 2 + 2), .ref (m + 2 + 3), .ref (m + 2 + 4), .ref (m + 2 + 5), .ref (m + 2 + 6), .ref (m + 2 + 7), .int 0, .int 0, .int 0, .int 0, .ref (m + 2 + 8), .ref (m + 2 + 9), .ref (m + 2 + 10), .int 0, .ref (m + 2 + 11), .ref (m + 2 + 12), .ref (m + 2 + 13), .ref (m + 2 + 14), .int 0, .ref (m + 2 + 15), .ref (m + 2 + 16), .ref (m + 2 + 17), .ref (m + 2 + 18), .int 0, .ref (m + 2 + 19), .ref (m + 2 + 20), .int 0, .ref (m + 2 + 21), .ref (m + 2 + 22), .ref (m + 2 + 23), .ref (m + 2 + 24), .ref (m + 2 + 25), .ref (m + 2 + 26), .ref (m + 2 + 27), .int 0, .ref (m + 2 + 28), .ref (m + 2 + 29), .ref (m + 2 + 30), .int 0, .int 0])) := ab_other e112 (by omega) c69
  have c125 : h111[m+2+1]? = some (.inl (.byte, 6000, .inl (fun _ => 0))) := ab_other e112 (by omega) c70
  have c126 : h111[m+2+2]? = some (.inl (.int, 6002, .inl (fun _ => 0))) := ab_other e112 (by omega) c71
  have c127 : h111[m+2+3]? = some (.inl (.int, 6002, .inl (fun _ => 0))) := ab_other e112 (by omega) c72
  have c128 : h111[m+2+4]? = some (.inl (.int, 6002, .inl (fun _ => 0))) := ab_other e112 (by omega) c73
  have c129 : h111[m+2+5]? = some (.inl (.int, 6002, .inl (fun _ => 0))) := ab_other e112 (by omega) c74
  have c130 : h111[m+2+6]? = some (.inl (.boolean, 6002, .inl (fun _ => 0))) := ab_other e112 (by omega) c75
  have c131 : h111[m+2+7]? = some (.inl (.int, 6002, .inl (fun _ => 0))) := ab_other e112 (by omega) c76
  have c132 : h111[m+2+8]? = some (.inl (.int, 56, .inl (fun _ => 0))) := ab_other e112 (by omega) c77
  have c133 : h111[m+2+9]? = some (.inl (.int, 56, .inl (fun _ => 0))) := ab_other e112 (by omega) c78
  have c134 : h111[m+2+10]? = some (.inl (.int, 56, .inl (fun _ => 0))) := ab_other e112 (by omega) c79
  have c135 : h111[m+2+11]? = some (.inl (.int, 16, .inl (fun _ => 0))) := ab_other e112 (by omega) c80
  have c136 : h111[m+2+12]? = some (.inl (.int, 17, .inl (fun _ => 0))) := ab_other e112 (by omega) c81
  have c137 : h111[m+2+13]? = some (.inl (.int, 48, .inl (fun _ => 0))) := ab_other e112 (by omega) c82
  have c138 : h111[m+2+14]? = some (.inl (.int, 48, .inl (fun _ => 0))) := ab_other e112 (by omega) c83
  have c139 : h111[m+2+15]? = some (.inl (.int, 8, .inl (fun _ => 0))) := ab_other e112 (by omega) c84
  have c140 : h111[m+2+16]? = some (.inl (.int, 8, .inl (fun _ => 0))) := ab_other e112 (by omega) c85
  have c141 : h111[m+2+17]? = some (.inl (.int, 32, .inl (fun _ => 0))) := ab_other e112 (by omega) c86
  have c142 : h111[m+2+18]? = some (.inl (.int, 32, .inl (fun _ => 0))) := ab_other e112 (by omega) c87
  have c143 : h111[m+2+19]? = some (.inl (.int, 16, .inl (fun _ => 0))) := ab_other e112 (by omega) c88
  have c144 : h111[m+2+20]? = some (.inl (.int, 768, .inl (fun _ => 0))) := ab_other e112 (by omega) c89
  have c145 : h111[m+2+21]? = some (.inl (.int, 16, .inl (fun _ => 0))) := ab_other e112 (by omega) c90
  have c146 : h111[m+2+22]? = some (.inl (.int, 16, .inl (fun _ => 0))) := ab_other e112 (by omega) c91
  have c147 : h111[m+2+23]? = some (.inl (.int, 16, .inl (fun _ => 0))) := ab_other e112 (by omega) c92
  have c148 : h111[m+2+24]? = some (.inl (.int, 16, .inl (fun _ => 0))) := ab_other e112 (by omega) c93
  have c149 : h111[m+2+25]? = some (.inl (.int, 16, .inl (fun _ => 0))) := ab_other e112 (by omega) c94
  have c150 : h111[m+2+26]? = some (.inl (.int, 16, .inl (fun _ => 0))) := ab_other e112 (by omega) c95
  have c151 : h111[m+2+27]? = some (.inl (.int, 16, .inl (fun _ => 0))) := ab_other e112 (by omega) c96
  have c152 : h111[m+2+28]? = some (.inl (.int, 12, .inl (fun _ => 0))) := ab_other e112 (by omega) c97
  have c153 : h111[m+2+29]? = some (.inl (.int, 12, .inl (fun _ => 0))) := ab_other e112 (by omega) c98
  have c154 : h111[m+2+30]? = some (.inl (.boolean, 12, .inl (fun _ => 0))) := ab_other e112 (by omega) c99
  have c155 : h111[m+74]? = some (.inr (13, [.int 0, .int 0, .int 0, .int 0, .ref (m + 74 + 1), .ref (m + 74 + 2), .ref (m + 74 + 3), .ref (m + 74 + 4), .int 0, .ref (m + 74 + 5), .ref (m + 74 + 6), .ref (m + 74 + 7), .ref (m + 74 + 8), .int (-1), .int 0, .int 0, .int 0, .ref (m + 74 + 9)])) := ab_other e112 (by omega) c100
  have c156 : h111[m+74+1]? = some (.inl (.int, 256, .inl (fun _ => 0))) := ab_other e112 (by omega) c101
  have c157 : h111[m+74+2]? = some (.inl (.boolean, 256, .inl (fun _ => 0))) := ab_other e112 (by omega) c102
  have c158 : h111[m+74+3]? = some (.inl (.int, 256, .inl (fun _ => 0))) := ab_other e112 (by omega) c103
  have c159 : h111[m+74+4]? = some (.inl (.int, 12288, .inl (fun _ => 0))) := ab_other e112 (by omega) c104
  have c160 : h111[m+74+5]? = some (.inl (.int, 256, .inl (fun _ => 0))) := ab_other e112 (by omega) c105
  have c161 : h111[m+74+6]? = some (.inl (.int, 256, .inl (fun _ => 0))) := ab_other e112 (by omega) c106
  have c162 : h111[m+74+7]? = some (.inl (.int, 256, .inl (fun _ => 0))) := ab_other e112 (by omega) c107
  have c163 : h111[m+74+8]? = some (.inl (.int, 1024, .inl (fun _ => 0))) := ab_other e112 (by omega) c108
  have c164 : h111[m+74+9]? = some (.inl (.int, 32, .inl (fun _ => 0))) := ab_other e112 (by omega) c109
  have fr165 : ab_fr (fun _ => True) h h111 := ab_fr_set fr110 e112 (by trivial)
  clear c58 c59 c60 c61 c62 c63 c64 c65 c66 c67 c68 c69 c70 c71 c72 c73 c74 c75 c76 c77 c78 c79 c80 c81 c82 c83 c84 c85 c86 c87 c88 c89 c90 c91 c92 c93 c94 c95 c96 c97 c98 c99 c100 c101 c102 c103 c104 c105 c106 c107 c108 c109 fr110 e112
  try clear h56
  refine ab_aload_n d_M_sum_15 rfl rfl rfl ?_
  refine ab_callV_v (As := []) (rest := []) d_M_sum_16 (r_pw_sum c113 c124 c155 c156 c157) (ab_mkC s_M_putsWorld (Nat.le_of_ble_eq_true rfl) (Nat.le_of_ble_eq_true rfl) (by decide) (by decide)) (k13 28 rfl rfl) i_M_putsWorld v_M_putsWorld c113 rfl rfl (Nat.le_of_ble_eq_true rfl) (fun h166 q167 => ?_)
  obtain ⟨c169, f168⟩ := q167
  have c170 : h166[m+1]? = some (.inl (.byte, 6000, .inl (fun _ => 0))) := ab_fr_at f168 c114 (by omega)
  have c171 : h166[m+99]? = some (.inl (.int, 256, .inl (fun _ => 0))) := ab_fr_at f168 c115 (by omega)
  have c172 : h166[m+100]? = some (.inl (.boolean, 256, .inl (fun _ => 0))) := ab_fr_at f168 c116 (by omega)
  have c173 : h166[m+101]? = some (.inl (.int, 64, .inl (fun _ => 0))) := ab_fr_at f168 c117 (by omega)
  have c174 : h166[m+102]? = some (.inl (.int, 4, .inl (fun _ => 0))) := ab_fr_at f168 c118 (by omega)
  have c175 : h166[m+103]? = some (.inl (.int, 4, .inl (fun _ => 0))) := ab_fr_at f168 c119 (by omega)
  have c176 : h166[m+104]? = some (.inl (.int, 256, .inl (fun _ => 0))) := ab_fr_at f168 c120 (by omega)
  have c177 : h166[m+105]? = some (.inl (.byte, 58000, .inl (fun _ => 0))) := ab_fr_at f168 c121 (by omega)
  have c178 : h166[m+106]? = some (.inl (.boolean, 8, .inl (a0_M w 25))) := ab_fr_at f168 c122 (by omega)
  have c179 : h166[m+107]? = some (.inl (.boolean, 8, .inl (fun _ => 0))) := ab_fr_at f168 c123 (by omega)
  have c180 : h166[m+2]? = some (.inr (14, [.ref (m + 2 + 1), .int 0, .int 0, .ref (m + 2 + 2), .ref (m + 2 + 3), .ref (m + 2 + 4), .ref (m + 2 + 5), .ref (m + 2 + 6), .ref (m + 2 + 7), .int 0, .int 0, .int 0, .int 0, .ref (m + 2 + 8), .ref (m + 2 + 9), .ref (m + 2 + 10), .int 0, .ref (m + 2 + 11), .ref (m + 2 + 12), .ref (m + 2 + 13), .ref (m + 2 + 14), .int 0, .ref (m + 2 + 15), .ref (m + 2 + 16), .ref (m + 2 + 17), .ref (m + 2 + 18), .int 0, .ref (m + 2 + 19), .ref (m + 2 + 20), .int 0, .ref (m + 2 + 21), .ref (m + 2 + 22), .ref (m + 2 + 23), .ref (m + 2 + 24), .ref (m + 2 + 25), .ref (m + 2 + 26), .ref (m + 2 + 27), .int 0, .ref (m + 2 + 28), .ref (m + 2 + 29), .ref (m + 2 + 30), .int 0, .int 0])) := ab_fr_at f168 c124 (by omega)
  have c181 : h166[m+2+1]? = some (.inl (.byte, 6000, .inl (fun _ => 0))) := ab_fr_at f168 c125 (by omega)
  have c182 : h166[m+2+2]? = some (.inl (.int, 6002, .inl (fun _ => 0))) := ab_fr_at f168 c126 (by omega)
  have c183 : h166[m+2+3]? = some (.inl (.int, 6002, .inl (fun _ => 0))) := ab_fr_at f168 c127 (by omega)
  have c184 : h166[m+2+4]? = some (.inl (.int, 6002, .inl (fun _ => 0))) := ab_fr_at f168 c128 (by omega)
  have c185 : h166[m+2+5]? = some (.inl (.int, 6002, .inl (fun _ => 0))) := ab_fr_at f168 c129 (by omega)
  have c186 : h166[m+2+6]? = some (.inl (.boolean, 6002, .inl (fun _ => 0))) := ab_fr_at f168 c130 (by omega)
  have c187 : h166[m+2+7]? = some (.inl (.int, 6002, .inl (fun _ => 0))) := ab_fr_at f168 c131 (by omega)
  have c188 : h166[m+2+8]? = some (.inl (.int, 56, .inl (fun _ => 0))) := ab_fr_at f168 c132 (by omega)
  have c189 : h166[m+2+9]? = some (.inl (.int, 56, .inl (fun _ => 0))) := ab_fr_at f168 c133 (by omega)
  have c190 : h166[m+2+10]? = some (.inl (.int, 56, .inl (fun _ => 0))) := ab_fr_at f168 c134 (by omega)
  have c191 : h166[m+2+11]? = some (.inl (.int, 16, .inl (fun _ => 0))) := ab_fr_at f168 c135 (by omega)
  have c192 : h166[m+2+12]? = some (.inl (.int, 17, .inl (fun _ => 0))) := ab_fr_at f168 c136 (by omega)
  have c193 : h166[m+2+13]? = some (.inl (.int, 48, .inl (fun _ => 0))) := ab_fr_at f168 c137 (by omega)
  have c194 : h166[m+2+14]? = some (.inl (.int, 48, .inl (fun _ => 0))) := ab_fr_at f168 c138 (by omega)
  have c195 : h166[m+2+15]? = some (.inl (.int, 8, .inl (fun _ => 0))) := ab_fr_at f168 c139 (by omega)
  have c196 : h166[m+2+16]? = some (.inl (.int, 8, .inl (fun _ => 0))) := ab_fr_at f168 c140 (by omega)
  have c197 : h166[m+2+17]? = some (.inl (.int, 32, .inl (fun _ => 0))) := ab_fr_at f168 c141 (by omega)
  have c198 : h166[m+2+18]? = some (.inl (.int, 32, .inl (fun _ => 0))) := ab_fr_at f168 c142 (by omega)
  have c199 : h166[m+2+19]? = some (.inl (.int, 16, .inl (fun _ => 0))) := ab_fr_at f168 c143 (by omega)
  have c200 : h166[m+2+20]? = some (.inl (.int, 768, .inl (fun _ => 0))) := ab_fr_at f168 c144 (by omega)
  have c201 : h166[m+2+21]? = some (.inl (.int, 16, .inl (fun _ => 0))) := ab_fr_at f168 c145 (by omega)
  have c202 : h166[m+2+22]? = some (.inl (.int, 16, .inl (fun _ => 0))) := ab_fr_at f168 c146 (by omega)
  have c203 : h166[m+2+23]? = some (.inl (.int, 16, .inl (fun _ => 0))) := ab_fr_at f168 c147 (by omega)
  have c204 : h166[m+2+24]? = some (.inl (.int, 16, .inl (fun _ => 0))) := ab_fr_at f168 c148 (by omega)
  have c205 : h166[m+2+25]? = some (.inl (.int, 16, .inl (fun _ => 0))) := ab_fr_at f168 c149 (by omega)
  have c206 : h166[m+2+26]? = some (.inl (.int, 16, .inl (fun _ => 0))) := ab_fr_at f168 c150 (by omega)
  have c207 : h166[m+2+27]? = some (.inl (.int, 16, .inl (fun _ => 0))) := ab_fr_at f168 c151 (by omega)
  have c208 : h166[m+2+28]? = some (.inl (.int, 12, .inl (fun _ => 0))) := ab_fr_at f168 c152 (by omega)
  have c209 : h166[m+2+29]? = some (.inl (.int, 12, .inl (fun _ => 0))) := ab_fr_at f168 c153 (by omega)
  have c210 : h166[m+2+30]? = some (.inl (.boolean, 12, .inl (fun _ => 0))) := ab_fr_at f168 c154 (by omega)
  have c211 : h166[m+74]? = some (.inr (13, [.int 0, .int 0, .int 0, .int 0, .ref (m + 74 + 1), .ref (m + 74 + 2), .ref (m + 74 + 3), .ref (m + 74 + 4), .int 0, .ref (m + 74 + 5), .ref (m + 74 + 6), .ref (m + 74 + 7), .ref (m + 74 + 8), .int (-1), .int 0, .int 0, .int 0, .ref (m + 74 + 9)])) := ab_fr_at f168 c155 (by omega)
  have c212 : h166[m+74+1]? = some (.inl (.int, 256, .inl (fun _ => 0))) := ab_fr_at f168 c156 (by omega)
  have c213 : h166[m+74+2]? = some (.inl (.boolean, 256, .inl (fun _ => 0))) := ab_fr_at f168 c157 (by omega)
  have c214 : h166[m+74+3]? = some (.inl (.int, 256, .inl (fun _ => 0))) := ab_fr_at f168 c158 (by omega)
  have c215 : h166[m+74+4]? = some (.inl (.int, 12288, .inl (fun _ => 0))) := ab_fr_at f168 c159 (by omega)
  have c216 : h166[m+74+5]? = some (.inl (.int, 256, .inl (fun _ => 0))) := ab_fr_at f168 c160 (by omega)
  have c217 : h166[m+74+6]? = some (.inl (.int, 256, .inl (fun _ => 0))) := ab_fr_at f168 c161 (by omega)
  have c218 : h166[m+74+7]? = some (.inl (.int, 256, .inl (fun _ => 0))) := ab_fr_at f168 c162 (by omega)
  have c219 : h166[m+74+8]? = some (.inl (.int, 1024, .inl (fun _ => 0))) := ab_fr_at f168 c163 (by omega)
  have c220 : h166[m+74+9]? = some (.inl (.int, 32, .inl (fun _ => 0))) := ab_fr_at f168 c164 (by omega)
  have fr221 : ab_fr (fun _ => True) h h166 := ab_fr_tr fr165 (ab_fr_mono f168 (fun _ _ => trivial))
  clear c113 c114 c115 c116 c117 c118 c119 c120 c121 c122 c123 c124 c125 c126 c127 c128 c129 c130 c131 c132 c133 c134 c135 c136 c137 c138 c139 c140 c141 c142 c143 c144 c145 c146 c147 c148 c149 c150 c151 c152 c153 c154 c155 c156 c157 c158 c159 c160 c161 c162 c163 c164 f168 fr165
  try clear h111
  replace c169 : h166[m]? = some (.inr (12, [.int 0, .ref (m + 1), .int 0, .ref (m + 2), .ref (m + 33), .int 0, .int (-1), .int (-1), .ref (m + 64), .ref (m + 74), .ref (m + 84), .ref (m + 94), .int 1, .int 0, .ref (m + 99), .ref (m + 100), .ref (m + 101), .ref (m + 102), .ref (m + 103), .ref (m + 104), .int 0, .ref (m + 105), .int 0, .int sum0, .int 1, .ref (m + 106), .ref (m + 107), .int 0, .int 0])) := c169
  refine ab_aload_n d_M_sum_19 rfl rfl rfl ?_
  refine ab_iconst (v := 0) d_M_sum_20 (by decide) ?_
  refine ab_put (f := 24) d_M_sum_21 c169 rfl (by decide) (k10 17 rfl rfl) rfl rfl (fun _ => rfl) (fun _ => rfl) (Nat.le_of_ble_eq_true rfl) ?_
  show ab_V _ _ _ _ _ _ _ 24 [some (.ref m)] [] (h166.set m (.inr (12, [.int 0, .ref (m + 1), .int 0, .ref (m + 2), .ref (m + 33), .int 0, .int (-1), .int (-1), .ref (m + 64), .ref (m + 74), .ref (m + 84), .ref (m + 94), .int 1, .int 0, .ref (m + 99), .ref (m + 100), .ref (m + 101), .ref (m + 102), .ref (m + 103), .ref (m + 104), .int 0, .ref (m + 105), .int 0, .int sum0, .int 0, .ref (m + 106), .ref (m + 107), .int 0, .int 0])))
  refine ab_gen (fun h222 e223 => ?_)
  have c224 : h222[m+1]? = some (.inl (.byte, 6000, .inl (fun _ => 0))) := ab_other e223 (by omega) c170
  have c225 : h222[m+99]? = some (.inl (.int, 256, .inl (fun _ => 0))) := ab_other e223 (by omega) c171
  have c226 : h222[m+100]? = some (.inl (.boolean, 256, .inl (fun _ => 0))) := ab_other e223 (by omega) c172
  have c227 : h222[m+101]? = some (.inl (.int, 64, .inl (fun _ => 0))) := ab_other e223 (by omega) c173
  have c228 : h222[m+102]? = some (.inl (.int, 4, .inl (fun _ => 0))) := ab_other e223 (by omega) c174
  have c229 : h222[m+103]? = some (.inl (.int, 4, .inl (fun _ => 0))) := ab_other e223 (by omega) c175
  have c230 : h222[m+104]? = some (.inl (.int, 256, .inl (fun _ => 0))) := ab_other e223 (by omega) c176
  have c231 : h222[m+105]? = some (.inl (.byte, 58000, .inl (fun _ => 0))) := ab_other e223 (by omega) c177
  have c232 : h222[m+106]? = some (.inl (.boolean, 8, .inl (a0_M w 25))) := ab_other e223 (by omega) c178
  have c233 : h222[m+107]? = some (.inl (.boolean, 8, .inl (fun _ => 0))) := ab_other e223 (by omega) c179
  have c234 : h222[m+2]? = some (.inr (14, [.ref (m + 2 + 1), .int 0, .int 0, .ref (m + 2 + 2), .ref (m + 2 + 3), .ref (m + 2 + 4), .ref (m + 2 + 5), .ref (m + 2 + 6), .ref (m + 2 + 7), .int 0, .int 0, .int 0, .int 0, .ref (m + 2 + 8), .ref (m + 2 + 9), .ref (m + 2 + 10), .int 0, .ref (m + 2 + 11), .ref (m + 2 + 12), .ref (m + 2 + 13), .ref (m + 2 + 14), .int 0, .ref (m + 2 + 15), .ref (m + 2 + 16), .ref (m + 2 + 17), .ref (m + 2 + 18), .int 0, .ref (m + 2 + 19), .ref (m + 2 + 20), .int 0, .ref (m + 2 + 21), .ref (m + 2 + 22), .ref (m + 2 + 23), .ref (m + 2 + 24), .ref (m + 2 + 25), .ref (m + 2 + 26), .ref (m + 2 + 27), .int 0, .ref (m + 2 + 28), .ref (m + 2 + 29), .ref (m + 2 + 30), .int 0, .int 0])) := ab_other e223 (by omega) c180
  have c235 : h222[m+2+1]? = some (.inl (.byte, 6000, .inl (fun _ => 0))) := ab_other e223 (by omega) c181
  have c236 : h222[m+2+2]? = some (.inl (.int, 6002, .inl (fun _ => 0))) := ab_other e223 (by omega) c182
  have c237 : h222[m+2+3]? = some (.inl (.int, 6002, .inl (fun _ => 0))) := ab_other e223 (by omega) c183
  have c238 : h222[m+2+4]? = some (.inl (.int, 6002, .inl (fun _ => 0))) := ab_other e223 (by omega) c184
  have c239 : h222[m+2+5]? = some (.inl (.int, 6002, .inl (fun _ => 0))) := ab_other e223 (by omega) c185
  have c240 : h222[m+2+6]? = some (.inl (.boolean, 6002, .inl (fun _ => 0))) := ab_other e223 (by omega) c186
  have c241 : h222[m+2+7]? = some (.inl (.int, 6002, .inl (fun _ => 0))) := ab_other e223 (by omega) c187
  have c242 : h222[m+2+8]? = some (.inl (.int, 56, .inl (fun _ => 0))) := ab_other e223 (by omega) c188
  have c243 : h222[m+2+9]? = some (.inl (.int, 56, .inl (fun _ => 0))) := ab_other e223 (by omega) c189
  have c244 : h222[m+2+10]? = some (.inl (.int, 56, .inl (fun _ => 0))) := ab_other e223 (by omega) c190
  have c245 : h222[m+2+11]? = some (.inl (.int, 16, .inl (fun _ => 0))) := ab_other e223 (by omega) c191
  have c246 : h222[m+2+12]? = some (.inl (.int, 17, .inl (fun _ => 0))) := ab_other e223 (by omega) c192
  have c247 : h222[m+2+13]? = some (.inl (.int, 48, .inl (fun _ => 0))) := ab_other e223 (by omega) c193
  have c248 : h222[m+2+14]? = some (.inl (.int, 48, .inl (fun _ => 0))) := ab_other e223 (by omega) c194
  have c249 : h222[m+2+15]? = some (.inl (.int, 8, .inl (fun _ => 0))) := ab_other e223 (by omega) c195
  have c250 : h222[m+2+16]? = some (.inl (.int, 8, .inl (fun _ => 0))) := ab_other e223 (by omega) c196
  have c251 : h222[m+2+17]? = some (.inl (.int, 32, .inl (fun _ => 0))) := ab_other e223 (by omega) c197
  have c252 : h222[m+2+18]? = some (.inl (.int, 32, .inl (fun _ => 0))) := ab_other e223 (by omega) c198
  have c253 : h222[m+2+19]? = some (.inl (.int, 16, .inl (fun _ => 0))) := ab_other e223 (by omega) c199
  have c254 : h222[m+2+20]? = some (.inl (.int, 768, .inl (fun _ => 0))) := ab_other e223 (by omega) c200
  have c255 : h222[m+2+21]? = some (.inl (.int, 16, .inl (fun _ => 0))) := ab_other e223 (by omega) c201
  have c256 : h222[m+2+22]? = some (.inl (.int, 16, .inl (fun _ => 0))) := ab_other e223 (by omega) c202
  have c257 : h222[m+2+23]? = some (.inl (.int, 16, .inl (fun _ => 0))) := ab_other e223 (by omega) c203
  have c258 : h222[m+2+24]? = some (.inl (.int, 16, .inl (fun _ => 0))) := ab_other e223 (by omega) c204
  have c259 : h222[m+2+25]? = some (.inl (.int, 16, .inl (fun _ => 0))) := ab_other e223 (by omega) c205
  have c260 : h222[m+2+26]? = some (.inl (.int, 16, .inl (fun _ => 0))) := ab_other e223 (by omega) c206
  have c261 : h222[m+2+27]? = some (.inl (.int, 16, .inl (fun _ => 0))) := ab_other e223 (by omega) c207
  have c262 : h222[m+2+28]? = some (.inl (.int, 12, .inl (fun _ => 0))) := ab_other e223 (by omega) c208
  have c263 : h222[m+2+29]? = some (.inl (.int, 12, .inl (fun _ => 0))) := ab_other e223 (by omega) c209
  have c264 : h222[m+2+30]? = some (.inl (.boolean, 12, .inl (fun _ => 0))) := ab_other e223 (by omega) c210
  have c265 : h222[m+74]? = some (.inr (13, [.int 0, .int 0, .int 0, .int 0, .ref (m + 74 + 1), .ref (m + 74 + 2), .ref (m + 74 + 3), .ref (m + 74 + 4), .int 0, .ref (m + 74 + 5), .ref (m + 74 + 6), .ref (m + 74 + 7), .ref (m + 74 + 8), .int (-1), .int 0, .int 0, .int 0, .ref (m + 74 + 9)])) := ab_other e223 (by omega) c211
  have c266 : h222[m+74+1]? = some (.inl (.int, 256, .inl (fun _ => 0))) := ab_other e223 (by omega) c212
  have c267 : h222[m+74+2]? = some (.inl (.boolean, 256, .inl (fun _ => 0))) := ab_other e223 (by omega) c213
  have c268 : h222[m+74+3]? = some (.inl (.int, 256, .inl (fun _ => 0))) := ab_other e223 (by omega) c214
  have c269 : h222[m+74+4]? = some (.inl (.int, 12288, .inl (fun _ => 0))) := ab_other e223 (by omega) c215
  have c270 : h222[m+74+5]? = some (.inl (.int, 256, .inl (fun _ => 0))) := ab_other e223 (by omega) c216
  have c271 : h222[m+74+6]? = some (.inl (.int, 256, .inl (fun _ => 0))) := ab_other e223 (by omega) c217
  have c272 : h222[m+74+7]? = some (.inl (.int, 256, .inl (fun _ => 0))) := ab_other e223 (by omega) c218
  have c273 : h222[m+74+8]? = some (.inl (.int, 1024, .inl (fun _ => 0))) := ab_other e223 (by omega) c219
  have c274 : h222[m+74+9]? = some (.inl (.int, 32, .inl (fun _ => 0))) := ab_other e223 (by omega) c220
  have c275 : h222[m]? = some (.inr (12, [.int 0, .ref (m + 1), .int 0, .ref (m + 2), .ref (m + 33), .int 0, .int (-1), .int (-1), .ref (m + 64), .ref (m + 74), .ref (m + 84), .ref (m + 94), .int 1, .int 0, .ref (m + 99), .ref (m + 100), .ref (m + 101), .ref (m + 102), .ref (m + 103), .ref (m + 104), .int 0, .ref (m + 105), .int 0, .int sum0, .int 0, .ref (m + 106), .ref (m + 107), .int 0, .int 0])) := ab_self e223 c169
  have fr276 : ab_fr (fun _ => True) h h222 := ab_fr_set fr221 e223 (by trivial)
  clear c170 c171 c172 c173 c174 c175 c176 c177 c178 c179 c180 c181 c182 c183 c184 c185 c186 c187 c188 c189 c190 c191 c192 c193 c194 c195 c196 c197 c198 c199 c200 c201 c202 c203 c204 c205 c206 c207 c208 c209 c210 c211 c212 c213 c214 c215 c216 c217 c218 c219 c220 c169 fr221 e223
  try clear h166
  refine ab_aload_n d_M_sum_24 rfl rfl rfl ?_
  refine ab_get (f := 23) d_M_sum_25 c275 rfl (by decide) (k10 16 rfl rfl) rfl ?_
  exact ab_iret d_M_sum_28 rfl (Nat.le_refl _) (Nat.le_refl _) (by unfold sq_M_sum; exact ⟨rfl, trivial⟩)
def sq_M_save  : Int32 := (1302)
set_option maxRecDepth 20000 in
set_option maxHeartbeats 2000000 in
theorem f_M_save {h : List ab_E}     {m : Nat} {w : Int32}     (h0 : at_M0 h m w) : ab_M y_M_save { frames := 2, cells := 0, slots := 0, locals := 80 } [.ref m] h (ab_A (some (.int (sq_M_save ))) (fun h1 => True)) := by
  obtain ⟨hM, hT, hO, hS, hN, hD, hR⟩ := h0
  have hM0 := hM; obtain ⟨gmo, gm1, gm14, gm15, gm16, gm17, gm18, gm19, gm21, gm25, gm26⟩ := hM
  replace gmo : h[m]? = some (.inr (12, [.int 0, .ref (m + 1), .int 0, .ref (m + 2), .ref (m + 33), .int 0, .int (-1), .int (-1), .ref (m + 64), .ref (m + 74), .ref (m + 84), .ref (m + 94), .int 1, .int 0, .ref (m + 99), .ref (m + 100), .ref (m + 101), .ref (m + 102), .ref (m + 103), .ref (m + 104), .int 0, .ref (m + 105), .int 0, .int 0, .int 0, .ref (m + 106), .ref (m + 107), .int 0, .int 0])) := gmo
  replace gm1 : h[m + 1]? = some (.inl (.byte, 6000, .inl (fun _ => 0))) := (by rw [a0_M_0 w (by decide)] at gm1; exact gm1)
  replace gm14 : h[m + 99]? = some (.inl (.int, 256, .inl (fun _ => 0))) := (by rw [a0_M_0 w (by decide)] at gm14; exact gm14)
  replace gm15 : h[m + 100]? = some (.inl (.boolean, 256, .inl (fun _ => 0))) := (by rw [a0_M_0 w (by decide)] at gm15; exact gm15)
  replace gm16 : h[m + 101]? = some (.inl (.int, 64, .inl (fun _ => 0))) := (by rw [a0_M_0 w (by decide)] at gm16; exact gm16)
  replace gm17 : h[m + 102]? = some (.inl (.int, 4, .inl (fun _ => 0))) := (by rw [a0_M_0 w (by decide)] at gm17; exact gm17)
  replace gm18 : h[m + 103]? = some (.inl (.int, 4, .inl (fun _ => 0))) := (by rw [a0_M_0 w (by decide)] at gm18; exact gm18)
  replace gm19 : h[m + 104]? = some (.inl (.int, 256, .inl (fun _ => 0))) := (by rw [a0_M_0 w (by decide)] at gm19; exact gm19)
  replace gm21 : h[m + 105]? = some (.inl (.byte, 58000, .inl (fun _ => 0))) := (by rw [a0_M_0 w (by decide)] at gm21; exact gm21)
  replace gm25 : h[m + 106]? = some (.inl (.boolean, 8, .inl (a0_M w 25))) := gm25
  replace gm26 : h[m + 107]? = some (.inl (.boolean, 8, .inl (fun _ => 0))) := (by rw [a0_M_0 w (by decide)] at gm26; exact gm26)
  have hT0 := hT; obtain ⟨gto, gt0, gt3, gt4, gt5, gt6, gt7, gt8, gt13, gt14, gt15, gt17, gt18, gt19, gt20, gt22, gt23, gt24, gt25, gt27, gt28, gt30, gt31, gt32, gt33, gt34, gt35, gt36, gt38, gt39, gt40⟩ := hT
  replace gto : h[m + 2]? = some (.inr (14, [.ref (m + 2 + 1), .int 0, .int 0, .ref (m + 2 + 2), .ref (m + 2 + 3), .ref (m + 2 + 4), .ref (m + 2 + 5), .ref (m + 2 + 6), .ref (m + 2 + 7), .int 0, .int 0, .int 0, .int 0, .ref (m + 2 + 8), .ref (m + 2 + 9), .ref (m + 2 + 10), .int 0, .ref (m + 2 + 11), .ref (m + 2 + 12), .ref (m + 2 + 13), .ref (m + 2 + 14), .int 0, .ref (m + 2 + 15), .ref (m + 2 + 16), .ref (m + 2 + 17), .ref (m + 2 + 18), .int 0, .ref (m + 2 + 19), .ref (m + 2 + 20), .int 0, .ref (m + 2 + 21), .ref (m + 2 + 22), .ref (m + 2 + 23), .ref (m + 2 + 24), .ref (m + 2 + 25), .ref (m + 2 + 26), .ref (m + 2 + 27), .int 0, .ref (m + 2 + 28), .ref (m + 2 + 29), .ref (m + 2 + 30), .int 0, .int 0])) := gto
  replace gt0 : h[m + 2 + 1]? = some (.inl (.byte, 6000, .inl (fun _ => 0))) := gt0
  replace gt3 : h[m + 2 + 2]? = some (.inl (.int, 6002, .inl (fun _ => 0))) := gt3
  replace gt4 : h[m + 2 + 3]? = some (.inl (.int, 6002, .inl (fun _ => 0))) := gt4
  replace gt5 : h[m + 2 + 4]? = some (.inl (.int, 6002, .inl (fun _ => 0))) := gt5
  replace gt6 : h[m + 2 + 5]? = some (.inl (.int, 6002, .inl (fun _ => 0))) := gt6
  replace gt7 : h[m + 2 + 6]? = some (.inl (.boolean, 6002, .inl (fun _ => 0))) := gt7
  replace gt8 : h[m + 2 + 7]? = some (.inl (.int, 6002, .inl (fun _ => 0))) := gt8
  replace gt13 : h[m + 2 + 8]? = some (.inl (.int, 56, .inl (fun _ => 0))) := gt13
  replace gt14 : h[m + 2 + 9]? = some (.inl (.int, 56, .inl (fun _ => 0))) := gt14
  replace gt15 : h[m + 2 + 10]? = some (.inl (.int, 56, .inl (fun _ => 0))) := gt15
  replace gt17 : h[m + 2 + 11]? = some (.inl (.int, 16, .inl (fun _ => 0))) := gt17
  replace gt18 : h[m + 2 + 12]? = some (.inl (.int, 17, .inl (fun _ => 0))) := gt18
  replace gt19 : h[m + 2 + 13]? = some (.inl (.int, 48, .inl (fun _ => 0))) := gt19
  replace gt20 : h[m + 2 + 14]? = some (.inl (.int, 48, .inl (fun _ => 0))) := gt20
  replace gt22 : h[m + 2 + 15]? = some (.inl (.int, 8, .inl (fun _ => 0))) := gt22
  replace gt23 : h[m + 2 + 16]? = some (.inl (.int, 8, .inl (fun _ => 0))) := gt23
  replace gt24 : h[m + 2 + 17]? = some (.inl (.int, 32, .inl (fun _ => 0))) := gt24
  replace gt25 : h[m + 2 + 18]? = some (.inl (.int, 32, .inl (fun _ => 0))) := gt25
  replace gt27 : h[m + 2 + 19]? = some (.inl (.int, 16, .inl (fun _ => 0))) := gt27
  replace gt28 : h[m + 2 + 20]? = some (.inl (.int, 768, .inl (fun _ => 0))) := gt28
  replace gt30 : h[m + 2 + 21]? = some (.inl (.int, 16, .inl (fun _ => 0))) := gt30
  replace gt31 : h[m + 2 + 22]? = some (.inl (.int, 16, .inl (fun _ => 0))) := gt31
  replace gt32 : h[m + 2 + 23]? = some (.inl (.int, 16, .inl (fun _ => 0))) := gt32
  replace gt33 : h[m + 2 + 24]? = some (.inl (.int, 16, .inl (fun _ => 0))) := gt33
  replace gt34 : h[m + 2 + 25]? = some (.inl (.int, 16, .inl (fun _ => 0))) := gt34
  replace gt35 : h[m + 2 + 26]? = some (.inl (.int, 16, .inl (fun _ => 0))) := gt35
  replace gt36 : h[m + 2 + 27]? = some (.inl (.int, 16, .inl (fun _ => 0))) := gt36
  replace gt38 : h[m + 2 + 28]? = some (.inl (.int, 12, .inl (fun _ => 0))) := gt38
  replace gt39 : h[m + 2 + 29]? = some (.inl (.int, 12, .inl (fun _ => 0))) := gt39
  replace gt40 : h[m + 2 + 30]? = some (.inl (.boolean, 12, .inl (fun _ => 0))) := gt40
  have hS0 := hS; obtain ⟨gso, gs4, gs5, gs6, gs7, gs9, gs10, gs11, gs12, gs17⟩ := hS
  replace gso : h[m + 64]? = some (.inr (13, [.int 0, .int 0, .int 0, .int 0, .ref (m + 64 + 1), .ref (m + 64 + 2), .ref (m + 64 + 3), .ref (m + 64 + 4), .int 0, .ref (m + 64 + 5), .ref (m + 64 + 6), .ref (m + 64 + 7), .ref (m + 64 + 8), .int (-1), .int 0, .int 0, .int 0, .ref (m + 64 + 9)])) := gso
  replace gs4 : h[m + 64 + 1]? = some (.inl (.int, 256, .inl (fun _ => 0))) := gs4
  replace gs5 : h[m + 64 + 2]? = some (.inl (.boolean, 256, .inl (fun _ => 0))) := gs5
  replace gs6 : h[m + 64 + 3]? = some (.inl (.int, 256, .inl (fun _ => 0))) := gs6
  replace gs7 : h[m + 64 + 4]? = some (.inl (.int, 12288, .inl (fun _ => 0))) := gs7
  replace gs9 : h[m + 64 + 5]? = some (.inl (.int, 256, .inl (fun _ => 0))) := gs9
  replace gs10 : h[m + 64 + 6]? = some (.inl (.int, 256, .inl (fun _ => 0))) := gs10
  replace gs11 : h[m + 64 + 7]? = some (.inl (.int, 256, .inl (fun _ => 0))) := gs11
  replace gs12 : h[m + 64 + 8]? = some (.inl (.int, 1024, .inl (fun _ => 0))) := gs12
  replace gs17 : h[m + 64 + 9]? = some (.inl (.int, 32, .inl (fun _ => 0))) := gs17
  have hN0 := hN; obtain ⟨gno, gn4, gn5, gn6, gn7, gn9, gn10, gn11, gn12, gn17⟩ := hN
  replace gno : h[m + 74]? = some (.inr (13, [.int 0, .int 0, .int 0, .int 0, .ref (m + 74 + 1), .ref (m + 74 + 2), .ref (m + 74 + 3), .ref (m + 74 + 4), .int 0, .ref (m + 74 + 5), .ref (m + 74 + 6), .ref (m + 74 + 7), .ref (m + 74 + 8), .int (-1), .int 0, .int 0, .int 0, .ref (m + 74 + 9)])) := gno
  replace gn4 : h[m + 74 + 1]? = some (.inl (.int, 256, .inl (fun _ => 0))) := gn4
  replace gn5 : h[m + 74 + 2]? = some (.inl (.boolean, 256, .inl (fun _ => 0))) := gn5
  replace gn6 : h[m + 74 + 3]? = some (.inl (.int, 256, .inl (fun _ => 0))) := gn6
  replace gn7 : h[m + 74 + 4]? = some (.inl (.int, 12288, .inl (fun _ => 0))) := gn7
  replace gn9 : h[m + 74 + 5]? = some (.inl (.int, 256, .inl (fun _ => 0))) := gn9
  replace gn10 : h[m + 74 + 6]? = some (.inl (.int, 256, .inl (fun _ => 0))) := gn10
  replace gn11 : h[m + 74 + 7]? = some (.inl (.int, 256, .inl (fun _ => 0))) := gn11
  replace gn12 : h[m + 74 + 8]? = some (.inl (.int, 1024, .inl (fun _ => 0))) := gn12
  replace gn17 : h[m + 74 + 9]? = some (.inl (.int, 32, .inl (fun _ => 0))) := gn17
  refine ab_of2 (lv := [some (.ref m)]) 0 rfl rfl (Nat.le_of_ble_eq_true rfl) ?_
  refine ab_aload_n d_M_save_0 rfl rfl rfl ?_
  refine ab_iconst (v := 0) d_M_save_1 (by decide) ?_
  refine ab_put (f := 0) d_M_save_2 gmo rfl (by decide) (k9 233 rfl rfl) rfl rfl (fun _ => rfl) (fun _ => rfl) (Nat.le_of_ble_eq_true rfl) ?_
  show ab_V _ _ _ _ _ _ _ 5 [some (.ref m)] [] (h.set m (.inr (12, [.int 0, .ref (m + 1), .int 0, .ref (m + 2), .ref (m + 33), .int 0, .int (-1), .int (-1), .ref (m + 64), .ref (m + 74), .ref (m + 84), .ref (m + 94), .int 1, .int 0, .ref (m + 99), .ref (m + 100), .ref (m + 101), .ref (m + 102), .ref (m + 103), .ref (m + 104), .int 0, .ref (m + 105), .int 0, .int 0, .int 0, .ref (m + 106), .ref (m + 107), .int 0, .int 0])))
  refine ab_gen (fun h1 e2 => ?_)
  have c3 : h1[m]? = some (.inr (12, [.int 0, .ref (m + 1), .int 0, .ref (m + 2), .ref (m + 33), .int 0, .int (-1), .int (-1), .ref (m + 64), .ref (m + 74), .ref (m + 84), .ref (m + 94), .int 1, .int 0, .ref (m + 99), .ref (m + 100), .ref (m + 101), .ref (m + 102), .ref (m + 103), .ref (m + 104), .int 0, .ref (m + 105), .int 0, .int 0, .int 0, .ref (m + 106), .ref (m + 107), .int 0, .int 0])) := ab_self e2 gmo
  have c4 : h1[m+1]? = some (.inl (.byte, 6000, .inl (fun _ => 0))) := ab_other e2 (by omega) gm1
  have c5 : h1[m+99]? = some (.inl (.int, 256, .inl (fun _ => 0))) := ab_other e2 (by omega) gm14
  have c6 : h1[m+100]? = some (.inl (.boolean, 256, .inl (fun _ => 0))) := ab_other e2 (by omega) gm15
  have c7 : h1[m+101]? = some (.inl (.int, 64, .inl (fun _ => 0))) := ab_other e2 (by omega) gm16
  have c8 : h1[m+102]? = some (.inl (.int, 4, .inl (fun _ => 0))) := ab_other e2 (by omega) gm17
  have c9 : h1[m+103]? = some (.inl (.int, 4, .inl (fun _ => 0))) := ab_other e2 (by omega) gm18
  have c10 : h1[m+104]? = some (.inl (.int, 256, .inl (fun _ => 0))) := ab_other e2 (by omega) gm19
  have c11 : h1[m+105]? = some (.inl (.byte, 58000, .inl (fun _ => 0))) := ab_other e2 (by omega) gm21
  have c12 : h1[m+106]? = some (.inl (.boolean, 8, .inl (a0_M w 25))) := ab_other e2 (by omega) gm25
  have c13 : h1[m+107]? = some (.inl (.boolean, 8, .inl (fun _ => 0))) := ab_other e2 (by omega) gm26
  have c14 : h1[m+2]? = some (.inr (14, [.ref (m + 2 + 1), .int 0, .int 0, .ref (m + 2 + 2), .ref (m + 2 + 3), .ref (m + 2 + 4), .ref (m + 2 + 5), .ref (m + 2 + 6), .ref (m + 2 + 7), .int 0, .int 0, .int 0, .int 0, .ref (m + 2 + 8), .ref (m + 2 + 9), .ref (m + 2 + 10), .int 0, .ref (m + 2 + 11), .ref (m + 2 + 12), .ref (m + 2 + 13), .ref (m + 2 + 14), .int 0, .ref (m + 2 + 15), .ref (m + 2 + 16), .ref (m + 2 + 17), .ref (m + 2 + 18), .int 0, .ref (m + 2 + 19), .ref (m + 2 + 20), .int 0, .ref (m + 2 + 21), .ref (m + 2 + 22), .ref (m + 2 + 23), .ref (m + 2 + 24), .ref (m + 2 + 25), .ref (m + 2 + 26), .ref (m + 2 + 27), .int 0, .ref (m + 2 + 28), .ref (m + 2 + 29), .ref (m + 2 + 30), .int 0, .int 0])) := ab_other e2 (by omega) gto
  have c15 : h1[m+2+1]? = some (.inl (.byte, 6000, .inl (fun _ => 0))) := ab_other e2 (by omega) gt0
  have c16 : h1[m+2+2]? = some (.inl (.int, 6002, .inl (fun _ => 0))) := ab_other e2 (by omega) gt3
  have c17 : h1[m+2+3]? = some (.inl (.int, 6002, .inl (fun _ => 0))) := ab_other e2 (by omega) gt4
  have c18 : h1[m+2+4]? = some (.inl (.int, 6002, .inl (fun _ => 0))) := ab_other e2 (by omega) gt5
  have c19 : h1[m+2+5]? = some (.inl (.int, 6002, .inl (fun _ => 0))) := ab_other e2 (by omega) gt6
  have c20 : h1[m+2+6]? = some (.inl (.boolean, 6002, .inl (fun _ => 0))) := ab_other e2 (by omega) gt7
  have c21 : h1[m+2+7]? = some (.inl (.int, 6002, .inl (fun _ => 0))) := ab_other e2 (by omega) gt8
  have c22 : h1[m+2+8]? = some (.inl (.int, 56, .inl (fun _ => 0))) := ab_other e2 (by omega) gt13
  have c23 : h1[m+2+9]? = some (.inl (.int, 56, .inl (fun _ => 0))) := ab_other e2 (by omega) gt14
  have c24 : h1[m+2+10]? = some (.inl (.int, 56, .inl (fun _ => 0))) := ab_other e2 (by omega) gt15
  have c25 : h1[m+2+11]? = some (.inl (.int, 16, .inl (fun _ => 0))) := ab_other e2 (by omega) gt17
  have c26 : h1[m+2+12]? = some (.inl (.int, 17, .inl (fun _ => 0))) := ab_other e2 (by omega) gt18
  have c27 : h1[m+2+13]? = some (.inl (.int, 48, .inl (fun _ => 0))) := ab_other e2 (by omega) gt19
  have c28 : h1[m+2+14]? = some (.inl (.int, 48, .inl (fun _ => 0))) := ab_other e2 (by omega) gt20
  have c29 : h1[m+2+15]? = some (.inl (.int, 8, .inl (fun _ => 0))) := ab_other e2 (by omega) gt22
  have c30 : h1[m+2+16]? = some (.inl (.int, 8, .inl (fun _ => 0))) := ab_other e2 (by omega) gt23
  have c31 : h1[m+2+17]? = some (.inl (.int, 32, .inl (fun _ => 0))) := ab_other e2 (by omega) gt24
  have c32 : h1[m+2+18]? = some (.inl (.int, 32, .inl (fun _ => 0))) := ab_other e2 (by omega) gt25
  have c33 : h1[m+2+19]? = some (.inl (.int, 16, .inl (fun _ => 0))) := ab_other e2 (by omega) gt27
  have c34 : h1[m+2+20]? = some (.inl (.int, 768, .inl (fun _ => 0))) := ab_other e2 (by omega) gt28
  have c35 : h1[m+2+21]? = some (.inl (.int, 16, .inl (fun _ => 0))) := ab_other e2 (by omega) gt30
  have c36 : h1[m+2+22]? = some (.inl (.int, 16, .inl (fun _ => 0))) := ab_other e2 (by omega) gt31
  have c37 : h1[m+2+23]? = some (.inl (.int, 16, .inl (fun _ => 0))) := ab_other e2 (by omega) gt32
  have c38 : h1[m+2+24]? = some (.inl (.int, 16, .inl (fun _ => 0))) := ab_other e2 (by omega) gt33
  have c39 : h1[m+2+25]? = some (.inl (.int, 16, .inl (fun _ => 0))) := ab_other e2 (by omega) gt34
  have c40 : h1[m+2+26]? = some (.inl (.int, 16, .inl (fun _ => 0))) := ab_other e2 (by omega) gt35
  have c41 : h1[m+2+27]? = some (.inl (.int, 16, .inl (fun _ => 0))) := ab_other e2 (by omega) gt36
  have c42 : h1[m+2+28]? = some (.inl (.int, 12, .inl (fun _ => 0))) := ab_other e2 (by omega) gt38
  have c43 : h1[m+2+29]? = some (.inl (.int, 12, .inl (fun _ => 0))) := ab_other e2 (by omega) gt39
  have c44 : h1[m+2+30]? = some (.inl (.boolean, 12, .inl (fun _ => 0))) := ab_other e2 (by omega) gt40
  have c45 : h1[m+64]? = some (.inr (13, [.int 0, .int 0, .int 0, .int 0, .ref (m + 64 + 1), .ref (m + 64 + 2), .ref (m + 64 + 3), .ref (m + 64 + 4), .int 0, .ref (m + 64 + 5), .ref (m + 64 + 6), .ref (m + 64 + 7), .ref (m + 64 + 8), .int (-1), .int 0, .int 0, .int 0, .ref (m + 64 + 9)])) := ab_other e2 (by omega) gso
  have c46 : h1[m+64+1]? = some (.inl (.int, 256, .inl (fun _ => 0))) := ab_other e2 (by omega) gs4
  have c47 : h1[m+64+2]? = some (.inl (.boolean, 256, .inl (fun _ => 0))) := ab_other e2 (by omega) gs5
  have c48 : h1[m+64+3]? = some (.inl (.int, 256, .inl (fun _ => 0))) := ab_other e2 (by omega) gs6
  have c49 : h1[m+64+4]? = some (.inl (.int, 12288, .inl (fun _ => 0))) := ab_other e2 (by omega) gs7
  have c50 : h1[m+64+5]? = some (.inl (.int, 256, .inl (fun _ => 0))) := ab_other e2 (by omega) gs9
  have c51 : h1[m+64+6]? = some (.inl (.int, 256, .inl (fun _ => 0))) := ab_other e2 (by omega) gs10
  have c52 : h1[m+64+7]? = some (.inl (.int, 256, .inl (fun _ => 0))) := ab_other e2 (by omega) gs11
  have c53 : h1[m+64+8]? = some (.inl (.int, 1024, .inl (fun _ => 0))) := ab_other e2 (by omega) gs12
  have c54 : h1[m+64+9]? = some (.inl (.int, 32, .inl (fun _ => 0))) := ab_other e2 (by omega) gs17
  have c55 : h1[m+74]? = some (.inr (13, [.int 0, .int 0, .int 0, .int 0, .ref (m + 74 + 1), .ref (m + 74 + 2), .ref (m + 74 + 3), .ref (m + 74 + 4), .int 0, .ref (m + 74 + 5), .ref (m + 74 + 6), .ref (m + 74 + 7), .ref (m + 74 + 8), .int (-1), .int 0, .int 0, .int 0, .ref (m + 74 + 9)])) := ab_other e2 (by omega) gno
  have c56 : h1[m+74+1]? = some (.inl (.int, 256, .inl (fun _ => 0))) := ab_other e2 (by omega) gn4
  have c57 : h1[m+74+2]? = some (.inl (.boolean, 256, .inl (fun _ => 0))) := ab_other e2 (by omega) gn5
  have c58 : h1[m+74+3]? = some (.inl (.int, 256, .inl (fun _ => 0))) := ab_other e2 (by omega) gn6
  have c59 : h1[m+74+4]? = some (.inl (.int, 12288, .inl (fun _ => 0))) := ab_other e2 (by omega) gn7
  have c60 : h1[m+74+5]? = some (.inl (.int, 256, .inl (fun _ => 0))) := ab_other e2 (by omega) gn9
  have c61 : h1[m+74+6]? = some (.inl (.int, 256, .inl (fun _ => 0))) := ab_other e2 (by omega) gn10
  have c62 : h1[m+74+7]? = some (.inl (.int, 256, .inl (fun _ => 0))) := ab_other e2 (by omega) gn11
  have c63 : h1[m+74+8]? = some (.inl (.int, 1024, .inl (fun _ => 0))) := ab_other e2 (by omega) gn12
  have c64 : h1[m+74+9]? = some (.inl (.int, 32, .inl (fun _ => 0))) := ab_other e2 (by omega) gn17
  have fr65 : ab_fr (fun _ => True) h h1 := ab_fr_set (ab_fr_rf _ _) e2 (by trivial)
  clear e2
  refine ab_aload_n d_M_save_5 rfl rfl rfl ?_
  refine ab_callV_a (As := []) (rest := []) d_M_save_6 (r_M_isQuiet c3 c55 c45) (ab_mkC s_M_isQuiet (Nat.le_of_ble_eq_true rfl) (Nat.le_of_ble_eq_true rfl) (by decide) (by decide)) (k11 166 rfl rfl) i_M_isQuiet v_M_isQuiet c3 rfl rfl (Nat.le_of_ble_eq_true rfl) (fun h67 q66 => ?_)
  subst q66
  refine ab_if_ne (tgt := 15) d_M_save_9 (by decide) (fun q68 => ?_) (fun q68 => by exact absurd q68 (by decide))
  refine ab_aload_n d_M_save_15 rfl rfl rfl ?_
  refine ab_iconst (v := 0) d_M_save_16 (by decide) ?_
  refine ab_put (f := 22) d_M_save_17 c3 rfl (by decide) (k10 15 rfl rfl) rfl rfl (fun _ => rfl) (fun _ => rfl) (Nat.le_of_ble_eq_true rfl) ?_
  show ab_V _ _ _ _ _ _ _ 20 [some (.ref m)] [] (h1.set m (.inr (12, [.int 0, .ref (m + 1), .int 0, .ref (m + 2), .ref (m + 33), .int 0, .int (-1), .int (-1), .ref (m + 64), .ref (m + 74), .ref (m + 84), .ref (m + 94), .int 1, .int 0, .ref (m + 99), .ref (m + 100), .ref (m + 101), .ref (m + 102), .ref (m + 103), .ref (m + 104), .int 0, .ref (m + 105), .int 0, .int 0, .int 0, .ref (m + 106), .ref (m + 107), .int 0, .int 0])))
  refine ab_gen (fun h69 e70 => ?_)
  have c71 : h69[m]? = some (.inr (12, [.int 0, .ref (m + 1), .int 0, .ref (m + 2), .ref (m + 33), .int 0, .int (-1), .int (-1), .ref (m + 64), .ref (m + 74), .ref (m + 84), .ref (m + 94), .int 1, .int 0, .ref (m + 99), .ref (m + 100), .ref (m + 101), .ref (m + 102), .ref (m + 103), .ref (m + 104), .int 0, .ref (m + 105), .int 0, .int 0, .int 0, .ref (m + 106), .ref (m + 107), .int 0, .int 0])) := ab_self e70 c3
  have c72 : h69[m+1]? = some (.inl (.byte, 6000, .inl (fun _ => 0))) := ab_other e70 (by omega) c4
  have c73 : h69[m+99]? = some (.inl (.int, 256, .inl (fun _ => 0))) := ab_other e70 (by omega) c5
  have c74 : h69[m+100]? = some (.inl (.boolean, 256, .inl (fun _ => 0))) := ab_other e70 (by omega) c6
  have c75 : h69[m+101]? = some (.inl (.int, 64, .inl (fun _ => 0))) := ab_other e70 (by omega) c7
  have c76 : h69[m+102]? = some (.inl (.int, 4, .inl (fun _ => 0))) := ab_other e70 (by omega) c8
  have c77 : h69[m+103]? = some (.inl (.int, 4, .inl (fun _ => 0))) := ab_other e70 (by omega) c9
  have c78 : h69[m+104]? = some (.inl (.int, 256, .inl (fun _ => 0))) := ab_other e70 (by omega) c10
  have c79 : h69[m+105]? = some (.inl (.byte, 58000, .inl (fun _ => 0))) := ab_other e70 (by omega) c11
  have c80 : h69[m+106]? = some (.inl (.boolean, 8, .inl (a0_M w 25))) := ab_other e70 (by omega) c12
  have c81 : h69[m+107]? = some (.inl (.boolean, 8, .inl (fun _ => 0))) := ab_other e70 (by omega) c13
  have c82 : h69[m+2]? = some (.inr (14, [.ref (m + 2 + 1), .int 0, .int 0, .ref (m + 2 + 2), .ref (m + 2 + 3), .ref (m + 2 + 4), .ref (m + 2 + 5), .ref (m + 2 + 6), .ref (m + 2 + 7), .int 0, .int 0, .int 0, .int 0, .ref (m + 2 + 8), .ref (m + 2 + 9), .ref (m + 2 + 10), .int 0, .ref (m + 2 + 11), .ref (m + 2 + 12), .ref (m + 2 + 13), .ref (m + 2 + 14), .int 0, .ref (m + 2 + 15), .ref (m + 2 + 16), .ref (m + 2 + 17), .ref (m + 2 + 18), .int 0, .ref (m + 2 + 19), .ref (m + 2 + 20), .int 0, .ref (m + 2 + 21), .ref (m + 2 + 22), .ref (m + 2 + 23), .ref (m + 2 + 24), .ref (m + 2 + 25), .ref (m + 2 + 26), .ref (m + 2 + 27), .int 0, .ref (m + 2 + 28), .ref (m + 2 + 29), .ref (m + 2 + 30), .int 0, .int 0])) := ab_other e70 (by omega) c14
  have c83 : h69[m+2+1]? = some (.inl (.byte, 6000, .inl (fun _ => 0))) := ab_other e70 (by omega) c15
  have c84 : h69[m+2+2]? = some (.inl (.int, 6002, .inl (fun _ => 0))) := ab_other e70 (by omega) c16
  have c85 : h69[m+2+3]? = some (.inl (.int, 6002, .inl (fun _ => 0))) := ab_other e70 (by omega) c17
  have c86 : h69[m+2+4]? = some (.inl (.int, 6002, .inl (fun _ => 0))) := ab_other e70 (by omega) c18
  have c87 : h69[m+2+5]? = some (.inl (.int, 6002, .inl (fun _ => 0))) := ab_other e70 (by omega) c19
  have c88 : h69[m+2+6]? = some (.inl (.boolean, 6002, .inl (fun _ => 0))) := ab_other e70 (by omega) c20
  have c89 : h69[m+2+7]? = some (.inl (.int, 6002, .inl (fun _ => 0))) := ab_other e70 (by omega) c21
  have c90 : h69[m+2+8]? = some (.inl (.int, 56, .inl (fun _ => 0))) := ab_other e70 (by omega) c22
  have c91 : h69[m+2+9]? = some (.inl (.int, 56, .inl (fun _ => 0))) := ab_other e70 (by omega) c23
  have c92 : h69[m+2+10]? = some (.inl (.int, 56, .inl (fun _ => 0))) := ab_other e70 (by omega) c24
  have c93 : h69[m+2+11]? = some (.inl (.int, 16, .inl (fun _ => 0))) := ab_other e70 (by omega) c25
  have c94 : h69[m+2+12]? = some (.inl (.int, 17, .inl (fun _ => 0))) := ab_other e70 (by omega) c26
  have c95 : h69[m+2+13]? = some (.inl (.int, 48, .inl (fun _ => 0))) := ab_other e70 (by omega) c27
  have c96 : h69[m+2+14]? = some (.inl (.int, 48, .inl (fun _ => 0))) := ab_other e70 (by omega) c28
  have c97 : h69[m+2+15]? = some (.inl (.int, 8, .inl (fun _ => 0))) := ab_other e70 (by omega) c29
  have c98 : h69[m+2+16]? = some (.inl (.int, 8, .inl (fun _ => 0))) := ab_other e70 (by omega) c30
  have c99 : h69[m+2+17]? = some (.inl (.int, 32, .inl (fun _ => 0))) := ab_other e70 (by omega) c31
  have c100 : h69[m+2+18]? = some (.inl (.int, 32, .inl (fun _ => 0))) := ab_other e70 (by omega) c32
  have c101 : h69[m+2+19]? = some (.inl (.int, 16, .inl (fun _ => 0))) := ab_other e70 (by omega) c33
  have c102 : h69[m+2+20]? = some (.inl (.int, 768, .inl (fun _ => 0))) := ab_other e70 (by omega) c34
  have c103 : h69[m+2+21]? = some (.inl (.int, 16, .inl (fun _ => 0))) := ab_other e70 (by omega) c35
  have c104 : h69[m+2+22]? = some (.inl (.int, 16, .inl (fun _ => 0))) := ab_other e70 (by omega) c36
  have c105 : h69[m+2+23]? = some (.inl (.int, 16, .inl (fun _ => 0))) := ab_other e70 (by omega) c37
  have c106 : h69[m+2+24]? = some (.inl (.int, 16, .inl (fun _ => 0))) := ab_other e70 (by omega) c38
  have c107 : h69[m+2+25]? = some (.inl (.int, 16, .inl (fun _ => 0))) := ab_other e70 (by omega) c39
  have c108 : h69[m+2+26]? = some (.inl (.int, 16, .inl (fun _ => 0))) := ab_other e70 (by omega) c40
  have c109 : h69[m+2+27]? = some (.inl (.int, 16, .inl (fun _ => 0))) := ab_other e70 (by omega) c41
  have c110 : h69[m+2+28]? = some (.inl (.int, 12, .inl (fun _ => 0))) := ab_other e70 (by omega) c42
  have c111 : h69[m+2+29]? = some (.inl (.int, 12, .inl (fun _ => 0))) := ab_other e70 (by omega) c43
  have c112 : h69[m+2+30]? = some (.inl (.boolean, 12, .inl (fun _ => 0))) := ab_other e70 (by omega) c44
  have c113 : h69[m+64]? = some (.inr (13, [.int 0, .int 0, .int 0, .int 0, .ref (m + 64 + 1), .ref (m + 64 + 2), .ref (m + 64 + 3), .ref (m + 64 + 4), .int 0, .ref (m + 64 + 5), .ref (m + 64 + 6), .ref (m + 64 + 7), .ref (m + 64 + 8), .int (-1), .int 0, .int 0, .int 0, .ref (m + 64 + 9)])) := ab_other e70 (by omega) c45
  have c114 : h69[m+64+1]? = some (.inl (.int, 256, .inl (fun _ => 0))) := ab_other e70 (by omega) c46
  have c115 : h69[m+64+2]? = some (.inl (.boolean, 256, .inl (fun _ => 0))) := ab_other e70 (by omega) c47
  have c116 : h69[m+64+3]? = some (.inl (.int, 256, .inl (fun _ => 0))) := ab_other e70 (by omega) c48
  have c117 : h69[m+64+4]? = some (.inl (.int, 12288, .inl (fun _ => 0))) := ab_other e70 (by omega) c49
  have c118 : h69[m+64+5]? = some (.inl (.int, 256, .inl (fun _ => 0))) := ab_other e70 (by omega) c50
  have c119 : h69[m+64+6]? = some (.inl (.int, 256, .inl (fun _ => 0))) := ab_other e70 (by omega) c51
  have c120 : h69[m+64+7]? = some (.inl (.int, 256, .inl (fun _ => 0))) := ab_other e70 (by omega) c52
  have c121 : h69[m+64+8]? = some (.inl (.int, 1024, .inl (fun _ => 0))) := ab_other e70 (by omega) c53
  have c122 : h69[m+64+9]? = some (.inl (.int, 32, .inl (fun _ => 0))) := ab_other e70 (by omega) c54
  have c123 : h69[m+74]? = some (.inr (13, [.int 0, .int 0, .int 0, .int 0, .ref (m + 74 + 1), .ref (m + 74 + 2), .ref (m + 74 + 3), .ref (m + 74 + 4), .int 0, .ref (m + 74 + 5), .ref (m + 74 + 6), .ref (m + 74 + 7), .ref (m + 74 + 8), .int (-1), .int 0, .int 0, .int 0, .ref (m + 74 + 9)])) := ab_other e70 (by omega) c55
  have c124 : h69[m+74+1]? = some (.inl (.int, 256, .inl (fun _ => 0))) := ab_other e70 (by omega) c56
  have c125 : h69[m+74+2]? = some (.inl (.boolean, 256, .inl (fun _ => 0))) := ab_other e70 (by omega) c57
  have c126 : h69[m+74+3]? = some (.inl (.int, 256, .inl (fun _ => 0))) := ab_other e70 (by omega) c58
  have c127 : h69[m+74+4]? = some (.inl (.int, 12288, .inl (fun _ => 0))) := ab_other e70 (by omega) c59
  have c128 : h69[m+74+5]? = some (.inl (.int, 256, .inl (fun _ => 0))) := ab_other e70 (by omega) c60
  have c129 : h69[m+74+6]? = some (.inl (.int, 256, .inl (fun _ => 0))) := ab_other e70 (by omega) c61
  have c130 : h69[m+74+7]? = some (.inl (.int, 256, .inl (fun _ => 0))) := ab_other e70 (by omega) c62
  have c131 : h69[m+74+8]? = some (.inl (.int, 1024, .inl (fun _ => 0))) := ab_other e70 (by omega) c63
  have c132 : h69[m+74+9]? = some (.inl (.int, 32, .inl (fun _ => 0))) := ab_other e70 (by omega) c64
  have fr133 : ab_fr (fun _ => True) h h69 := ab_fr_set fr65 e70 (by trivial)
  clear c3 c4 c5 c6 c7 c8 c9 c10 c11 c12 c13 c14 c15 c16 c17 c18 c19 c20 c21 c22 c23 c24 c25 c26 c27 c28 c29 c30 c31 c32 c33 c34 c35 c36 c37 c38 c39 c40 c41 c42 c43 c44 c45 c46 c47 c48 c49 c50 c51 c52 c53 c54 c55 c56 c57 c58 c59 c60 c61 c62 c63 c64 fr65 e70
  try clear h1
  refine ab_aload_n d_M_save_20 rfl rfl rfl ?_
  refine ab_callV_v (As := []) (rest := []) d_M_save_21 (r_pw_out c71 c79 c82 c123 c124 c125) (ab_mkC s_M_putsWorld (Nat.le_of_ble_eq_true rfl) (Nat.le_of_ble_eq_true rfl) (by decide) (by decide)) (k13 28 rfl rfl) i_M_putsWorld v_M_putsWorld c71 rfl rfl (Nat.le_of_ble_eq_true rfl) (fun h134 c135 => ?_)
  refine ab_aload_n d_M_save_24 rfl rfl rfl ?_
  refine ab_get (f := 22) d_M_save_25 c135 rfl (by decide) (k10 15 rfl rfl) rfl ?_
  exact ab_iret d_M_save_28 rfl (Nat.le_refl _) (Nat.le_refl _) (by unfold sq_M_save; exact ⟨rfl, trivial⟩)
set_option maxRecDepth 20000 in
set_option maxHeartbeats 2000000 in
theorem r_M_reads {h : List ab_E}  {p0 p3 p5 p6 p7 p8 p9 p10 p11 p12 p13 p14 p15 p16 p17 p18 p19 p20 p21 p22 p23 p24 p25 p26 p27 p28 : Value} {q4f : Nat → Int32} {q5f : Nat → Int32} {q7f : Nat → Int32} {q8f : Nat → Int32} {q18f : Nat → Int32} {m : Nat}  (po : h[m]? = some (.inr (12, [p0, .ref (m + 1), .int 0, p3, .ref (m + 33), p5, p6, p7, p8, p9, p10, p11, p12, p13, p14, p15, p16, p17, p18, p19, p20, p21, p22, p23, p24, p25, p26, p27, p28]))) (to : h[m + 33]? = some (.inr (14, [.ref (m + 33 + 1), .int 0, .int 0, .ref (m + 33 + 2), .ref (m + 33 + 3), .ref (m + 33 + 4), .ref (m + 33 + 5), .ref (m + 33 + 6), .ref (m + 33 + 7), .int 0, .int 0, .int 0, .int 0, .ref (m + 33 + 8), .ref (m + 33 + 9), .ref (m + 33 + 10), .int 0, .ref (m + 33 + 11), .ref (m + 33 + 12), .ref (m + 33 + 13), .ref (m + 33 + 14), .int 0, .ref (m + 33 + 15), .ref (m + 33 + 16), .ref (m + 33 + 17), .ref (m + 33 + 18), .int 0, .ref (m + 33 + 19), .ref (m + 33 + 20), .int 0, .ref (m + 33 + 21), .ref (m + 33 + 22), .ref (m + 33 + 23), .ref (m + 33 + 24), .ref (m + 33 + 25), .ref (m + 33 + 26), .ref (m + 33 + 27), .int 0, .ref (m + 33 + 28), .ref (m + 33 + 29), .ref (m + 33 + 30), .int 0, .int 0]))) (q3a : h[m + 33 + 2]? = some (.inl (.int, 6002, .inl (fun _ => 0)))) (q4a : h[m + 33 + 3]? = some (.inl (.int, 6002, .inl q4f))) (q5a : h[m + 33 + 4]? = some (.inl (.int, 6002, .inl q5f))) (q7a : h[m + 33 + 6]? = some (.inl (.boolean, 6002, .inl q7f))) (q8a : h[m + 33 + 7]? = some (.inl (.int, 6002, .inl q8f))) (q18a : h[m + 33 + 12]? = some (.inl (.int, 17, .inl q18f)))  : ab_M y_M_reads { frames := 3, cells := 0, slots := 0, locals := 120 } [.ref m] h (ab_A (some (.int (1))) (fun h1 => h1[m]? = some (.inr (12, [p0, .ref (m + 1), .int 0, p3, .ref (m + 33), p5, .int (-1), .int (-1), p8, p9, p10, p11, p12, p13, p14, p15, p16, p17, p18, p19, p20, p21, p22, p23, p24, p25, p26, p27, p28])) ∧ h1[m + 33]? = some (.inr (14, [.ref (m + 33 + 1), .int 0, .int 1, .ref (m + 33 + 2), .ref (m + 33 + 3), .ref (m + 33 + 4), .ref (m + 33 + 5), .ref (m + 33 + 6), .ref (m + 33 + 7), .int 0, .int 0, .int 0, .int 0, .ref (m + 33 + 8), .ref (m + 33 + 9), .ref (m + 33 + 10), .int 0, .ref (m + 33 + 11), .ref (m + 33 + 12), .ref (m + 33 + 13), .ref (m + 33 + 14), .int 0, .ref (m + 33 + 15), .ref (m + 33 + 16), .ref (m + 33 + 17), .ref (m + 33 + 18), .int 0, .ref (m + 33 + 19), .ref (m + 33 + 20), .int 0, .ref (m + 33 + 21), .ref (m + 33 + 22), .ref (m + 33 + 23), .ref (m + 33 + 24), .ref (m + 33 + 25), .ref (m + 33 + 26), .ref (m + 33 + 27), .int 0, .ref (m + 33 + 28), .ref (m + 33 + 29), .ref (m + 33 + 30), .int 0, .int 0])) ∧ ab_fr (fun j => j = m ∨ in_MText (m + 33) j) h h1)) := by
  refine ab_of2 (lv := [some (.ref m)]) 0 rfl rfl (Nat.le_of_ble_eq_true rfl) ?_
  refine ab_aload_n d_M_reads_0 rfl rfl rfl ?_
  refine ab_get (f := 4) d_M_reads_1 po rfl (by decide) (k9 237 rfl rfl) rfl ?_
  refine ab_aload_n d_M_reads_4 rfl rfl rfl ?_
  refine ab_get (f := 1) d_M_reads_5 po rfl (by decide) (k9 234 rfl rfl) rfl ?_
  refine ab_aload_n d_M_reads_8 rfl rfl rfl ?_
  refine ab_get (f := 2) d_M_reads_9 po rfl (by decide) (k9 235 rfl rfl) rfl ?_
  refine ab_callV_v (As := [.ref (m + 1), .int 0]) (rest := []) d_M_reads_12 (r_MText_reads to q3a q4a q5a q7a q8a q18a) (ab_mkC s_MText_reads (Nat.le_of_ble_eq_true rfl) (Nat.le_of_ble_eq_true rfl) (by decide) (by decide)) (k10 104 rfl rfl) i_MText_reads v_MText_reads to rfl rfl (Nat.le_of_ble_eq_true rfl) (fun h1 q2 => ?_)
  obtain ⟨c4, f3⟩ := q2
  have c5 : h1[m]? = some (.inr (12, [p0, .ref (m + 1), .int 0, p3, .ref (m + 33), p5, p6, p7, p8, p9, p10, p11, p12, p13, p14, p15, p16, p17, p18, p19, p20, p21, p22, p23, p24, p25, p26, p27, p28])) := ab_fr_at f3 po (by simp only [in_MText] <;> omega)
  have fr6 : ab_fr (fun j => j = m ∨ in_MText (m + 33) j) h h1 := ab_fr_tr (ab_fr_rf _ _) (ab_fr_mono f3 (by intro i hi; simp only [in_MText] at * <;> omega))
  clear f3
  replace c4 : h1[m+33]? = some (.inr (14, [.ref (m + 33 + 1), .int 0, .int 1, .ref (m + 33 + 2), .ref (m + 33 + 3), .ref (m + 33 + 4), .ref (m + 33 + 5), .ref (m + 33 + 6), .ref (m + 33 + 7), .int 0, .int 0, .int 0, .int 0, .ref (m + 33 + 8), .ref (m + 33 + 9), .ref (m + 33 + 10), .int 0, .ref (m + 33 + 11), .ref (m + 33 + 12), .ref (m + 33 + 13), .ref (m + 33 + 14), .int 0, .ref (m + 33 + 15), .ref (m + 33 + 16), .ref (m + 33 + 17), .ref (m + 33 + 18), .int 0, .ref (m + 33 + 19), .ref (m + 33 + 20), .int 0, .ref (m + 33 + 21), .ref (m + 33 + 22), .ref (m + 33 + 23), .ref (m + 33 + 24), .ref (m + 33 + 25), .ref (m + 33 + 26), .ref (m + 33 + 27), .int 0, .ref (m + 33 + 28), .ref (m + 33 + 29), .ref (m + 33 + 30), .int 0, .int 0])) := c4
  refine ab_aload_n d_M_reads_15 rfl rfl rfl ?_
  refine ab_iconst (v := 0) d_M_reads_16 (by decide) ?_
  refine ab_put (f := 2) d_M_reads_17 c5 rfl (by decide) (k9 235 rfl rfl) rfl rfl (fun _ => rfl) (fun _ => rfl) (Nat.le_of_ble_eq_true rfl) ?_
  show ab_V _ _ _ _ _ _ _ 20 [some (.ref m)] [] (h1.set m (.inr (12, [p0, .ref (m + 1), .int 0, p3, .ref (m + 33), p5, p6, p7, p8, p9, p10, p11, p12, p13, p14, p15, p16, p17, p18, p19, p20, p21, p22, p23, p24, p25, p26, p27, p28])))
  refine ab_gen (fun h7 e8 => ?_)
  have c9 : h7[m]? = some (.inr (12, [p0, .ref (m + 1), .int 0, p3, .ref (m + 33), p5, p6, p7, p8, p9, p10, p11, p12, p13, p14, p15, p16, p17, p18, p19, p20, p21, p22, p23, p24, p25, p26, p27, p28])) := ab_self e8 c5
  have c10 : h7[m+33]? = some (.inr (14, [.ref (m + 33 + 1), .int 0, .int 1, .ref (m + 33 + 2), .ref (m + 33 + 3), .ref (m + 33 + 4), .ref (m + 33 + 5), .ref (m + 33 + 6), .ref (m + 33 + 7), .int 0, .int 0, .int 0, .int 0, .ref (m + 33 + 8), .ref (m + 33 + 9), .ref (m + 33 + 10), .int 0, .ref (m + 33 + 11), .ref (m + 33 + 12), .ref (m + 33 + 13), .ref (m + 33 + 14), .int 0, .ref (m + 33 + 15), .ref (m + 33 + 16), .ref (m + 33 + 17), .ref (m + 33 + 18), .int 0, .ref (m + 33 + 19), .ref (m + 33 + 20), .int 0, .ref (m + 33 + 21), .ref (m + 33 + 22), .ref (m + 33 + 23), .ref (m + 33 + 24), .ref (m + 33 + 25), .ref (m + 33 + 26), .ref (m + 33 + 27), .int 0, .ref (m + 33 + 28), .ref (m + 33 + 29), .ref (m + 33 + 30), .int 0, .int 0])) := ab_other e8 (by omega) c4
  have fr11 : ab_fr (fun j => j = m ∨ in_MText (m + 33) j) h h7 := ab_fr_set fr6 e8 (by first | (left; omega) | (show _ ∨ _; simp only [in_MText]; omega))
  clear c5 c4 fr6 e8
  try clear h1
  refine ab_aload_n d_M_reads_20 rfl rfl rfl ?_
  refine ab_aload_n d_M_reads_21 rfl rfl rfl ?_
  refine ab_get (f := 4) d_M_reads_22 c9 rfl (by decide) (k9 237 rfl rfl) rfl ?_
  refine ab_getN (f := 9) d_M_reads_25 c10 rfl (by decide) (k8 171 rfl rfl) rfl ?_
  refine ab_if_ne (tgt := 35) d_M_reads_28 (by decide) (fun q12 => by exact absurd q12 (by decide)) (fun q12 => ?_)
  refine ab_iconst (v := (-1)) d_M_reads_31 (by decide) ?_
  refine ab_goto (tgt := 42) d_M_reads_32 (by decide) ?_
  refine ab_put (f := 6) d_M_reads_42 c9 rfl (by decide) (k9 239 rfl rfl) rfl rfl (fun _ => rfl) (fun _ => rfl) (Nat.le_of_ble_eq_true rfl) ?_
  show ab_V _ _ _ _ _ _ _ 45 [some (.ref m)] [] (h7.set m (.inr (12, [p0, .ref (m + 1), .int 0, p3, .ref (m + 33), p5, .int (-1), p7, p8, p9, p10, p11, p12, p13, p14, p15, p16, p17, p18, p19, p20, p21, p22, p23, p24, p25, p26, p27, p28])))
  refine ab_gen (fun h13 e14 => ?_)
  have c15 : h13[m]? = some (.inr (12, [p0, .ref (m + 1), .int 0, p3, .ref (m + 33), p5, .int (-1), p7, p8, p9, p10, p11, p12, p13, p14, p15, p16, p17, p18, p19, p20, p21, p22, p23, p24, p25, p26, p27, p28])) := ab_self e14 c9
  have c16 : h13[m+33]? = some (.inr (14, [.ref (m + 33 + 1), .int 0, .int 1, .ref (m + 33 + 2), .ref (m + 33 + 3), .ref (m + 33 + 4), .ref (m + 33 + 5), .ref (m + 33 + 6), .ref (m + 33 + 7), .int 0, .int 0, .int 0, .int 0, .ref (m + 33 + 8), .ref (m + 33 + 9), .ref (m + 33 + 10), .int 0, .ref (m + 33 + 11), .ref (m + 33 + 12), .ref (m + 33 + 13), .ref (m + 33 + 14), .int 0, .ref (m + 33 + 15), .ref (m + 33 + 16), .ref (m + 33 + 17), .ref (m + 33 + 18), .int 0, .ref (m + 33 + 19), .ref (m + 33 + 20), .int 0, .ref (m + 33 + 21), .ref (m + 33 + 22), .ref (m + 33 + 23), .ref (m + 33 + 24), .ref (m + 33 + 25), .ref (m + 33 + 26), .ref (m + 33 + 27), .int 0, .ref (m + 33 + 28), .ref (m + 33 + 29), .ref (m + 33 + 30), .int 0, .int 0])) := ab_other e14 (by omega) c10
  have fr17 : ab_fr (fun j => j = m ∨ in_MText (m + 33) j) h h13 := ab_fr_set fr11 e14 (by first | (left; omega) | (show _ ∨ _; simp only [in_MText]; omega))
  clear c9 c10 fr11 e14
  try clear h7
  refine ab_aload_n d_M_reads_45 rfl rfl rfl ?_
  refine ab_aload_n d_M_reads_46 rfl rfl rfl ?_
  refine ab_get (f := 4) d_M_reads_47 c15 rfl (by decide) (k9 237 rfl rfl) rfl ?_
  refine ab_getN (f := 9) d_M_reads_50 c16 rfl (by decide) (k8 171 rfl rfl) rfl ?_
  refine ab_if_ne (tgt := 60) d_M_reads_53 (by decide) (fun q18 => by exact absurd q18 (by decide)) (fun q18 => ?_)
  refine ab_iconst (v := (-1)) d_M_reads_56 (by decide) ?_
  refine ab_goto (tgt := 67) d_M_reads_57 (by decide) ?_
  refine ab_put (f := 7) d_M_reads_67 c15 rfl (by decide) (k10 0 rfl rfl) rfl rfl (fun _ => rfl) (fun _ => rfl) (Nat.le_of_ble_eq_true rfl) ?_
  show ab_V _ _ _ _ _ _ _ 70 [some (.ref m)] [] (h13.set m (.inr (12, [p0, .ref (m + 1), .int 0, p3, .ref (m + 33), p5, .int (-1), .int (-1), p8, p9, p10, p11, p12, p13, p14, p15, p16, p17, p18, p19, p20, p21, p22, p23, p24, p25, p26, p27, p28])))
  refine ab_gen (fun h19 e20 => ?_)
  have c21 : h19[m]? = some (.inr (12, [p0, .ref (m + 1), .int 0, p3, .ref (m + 33), p5, .int (-1), .int (-1), p8, p9, p10, p11, p12, p13, p14, p15, p16, p17, p18, p19, p20, p21, p22, p23, p24, p25, p26, p27, p28])) := ab_self e20 c15
  have c22 : h19[m+33]? = some (.inr (14, [.ref (m + 33 + 1), .int 0, .int 1, .ref (m + 33 + 2), .ref (m + 33 + 3), .ref (m + 33 + 4), .ref (m + 33 + 5), .ref (m + 33 + 6), .ref (m + 33 + 7), .int 0, .int 0, .int 0, .int 0, .ref (m + 33 + 8), .ref (m + 33 + 9), .ref (m + 33 + 10), .int 0, .ref (m + 33 + 11), .ref (m + 33 + 12), .ref (m + 33 + 13), .ref (m + 33 + 14), .int 0, .ref (m + 33 + 15), .ref (m + 33 + 16), .ref (m + 33 + 17), .ref (m + 33 + 18), .int 0, .ref (m + 33 + 19), .ref (m + 33 + 20), .int 0, .ref (m + 33 + 21), .ref (m + 33 + 22), .ref (m + 33 + 23), .ref (m + 33 + 24), .ref (m + 33 + 25), .ref (m + 33 + 26), .ref (m + 33 + 27), .int 0, .ref (m + 33 + 28), .ref (m + 33 + 29), .ref (m + 33 + 30), .int 0, .int 0])) := ab_other e20 (by omega) c16
  have fr23 : ab_fr (fun j => j = m ∨ in_MText (m + 33) j) h h19 := ab_fr_set fr17 e20 (by first | (left; omega) | (show _ ∨ _; simp only [in_MText]; omega))
  clear c15 c16 fr17 e20
  try clear h13
  refine ab_aload_n d_M_reads_70 rfl rfl rfl ?_
  refine ab_get (f := 4) d_M_reads_71 c21 rfl (by decide) (k9 237 rfl rfl) rfl ?_
  refine ab_getN (f := 9) d_M_reads_74 c22 rfl (by decide) (k8 171 rfl rfl) rfl ?_
  refine ab_if_ne (tgt := 84) d_M_reads_77 (by decide) (fun q24 => by exact absurd q24 (by decide)) (fun q24 => ?_)
  refine ab_iconst (v := 1) d_M_reads_80 (by decide) ?_
  refine ab_goto (tgt := 85) d_M_reads_81 (by decide) ?_
  exact ab_zret d_M_reads_85 rfl rfl (Nat.le_refl _) (Nat.le_refl _) (by exact ⟨rfl, c21, c22, fr23⟩)
set_option maxRecDepth 20000 in
set_option maxHeartbeats 2000000 in
theorem r_M_takes {h : List ab_E}  {p0 p1 p2 p5 p6 p7 p8 p9 p10 p11 p12 p13 p14 p15 p16 p17 p18 p19 p20 p21 p22 p23 p24 p25 p26 p27 p28 : Value} {m tx ot : Nat}  (po : h[m]? = some (.inr (12, [p0, p1, p2, .ref tx, .ref ot, p5, p6, p7, p8, p9, p10, p11, p12, p13, p14, p15, p16, p17, p18, p19, p20, p21, p22, p23, p24, p25, p26, p27, p28])))  : ab_M y_M_takes { frames := 0, cells := 0, slots := 0, locals := 0 } [.ref m] h (ab_A none (fun h1 => h1[m]? = some (.inr (12, [p0, p1, p2, .ref ot, .ref tx, .int 1, p6, p7, p8, p9, p10, p11, p12, p13, p14, p15, p16, p17, p18, p19, p20, p21, p22, p23, p24, p25, p26, p27, p28])) ∧ ab_fr (fun j => j = m) h h1)) := by
  refine ab_of2 (lv := [some (.ref m), none]) 1 rfl rfl (Nat.le_of_ble_eq_true rfl) ?_
  refine ab_aload_n d_M_takes_0 rfl rfl rfl ?_
  refine ab_get (f := 3) d_M_takes_1 po rfl (by decide) (k9 236 rfl rfl) rfl ?_
  refine ab_astore_n (lv' := [some (.ref m), some (.ref tx)]) d_M_takes_4 rfl (by decide) rfl rfl ?_
  refine ab_aload_n d_M_takes_5 rfl rfl rfl ?_
  refine ab_aload_n d_M_takes_6 rfl rfl rfl ?_
  refine ab_get (f := 4) d_M_takes_7 po rfl (by decide) (k9 237 rfl rfl) rfl ?_
  refine ab_put (f := 3) d_M_takes_10 po rfl (by decide) (k9 236 rfl rfl) rfl rfl (fun _ => rfl) (fun _ => rfl) (Nat.le_of_ble_eq_true rfl) ?_
  show ab_V _ _ _ _ _ _ _ 13 [some (.ref m), some (.ref tx)] [] (h.set m (.inr (12, [p0, p1, p2, .ref ot, .ref ot, p5, p6, p7, p8, p9, p10, p11, p12, p13, p14, p15, p16, p17, p18, p19, p20, p21, p22, p23, p24, p25, p26, p27, p28])))
  refine ab_gen (fun h1 e2 => ?_)
  have c3 : h1[m]? = some (.inr (12, [p0, p1, p2, .ref ot, .ref ot, p5, p6, p7, p8, p9, p10, p11, p12, p13, p14, p15, p16, p17, p18, p19, p20, p21, p22, p23, p24, p25, p26, p27, p28])) := ab_self e2 po
  have fr4 : ab_fr (fun j => j = m) h h1 := ab_fr_set (ab_fr_rf _ _) e2 (by first | (show _ ∧ _; omega) | (show _ ∨ _; omega) | (show _ = _; omega) | (show _ ≤ _; omega))
  clear e2
  refine ab_aload_n d_M_takes_13 rfl rfl rfl ?_
  refine ab_aload_n d_M_takes_14 rfl rfl rfl ?_
  refine ab_put (f := 4) d_M_takes_15 c3 rfl (by decide) (k9 237 rfl rfl) rfl rfl (fun _ => rfl) (fun _ => rfl) (Nat.le_of_ble_eq_true rfl) ?_
  show ab_V _ _ _ _ _ _ _ 18 [some (.ref m), some (.ref tx)] [] (h1.set m (.inr (12, [p0, p1, p2, .ref ot, .ref tx, p5, p6, p7, p8, p9, p10, p11, p12, p13, p14, p15, p16, p17, p18, p19, p20, p21, p22, p23, p24, p25, p26, p27, p28])))
  refine ab_gen (fun h5 e6 => ?_)
  have c7 : h5[m]? = some (.inr (12, [p0, p1, p2, .ref ot, .ref tx, p5, p6, p7, p8, p9, p10, p11, p12, p13, p14, p15, p16, p17, p18, p19, p20, p21, p22, p23, p24, p25, p26, p27, p28])) := ab_self e6 c3
  have fr8 : ab_fr (fun j => j = m) h h5 := ab_fr_set fr4 e6 (by first | (show _ ∧ _; omega) | (show _ ∨ _; omega) | (show _ = _; omega) | (show _ ≤ _; omega))
  clear c3 fr4 e6
  try clear h1
  refine ab_aload_n d_M_takes_18 rfl rfl rfl ?_
  refine ab_iconst (v := 1) d_M_takes_19 (by decide) ?_
  refine ab_put (f := 5) d_M_takes_20 c7 rfl (by decide) (k9 238 rfl rfl) rfl rfl (fun _ => rfl) (fun _ => rfl) (Nat.le_of_ble_eq_true rfl) ?_
  show ab_V _ _ _ _ _ _ _ 23 [some (.ref m), some (.ref tx)] [] (h5.set m (.inr (12, [p0, p1, p2, .ref ot, .ref tx, .int 1, p6, p7, p8, p9, p10, p11, p12, p13, p14, p15, p16, p17, p18, p19, p20, p21, p22, p23, p24, p25, p26, p27, p28])))
  refine ab_gen (fun h9 e10 => ?_)
  have c11 : h9[m]? = some (.inr (12, [p0, p1, p2, .ref ot, .ref tx, .int 1, p6, p7, p8, p9, p10, p11, p12, p13, p14, p15, p16, p17, p18, p19, p20, p21, p22, p23, p24, p25, p26, p27, p28])) := ab_self e10 c7
  have fr12 : ab_fr (fun j => j = m) h h9 := ab_fr_set fr8 e10 (by first | (show _ ∧ _; omega) | (show _ ∨ _; omega) | (show _ = _; omega) | (show _ ≤ _; omega))
  clear c7 fr8 e10
  try clear h5
  exact ab_vret d_M_takes_23 rfl (Nat.le_refl _) (Nat.le_refl _) (by exact ⟨rfl, c11, fr12⟩)
theorem begin_z2 : sp_MWorld_begin s0_MW (fun _ _ => 0) = (s0_MW, fun _ _ => 0) := by
  unfold sp_MWorld_begin
  rw [mbegin_z]
  refine Prod.ext ?_ rfl
  funext k
  dsimp only [s0_MW, upd]
  by_cases h13 : k = 13
  · subst h13; rfl
  · simp only [h13, if_false]
    repeat' split
    all_goals rfl
def sq_M_text (e : Int32) : Int32 := (0)
set_option maxRecDepth 20000 in
set_option maxHeartbeats 2000000 in
theorem f_M_text {h : List ab_E}      {m : Nat} {w e : Int32}      (h0 : at_M0 h m w) : ab_M y_M_text { frames := 4, cells := 0, slots := 0, locals := 160 } [.ref m, .int e] h (ab_A (some (.int (sq_M_text e))) (fun h1 => True)) := by
  obtain ⟨hM, hT, hO, hS, hN, hD, hR⟩ := h0
  have hM0 := hM; obtain ⟨gmo, gm1, gm14, gm15, gm16, gm17, gm18, gm19, gm21, gm25, gm26⟩ := hM
  replace gmo : h[m]? = some (.inr (12, [.int 0, .ref (m + 1), .int 0, .ref (m + 2), .ref (m + 33), .int 0, .int (-1), .int (-1), .ref (m + 64), .ref (m + 74), .ref (m + 84), .ref (m + 94), .int 1, .int 0, .ref (m + 99), .ref (m + 100), .ref (m + 101), .ref (m + 102), .ref (m + 103), .ref (m + 104), .int 0, .ref (m + 105), .int 0, .int 0, .int 0, .ref (m + 106), .ref (m + 107), .int 0, .int 0])) := gmo
  replace gm1 : h[m + 1]? = some (.inl (.byte, 6000, .inl (fun _ => 0))) := (by rw [a0_M_0 w (by decide)] at gm1; exact gm1)
  replace gm14 : h[m + 99]? = some (.inl (.int, 256, .inl (fun _ => 0))) := (by rw [a0_M_0 w (by decide)] at gm14; exact gm14)
  replace gm15 : h[m + 100]? = some (.inl (.boolean, 256, .inl (fun _ => 0))) := (by rw [a0_M_0 w (by decide)] at gm15; exact gm15)
  replace gm16 : h[m + 101]? = some (.inl (.int, 64, .inl (fun _ => 0))) := (by rw [a0_M_0 w (by decide)] at gm16; exact gm16)
  replace gm17 : h[m + 102]? = some (.inl (.int, 4, .inl (fun _ => 0))) := (by rw [a0_M_0 w (by decide)] at gm17; exact gm17)
  replace gm18 : h[m + 103]? = some (.inl (.int, 4, .inl (fun _ => 0))) := (by rw [a0_M_0 w (by decide)] at gm18; exact gm18)
  replace gm19 : h[m + 104]? = some (.inl (.int, 256, .inl (fun _ => 0))) := (by rw [a0_M_0 w (by decide)] at gm19; exact gm19)
  replace gm21 : h[m + 105]? = some (.inl (.byte, 58000, .inl (fun _ => 0))) := (by rw [a0_M_0 w (by decide)] at gm21; exact gm21)
  replace gm25 : h[m + 106]? = some (.inl (.boolean, 8, .inl (a0_M w 25))) := gm25
  replace gm26 : h[m + 107]? = some (.inl (.boolean, 8, .inl (fun _ => 0))) := (by rw [a0_M_0 w (by decide)] at gm26; exact gm26)
  have hT0 := hT; obtain ⟨gto, gt0, gt3, gt4, gt5, gt6, gt7, gt8, gt13, gt14, gt15, gt17, gt18, gt19, gt20, gt22, gt23, gt24, gt25, gt27, gt28, gt30, gt31, gt32, gt33, gt34, gt35, gt36, gt38, gt39, gt40⟩ := hT
  replace gto : h[m + 2]? = some (.inr (14, [.ref (m + 2 + 1), .int 0, .int 0, .ref (m + 2 + 2), .ref (m + 2 + 3), .ref (m + 2 + 4), .ref (m + 2 + 5), .ref (m + 2 + 6), .ref (m + 2 + 7), .int 0, .int 0, .int 0, .int 0, .ref (m + 2 + 8), .ref (m + 2 + 9), .ref (m + 2 + 10), .int 0, .ref (m + 2 + 11), .ref (m + 2 + 12), .ref (m + 2 + 13), .ref (m + 2 + 14), .int 0, .ref (m + 2 + 15), .ref (m + 2 + 16), .ref (m + 2 + 17), .ref (m + 2 + 18), .int 0, .ref (m + 2 + 19), .ref (m + 2 + 20), .int 0, .ref (m + 2 + 21), .ref (m + 2 + 22), .ref (m + 2 + 23), .ref (m + 2 + 24), .ref (m + 2 + 25), .ref (m + 2 + 26), .ref (m + 2 + 27), .int 0, .ref (m + 2 + 28), .ref (m + 2 + 29), .ref (m + 2 + 30), .int 0, .int 0])) := gto
  replace gt0 : h[m + 2 + 1]? = some (.inl (.byte, 6000, .inl (fun _ => 0))) := gt0
  replace gt3 : h[m + 2 + 2]? = some (.inl (.int, 6002, .inl (fun _ => 0))) := gt3
  replace gt4 : h[m + 2 + 3]? = some (.inl (.int, 6002, .inl (fun _ => 0))) := gt4
  replace gt5 : h[m + 2 + 4]? = some (.inl (.int, 6002, .inl (fun _ => 0))) := gt5
  replace gt6 : h[m + 2 + 5]? = some (.inl (.int, 6002, .inl (fun _ => 0))) := gt6
  replace gt7 : h[m + 2 + 6]? = some (.inl (.boolean, 6002, .inl (fun _ => 0))) := gt7
  replace gt8 : h[m + 2 + 7]? = some (.inl (.int, 6002, .inl (fun _ => 0))) := gt8
  replace gt13 : h[m + 2 + 8]? = some (.inl (.int, 56, .inl (fun _ => 0))) := gt13
  replace gt14 : h[m + 2 + 9]? = some (.inl (.int, 56, .inl (fun _ => 0))) := gt14
  replace gt15 : h[m + 2 + 10]? = some (.inl (.int, 56, .inl (fun _ => 0))) := gt15
  replace gt17 : h[m + 2 + 11]? = some (.inl (.int, 16, .inl (fun _ => 0))) := gt17
  replace gt18 : h[m + 2 + 12]? = some (.inl (.int, 17, .inl (fun _ => 0))) := gt18
  replace gt19 : h[m + 2 + 13]? = some (.inl (.int, 48, .inl (fun _ => 0))) := gt19
  replace gt20 : h[m + 2 + 14]? = some (.inl (.int, 48, .inl (fun _ => 0))) := gt20
  replace gt22 : h[m + 2 + 15]? = some (.inl (.int, 8, .inl (fun _ => 0))) := gt22
  replace gt23 : h[m + 2 + 16]? = some (.inl (.int, 8, .inl (fun _ => 0))) := gt23
  replace gt24 : h[m + 2 + 17]? = some (.inl (.int, 32, .inl (fun _ => 0))) := gt24
  replace gt25 : h[m + 2 + 18]? = some (.inl (.int, 32, .inl (fun _ => 0))) := gt25
  replace gt27 : h[m + 2 + 19]? = some (.inl (.int, 16, .inl (fun _ => 0))) := gt27
  replace gt28 : h[m + 2 + 20]? = some (.inl (.int, 768, .inl (fun _ => 0))) := gt28
  replace gt30 : h[m + 2 + 21]? = some (.inl (.int, 16, .inl (fun _ => 0))) := gt30
  replace gt31 : h[m + 2 + 22]? = some (.inl (.int, 16, .inl (fun _ => 0))) := gt31
  replace gt32 : h[m + 2 + 23]? = some (.inl (.int, 16, .inl (fun _ => 0))) := gt32
  replace gt33 : h[m + 2 + 24]? = some (.inl (.int, 16, .inl (fun _ => 0))) := gt33
  replace gt34 : h[m + 2 + 25]? = some (.inl (.int, 16, .inl (fun _ => 0))) := gt34
  replace gt35 : h[m + 2 + 26]? = some (.inl (.int, 16, .inl (fun _ => 0))) := gt35
  replace gt36 : h[m + 2 + 27]? = some (.inl (.int, 16, .inl (fun _ => 0))) := gt36
  replace gt38 : h[m + 2 + 28]? = some (.inl (.int, 12, .inl (fun _ => 0))) := gt38
  replace gt39 : h[m + 2 + 29]? = some (.inl (.int, 12, .inl (fun _ => 0))) := gt39
  replace gt40 : h[m + 2 + 30]? = some (.inl (.boolean, 12, .inl (fun _ => 0))) := gt40
  have hO0 := hO; obtain ⟨guo, gu0, gu3, gu4, gu5, gu6, gu7, gu8, gu13, gu14, gu15, gu17, gu18, gu19, gu20, gu22, gu23, gu24, gu25, gu27, gu28, gu30, gu31, gu32, gu33, gu34, gu35, gu36, gu38, gu39, gu40⟩ := hO
  replace guo : h[m + 33]? = some (.inr (14, [.ref (m + 33 + 1), .int 0, .int 0, .ref (m + 33 + 2), .ref (m + 33 + 3), .ref (m + 33 + 4), .ref (m + 33 + 5), .ref (m + 33 + 6), .ref (m + 33 + 7), .int 0, .int 0, .int 0, .int 0, .ref (m + 33 + 8), .ref (m + 33 + 9), .ref (m + 33 + 10), .int 0, .ref (m + 33 + 11), .ref (m + 33 + 12), .ref (m + 33 + 13), .ref (m + 33 + 14), .int 0, .ref (m + 33 + 15), .ref (m + 33 + 16), .ref (m + 33 + 17), .ref (m + 33 + 18), .int 0, .ref (m + 33 + 19), .ref (m + 33 + 20), .int 0, .ref (m + 33 + 21), .ref (m + 33 + 22), .ref (m + 33 + 23), .ref (m + 33 + 24), .ref (m + 33 + 25), .ref (m + 33 + 26), .ref (m + 33 + 27), .int 0, .ref (m + 33 + 28), .ref (m + 33 + 29), .ref (m + 33 + 30), .int 0, .int 0])) := guo
  replace gu0 : h[m + 33 + 1]? = some (.inl (.byte, 6000, .inl (fun _ => 0))) := gu0
  replace gu3 : h[m + 33 + 2]? = some (.inl (.int, 6002, .inl (fun _ => 0))) := gu3
  replace gu4 : h[m + 33 + 3]? = some (.inl (.int, 6002, .inl (fun _ => 0))) := gu4
  replace gu5 : h[m + 33 + 4]? = some (.inl (.int, 6002, .inl (fun _ => 0))) := gu5
  replace gu6 : h[m + 33 + 5]? = some (.inl (.int, 6002, .inl (fun _ => 0))) := gu6
  replace gu7 : h[m + 33 + 6]? = some (.inl (.boolean, 6002, .inl (fun _ => 0))) := gu7
  replace gu8 : h[m + 33 + 7]? = some (.inl (.int, 6002, .inl (fun _ => 0))) := gu8
  replace gu13 : h[m + 33 + 8]? = some (.inl (.int, 56, .inl (fun _ => 0))) := gu13
  replace gu14 : h[m + 33 + 9]? = some (.inl (.int, 56, .inl (fun _ => 0))) := gu14
  replace gu15 : h[m + 33 + 10]? = some (.inl (.int, 56, .inl (fun _ => 0))) := gu15
  replace gu17 : h[m + 33 + 11]? = some (.inl (.int, 16, .inl (fun _ => 0))) := gu17
  replace gu18 : h[m + 33 + 12]? = some (.inl (.int, 17, .inl (fun _ => 0))) := gu18
  replace gu19 : h[m + 33 + 13]? = some (.inl (.int, 48, .inl (fun _ => 0))) := gu19
  replace gu20 : h[m + 33 + 14]? = some (.inl (.int, 48, .inl (fun _ => 0))) := gu20
  replace gu22 : h[m + 33 + 15]? = some (.inl (.int, 8, .inl (fun _ => 0))) := gu22
  replace gu23 : h[m + 33 + 16]? = some (.inl (.int, 8, .inl (fun _ => 0))) := gu23
  replace gu24 : h[m + 33 + 17]? = some (.inl (.int, 32, .inl (fun _ => 0))) := gu24
  replace gu25 : h[m + 33 + 18]? = some (.inl (.int, 32, .inl (fun _ => 0))) := gu25
  replace gu27 : h[m + 33 + 19]? = some (.inl (.int, 16, .inl (fun _ => 0))) := gu27
  replace gu28 : h[m + 33 + 20]? = some (.inl (.int, 768, .inl (fun _ => 0))) := gu28
  replace gu30 : h[m + 33 + 21]? = some (.inl (.int, 16, .inl (fun _ => 0))) := gu30
  replace gu31 : h[m + 33 + 22]? = some (.inl (.int, 16, .inl (fun _ => 0))) := gu31
  replace gu32 : h[m + 33 + 23]? = some (.inl (.int, 16, .inl (fun _ => 0))) := gu32
  replace gu33 : h[m + 33 + 24]? = some (.inl (.int, 16, .inl (fun _ => 0))) := gu33
  replace gu34 : h[m + 33 + 25]? = some (.inl (.int, 16, .inl (fun _ => 0))) := gu34
  replace gu35 : h[m + 33 + 26]? = some (.inl (.int, 16, .inl (fun _ => 0))) := gu35
  replace gu36 : h[m + 33 + 27]? = some (.inl (.int, 16, .inl (fun _ => 0))) := gu36
  replace gu38 : h[m + 33 + 28]? = some (.inl (.int, 12, .inl (fun _ => 0))) := gu38
  replace gu39 : h[m + 33 + 29]? = some (.inl (.int, 12, .inl (fun _ => 0))) := gu39
  replace gu40 : h[m + 33 + 30]? = some (.inl (.boolean, 12, .inl (fun _ => 0))) := gu40
  have hS0 := hS; obtain ⟨gso, gs4, gs5, gs6, gs7, gs9, gs10, gs11, gs12, gs17⟩ := hS
  replace gso : h[m + 64]? = some (.inr (13, [.int 0, .int 0, .int 0, .int 0, .ref (m + 64 + 1), .ref (m + 64 + 2), .ref (m + 64 + 3), .ref (m + 64 + 4), .int 0, .ref (m + 64 + 5), .ref (m + 64 + 6), .ref (m + 64 + 7), .ref (m + 64 + 8), .int (-1), .int 0, .int 0, .int 0, .ref (m + 64 + 9)])) := gso
  replace gs4 : h[m + 64 + 1]? = some (.inl (.int, 256, .inl (fun _ => 0))) := gs4
  replace gs5 : h[m + 64 + 2]? = some (.inl (.boolean, 256, .inl (fun _ => 0))) := gs5
  replace gs6 : h[m + 64 + 3]? = some (.inl (.int, 256, .inl (fun _ => 0))) := gs6
  replace gs7 : h[m + 64 + 4]? = some (.inl (.int, 12288, .inl (fun _ => 0))) := gs7
  replace gs9 : h[m + 64 + 5]? = some (.inl (.int, 256, .inl (fun _ => 0))) := gs9
  replace gs10 : h[m + 64 + 6]? = some (.inl (.int, 256, .inl (fun _ => 0))) := gs10
  replace gs11 : h[m + 64 + 7]? = some (.inl (.int, 256, .inl (fun _ => 0))) := gs11
  replace gs12 : h[m + 64 + 8]? = some (.inl (.int, 1024, .inl (fun _ => 0))) := gs12
  replace gs17 : h[m + 64 + 9]? = some (.inl (.int, 32, .inl (fun _ => 0))) := gs17
  have hN0 := hN; obtain ⟨gno, gn4, gn5, gn6, gn7, gn9, gn10, gn11, gn12, gn17⟩ := hN
  replace gno : h[m + 74]? = some (.inr (13, [.int 0, .int 0, .int 0, .int 0, .ref (m + 74 + 1), .ref (m + 74 + 2), .ref (m + 74 + 3), .ref (m + 74 + 4), .int 0, .ref (m + 74 + 5), .ref (m + 74 + 6), .ref (m + 74 + 7), .ref (m + 74 + 8), .int (-1), .int 0, .int 0, .int 0, .ref (m + 74 + 9)])) := gno
  replace gn4 : h[m + 74 + 1]? = some (.inl (.int, 256, .inl (fun _ => 0))) := gn4
  replace gn5 : h[m + 74 + 2]? = some (.inl (.boolean, 256, .inl (fun _ => 0))) := gn5
  replace gn6 : h[m + 74 + 3]? = some (.inl (.int, 256, .inl (fun _ => 0))) := gn6
  replace gn7 : h[m + 74 + 4]? = some (.inl (.int, 12288, .inl (fun _ => 0))) := gn7
  replace gn9 : h[m + 74 + 5]? = some (.inl (.int, 256, .inl (fun _ => 0))) := gn9
  replace gn10 : h[m + 74 + 6]? = some (.inl (.int, 256, .inl (fun _ => 0))) := gn10
  replace gn11 : h[m + 74 + 7]? = some (.inl (.int, 256, .inl (fun _ => 0))) := gn11
  replace gn12 : h[m + 74 + 8]? = some (.inl (.int, 1024, .inl (fun _ => 0))) := gn12
  replace gn17 : h[m + 74 + 9]? = some (.inl (.int, 32, .inl (fun _ => 0))) := gn17
  refine ab_of2 (lv := [some (.ref m), some (.int e)]) 0 rfl rfl (Nat.le_of_ble_eq_true rfl) ?_
  refine ab_aload_n d_M_text_0 rfl rfl rfl ?_
  refine ab_iconst (v := 0) d_M_text_1 (by decide) ?_
  refine ab_put (f := 0) d_M_text_2 gmo rfl (by decide) (k9 233 rfl rfl) rfl rfl (fun _ => rfl) (fun _ => rfl) (Nat.le_of_ble_eq_true rfl) ?_
  show ab_V _ _ _ _ _ _ _ 5 [some (.ref m), some (.int e)] [] (h.set m (.inr (12, [.int 0, .ref (m + 1), .int 0, .ref (m + 2), .ref (m + 33), .int 0, .int (-1), .int (-1), .ref (m + 64), .ref (m + 74), .ref (m + 84), .ref (m + 94), .int 1, .int 0, .ref (m + 99), .ref (m + 100), .ref (m + 101), .ref (m + 102), .ref (m + 103), .ref (m + 104), .int 0, .ref (m + 105), .int 0, .int 0, .int 0, .ref (m + 106), .ref (m + 107), .int 0, .int 0])))
  refine ab_gen (fun h1 e2 => ?_)
  have c3 : h1[m]? = some (.inr (12, [.int 0, .ref (m + 1), .int 0, .ref (m + 2), .ref (m + 33), .int 0, .int (-1), .int (-1), .ref (m + 64), .ref (m + 74), .ref (m + 84), .ref (m + 94), .int 1, .int 0, .ref (m + 99), .ref (m + 100), .ref (m + 101), .ref (m + 102), .ref (m + 103), .ref (m + 104), .int 0, .ref (m + 105), .int 0, .int 0, .int 0, .ref (m + 106), .ref (m + 107), .int 0, .int 0])) := ab_self e2 gmo
  have c4 : h1[m+1]? = some (.inl (.byte, 6000, .inl (fun _ => 0))) := ab_other e2 (by omega) gm1
  have c5 : h1[m+99]? = some (.inl (.int, 256, .inl (fun _ => 0))) := ab_other e2 (by omega) gm14
  have c6 : h1[m+100]? = some (.inl (.boolean, 256, .inl (fun _ => 0))) := ab_other e2 (by omega) gm15
  have c7 : h1[m+101]? = some (.inl (.int, 64, .inl (fun _ => 0))) := ab_other e2 (by omega) gm16
  have c8 : h1[m+102]? = some (.inl (.int, 4, .inl (fun _ => 0))) := ab_other e2 (by omega) gm17
  have c9 : h1[m+103]? = some (.inl (.int, 4, .inl (fun _ => 0))) := ab_other e2 (by omega) gm18
  have c10 : h1[m+104]? = some (.inl (.int, 256, .inl (fun _ => 0))) := ab_other e2 (by omega) gm19
  have c11 : h1[m+105]? = some (.inl (.byte, 58000, .inl (fun _ => 0))) := ab_other e2 (by omega) gm21
  have c12 : h1[m+106]? = some (.inl (.boolean, 8, .inl (a0_M w 25))) := ab_other e2 (by omega) gm25
  have c13 : h1[m+107]? = some (.inl (.boolean, 8, .inl (fun _ => 0))) := ab_other e2 (by omega) gm26
  have c14 : h1[m+2]? = some (.inr (14, [.ref (m + 2 + 1), .int 0, .int 0, .ref (m + 2 + 2), .ref (m + 2 + 3), .ref (m + 2 + 4), .ref (m + 2 + 5), .ref (m + 2 + 6), .ref (m + 2 + 7), .int 0, .int 0, .int 0, .int 0, .ref (m + 2 + 8), .ref (m + 2 + 9), .ref (m + 2 + 10), .int 0, .ref (m + 2 + 11), .ref (m + 2 + 12), .ref (m + 2 + 13), .ref (m + 2 + 14), .int 0, .ref (m + 2 + 15), .ref (m + 2 + 16), .ref (m + 2 + 17), .ref (m + 2 + 18), .int 0, .ref (m + 2 + 19), .ref (m + 2 + 20), .int 0, .ref (m + 2 + 21), .ref (m + 2 + 22), .ref (m + 2 + 23), .ref (m + 2 + 24), .ref (m + 2 + 25), .ref (m + 2 + 26), .ref (m + 2 + 27), .int 0, .ref (m + 2 + 28), .ref (m + 2 + 29), .ref (m + 2 + 30), .int 0, .int 0])) := ab_other e2 (by omega) gto
  have c15 : h1[m+2+1]? = some (.inl (.byte, 6000, .inl (fun _ => 0))) := ab_other e2 (by omega) gt0
  have c16 : h1[m+2+2]? = some (.inl (.int, 6002, .inl (fun _ => 0))) := ab_other e2 (by omega) gt3
  have c17 : h1[m+2+3]? = some (.inl (.int, 6002, .inl (fun _ => 0))) := ab_other e2 (by omega) gt4
  have c18 : h1[m+2+4]? = some (.inl (.int, 6002, .inl (fun _ => 0))) := ab_other e2 (by omega) gt5
  have c19 : h1[m+2+5]? = some (.inl (.int, 6002, .inl (fun _ => 0))) := ab_other e2 (by omega) gt6
  have c20 : h1[m+2+6]? = some (.inl (.boolean, 6002, .inl (fun _ => 0))) := ab_other e2 (by omega) gt7
  have c21 : h1[m+2+7]? = some (.inl (.int, 6002, .inl (fun _ => 0))) := ab_other e2 (by omega) gt8
  have c22 : h1[m+2+8]? = some (.inl (.int, 56, .inl (fun _ => 0))) := ab_other e2 (by omega) gt13
  have c23 : h1[m+2+9]? = some (.inl (.int, 56, .inl (fun _ => 0))) := ab_other e2 (by omega) gt14
  have c24 : h1[m+2+10]? = some (.inl (.int, 56, .inl (fun _ => 0))) := ab_other e2 (by omega) gt15
  have c25 : h1[m+2+11]? = some (.inl (.int, 16, .inl (fun _ => 0))) := ab_other e2 (by omega) gt17
  have c26 : h1[m+2+12]? = some (.inl (.int, 17, .inl (fun _ => 0))) := ab_other e2 (by omega) gt18
  have c27 : h1[m+2+13]? = some (.inl (.int, 48, .inl (fun _ => 0))) := ab_other e2 (by omega) gt19
  have c28 : h1[m+2+14]? = some (.inl (.int, 48, .inl (fun _ => 0))) := ab_other e2 (by omega) gt20
  have c29 : h1[m+2+15]? = some (.inl (.int, 8, .inl (fun _ => 0))) := ab_other e2 (by omega) gt22
  have c30 : h1[m+2+16]? = some (.inl (.int, 8, .inl (fun _ => 0))) := ab_other e2 (by omega) gt23
  have c31 : h1[m+2+17]? = some (.inl (.int, 32, .inl (fun _ => 0))) := ab_other e2 (by omega) gt24
  have c32 : h1[m+2+18]? = some (.inl (.int, 32, .inl (fun _ => 0))) := ab_other e2 (by omega) gt25
  have c33 : h1[m+2+19]? = some (.inl (.int, 16, .inl (fun _ => 0))) := ab_other e2 (by omega) gt27
  have c34 : h1[m+2+20]? = some (.inl (.int, 768, .inl (fun _ => 0))) := ab_other e2 (by omega) gt28
  have c35 : h1[m+2+21]? = some (.inl (.int, 16, .inl (fun _ => 0))) := ab_other e2 (by omega) gt30
  have c36 : h1[m+2+22]? = some (.inl (.int, 16, .inl (fun _ => 0))) := ab_other e2 (by omega) gt31
  have c37 : h1[m+2+23]? = some (.inl (.int, 16, .inl (fun _ => 0))) := ab_other e2 (by omega) gt32
  have c38 : h1[m+2+24]? = some (.inl (.int, 16, .inl (fun _ => 0))) := ab_other e2 (by omega) gt33
  have c39 : h1[m+2+25]? = some (.inl (.int, 16, .inl (fun _ => 0))) := ab_other e2 (by omega) gt34
  have c40 : h1[m+2+26]? = some (.inl (.int, 16, .inl (fun _ => 0))) := ab_other e2 (by omega) gt35
  have c41 : h1[m+2+27]? = some (.inl (.int, 16, .inl (fun _ => 0))) := ab_other e2 (by omega) gt36
  have c42 : h1[m+2+28]? = some (.inl (.int, 12, .inl (fun _ => 0))) := ab_other e2 (by omega) gt38
  have c43 : h1[m+2+29]? = some (.inl (.int, 12, .inl (fun _ => 0))) := ab_other e2 (by omega) gt39
  have c44 : h1[m+2+30]? = some (.inl (.boolean, 12, .inl (fun _ => 0))) := ab_other e2 (by omega) gt40
  have c45 : h1[m+33]? = some (.inr (14, [.ref (m + 33 + 1), .int 0, .int 0, .ref (m + 33 + 2), .ref (m + 33 + 3), .ref (m + 33 + 4), .ref (m + 33 + 5), .ref (m + 33 + 6), .ref (m + 33 + 7), .int 0, .int 0, .int 0, .int 0, .ref (m + 33 + 8), .ref (m + 33 + 9), .ref (m + 33 + 10), .int 0, .ref (m + 33 + 11), .ref (m + 33 + 12), .ref (m + 33 + 13), .ref (m + 33 + 14), .int 0, .ref (m + 33 + 15), .ref (m + 33 + 16), .ref (m + 33 + 17), .ref (m + 33 + 18), .int 0, .ref (m + 33 + 19), .ref (m + 33 + 20), .int 0, .ref (m + 33 + 21), .ref (m + 33 + 22), .ref (m + 33 + 23), .ref (m + 33 + 24), .ref (m + 33 + 25), .ref (m + 33 + 26), .ref (m + 33 + 27), .int 0, .ref (m + 33 + 28), .ref (m + 33 + 29), .ref (m + 33 + 30), .int 0, .int 0])) := ab_other e2 (by omega) guo
  have c46 : h1[m+33+1]? = some (.inl (.byte, 6000, .inl (fun _ => 0))) := ab_other e2 (by omega) gu0
  have c47 : h1[m+33+2]? = some (.inl (.int, 6002, .inl (fun _ => 0))) := ab_other e2 (by omega) gu3
  have c48 : h1[m+33+3]? = some (.inl (.int, 6002, .inl (fun _ => 0))) := ab_other e2 (by omega) gu4
  have c49 : h1[m+33+4]? = some (.inl (.int, 6002, .inl (fun _ => 0))) := ab_other e2 (by omega) gu5
  have c50 : h1[m+33+5]? = some (.inl (.int, 6002, .inl (fun _ => 0))) := ab_other e2 (by omega) gu6
  have c51 : h1[m+33+6]? = some (.inl (.boolean, 6002, .inl (fun _ => 0))) := ab_other e2 (by omega) gu7
  have c52 : h1[m+33+7]? = some (.inl (.int, 6002, .inl (fun _ => 0))) := ab_other e2 (by omega) gu8
  have c53 : h1[m+33+8]? = some (.inl (.int, 56, .inl (fun _ => 0))) := ab_other e2 (by omega) gu13
  have c54 : h1[m+33+9]? = some (.inl (.int, 56, .inl (fun _ => 0))) := ab_other e2 (by omega) gu14
  have c55 : h1[m+33+10]? = some (.inl (.int, 56, .inl (fun _ => 0))) := ab_other e2 (by omega) gu15
  have c56 : h1[m+33+11]? = some (.inl (.int, 16, .inl (fun _ => 0))) := ab_other e2 (by omega) gu17
  have c57 : h1[m+33+12]? = some (.inl (.int, 17, .inl (fun _ => 0))) := ab_other e2 (by omega) gu18
  have c58 : h1[m+33+13]? = some (.inl (.int, 48, .inl (fun _ => 0))) := ab_other e2 (by omega) gu19
  have c59 : h1[m+33+14]? = some (.inl (.int, 48, .inl (fun _ => 0))) := ab_other e2 (by omega) gu20
  have c60 : h1[m+33+15]? = some (.inl (.int, 8, .inl (fun _ => 0))) := ab_other e2 (by omega) gu22
  have c61 : h1[m+33+16]? = some (.inl (.int, 8, .inl (fun _ => 0))) := ab_other e2 (by omega) gu23
  have c62 : h1[m+33+17]? = some (.inl (.int, 32, .inl (fun _ => 0))) := ab_other e2 (by omega) gu24
  have c63 : h1[m+33+18]? = some (.inl (.int, 32, .inl (fun _ => 0))) := ab_other e2 (by omega) gu25
  have c64 : h1[m+33+19]? = some (.inl (.int, 16, .inl (fun _ => 0))) := ab_other e2 (by omega) gu27
  have c65 : h1[m+33+20]? = some (.inl (.int, 768, .inl (fun _ => 0))) := ab_other e2 (by omega) gu28
  have c66 : h1[m+33+21]? = some (.inl (.int, 16, .inl (fun _ => 0))) := ab_other e2 (by omega) gu30
  have c67 : h1[m+33+22]? = some (.inl (.int, 16, .inl (fun _ => 0))) := ab_other e2 (by omega) gu31
  have c68 : h1[m+33+23]? = some (.inl (.int, 16, .inl (fun _ => 0))) := ab_other e2 (by omega) gu32
  have c69 : h1[m+33+24]? = some (.inl (.int, 16, .inl (fun _ => 0))) := ab_other e2 (by omega) gu33
  have c70 : h1[m+33+25]? = some (.inl (.int, 16, .inl (fun _ => 0))) := ab_other e2 (by omega) gu34
  have c71 : h1[m+33+26]? = some (.inl (.int, 16, .inl (fun _ => 0))) := ab_other e2 (by omega) gu35
  have c72 : h1[m+33+27]? = some (.inl (.int, 16, .inl (fun _ => 0))) := ab_other e2 (by omega) gu36
  have c73 : h1[m+33+28]? = some (.inl (.int, 12, .inl (fun _ => 0))) := ab_other e2 (by omega) gu38
  have c74 : h1[m+33+29]? = some (.inl (.int, 12, .inl (fun _ => 0))) := ab_other e2 (by omega) gu39
  have c75 : h1[m+33+30]? = some (.inl (.boolean, 12, .inl (fun _ => 0))) := ab_other e2 (by omega) gu40
  have c76 : h1[m+64]? = some (.inr (13, [.int 0, .int 0, .int 0, .int 0, .ref (m + 64 + 1), .ref (m + 64 + 2), .ref (m + 64 + 3), .ref (m + 64 + 4), .int 0, .ref (m + 64 + 5), .ref (m + 64 + 6), .ref (m + 64 + 7), .ref (m + 64 + 8), .int (-1), .int 0, .int 0, .int 0, .ref (m + 64 + 9)])) := ab_other e2 (by omega) gso
  have c77 : h1[m+64+1]? = some (.inl (.int, 256, .inl (fun _ => 0))) := ab_other e2 (by omega) gs4
  have c78 : h1[m+64+2]? = some (.inl (.boolean, 256, .inl (fun _ => 0))) := ab_other e2 (by omega) gs5
  have c79 : h1[m+64+3]? = some (.inl (.int, 256, .inl (fun _ => 0))) := ab_other e2 (by omega) gs6
  have c80 : h1[m+64+4]? = some (.inl (.int, 12288, .inl (fun _ => 0))) := ab_other e2 (by omega) gs7
  have c81 : h1[m+64+5]? = some (.inl (.int, 256, .inl (fun _ => 0))) := ab_other e2 (by omega) gs9
  have c82 : h1[m+64+6]? = some (.inl (.int, 256, .inl (fun _ => 0))) := ab_other e2 (by omega) gs10
  have c83 : h1[m+64+7]? = some (.inl (.int, 256, .inl (fun _ => 0))) := ab_other e2 (by omega) gs11
  have c84 : h1[m+64+8]? = some (.inl (.int, 1024, .inl (fun _ => 0))) := ab_other e2 (by omega) gs12
  have c85 : h1[m+64+9]? = some (.inl (.int, 32, .inl (fun _ => 0))) := ab_other e2 (by omega) gs17
  have c86 : h1[m+74]? = some (.inr (13, [.int 0, .int 0, .int 0, .int 0, .ref (m + 74 + 1), .ref (m + 74 + 2), .ref (m + 74 + 3), .ref (m + 74 + 4), .int 0, .ref (m + 74 + 5), .ref (m + 74 + 6), .ref (m + 74 + 7), .ref (m + 74 + 8), .int (-1), .int 0, .int 0, .int 0, .ref (m + 74 + 9)])) := ab_other e2 (by omega) gno
  have c87 : h1[m+74+1]? = some (.inl (.int, 256, .inl (fun _ => 0))) := ab_other e2 (by omega) gn4
  have c88 : h1[m+74+2]? = some (.inl (.boolean, 256, .inl (fun _ => 0))) := ab_other e2 (by omega) gn5
  have c89 : h1[m+74+3]? = some (.inl (.int, 256, .inl (fun _ => 0))) := ab_other e2 (by omega) gn6
  have c90 : h1[m+74+4]? = some (.inl (.int, 12288, .inl (fun _ => 0))) := ab_other e2 (by omega) gn7
  have c91 : h1[m+74+5]? = some (.inl (.int, 256, .inl (fun _ => 0))) := ab_other e2 (by omega) gn9
  have c92 : h1[m+74+6]? = some (.inl (.int, 256, .inl (fun _ => 0))) := ab_other e2 (by omega) gn10
  have c93 : h1[m+74+7]? = some (.inl (.int, 256, .inl (fun _ => 0))) := ab_other e2 (by omega) gn11
  have c94 : h1[m+74+8]? = some (.inl (.int, 1024, .inl (fun _ => 0))) := ab_other e2 (by omega) gn12
  have c95 : h1[m+74+9]? = some (.inl (.int, 32, .inl (fun _ => 0))) := ab_other e2 (by omega) gn17
  have fr96 : ab_fr (fun _ => True) h h1 := ab_fr_set (ab_fr_rf _ _) e2 (by trivial)
  clear e2
  refine ab_aload_n d_M_text_5 rfl rfl rfl ?_
  refine ab_callV_a (As := []) (rest := []) d_M_text_6 (r_M_reads c3 c45 c47 c48 c49 c51 c52 c57) (ab_mkC s_M_reads (Nat.le_of_ble_eq_true rfl) (Nat.le_of_ble_eq_true rfl) (by decide) (by decide)) (k10 100 rfl rfl) i_M_reads v_M_reads c3 rfl rfl (Nat.le_of_ble_eq_true rfl) (fun h97 q98 => ?_)
  obtain ⟨c100, c101, f99⟩ := q98
  have c102 : h97[m+1]? = some (.inl (.byte, 6000, .inl (fun _ => 0))) := ab_fr_at f99 c4 (by simp only [in_MText] <;> omega)
  have c103 : h97[m+99]? = some (.inl (.int, 256, .inl (fun _ => 0))) := ab_fr_at f99 c5 (by simp only [in_MText] <;> omega)
  have c104 : h97[m+100]? = some (.inl (.boolean, 256, .inl (fun _ => 0))) := ab_fr_at f99 c6 (by simp only [in_MText] <;> omega)
  have c105 : h97[m+101]? = some (.inl (.int, 64, .inl (fun _ => 0))) := ab_fr_at f99 c7 (by simp only [in_MText] <;> omega)
  have c106 : h97[m+102]? = some (.inl (.int, 4, .inl (fun _ => 0))) := ab_fr_at f99 c8 (by simp only [in_MText] <;> omega)
  have c107 : h97[m+103]? = some (.inl (.int, 4, .inl (fun _ => 0))) := ab_fr_at f99 c9 (by simp only [in_MText] <;> omega)
  have c108 : h97[m+104]? = some (.inl (.int, 256, .inl (fun _ => 0))) := ab_fr_at f99 c10 (by simp only [in_MText] <;> omega)
  have c109 : h97[m+105]? = some (.inl (.byte, 58000, .inl (fun _ => 0))) := ab_fr_at f99 c11 (by simp only [in_MText] <;> omega)
  have c110 : h97[m+106]? = some (.inl (.boolean, 8, .inl (a0_M w 25))) := ab_fr_at f99 c12 (by simp only [in_MText] <;> omega)
  have c111 : h97[m+107]? = some (.inl (.boolean, 8, .inl (fun _ => 0))) := ab_fr_at f99 c13 (by simp only [in_MText] <;> omega)
  have c112 : h97[m+2]? = some (.inr (14, [.ref (m + 2 + 1), .int 0, .int 0, .ref (m + 2 + 2), .ref (m + 2 + 3), .ref (m + 2 + 4), .ref (m + 2 + 5), .ref (m + 2 + 6), .ref (m + 2 + 7), .int 0, .int 0, .int 0, .int 0, .ref (m + 2 + 8), .ref (m + 2 + 9), .ref (m + 2 + 10), .int 0, .ref (m + 2 + 11), .ref (m + 2 + 12), .ref (m + 2 + 13), .ref (m + 2 + 14), .int 0, .ref (m + 2 + 15), .ref (m + 2 + 16), .ref (m + 2 + 17), .ref (m + 2 + 18), .int 0, .ref (m + 2 + 19), .ref (m + 2 + 20), .int 0, .ref (m + 2 + 21), .ref (m + 2 + 22), .ref (m + 2 + 23), .ref (m + 2 + 24), .ref (m + 2 + 25), .ref (m + 2 + 26), .ref (m + 2 + 27), .int 0, .ref (m + 2 + 28), .ref (m + 2 + 29), .ref (m + 2 + 30), .int 0, .int 0])) := ab_fr_at f99 c14 (by simp only [in_MText] <;> omega)
  have c113 : h97[m+2+1]? = some (.inl (.byte, 6000, .inl (fun _ => 0))) := ab_fr_at f99 c15 (by simp only [in_MText] <;> omega)
  have c114 : h97[m+2+2]? = some (.inl (.int, 6002, .inl (fun _ => 0))) := ab_fr_at f99 c16 (by simp only [in_MText] <;> omega)
  have c115 : h97[m+2+3]? = some (.inl (.int, 6002, .inl (fun _ => 0))) := ab_fr_at f99 c17 (by simp only [in_MText] <;> omega)
  have c116 : h97[m+2+4]? = some (.inl (.int, 6002, .inl (fun _ => 0))) := ab_fr_at f99 c18 (by simp only [in_MText] <;> omega)
  have c117 : h97[m+2+5]? = some (.inl (.int, 6002, .inl (fun _ => 0))) := ab_fr_at f99 c19 (by simp only [in_MText] <;> omega)
  have c118 : h97[m+2+6]? = some (.inl (.boolean, 6002, .inl (fun _ => 0))) := ab_fr_at f99 c20 (by simp only [in_MText] <;> omega)
  have c119 : h97[m+2+7]? = some (.inl (.int, 6002, .inl (fun _ => 0))) := ab_fr_at f99 c21 (by simp only [in_MText] <;> omega)
  have c120 : h97[m+2+8]? = some (.inl (.int, 56, .inl (fun _ => 0))) := ab_fr_at f99 c22 (by simp only [in_MText] <;> omega)
  have c121 : h97[m+2+9]? = some (.inl (.int, 56, .inl (fun _ => 0))) := ab_fr_at f99 c23 (by simp only [in_MText] <;> omega)
  have c122 : h97[m+2+10]? = some (.inl (.int, 56, .inl (fun _ => 0))) := ab_fr_at f99 c24 (by simp only [in_MText] <;> omega)
  have c123 : h97[m+2+11]? = some (.inl (.int, 16, .inl (fun _ => 0))) := ab_fr_at f99 c25 (by simp only [in_MText] <;> omega)
  have c124 : h97[m+2+12]? = some (.inl (.int, 17, .inl (fun _ => 0))) := ab_fr_at f99 c26 (by simp only [in_MText] <;> omega)
  have c125 : h97[m+2+13]? = some (.inl (.int, 48, .inl (fun _ => 0))) := ab_fr_at f99 c27 (by simp only [in_MText] <;> omega)
  have c126 : h97[m+2+14]? = some (.inl (.int, 48, .inl (fun _ => 0))) := ab_fr_at f99 c28 (by simp only [in_MText] <;> omega)
  have c127 : h97[m+2+15]? = some (.inl (.int, 8, .inl (fun _ => 0))) := ab_fr_at f99 c29 (by simp only [in_MText] <;> omega)
  have c128 : h97[m+2+16]? = some (.inl (.int, 8, .inl (fun _ => 0))) := ab_fr_at f99 c30 (by simp only [in_MText] <;> omega)
  have c129 : h97[m+2+17]? = some (.inl (.int, 32, .inl (fun _ => 0))) := ab_fr_at f99 c31 (by simp only [in_MText] <;> omega)
  have c130 : h97[m+2+18]? = some (.inl (.int, 32, .inl (fun _ => 0))) := ab_fr_at f99 c32 (by simp only [in_MText] <;> omega)
  have c131 : h97[m+2+19]? = some (.inl (.int, 16, .inl (fun _ => 0))) := ab_fr_at f99 c33 (by simp only [in_MText] <;> omega)
  have c132 : h97[m+2+20]? = some (.inl (.int, 768, .inl (fun _ => 0))) := ab_fr_at f99 c34 (by simp only [in_MText] <;> omega)
  have c133 : h97[m+2+21]? = some (.inl (.int, 16, .inl (fun _ => 0))) := ab_fr_at f99 c35 (by simp only [in_MText] <;> omega)
  have c134 : h97[m+2+22]? = some (.inl (.int, 16, .inl (fun _ => 0))) := ab_fr_at f99 c36 (by simp only [in_MText] <;> omega)
  have c135 : h97[m+2+23]? = some (.inl (.int, 16, .inl (fun _ => 0))) := ab_fr_at f99 c37 (by simp only [in_MText] <;> omega)
  have c136 : h97[m+2+24]? = some (.inl (.int, 16, .inl (fun _ => 0))) := ab_fr_at f99 c38 (by simp only [in_MText] <;> omega)
  have c137 : h97[m+2+25]? = some (.inl (.int, 16, .inl (fun _ => 0))) := ab_fr_at f99 c39 (by simp only [in_MText] <;> omega)
  have c138 : h97[m+2+26]? = some (.inl (.int, 16, .inl (fun _ => 0))) := ab_fr_at f99 c40 (by simp only [in_MText] <;> omega)
  have c139 : h97[m+2+27]? = some (.inl (.int, 16, .inl (fun _ => 0))) := ab_fr_at f99 c41 (by simp only [in_MText] <;> omega)
  have c140 : h97[m+2+28]? = some (.inl (.int, 12, .inl (fun _ => 0))) := ab_fr_at f99 c42 (by simp only [in_MText] <;> omega)
  have c141 : h97[m+2+29]? = some (.inl (.int, 12, .inl (fun _ => 0))) := ab_fr_at f99 c43 (by simp only [in_MText] <;> omega)
  have c142 : h97[m+2+30]? = some (.inl (.boolean, 12, .inl (fun _ => 0))) := ab_fr_at f99 c44 (by simp only [in_MText] <;> omega)
  have c143 : h97[m+64]? = some (.inr (13, [.int 0, .int 0, .int 0, .int 0, .ref (m + 64 + 1), .ref (m + 64 + 2), .ref (m + 64 + 3), .ref (m + 64 + 4), .int 0, .ref (m + 64 + 5), .ref (m + 64 + 6), .ref (m + 64 + 7), .ref (m + 64 + 8), .int (-1), .int 0, .int 0, .int 0, .ref (m + 64 + 9)])) := ab_fr_at f99 c76 (by simp only [in_MText] <;> omega)
  have c144 : h97[m+64+1]? = some (.inl (.int, 256, .inl (fun _ => 0))) := ab_fr_at f99 c77 (by simp only [in_MText] <;> omega)
  have c145 : h97[m+64+2]? = some (.inl (.boolean, 256, .inl (fun _ => 0))) := ab_fr_at f99 c78 (by simp only [in_MText] <;> omega)
  have c146 : h97[m+64+3]? = some (.inl (.int, 256, .inl (fun _ => 0))) := ab_fr_at f99 c79 (by simp only [in_MText] <;> omega)
  have c147 : h97[m+64+4]? = some (.inl (.int, 12288, .inl (fun _ => 0))) := ab_fr_at f99 c80 (by simp only [in_MText] <;> omega)
  have c148 : h97[m+64+5]? = some (.inl (.int, 256, .inl (fun _ => 0))) := ab_fr_at f99 c81 (by simp only [in_MText] <;> omega)
  have c149 : h97[m+64+6]? = some (.inl (.int, 256, .inl (fun _ => 0))) := ab_fr_at f99 c82 (by simp only [in_MText] <;> omega)
  have c150 : h97[m+64+7]? = some (.inl (.int, 256, .inl (fun _ => 0))) := ab_fr_at f99 c83 (by simp only [in_MText] <;> omega)
  have c151 : h97[m+64+8]? = some (.inl (.int, 1024, .inl (fun _ => 0))) := ab_fr_at f99 c84 (by simp only [in_MText] <;> omega)
  have c152 : h97[m+64+9]? = some (.inl (.int, 32, .inl (fun _ => 0))) := ab_fr_at f99 c85 (by simp only [in_MText] <;> omega)
  have c153 : h97[m+74]? = some (.inr (13, [.int 0, .int 0, .int 0, .int 0, .ref (m + 74 + 1), .ref (m + 74 + 2), .ref (m + 74 + 3), .ref (m + 74 + 4), .int 0, .ref (m + 74 + 5), .ref (m + 74 + 6), .ref (m + 74 + 7), .ref (m + 74 + 8), .int (-1), .int 0, .int 0, .int 0, .ref (m + 74 + 9)])) := ab_fr_at f99 c86 (by simp only [in_MText] <;> omega)
  have c154 : h97[m+74+1]? = some (.inl (.int, 256, .inl (fun _ => 0))) := ab_fr_at f99 c87 (by simp only [in_MText] <;> omega)
  have c155 : h97[m+74+2]? = some (.inl (.boolean, 256, .inl (fun _ => 0))) := ab_fr_at f99 c88 (by simp only [in_MText] <;> omega)
  have c156 : h97[m+74+3]? = some (.inl (.int, 256, .inl (fun _ => 0))) := ab_fr_at f99 c89 (by simp only [in_MText] <;> omega)
  have c157 : h97[m+74+4]? = some (.inl (.int, 12288, .inl (fun _ => 0))) := ab_fr_at f99 c90 (by simp only [in_MText] <;> omega)
  have c158 : h97[m+74+5]? = some (.inl (.int, 256, .inl (fun _ => 0))) := ab_fr_at f99 c91 (by simp only [in_MText] <;> omega)
  have c159 : h97[m+74+6]? = some (.inl (.int, 256, .inl (fun _ => 0))) := ab_fr_at f99 c92 (by simp only [in_MText] <;> omega)
  have c160 : h97[m+74+7]? = some (.inl (.int, 256, .inl (fun _ => 0))) := ab_fr_at f99 c93 (by simp only [in_MText] <;> omega)
  have c161 : h97[m+74+8]? = some (.inl (.int, 1024, .inl (fun _ => 0))) := ab_fr_at f99 c94 (by simp only [in_MText] <;> omega)
  have c162 : h97[m+74+9]? = some (.inl (.int, 32, .inl (fun _ => 0))) := ab_fr_at f99 c95 (by simp only [in_MText] <;> omega)
  have fr163 : ab_fr (fun _ => True) h h97 := ab_fr_tr fr96 (ab_fr_mono f99 (fun _ _ => trivial))
  clear c3 c4 c5 c6 c7 c8 c9 c10 c11 c12 c13 c14 c15 c16 c17 c18 c19 c20 c21 c22 c23 c24 c25 c26 c27 c28 c29 c30 c31 c32 c33 c34 c35 c36 c37 c38 c39 c40 c41 c42 c43 c44 c45 c76 c77 c78 c79 c80 c81 c82 c83 c84 c85 c86 c87 c88 c89 c90 c91 c92 c93 c94 c95 f99 fr96
  try clear h1
  replace c100 : h97[m]? = some (.inr (12, [.int 0, .ref (m + 1), .int 0, .ref (m + 2), .ref (m + 33), .int 0, .int (-1), .int (-1), .ref (m + 64), .ref (m + 74), .ref (m + 84), .ref (m + 94), .int 1, .int 0, .ref (m + 99), .ref (m + 100), .ref (m + 101), .ref (m + 102), .ref (m + 103), .ref (m + 104), .int 0, .ref (m + 105), .int 0, .int 0, .int 0, .ref (m + 106), .ref (m + 107), .int 0, .int 0])) := c100
  replace c101 : h97[m+33]? = some (.inr (14, [.ref (m + 33 + 1), .int 0, .int 1, .ref (m + 33 + 2), .ref (m + 33 + 3), .ref (m + 33 + 4), .ref (m + 33 + 5), .ref (m + 33 + 6), .ref (m + 33 + 7), .int 0, .int 0, .int 0, .int 0, .ref (m + 33 + 8), .ref (m + 33 + 9), .ref (m + 33 + 10), .int 0, .ref (m + 33 + 11), .ref (m + 33 + 12), .ref (m + 33 + 13), .ref (m + 33 + 14), .int 0, .ref (m + 33 + 15), .ref (m + 33 + 16), .ref (m + 33 + 17), .ref (m + 33 + 18), .int 0, .ref (m + 33 + 19), .ref (m + 33 + 20), .int 0, .ref (m + 33 + 21), .ref (m + 33 + 22), .ref (m + 33 + 23), .ref (m + 33 + 24), .ref (m + 33 + 25), .ref (m + 33 + 26), .ref (m + 33 + 27), .int 0, .ref (m + 33 + 28), .ref (m + 33 + 29), .ref (m + 33 + 30), .int 0, .int 0])) := c101
  refine ab_if_ne (tgt := 18) d_M_text_9 (by decide) (fun q164 => ?_) (fun q164 => by exact absurd q164 (by decide))
  refine ab_aload_n d_M_text_18 rfl rfl rfl ?_
  refine ab_callV_v (As := []) (rest := []) d_M_text_19 (r_M_takes c100) (ab_mkC s_M_takes (Nat.le_of_ble_eq_true rfl) (Nat.le_of_ble_eq_true rfl) (by decide) (by decide)) (k11 141 rfl rfl) i_M_takes v_M_takes c100 rfl rfl (Nat.le_of_ble_eq_true rfl) (fun h165 q166 => ?_)
  obtain ⟨c168, f167⟩ := q166
  have c169 : h165[m+1]? = some (.inl (.byte, 6000, .inl (fun _ => 0))) := ab_fr_at f167 c102 (by omega)
  have c170 : h165[m+99]? = some (.inl (.int, 256, .inl (fun _ => 0))) := ab_fr_at f167 c103 (by omega)
  have c171 : h165[m+100]? = some (.inl (.boolean, 256, .inl (fun _ => 0))) := ab_fr_at f167 c104 (by omega)
  have c172 : h165[m+101]? = some (.inl (.int, 64, .inl (fun _ => 0))) := ab_fr_at f167 c105 (by omega)
  have c173 : h165[m+102]? = some (.inl (.int, 4, .inl (fun _ => 0))) := ab_fr_at f167 c106 (by omega)
  have c174 : h165[m+103]? = some (.inl (.int, 4, .inl (fun _ => 0))) := ab_fr_at f167 c107 (by omega)
  have c175 : h165[m+104]? = some (.inl (.int, 256, .inl (fun _ => 0))) := ab_fr_at f167 c108 (by omega)
  have c176 : h165[m+105]? = some (.inl (.byte, 58000, .inl (fun _ => 0))) := ab_fr_at f167 c109 (by omega)
  have c177 : h165[m+106]? = some (.inl (.boolean, 8, .inl (a0_M w 25))) := ab_fr_at f167 c110 (by omega)
  have c178 : h165[m+107]? = some (.inl (.boolean, 8, .inl (fun _ => 0))) := ab_fr_at f167 c111 (by omega)
  have c179 : h165[m+2]? = some (.inr (14, [.ref (m + 2 + 1), .int 0, .int 0, .ref (m + 2 + 2), .ref (m + 2 + 3), .ref (m + 2 + 4), .ref (m + 2 + 5), .ref (m + 2 + 6), .ref (m + 2 + 7), .int 0, .int 0, .int 0, .int 0, .ref (m + 2 + 8), .ref (m + 2 + 9), .ref (m + 2 + 10), .int 0, .ref (m + 2 + 11), .ref (m + 2 + 12), .ref (m + 2 + 13), .ref (m + 2 + 14), .int 0, .ref (m + 2 + 15), .ref (m + 2 + 16), .ref (m + 2 + 17), .ref (m + 2 + 18), .int 0, .ref (m + 2 + 19), .ref (m + 2 + 20), .int 0, .ref (m + 2 + 21), .ref (m + 2 + 22), .ref (m + 2 + 23), .ref (m + 2 + 24), .ref (m + 2 + 25), .ref (m + 2 + 26), .ref (m + 2 + 27), .int 0, .ref (m + 2 + 28), .ref (m + 2 + 29), .ref (m + 2 + 30), .int 0, .int 0])) := ab_fr_at f167 c112 (by omega)
  have c180 : h165[m+2+1]? = some (.inl (.byte, 6000, .inl (fun _ => 0))) := ab_fr_at f167 c113 (by omega)
  have c181 : h165[m+2+2]? = some (.inl (.int, 6002, .inl (fun _ => 0))) := ab_fr_at f167 c114 (by omega)
  have c182 : h165[m+2+3]? = some (.inl (.int, 6002, .inl (fun _ => 0))) := ab_fr_at f167 c115 (by omega)
  have c183 : h165[m+2+4]? = some (.inl (.int, 6002, .inl (fun _ => 0))) := ab_fr_at f167 c116 (by omega)
  have c184 : h165[m+2+5]? = some (.inl (.int, 6002, .inl (fun _ => 0))) := ab_fr_at f167 c117 (by omega)
  have c185 : h165[m+2+6]? = some (.inl (.boolean, 6002, .inl (fun _ => 0))) := ab_fr_at f167 c118 (by omega)
  have c186 : h165[m+2+7]? = some (.inl (.int, 6002, .inl (fun _ => 0))) := ab_fr_at f167 c119 (by omega)
  have c187 : h165[m+2+8]? = some (.inl (.int, 56, .inl (fun _ => 0))) := ab_fr_at f167 c120 (by omega)
  have c188 : h165[m+2+9]? = some (.inl (.int, 56, .inl (fun _ => 0))) := ab_fr_at f167 c121 (by omega)
  have c189 : h165[m+2+10]? = some (.inl (.int, 56, .inl (fun _ => 0))) := ab_fr_at f167 c122 (by omega)
  have c190 : h165[m+2+11]? = some (.inl (.int, 16, .inl (fun _ => 0))) := ab_fr_at f167 c123 (by omega)
  have c191 : h165[m+2+12]? = some (.inl (.int, 17, .inl (fun _ => 0))) := ab_fr_at f167 c124 (by omega)
  have c192 : h165[m+2+13]? = some (.inl (.int, 48, .inl (fun _ => 0))) := ab_fr_at f167 c125 (by omega)
  have c193 : h165[m+2+14]? = some (.inl (.int, 48, .inl (fun _ => 0))) := ab_fr_at f167 c126 (by omega)
  have c194 : h165[m+2+15]? = some (.inl (.int, 8, .inl (fun _ => 0))) := ab_fr_at f167 c127 (by omega)
  have c195 : h165[m+2+16]? = some (.inl (.int, 8, .inl (fun _ => 0))) := ab_fr_at f167 c128 (by omega)
  have c196 : h165[m+2+17]? = some (.inl (.int, 32, .inl (fun _ => 0))) := ab_fr_at f167 c129 (by omega)
  have c197 : h165[m+2+18]? = some (.inl (.int, 32, .inl (fun _ => 0))) := ab_fr_at f167 c130 (by omega)
  have c198 : h165[m+2+19]? = some (.inl (.int, 16, .inl (fun _ => 0))) := ab_fr_at f167 c131 (by omega)
  have c199 : h165[m+2+20]? = some (.inl (.int, 768, .inl (fun _ => 0))) := ab_fr_at f167 c132 (by omega)
  have c200 : h165[m+2+21]? = some (.inl (.int, 16, .inl (fun _ => 0))) := ab_fr_at f167 c133 (by omega)
  have c201 : h165[m+2+22]? = some (.inl (.int, 16, .inl (fun _ => 0))) := ab_fr_at f167 c134 (by omega)
  have c202 : h165[m+2+23]? = some (.inl (.int, 16, .inl (fun _ => 0))) := ab_fr_at f167 c135 (by omega)
  have c203 : h165[m+2+24]? = some (.inl (.int, 16, .inl (fun _ => 0))) := ab_fr_at f167 c136 (by omega)
  have c204 : h165[m+2+25]? = some (.inl (.int, 16, .inl (fun _ => 0))) := ab_fr_at f167 c137 (by omega)
  have c205 : h165[m+2+26]? = some (.inl (.int, 16, .inl (fun _ => 0))) := ab_fr_at f167 c138 (by omega)
  have c206 : h165[m+2+27]? = some (.inl (.int, 16, .inl (fun _ => 0))) := ab_fr_at f167 c139 (by omega)
  have c207 : h165[m+2+28]? = some (.inl (.int, 12, .inl (fun _ => 0))) := ab_fr_at f167 c140 (by omega)
  have c208 : h165[m+2+29]? = some (.inl (.int, 12, .inl (fun _ => 0))) := ab_fr_at f167 c141 (by omega)
  have c209 : h165[m+2+30]? = some (.inl (.boolean, 12, .inl (fun _ => 0))) := ab_fr_at f167 c142 (by omega)
  have c210 : h165[m+64]? = some (.inr (13, [.int 0, .int 0, .int 0, .int 0, .ref (m + 64 + 1), .ref (m + 64 + 2), .ref (m + 64 + 3), .ref (m + 64 + 4), .int 0, .ref (m + 64 + 5), .ref (m + 64 + 6), .ref (m + 64 + 7), .ref (m + 64 + 8), .int (-1), .int 0, .int 0, .int 0, .ref (m + 64 + 9)])) := ab_fr_at f167 c143 (by omega)
  have c211 : h165[m+64+1]? = some (.inl (.int, 256, .inl (fun _ => 0))) := ab_fr_at f167 c144 (by omega)
  have c212 : h165[m+64+2]? = some (.inl (.boolean, 256, .inl (fun _ => 0))) := ab_fr_at f167 c145 (by omega)
  have c213 : h165[m+64+3]? = some (.inl (.int, 256, .inl (fun _ => 0))) := ab_fr_at f167 c146 (by omega)
  have c214 : h165[m+64+4]? = some (.inl (.int, 12288, .inl (fun _ => 0))) := ab_fr_at f167 c147 (by omega)
  have c215 : h165[m+64+5]? = some (.inl (.int, 256, .inl (fun _ => 0))) := ab_fr_at f167 c148 (by omega)
  have c216 : h165[m+64+6]? = some (.inl (.int, 256, .inl (fun _ => 0))) := ab_fr_at f167 c149 (by omega)
  have c217 : h165[m+64+7]? = some (.inl (.int, 256, .inl (fun _ => 0))) := ab_fr_at f167 c150 (by omega)
  have c218 : h165[m+64+8]? = some (.inl (.int, 1024, .inl (fun _ => 0))) := ab_fr_at f167 c151 (by omega)
  have c219 : h165[m+64+9]? = some (.inl (.int, 32, .inl (fun _ => 0))) := ab_fr_at f167 c152 (by omega)
  have c220 : h165[m+74]? = some (.inr (13, [.int 0, .int 0, .int 0, .int 0, .ref (m + 74 + 1), .ref (m + 74 + 2), .ref (m + 74 + 3), .ref (m + 74 + 4), .int 0, .ref (m + 74 + 5), .ref (m + 74 + 6), .ref (m + 74 + 7), .ref (m + 74 + 8), .int (-1), .int 0, .int 0, .int 0, .ref (m + 74 + 9)])) := ab_fr_at f167 c153 (by omega)
  have c221 : h165[m+74+1]? = some (.inl (.int, 256, .inl (fun _ => 0))) := ab_fr_at f167 c154 (by omega)
  have c222 : h165[m+74+2]? = some (.inl (.boolean, 256, .inl (fun _ => 0))) := ab_fr_at f167 c155 (by omega)
  have c223 : h165[m+74+3]? = some (.inl (.int, 256, .inl (fun _ => 0))) := ab_fr_at f167 c156 (by omega)
  have c224 : h165[m+74+4]? = some (.inl (.int, 12288, .inl (fun _ => 0))) := ab_fr_at f167 c157 (by omega)
  have c225 : h165[m+74+5]? = some (.inl (.int, 256, .inl (fun _ => 0))) := ab_fr_at f167 c158 (by omega)
  have c226 : h165[m+74+6]? = some (.inl (.int, 256, .inl (fun _ => 0))) := ab_fr_at f167 c159 (by omega)
  have c227 : h165[m+74+7]? = some (.inl (.int, 256, .inl (fun _ => 0))) := ab_fr_at f167 c160 (by omega)
  have c228 : h165[m+74+8]? = some (.inl (.int, 1024, .inl (fun _ => 0))) := ab_fr_at f167 c161 (by omega)
  have c229 : h165[m+74+9]? = some (.inl (.int, 32, .inl (fun _ => 0))) := ab_fr_at f167 c162 (by omega)
  have c230 : h165[m+33]? = some (.inr (14, [.ref (m + 33 + 1), .int 0, .int 1, .ref (m + 33 + 2), .ref (m + 33 + 3), .ref (m + 33 + 4), .ref (m + 33 + 5), .ref (m + 33 + 6), .ref (m + 33 + 7), .int 0, .int 0, .int 0, .int 0, .ref (m + 33 + 8), .ref (m + 33 + 9), .ref (m + 33 + 10), .int 0, .ref (m + 33 + 11), .ref (m + 33 + 12), .ref (m + 33 + 13), .ref (m + 33 + 14), .int 0, .ref (m + 33 + 15), .ref (m + 33 + 16), .ref (m + 33 + 17), .ref (m + 33 + 18), .int 0, .ref (m + 33 + 19), .ref (m + 33 + 20), .int 0, .ref (m + 33 + 21), .ref (m + 33 + 22), .ref (m + 33 + 23), .ref (m + 33 + 24), .ref (m + 33 + 25), .ref (m + 33 + 26), .ref (m + 33 + 27), .int 0, .ref (m + 33 + 28), .ref (m + 33 + 29), .ref (m + 33 + 30), .int 0, .int 0])) := ab_fr_at f167 c101 (by omega)
  have fr231 : ab_fr (fun _ => True) h h165 := ab_fr_tr fr163 (ab_fr_mono f167 (fun _ _ => trivial))
  clear c102 c103 c104 c105 c106 c107 c108 c109 c110 c111 c112 c113 c114 c115 c116 c117 c118 c119 c120 c121 c122 c123 c124 c125 c126 c127 c128 c129 c130 c131 c132 c133 c134 c135 c136 c137 c138 c139 c140 c141 c142 c143 c144 c145 c146 c147 c148 c149 c150 c151 c152 c153 c154 c155 c156 c157 c158 c159 c160 c161 c162 c100 c101 f167 fr163
  try clear h97
  replace c168 : h165[m]? = some (.inr (12, [.int 0, .ref (m + 1), .int 0, .ref (m + 33), .ref (m + 2), .int 1, .int (-1), .int (-1), .ref (m + 64), .ref (m + 74), .ref (m + 84), .ref (m + 94), .int 1, .int 0, .ref (m + 99), .ref (m + 100), .ref (m + 101), .ref (m + 102), .ref (m + 103), .ref (m + 104), .int 0, .ref (m + 105), .int 0, .int 0, .int 0, .ref (m + 106), .ref (m + 107), .int 0, .int 0])) := c168
  refine ab_aload_n d_M_text_22 rfl rfl rfl ?_
  refine ab_get (f := 9) d_M_text_23 c168 rfl (by decide) (k10 2 rfl rfl) rfl ?_
  refine ab_callV_v (As := []) (rest := []) d_M_text_26 (c_MWorld_begin (show at_MWorld h165 (m + 74) s0_MW (fun _ _ => 0) from ⟨c220, c221, c222, c223, c224, c225, c226, c227, c228, c229⟩)) (ab_mkC s_MWorld_begin (Nat.le_of_ble_eq_true rfl) (Nat.le_of_ble_eq_true rfl) (by decide) (by decide)) (k11 145 rfl rfl) i_MWorld_begin v_MWorld_begin c220 rfl rfl (Nat.le_of_ble_eq_true rfl) (fun h232 q233 => ?_)
  obtain ⟨kf234, f235⟩ := q233
  rw [begin_z2] at kf234
  have c236 : h232[m+1]? = some (.inl (.byte, 6000, .inl (fun _ => 0))) := ab_fr_at f235 c169 (by simp only [in_MWorld] <;> omega)
  have c237 : h232[m+99]? = some (.inl (.int, 256, .inl (fun _ => 0))) := ab_fr_at f235 c170 (by simp only [in_MWorld] <;> omega)
  have c238 : h232[m+100]? = some (.inl (.boolean, 256, .inl (fun _ => 0))) := ab_fr_at f235 c171 (by simp only [in_MWorld] <;> omega)
  have c239 : h232[m+101]? = some (.inl (.int, 64, .inl (fun _ => 0))) := ab_fr_at f235 c172 (by simp only [in_MWorld] <;> omega)
  have c240 : h232[m+102]? = some (.inl (.int, 4, .inl (fun _ => 0))) := ab_fr_at f235 c173 (by simp only [in_MWorld] <;> omega)
  have c241 : h232[m+103]? = some (.inl (.int, 4, .inl (fun _ => 0))) := ab_fr_at f235 c174 (by simp only [in_MWorld] <;> omega)
  have c242 : h232[m+104]? = some (.inl (.int, 256, .inl (fun _ => 0))) := ab_fr_at f235 c175 (by simp only [in_MWorld] <;> omega)
  have c243 : h232[m+105]? = some (.inl (.byte, 58000, .inl (fun _ => 0))) := ab_fr_at f235 c176 (by simp only [in_MWorld] <;> omega)
  have c244 : h232[m+106]? = some (.inl (.boolean, 8, .inl (a0_M w 25))) := ab_fr_at f235 c177 (by simp only [in_MWorld] <;> omega)
  have c245 : h232[m+107]? = some (.inl (.boolean, 8, .inl (fun _ => 0))) := ab_fr_at f235 c178 (by simp only [in_MWorld] <;> omega)
  have c246 : h232[m+2]? = some (.inr (14, [.ref (m + 2 + 1), .int 0, .int 0, .ref (m + 2 + 2), .ref (m + 2 + 3), .ref (m + 2 + 4), .ref (m + 2 + 5), .ref (m + 2 + 6), .ref (m + 2 + 7), .int 0, .int 0, .int 0, .int 0, .ref (m + 2 + 8), .ref (m + 2 + 9), .ref (m + 2 + 10), .int 0, .ref (m + 2 + 11), .ref (m + 2 + 12), .ref (m + 2 + 13), .ref (m + 2 + 14), .int 0, .ref (m + 2 + 15), .ref (m + 2 + 16), .ref (m + 2 + 17), .ref (m + 2 + 18), .int 0, .ref (m + 2 + 19), .ref (m + 2 + 20), .int 0, .ref (m + 2 + 21), .ref (m + 2 + 22), .ref (m + 2 + 23), .ref (m + 2 + 24), .ref (m + 2 + 25), .ref (m + 2 + 26), .ref (m + 2 + 27), .int 0, .ref (m + 2 + 28), .ref (m + 2 + 29), .ref (m + 2 + 30), .int 0, .int 0])) := ab_fr_at f235 c179 (by simp only [in_MWorld] <;> omega)
  have c247 : h232[m+2+1]? = some (.inl (.byte, 6000, .inl (fun _ => 0))) := ab_fr_at f235 c180 (by simp only [in_MWorld] <;> omega)
  have c248 : h232[m+2+2]? = some (.inl (.int, 6002, .inl (fun _ => 0))) := ab_fr_at f235 c181 (by simp only [in_MWorld] <;> omega)
  have c249 : h232[m+2+3]? = some (.inl (.int, 6002, .inl (fun _ => 0))) := ab_fr_at f235 c182 (by simp only [in_MWorld] <;> omega)
  have c250 : h232[m+2+4]? = some (.inl (.int, 6002, .inl (fun _ => 0))) := ab_fr_at f235 c183 (by simp only [in_MWorld] <;> omega)
  have c251 : h232[m+2+5]? = some (.inl (.int, 6002, .inl (fun _ => 0))) := ab_fr_at f235 c184 (by simp only [in_MWorld] <;> omega)
  have c252 : h232[m+2+6]? = some (.inl (.boolean, 6002, .inl (fun _ => 0))) := ab_fr_at f235 c185 (by simp only [in_MWorld] <;> omega)
  have c253 : h232[m+2+7]? = some (.inl (.int, 6002, .inl (fun _ => 0))) := ab_fr_at f235 c186 (by simp only [in_MWorld] <;> omega)
  have c254 : h232[m+2+8]? = some (.inl (.int, 56, .inl (fun _ => 0))) := ab_fr_at f235 c187 (by simp only [in_MWorld] <;> omega)
  have c255 : h232[m+2+9]? = some (.inl (.int, 56, .inl (fun _ => 0))) := ab_fr_at f235 c188 (by simp only [in_MWorld] <;> omega)
  have c256 : h232[m+2+10]? = some (.inl (.int, 56, .inl (fun _ => 0))) := ab_fr_at f235 c189 (by simp only [in_MWorld] <;> omega)
  have c257 : h232[m+2+11]? = some (.inl (.int, 16, .inl (fun _ => 0))) := ab_fr_at f235 c190 (by simp only [in_MWorld] <;> omega)
  have c258 : h232[m+2+12]? = some (.inl (.int, 17, .inl (fun _ => 0))) := ab_fr_at f235 c191 (by simp only [in_MWorld] <;> omega)
  have c259 : h232[m+2+13]? = some (.inl (.int, 48, .inl (fun _ => 0))) := ab_fr_at f235 c192 (by simp only [in_MWorld] <;> omega)
  have c260 : h232[m+2+14]? = some (.inl (.int, 48, .inl (fun _ => 0))) := ab_fr_at f235 c193 (by simp only [in_MWorld] <;> omega)
  have c261 : h232[m+2+15]? = some (.inl (.int, 8, .inl (fun _ => 0))) := ab_fr_at f235 c194 (by simp only [in_MWorld] <;> omega)
  have c262 : h232[m+2+16]? = some (.inl (.int, 8, .inl (fun _ => 0))) := ab_fr_at f235 c195 (by simp only [in_MWorld] <;> omega)
  have c263 : h232[m+2+17]? = some (.inl (.int, 32, .inl (fun _ => 0))) := ab_fr_at f235 c196 (by simp only [in_MWorld] <;> omega)
  have c264 : h232[m+2+18]? = some (.inl (.int, 32, .inl (fun _ => 0))) := ab_fr_at f235 c197 (by simp only [in_MWorld] <;> omega)
  have c265 : h232[m+2+19]? = some (.inl (.int, 16, .inl (fun _ => 0))) := ab_fr_at f235 c198 (by simp only [in_MWorld] <;> omega)
  have c266 : h232[m+2+20]? = some (.inl (.int, 768, .inl (fun _ => 0))) := ab_fr_at f235 c199 (by simp only [in_MWorld] <;> omega)
  have c267 : h232[m+2+21]? = some (.inl (.int, 16, .inl (fun _ => 0))) := ab_fr_at f235 c200 (by simp only [in_MWorld] <;> omega)
  have c268 : h232[m+2+22]? = some (.inl (.int, 16, .inl (fun _ => 0))) := ab_fr_at f235 c201 (by simp only [in_MWorld] <;> omega)
  have c269 : h232[m+2+23]? = some (.inl (.int, 16, .inl (fun _ => 0))) := ab_fr_at f235 c202 (by simp only [in_MWorld] <;> omega)
  have c270 : h232[m+2+24]? = some (.inl (.int, 16, .inl (fun _ => 0))) := ab_fr_at f235 c203 (by simp only [in_MWorld] <;> omega)
  have c271 : h232[m+2+25]? = some (.inl (.int, 16, .inl (fun _ => 0))) := ab_fr_at f235 c204 (by simp only [in_MWorld] <;> omega)
  have c272 : h232[m+2+26]? = some (.inl (.int, 16, .inl (fun _ => 0))) := ab_fr_at f235 c205 (by simp only [in_MWorld] <;> omega)
  have c273 : h232[m+2+27]? = some (.inl (.int, 16, .inl (fun _ => 0))) := ab_fr_at f235 c206 (by simp only [in_MWorld] <;> omega)
  have c274 : h232[m+2+28]? = some (.inl (.int, 12, .inl (fun _ => 0))) := ab_fr_at f235 c207 (by simp only [in_MWorld] <;> omega)
  have c275 : h232[m+2+29]? = some (.inl (.int, 12, .inl (fun _ => 0))) := ab_fr_at f235 c208 (by simp only [in_MWorld] <;> omega)
  have c276 : h232[m+2+30]? = some (.inl (.boolean, 12, .inl (fun _ => 0))) := ab_fr_at f235 c209 (by simp only [in_MWorld] <;> omega)
  have c277 : h232[m+64]? = some (.inr (13, [.int 0, .int 0, .int 0, .int 0, .ref (m + 64 + 1), .ref (m + 64 + 2), .ref (m + 64 + 3), .ref (m + 64 + 4), .int 0, .ref (m + 64 + 5), .ref (m + 64 + 6), .ref (m + 64 + 7), .ref (m + 64 + 8), .int (-1), .int 0, .int 0, .int 0, .ref (m + 64 + 9)])) := ab_fr_at f235 c210 (by simp only [in_MWorld] <;> omega)
  have c278 : h232[m+64+1]? = some (.inl (.int, 256, .inl (fun _ => 0))) := ab_fr_at f235 c211 (by simp only [in_MWorld] <;> omega)
  have c279 : h232[m+64+2]? = some (.inl (.boolean, 256, .inl (fun _ => 0))) := ab_fr_at f235 c212 (by simp only [in_MWorld] <;> omega)
  have c280 : h232[m+64+3]? = some (.inl (.int, 256, .inl (fun _ => 0))) := ab_fr_at f235 c213 (by simp only [in_MWorld] <;> omega)
  have c281 : h232[m+64+4]? = some (.inl (.int, 12288, .inl (fun _ => 0))) := ab_fr_at f235 c214 (by simp only [in_MWorld] <;> omega)
  have c282 : h232[m+64+5]? = some (.inl (.int, 256, .inl (fun _ => 0))) := ab_fr_at f235 c215 (by simp only [in_MWorld] <;> omega)
  have c283 : h232[m+64+6]? = some (.inl (.int, 256, .inl (fun _ => 0))) := ab_fr_at f235 c216 (by simp only [in_MWorld] <;> omega)
  have c284 : h232[m+64+7]? = some (.inl (.int, 256, .inl (fun _ => 0))) := ab_fr_at f235 c217 (by simp only [in_MWorld] <;> omega)
  have c285 : h232[m+64+8]? = some (.inl (.int, 1024, .inl (fun _ => 0))) := ab_fr_at f235 c218 (by simp only [in_MWorld] <;> omega)
  have c286 : h232[m+64+9]? = some (.inl (.int, 32, .inl (fun _ => 0))) := ab_fr_at f235 c219 (by simp only [in_MWorld] <;> omega)
  have c287 : h232[m+33]? = some (.inr (14, [.ref (m + 33 + 1), .int 0, .int 1, .ref (m + 33 + 2), .ref (m + 33 + 3), .ref (m + 33 + 4), .ref (m + 33 + 5), .ref (m + 33 + 6), .ref (m + 33 + 7), .int 0, .int 0, .int 0, .int 0, .ref (m + 33 + 8), .ref (m + 33 + 9), .ref (m + 33 + 10), .int 0, .ref (m + 33 + 11), .ref (m + 33 + 12), .ref (m + 33 + 13), .ref (m + 33 + 14), .int 0, .ref (m + 33 + 15), .ref (m + 33 + 16), .ref (m + 33 + 17), .ref (m + 33 + 18), .int 0, .ref (m + 33 + 19), .ref (m + 33 + 20), .int 0, .ref (m + 33 + 21), .ref (m + 33 + 22), .ref (m + 33 + 23), .ref (m + 33 + 24), .ref (m + 33 + 25), .ref (m + 33 + 26), .ref (m + 33 + 27), .int 0, .ref (m + 33 + 28), .ref (m + 33 + 29), .ref (m + 33 + 30), .int 0, .int 0])) := ab_fr_at f235 c230 (by simp only [in_MWorld] <;> omega)
  have c288 : h232[m]? = some (.inr (12, [.int 0, .ref (m + 1), .int 0, .ref (m + 33), .ref (m + 2), .int 1, .int (-1), .int (-1), .ref (m + 64), .ref (m + 74), .ref (m + 84), .ref (m + 94), .int 1, .int 0, .ref (m + 99), .ref (m + 100), .ref (m + 101), .ref (m + 102), .ref (m + 103), .ref (m + 104), .int 0, .ref (m + 105), .int 0, .int 0, .int 0, .ref (m + 106), .ref (m + 107), .int 0, .int 0])) := ab_fr_at f235 c168 (by simp only [in_MWorld] <;> omega)
  have fr289 : ab_fr (fun _ => True) h h232 := ab_fr_tr fr231 (ab_fr_mono f235 (fun _ _ => trivial))
  clear c169 c170 c171 c172 c173 c174 c175 c176 c177 c178 c179 c180 c181 c182 c183 c184 c185 c186 c187 c188 c189 c190 c191 c192 c193 c194 c195 c196 c197 c198 c199 c200 c201 c202 c203 c204 c205 c206 c207 c208 c209 c210 c211 c212 c213 c214 c215 c216 c217 c218 c219 c220 c221 c222 c223 c224 c225 c226 c227 c228 c229 c230 c168 f235 fr231
  try clear h165
  obtain ⟨g290o, g2904, g2905, g2906, g2907, g2909, g29010, g29011, g29012, g29017⟩ := kf234
  replace g290o : h232[m + 74]? = some (.inr (13, [.int 0, .int 0, .int 0, .int 0, .ref (m + 74 + 1), .ref (m + 74 + 2), .ref (m + 74 + 3), .ref (m + 74 + 4), .int 0, .ref (m + 74 + 5), .ref (m + 74 + 6), .ref (m + 74 + 7), .ref (m + 74 + 8), .int (-1), .int 0, .int 0, .int 0, .ref (m + 74 + 9)])) := g290o
  replace g2904 : h232[m + 74 + 1]? = some (.inl (.int, 256, .inl (fun _ => 0))) := g2904
  replace g2905 : h232[m + 74 + 2]? = some (.inl (.boolean, 256, .inl (fun _ => 0))) := g2905
  replace g2906 : h232[m + 74 + 3]? = some (.inl (.int, 256, .inl (fun _ => 0))) := g2906
  replace g2907 : h232[m + 74 + 4]? = some (.inl (.int, 12288, .inl (fun _ => 0))) := g2907
  replace g2909 : h232[m + 74 + 5]? = some (.inl (.int, 256, .inl (fun _ => 0))) := g2909
  replace g29010 : h232[m + 74 + 6]? = some (.inl (.int, 256, .inl (fun _ => 0))) := g29010
  replace g29011 : h232[m + 74 + 7]? = some (.inl (.int, 256, .inl (fun _ => 0))) := g29011
  replace g29012 : h232[m + 74 + 8]? = some (.inl (.int, 1024, .inl (fun _ => 0))) := g29012
  replace g29017 : h232[m + 74 + 9]? = some (.inl (.int, 32, .inl (fun _ => 0))) := g29017
  refine ab_aload_n d_M_text_29 rfl rfl rfl ?_
  refine ab_get (f := 9) d_M_text_30 c288 rfl (by decide) (k10 2 rfl rfl) rfl ?_
  refine ab_iload_n d_M_text_33 rfl rfl ?_
  refine ab_putN (f := 1) d_M_text_34 g290o rfl (by decide) (k9 91 rfl rfl) rfl rfl (fun _ => rfl) (fun _ => rfl) (Nat.le_of_ble_eq_true rfl) ?_
  show ab_V _ _ _ _ _ _ _ 37 [some (.ref m), some (.int e)] [] (h232.set (m+74) (.inr (13, [.int 0, .int e, .int 0, .int 0, .ref (m + 74 + 1), .ref (m + 74 + 2), .ref (m + 74 + 3), .ref (m + 74 + 4), .int 0, .ref (m + 74 + 5), .ref (m + 74 + 6), .ref (m + 74 + 7), .ref (m + 74 + 8), .int (-1), .int 0, .int 0, .int 0, .ref (m + 74 + 9)])))
  refine ab_gen (fun h291 e292 => ?_)
  have c293 : h291[m+1]? = some (.inl (.byte, 6000, .inl (fun _ => 0))) := ab_other e292 (by omega) c236
  have c294 : h291[m+99]? = some (.inl (.int, 256, .inl (fun _ => 0))) := ab_other e292 (by omega) c237
  have c295 : h291[m+100]? = some (.inl (.boolean, 256, .inl (fun _ => 0))) := ab_other e292 (by omega) c238
  have c296 : h291[m+101]? = some (.inl (.int, 64, .inl (fun _ => 0))) := ab_other e292 (by omega) c239
  have c297 : h291[m+102]? = some (.inl (.int, 4, .inl (fun _ => 0))) := ab_other e292 (by omega) c240
  have c298 : h291[m+103]? = some (.inl (.int, 4, .inl (fun _ => 0))) := ab_other e292 (by omega) c241
  have c299 : h291[m+104]? = some (.inl (.int, 256, .inl (fun _ => 0))) := ab_other e292 (by omega) c242
  have c300 : h291[m+105]? = some (.inl (.byte, 58000, .inl (fun _ => 0))) := ab_other e292 (by omega) c243
  have c301 : h291[m+106]? = some (.inl (.boolean, 8, .inl (a0_M w 25))) := ab_other e292 (by omega) c244
  have c302 : h291[m+107]? = some (.inl (.boolean, 8, .inl (fun _ => 0))) := ab_other e292 (by omega) c245
  have c303 : h291[m+2]? = some (.inr (14, [.ref (m + 2 + 1), .int 0, .int 0, .ref (m + 2 + 2), .ref (m + 2 + 3), .ref (m + 2 + 4), .ref (m + 2 + 5), .ref (m + 2 + 6), .ref (m + 2 + 7), .int 0, .int 0, .int 0, .int 0, .ref (m + 2 + 8), .ref (m + 2 + 9), .ref (m + 2 + 10), .int 0, .ref (m + 2 + 11), .ref (m + 2 + 12), .ref (m + 2 + 13), .ref (m + 2 + 14), .int 0, .ref (m + 2 + 15), .ref (m + 2 + 16), .ref (m + 2 + 17), .ref (m + 2 + 18), .int 0, .ref (m + 2 + 19), .ref (m + 2 + 20), .int 0, .ref (m + 2 + 21), .ref (m + 2 + 22), .ref (m + 2 + 23), .ref (m + 2 + 24), .ref (m + 2 + 25), .ref (m + 2 + 26), .ref (m + 2 + 27), .int 0, .ref (m + 2 + 28), .ref (m + 2 + 29), .ref (m + 2 + 30), .int 0, .int 0])) := ab_other e292 (by omega) c246
  have c304 : h291[m+2+1]? = some (.inl (.byte, 6000, .inl (fun _ => 0))) := ab_other e292 (by omega) c247
  have c305 : h291[m+2+2]? = some (.inl (.int, 6002, .inl (fun _ => 0))) := ab_other e292 (by omega) c248
  have c306 : h291[m+2+3]? = some (.inl (.int, 6002, .inl (fun _ => 0))) := ab_other e292 (by omega) c249
  have c307 : h291[m+2+4]? = some (.inl (.int, 6002, .inl (fun _ => 0))) := ab_other e292 (by omega) c250
  have c308 : h291[m+2+5]? = some (.inl (.int, 6002, .inl (fun _ => 0))) := ab_other e292 (by omega) c251
  have c309 : h291[m+2+6]? = some (.inl (.boolean, 6002, .inl (fun _ => 0))) := ab_other e292 (by omega) c252
  have c310 : h291[m+2+7]? = some (.inl (.int, 6002, .inl (fun _ => 0))) := ab_other e292 (by omega) c253
  have c311 : h291[m+2+8]? = some (.inl (.int, 56, .inl (fun _ => 0))) := ab_other e292 (by omega) c254
  have c312 : h291[m+2+9]? = some (.inl (.int, 56, .inl (fun _ => 0))) := ab_other e292 (by omega) c255
  have c313 : h291[m+2+10]? = some (.inl (.int, 56, .inl (fun _ => 0))) := ab_other e292 (by omega) c256
  have c314 : h291[m+2+11]? = some (.inl (.int, 16, .inl (fun _ => 0))) := ab_other e292 (by omega) c257
  have c315 : h291[m+2+12]? = some (.inl (.int, 17, .inl (fun _ => 0))) := ab_other e292 (by omega) c258
  have c316 : h291[m+2+13]? = some (.inl (.int, 48, .inl (fun _ => 0))) := ab_other e292 (by omega) c259
  have c317 : h291[m+2+14]? = some (.inl (.int, 48, .inl (fun _ => 0))) := ab_other e292 (by omega) c260
  have c318 : h291[m+2+15]? = some (.inl (.int, 8, .inl (fun _ => 0))) := ab_other e292 (by omega) c261
  have c319 : h291[m+2+16]? = some (.inl (.int, 8, .inl (fun _ => 0))) := ab_other e292 (by omega) c262
  have c320 : h291[m+2+17]? = some (.inl (.int, 32, .inl (fun _ => 0))) := ab_other e292 (by omega) c263
  have c321 : h291[m+2+18]? = some (.inl (.int, 32, .inl (fun _ => 0))) := ab_other e292 (by omega) c264
  have c322 : h291[m+2+19]? = some (.inl (.int, 16, .inl (fun _ => 0))) := ab_other e292 (by omega) c265
  have c323 : h291[m+2+20]? = some (.inl (.int, 768, .inl (fun _ => 0))) := ab_other e292 (by omega) c266
  have c324 : h291[m+2+21]? = some (.inl (.int, 16, .inl (fun _ => 0))) := ab_other e292 (by omega) c267
  have c325 : h291[m+2+22]? = some (.inl (.int, 16, .inl (fun _ => 0))) := ab_other e292 (by omega) c268
  have c326 : h291[m+2+23]? = some (.inl (.int, 16, .inl (fun _ => 0))) := ab_other e292 (by omega) c269
  have c327 : h291[m+2+24]? = some (.inl (.int, 16, .inl (fun _ => 0))) := ab_other e292 (by omega) c270
  have c328 : h291[m+2+25]? = some (.inl (.int, 16, .inl (fun _ => 0))) := ab_other e292 (by omega) c271
  have c329 : h291[m+2+26]? = some (.inl (.int, 16, .inl (fun _ => 0))) := ab_other e292 (by omega) c272
  have c330 : h291[m+2+27]? = some (.inl (.int, 16, .inl (fun _ => 0))) := ab_other e292 (by omega) c273
  have c331 : h291[m+2+28]? = some (.inl (.int, 12, .inl (fun _ => 0))) := ab_other e292 (by omega) c274
  have c332 : h291[m+2+29]? = some (.inl (.int, 12, .inl (fun _ => 0))) := ab_other e292 (by omega) c275
  have c333 : h291[m+2+30]? = some (.inl (.boolean, 12, .inl (fun _ => 0))) := ab_other e292 (by omega) c276
  have c334 : h291[m+64]? = some (.inr (13, [.int 0, .int 0, .int 0, .int 0, .ref (m + 64 + 1), .ref (m + 64 + 2), .ref (m + 64 + 3), .ref (m + 64 + 4), .int 0, .ref (m + 64 + 5), .ref (m + 64 + 6), .ref (m + 64 + 7), .ref (m + 64 + 8), .int (-1), .int 0, .int 0, .int 0, .ref (m + 64 + 9)])) := ab_other e292 (by omega) c277
  have c335 : h291[m+64+1]? = some (.inl (.int, 256, .inl (fun _ => 0))) := ab_other e292 (by omega) c278
  have c336 : h291[m+64+2]? = some (.inl (.boolean, 256, .inl (fun _ => 0))) := ab_other e292 (by omega) c279
  have c337 : h291[m+64+3]? = some (.inl (.int, 256, .inl (fun _ => 0))) := ab_other e292 (by omega) c280
  have c338 : h291[m+64+4]? = some (.inl (.int, 12288, .inl (fun _ => 0))) := ab_other e292 (by omega) c281
  have c339 : h291[m+64+5]? = some (.inl (.int, 256, .inl (fun _ => 0))) := ab_other e292 (by omega) c282
  have c340 : h291[m+64+6]? = some (.inl (.int, 256, .inl (fun _ => 0))) := ab_other e292 (by omega) c283
  have c341 : h291[m+64+7]? = some (.inl (.int, 256, .inl (fun _ => 0))) := ab_other e292 (by omega) c284
  have c342 : h291[m+64+8]? = some (.inl (.int, 1024, .inl (fun _ => 0))) := ab_other e292 (by omega) c285
  have c343 : h291[m+64+9]? = some (.inl (.int, 32, .inl (fun _ => 0))) := ab_other e292 (by omega) c286
  have c344 : h291[m+33]? = some (.inr (14, [.ref (m + 33 + 1), .int 0, .int 1, .ref (m + 33 + 2), .ref (m + 33 + 3), .ref (m + 33 + 4), .ref (m + 33 + 5), .ref (m + 33 + 6), .ref (m + 33 + 7), .int 0, .int 0, .int 0, .int 0, .ref (m + 33 + 8), .ref (m + 33 + 9), .ref (m + 33 + 10), .int 0, .ref (m + 33 + 11), .ref (m + 33 + 12), .ref (m + 33 + 13), .ref (m + 33 + 14), .int 0, .ref (m + 33 + 15), .ref (m + 33 + 16), .ref (m + 33 + 17), .ref (m + 33 + 18), .int 0, .ref (m + 33 + 19), .ref (m + 33 + 20), .int 0, .ref (m + 33 + 21), .ref (m + 33 + 22), .ref (m + 33 + 23), .ref (m + 33 + 24), .ref (m + 33 + 25), .ref (m + 33 + 26), .ref (m + 33 + 27), .int 0, .ref (m + 33 + 28), .ref (m + 33 + 29), .ref (m + 33 + 30), .int 0, .int 0])) := ab_other e292 (by omega) c287
  have c345 : h291[m]? = some (.inr (12, [.int 0, .ref (m + 1), .int 0, .ref (m + 33), .ref (m + 2), .int 1, .int (-1), .int (-1), .ref (m + 64), .ref (m + 74), .ref (m + 84), .ref (m + 94), .int 1, .int 0, .ref (m + 99), .ref (m + 100), .ref (m + 101), .ref (m + 102), .ref (m + 103), .ref (m + 104), .int 0, .ref (m + 105), .int 0, .int 0, .int 0, .ref (m + 106), .ref (m + 107), .int 0, .int 0])) := ab_other e292 (by omega) c288
  have c346 : h291[m+74]? = some (.inr (13, [.int 0, .int e, .int 0, .int 0, .ref (m + 74 + 1), .ref (m + 74 + 2), .ref (m + 74 + 3), .ref (m + 74 + 4), .int 0, .ref (m + 74 + 5), .ref (m + 74 + 6), .ref (m + 74 + 7), .ref (m + 74 + 8), .int (-1), .int 0, .int 0, .int 0, .ref (m + 74 + 9)])) := ab_self e292 g290o
  have c347 : h291[m+74+1]? = some (.inl (.int, 256, .inl (fun _ => 0))) := ab_other e292 (by omega) g2904
  have c348 : h291[m+74+2]? = some (.inl (.boolean, 256, .inl (fun _ => 0))) := ab_other e292 (by omega) g2905
  have c349 : h291[m+74+3]? = some (.inl (.int, 256, .inl (fun _ => 0))) := ab_other e292 (by omega) g2906
  have c350 : h291[m+74+4]? = some (.inl (.int, 12288, .inl (fun _ => 0))) := ab_other e292 (by omega) g2907
  have c351 : h291[m+74+5]? = some (.inl (.int, 256, .inl (fun _ => 0))) := ab_other e292 (by omega) g2909
  have c352 : h291[m+74+6]? = some (.inl (.int, 256, .inl (fun _ => 0))) := ab_other e292 (by omega) g29010
  have c353 : h291[m+74+7]? = some (.inl (.int, 256, .inl (fun _ => 0))) := ab_other e292 (by omega) g29011
  have c354 : h291[m+74+8]? = some (.inl (.int, 1024, .inl (fun _ => 0))) := ab_other e292 (by omega) g29012
  have c355 : h291[m+74+9]? = some (.inl (.int, 32, .inl (fun _ => 0))) := ab_other e292 (by omega) g29017
  have fr356 : ab_fr (fun _ => True) h h291 := ab_fr_set fr289 e292 (by trivial)
  clear c236 c237 c238 c239 c240 c241 c242 c243 c244 c245 c246 c247 c248 c249 c250 c251 c252 c253 c254 c255 c256 c257 c258 c259 c260 c261 c262 c263 c264 c265 c266 c267 c268 c269 c270 c271 c272 c273 c274 c275 c276 c277 c278 c279 c280 c281 c282 c283 c284 c285 c286 c287 c288 fr289 e292
  try clear h232
  refine ab_aload_n d_M_text_37 rfl rfl rfl ?_
  refine ab_get (f := 8) d_M_text_38 c345 rfl (by decide) (k10 1 rfl rfl) rfl ?_
  refine ab_aload_n d_M_text_41 rfl rfl rfl ?_
  refine ab_get (f := 9) d_M_text_42 c345 rfl (by decide) (k10 2 rfl rfl) rfl ?_
  refine ab_callV_v (As := [.ref (m + 74)]) (rest := []) d_M_text_45 (r_MWorld_copies (show at_MWorld h291 (m + 64) (lf [0, 0, 0, 0, 0, 0, 0, 0, 0, 0, 0, 0, 0, (-1), 0, 0, 0, 0]) (fun k => if k = 4 then (fun _ => 0) else if k = 5 then (fun _ => 0) else if k = 6 then (fun _ => 0) else if k = 7 then (fun _ => 0) else if k = 9 then (fun _ => 0) else if k = 10 then (fun _ => 0) else if k = 11 then (fun _ => 0) else if k = 12 then (fun _ => 0) else if k = 17 then (fun _ => 0) else fun _ => 0) from ⟨c334, c335, c336, c337, c338, c339, c340, c341, c342, c343⟩) (show at_MWorld h291 (m + 74) (lf [0, e, 0, 0, 0, 0, 0, 0, 0, 0, 0, 0, 0, (-1), 0, 0, 0, 0]) (fun k => if k = 4 then (fun _ => 0) else if k = 5 then (fun _ => 0) else if k = 6 then (fun _ => 0) else if k = 7 then (fun _ => 0) else if k = 9 then (fun _ => 0) else if k = 10 then (fun _ => 0) else if k = 11 then (fun _ => 0) else if k = 12 then (fun _ => 0) else if k = 17 then (fun _ => 0) else fun _ => 0) from ⟨c346, c347, c348, c349, c350, c351, c352, c353, c354, c355⟩) (by omega) rfl) (ab_mkC s_MWorld_copies (Nat.le_of_ble_eq_true rfl) (Nat.le_of_ble_eq_true rfl) (by decide) (by decide)) (k11 146 rfl rfl) i_MWorld_copies v_MWorld_copies c334 rfl rfl (Nat.le_of_ble_eq_true rfl) (fun h357 q358 => ?_)
  obtain ⟨a361, kf359, f360⟩ := q358
  have c362 : h357[m+1]? = some (.inl (.byte, 6000, .inl (fun _ => 0))) := ab_fr_at f360 c293 (by simp only [in_MWorld] <;> omega)
  have c363 : h357[m+99]? = some (.inl (.int, 256, .inl (fun _ => 0))) := ab_fr_at f360 c294 (by simp only [in_MWorld] <;> omega)
  have c364 : h357[m+100]? = some (.inl (.boolean, 256, .inl (fun _ => 0))) := ab_fr_at f360 c295 (by simp only [in_MWorld] <;> omega)
  have c365 : h357[m+101]? = some (.inl (.int, 64, .inl (fun _ => 0))) := ab_fr_at f360 c296 (by simp only [in_MWorld] <;> omega)
  have c366 : h357[m+102]? = some (.inl (.int, 4, .inl (fun _ => 0))) := ab_fr_at f360 c297 (by simp only [in_MWorld] <;> omega)
  have c367 : h357[m+103]? = some (.inl (.int, 4, .inl (fun _ => 0))) := ab_fr_at f360 c298 (by simp only [in_MWorld] <;> omega)
  have c368 : h357[m+104]? = some (.inl (.int, 256, .inl (fun _ => 0))) := ab_fr_at f360 c299 (by simp only [in_MWorld] <;> omega)
  have c369 : h357[m+105]? = some (.inl (.byte, 58000, .inl (fun _ => 0))) := ab_fr_at f360 c300 (by simp only [in_MWorld] <;> omega)
  have c370 : h357[m+106]? = some (.inl (.boolean, 8, .inl (a0_M w 25))) := ab_fr_at f360 c301 (by simp only [in_MWorld] <;> omega)
  have c371 : h357[m+107]? = some (.inl (.boolean, 8, .inl (fun _ => 0))) := ab_fr_at f360 c302 (by simp only [in_MWorld] <;> omega)
  have c372 : h357[m+2]? = some (.inr (14, [.ref (m + 2 + 1), .int 0, .int 0, .ref (m + 2 + 2), .ref (m + 2 + 3), .ref (m + 2 + 4), .ref (m + 2 + 5), .ref (m + 2 + 6), .ref (m + 2 + 7), .int 0, .int 0, .int 0, .int 0, .ref (m + 2 + 8), .ref (m + 2 + 9), .ref (m + 2 + 10), .int 0, .ref (m + 2 + 11), .ref (m + 2 + 12), .ref (m + 2 + 13), .ref (m + 2 + 14), .int 0, .ref (m + 2 + 15), .ref (m + 2 + 16), .ref (m + 2 + 17), .ref (m + 2 + 18), .int 0, .ref (m + 2 + 19), .ref (m + 2 + 20), .int 0, .ref (m + 2 + 21), .ref (m + 2 + 22), .ref (m + 2 + 23), .ref (m + 2 + 24), .ref (m + 2 + 25), .ref (m + 2 + 26), .ref (m + 2 + 27), .int 0, .ref (m + 2 + 28), .ref (m + 2 + 29), .ref (m + 2 + 30), .int 0, .int 0])) := ab_fr_at f360 c303 (by simp only [in_MWorld] <;> omega)
  have c373 : h357[m+2+1]? = some (.inl (.byte, 6000, .inl (fun _ => 0))) := ab_fr_at f360 c304 (by simp only [in_MWorld] <;> omega)
  have c374 : h357[m+2+2]? = some (.inl (.int, 6002, .inl (fun _ => 0))) := ab_fr_at f360 c305 (by simp only [in_MWorld] <;> omega)
  have c375 : h357[m+2+3]? = some (.inl (.int, 6002, .inl (fun _ => 0))) := ab_fr_at f360 c306 (by simp only [in_MWorld] <;> omega)
  have c376 : h357[m+2+4]? = some (.inl (.int, 6002, .inl (fun _ => 0))) := ab_fr_at f360 c307 (by simp only [in_MWorld] <;> omega)
  have c377 : h357[m+2+5]? = some (.inl (.int, 6002, .inl (fun _ => 0))) := ab_fr_at f360 c308 (by simp only [in_MWorld] <;> omega)
  have c378 : h357[m+2+6]? = some (.inl (.boolean, 6002, .inl (fun _ => 0))) := ab_fr_at f360 c309 (by simp only [in_MWorld] <;> omega)
  have c379 : h357[m+2+7]? = some (.inl (.int, 6002, .inl (fun _ => 0))) := ab_fr_at f360 c310 (by simp only [in_MWorld] <;> omega)
  have c380 : h357[m+2+8]? = some (.inl (.int, 56, .inl (fun _ => 0))) := ab_fr_at f360 c311 (by simp only [in_MWorld] <;> omega)
  have c381 : h357[m+2+9]? = some (.inl (.int, 56, .inl (fun _ => 0))) := ab_fr_at f360 c312 (by simp only [in_MWorld] <;> omega)
  have c382 : h357[m+2+10]? = some (.inl (.int, 56, .inl (fun _ => 0))) := ab_fr_at f360 c313 (by simp only [in_MWorld] <;> omega)
  have c383 : h357[m+2+11]? = some (.inl (.int, 16, .inl (fun _ => 0))) := ab_fr_at f360 c314 (by simp only [in_MWorld] <;> omega)
  have c384 : h357[m+2+12]? = some (.inl (.int, 17, .inl (fun _ => 0))) := ab_fr_at f360 c315 (by simp only [in_MWorld] <;> omega)
  have c385 : h357[m+2+13]? = some (.inl (.int, 48, .inl (fun _ => 0))) := ab_fr_at f360 c316 (by simp only [in_MWorld] <;> omega)
  have c386 : h357[m+2+14]? = some (.inl (.int, 48, .inl (fun _ => 0))) := ab_fr_at f360 c317 (by simp only [in_MWorld] <;> omega)
  have c387 : h357[m+2+15]? = some (.inl (.int, 8, .inl (fun _ => 0))) := ab_fr_at f360 c318 (by simp only [in_MWorld] <;> omega)
  have c388 : h357[m+2+16]? = some (.inl (.int, 8, .inl (fun _ => 0))) := ab_fr_at f360 c319 (by simp only [in_MWorld] <;> omega)
  have c389 : h357[m+2+17]? = some (.inl (.int, 32, .inl (fun _ => 0))) := ab_fr_at f360 c320 (by simp only [in_MWorld] <;> omega)
  have c390 : h357[m+2+18]? = some (.inl (.int, 32, .inl (fun _ => 0))) := ab_fr_at f360 c321 (by simp only [in_MWorld] <;> omega)
  have c391 : h357[m+2+19]? = some (.inl (.int, 16, .inl (fun _ => 0))) := ab_fr_at f360 c322 (by simp only [in_MWorld] <;> omega)
  have c392 : h357[m+2+20]? = some (.inl (.int, 768, .inl (fun _ => 0))) := ab_fr_at f360 c323 (by simp only [in_MWorld] <;> omega)
  have c393 : h357[m+2+21]? = some (.inl (.int, 16, .inl (fun _ => 0))) := ab_fr_at f360 c324 (by simp only [in_MWorld] <;> omega)
  have c394 : h357[m+2+22]? = some (.inl (.int, 16, .inl (fun _ => 0))) := ab_fr_at f360 c325 (by simp only [in_MWorld] <;> omega)
  have c395 : h357[m+2+23]? = some (.inl (.int, 16, .inl (fun _ => 0))) := ab_fr_at f360 c326 (by simp only [in_MWorld] <;> omega)
  have c396 : h357[m+2+24]? = some (.inl (.int, 16, .inl (fun _ => 0))) := ab_fr_at f360 c327 (by simp only [in_MWorld] <;> omega)
  have c397 : h357[m+2+25]? = some (.inl (.int, 16, .inl (fun _ => 0))) := ab_fr_at f360 c328 (by simp only [in_MWorld] <;> omega)
  have c398 : h357[m+2+26]? = some (.inl (.int, 16, .inl (fun _ => 0))) := ab_fr_at f360 c329 (by simp only [in_MWorld] <;> omega)
  have c399 : h357[m+2+27]? = some (.inl (.int, 16, .inl (fun _ => 0))) := ab_fr_at f360 c330 (by simp only [in_MWorld] <;> omega)
  have c400 : h357[m+2+28]? = some (.inl (.int, 12, .inl (fun _ => 0))) := ab_fr_at f360 c331 (by simp only [in_MWorld] <;> omega)
  have c401 : h357[m+2+29]? = some (.inl (.int, 12, .inl (fun _ => 0))) := ab_fr_at f360 c332 (by simp only [in_MWorld] <;> omega)
  have c402 : h357[m+2+30]? = some (.inl (.boolean, 12, .inl (fun _ => 0))) := ab_fr_at f360 c333 (by simp only [in_MWorld] <;> omega)
  have c403 : h357[m+33]? = some (.inr (14, [.ref (m + 33 + 1), .int 0, .int 1, .ref (m + 33 + 2), .ref (m + 33 + 3), .ref (m + 33 + 4), .ref (m + 33 + 5), .ref (m + 33 + 6), .ref (m + 33 + 7), .int 0, .int 0, .int 0, .int 0, .ref (m + 33 + 8), .ref (m + 33 + 9), .ref (m + 33 + 10), .int 0, .ref (m + 33 + 11), .ref (m + 33 + 12), .ref (m + 33 + 13), .ref (m + 33 + 14), .int 0, .ref (m + 33 + 15), .ref (m + 33 + 16), .ref (m + 33 + 17), .ref (m + 33 + 18), .int 0, .ref (m + 33 + 19), .ref (m + 33 + 20), .int 0, .ref (m + 33 + 21), .ref (m + 33 + 22), .ref (m + 33 + 23), .ref (m + 33 + 24), .ref (m + 33 + 25), .ref (m + 33 + 26), .ref (m + 33 + 27), .int 0, .ref (m + 33 + 28), .ref (m + 33 + 29), .ref (m + 33 + 30), .int 0, .int 0])) := ab_fr_at f360 c344 (by simp only [in_MWorld] <;> omega)
  have c404 : h357[m]? = some (.inr (12, [.int 0, .ref (m + 1), .int 0, .ref (m + 33), .ref (m + 2), .int 1, .int (-1), .int (-1), .ref (m + 64), .ref (m + 74), .ref (m + 84), .ref (m + 94), .int 1, .int 0, .ref (m + 99), .ref (m + 100), .ref (m + 101), .ref (m + 102), .ref (m + 103), .ref (m + 104), .int 0, .ref (m + 105), .int 0, .int 0, .int 0, .ref (m + 106), .ref (m + 107), .int 0, .int 0])) := ab_fr_at f360 c345 (by simp only [in_MWorld] <;> omega)
  have c405 : h357[m+74]? = some (.inr (13, [.int 0, .int e, .int 0, .int 0, .ref (m + 74 + 1), .ref (m + 74 + 2), .ref (m + 74 + 3), .ref (m + 74 + 4), .int 0, .ref (m + 74 + 5), .ref (m + 74 + 6), .ref (m + 74 + 7), .ref (m + 74 + 8), .int (-1), .int 0, .int 0, .int 0, .ref (m + 74 + 9)])) := ab_fr_at f360 c346 (by simp only [in_MWorld] <;> omega)
  have c406 : h357[m+74+1]? = some (.inl (.int, 256, .inl (fun _ => 0))) := ab_fr_at f360 c347 (by simp only [in_MWorld] <;> omega)
  have c407 : h357[m+74+2]? = some (.inl (.boolean, 256, .inl (fun _ => 0))) := ab_fr_at f360 c348 (by simp only [in_MWorld] <;> omega)
  have c408 : h357[m+74+3]? = some (.inl (.int, 256, .inl (fun _ => 0))) := ab_fr_at f360 c349 (by simp only [in_MWorld] <;> omega)
  have c409 : h357[m+74+4]? = some (.inl (.int, 12288, .inl (fun _ => 0))) := ab_fr_at f360 c350 (by simp only [in_MWorld] <;> omega)
  have c410 : h357[m+74+5]? = some (.inl (.int, 256, .inl (fun _ => 0))) := ab_fr_at f360 c351 (by simp only [in_MWorld] <;> omega)
  have c411 : h357[m+74+6]? = some (.inl (.int, 256, .inl (fun _ => 0))) := ab_fr_at f360 c352 (by simp only [in_MWorld] <;> omega)
  have c412 : h357[m+74+7]? = some (.inl (.int, 256, .inl (fun _ => 0))) := ab_fr_at f360 c353 (by simp only [in_MWorld] <;> omega)
  have c413 : h357[m+74+8]? = some (.inl (.int, 1024, .inl (fun _ => 0))) := ab_fr_at f360 c354 (by simp only [in_MWorld] <;> omega)
  have c414 : h357[m+74+9]? = some (.inl (.int, 32, .inl (fun _ => 0))) := ab_fr_at f360 c355 (by simp only [in_MWorld] <;> omega)
  have fr415 : ab_fr (fun _ => True) h h357 := ab_fr_tr fr356 (ab_fr_mono f360 (fun _ _ => trivial))
  clear c293 c294 c295 c296 c297 c298 c299 c300 c301 c302 c303 c304 c305 c306 c307 c308 c309 c310 c311 c312 c313 c314 c315 c316 c317 c318 c319 c320 c321 c322 c323 c324 c325 c326 c327 c328 c329 c330 c331 c332 c333 c334 c335 c336 c337 c338 c339 c340 c341 c342 c343 c344 c345 c346 c347 c348 c349 c350 c351 c352 c353 c354 c355 f360 fr356
  try clear h291
  refine ab_aload_n d_M_text_48 rfl rfl rfl ?_
  refine ab_callV_v (As := []) (rest := []) d_M_text_49 (r_M_forgets c404 c364 c366 (by omega) (by omega) (by omega)) (ab_mkC s_M_forgets (Nat.le_of_ble_eq_true rfl) (Nat.le_of_ble_eq_true rfl) (by decide) (by decide)) (k11 154 rfl rfl) i_M_forgets v_M_forgets c404 rfl rfl (Nat.le_of_ble_eq_true rfl) (fun h416 q417 => ?_)
  have f418 := q417
  have c419 : h416[m+1]? = some (.inl (.byte, 6000, .inl (fun _ => 0))) := ab_fr_at f418 c362 (by omega)
  have c420 : h416[m+99]? = some (.inl (.int, 256, .inl (fun _ => 0))) := ab_fr_at f418 c363 (by omega)
  have c421 : h416[m+101]? = some (.inl (.int, 64, .inl (fun _ => 0))) := ab_fr_at f418 c365 (by omega)
  have c422 : h416[m+103]? = some (.inl (.int, 4, .inl (fun _ => 0))) := ab_fr_at f418 c367 (by omega)
  have c423 : h416[m+104]? = some (.inl (.int, 256, .inl (fun _ => 0))) := ab_fr_at f418 c368 (by omega)
  have c424 : h416[m+105]? = some (.inl (.byte, 58000, .inl (fun _ => 0))) := ab_fr_at f418 c369 (by omega)
  have c425 : h416[m+106]? = some (.inl (.boolean, 8, .inl (a0_M w 25))) := ab_fr_at f418 c370 (by omega)
  have c426 : h416[m+107]? = some (.inl (.boolean, 8, .inl (fun _ => 0))) := ab_fr_at f418 c371 (by omega)
  have c427 : h416[m+2]? = some (.inr (14, [.ref (m + 2 + 1), .int 0, .int 0, .ref (m + 2 + 2), .ref (m + 2 + 3), .ref (m + 2 + 4), .ref (m + 2 + 5), .ref (m + 2 + 6), .ref (m + 2 + 7), .int 0, .int 0, .int 0, .int 0, .ref (m + 2 + 8), .ref (m + 2 + 9), .ref (m + 2 + 10), .int 0, .ref (m + 2 + 11), .ref (m + 2 + 12), .ref (m + 2 + 13), .ref (m + 2 + 14), .int 0, .ref (m + 2 + 15), .ref (m + 2 + 16), .ref (m + 2 + 17), .ref (m + 2 + 18), .int 0, .ref (m + 2 + 19), .ref (m + 2 + 20), .int 0, .ref (m + 2 + 21), .ref (m + 2 + 22), .ref (m + 2 + 23), .ref (m + 2 + 24), .ref (m + 2 + 25), .ref (m + 2 + 26), .ref (m + 2 + 27), .int 0, .ref (m + 2 + 28), .ref (m + 2 + 29), .ref (m + 2 + 30), .int 0, .int 0])) := ab_fr_at f418 c372 (by omega)
  have c428 : h416[m+2+1]? = some (.inl (.byte, 6000, .inl (fun _ => 0))) := ab_fr_at f418 c373 (by omega)
  have c429 : h416[m+2+2]? = some (.inl (.int, 6002, .inl (fun _ => 0))) := ab_fr_at f418 c374 (by omega)
  have c430 : h416[m+2+3]? = some (.inl (.int, 6002, .inl (fun _ => 0))) := ab_fr_at f418 c375 (by omega)
  have c431 : h416[m+2+4]? = some (.inl (.int, 6002, .inl (fun _ => 0))) := ab_fr_at f418 c376 (by omega)
  have c432 : h416[m+2+5]? = some (.inl (.int, 6002, .inl (fun _ => 0))) := ab_fr_at f418 c377 (by omega)
  have c433 : h416[m+2+6]? = some (.inl (.boolean, 6002, .inl (fun _ => 0))) := ab_fr_at f418 c378 (by omega)
  have c434 : h416[m+2+7]? = some (.inl (.int, 6002, .inl (fun _ => 0))) := ab_fr_at f418 c379 (by omega)
  have c435 : h416[m+2+8]? = some (.inl (.int, 56, .inl (fun _ => 0))) := ab_fr_at f418 c380 (by omega)
  have c436 : h416[m+2+9]? = some (.inl (.int, 56, .inl (fun _ => 0))) := ab_fr_at f418 c381 (by omega)
  have c437 : h416[m+2+10]? = some (.inl (.int, 56, .inl (fun _ => 0))) := ab_fr_at f418 c382 (by omega)
  have c438 : h416[m+2+11]? = some (.inl (.int, 16, .inl (fun _ => 0))) := ab_fr_at f418 c383 (by omega)
  have c439 : h416[m+2+12]? = some (.inl (.int, 17, .inl (fun _ => 0))) := ab_fr_at f418 c384 (by omega)
  have c440 : h416[m+2+13]? = some (.inl (.int, 48, .inl (fun _ => 0))) := ab_fr_at f418 c385 (by omega)
  have c441 : h416[m+2+14]? = some (.inl (.int, 48, .inl (fun _ => 0))) := ab_fr_at f418 c386 (by omega)
  have c442 : h416[m+2+15]? = some (.inl (.int, 8, .inl (fun _ => 0))) := ab_fr_at f418 c387 (by omega)
  have c443 : h416[m+2+16]? = some (.inl (.int, 8, .inl (fun _ => 0))) := ab_fr_at f418 c388 (by omega)
  have c444 : h416[m+2+17]? = some (.inl (.int, 32, .inl (fun _ => 0))) := ab_fr_at f418 c389 (by omega)
  have c445 : h416[m+2+18]? = some (.inl (.int, 32, .inl (fun _ => 0))) := ab_fr_at f418 c390 (by omega)
  have c446 : h416[m+2+19]? = some (.inl (.int, 16, .inl (fun _ => 0))) := ab_fr_at f418 c391 (by omega)
  have c447 : h416[m+2+20]? = some (.inl (.int, 768, .inl (fun _ => 0))) := ab_fr_at f418 c392 (by omega)
  have c448 : h416[m+2+21]? = some (.inl (.int, 16, .inl (fun _ => 0))) := ab_fr_at f418 c393 (by omega)
  have c449 : h416[m+2+22]? = some (.inl (.int, 16, .inl (fun _ => 0))) := ab_fr_at f418 c394 (by omega)
  have c450 : h416[m+2+23]? = some (.inl (.int, 16, .inl (fun _ => 0))) := ab_fr_at f418 c395 (by omega)
  have c451 : h416[m+2+24]? = some (.inl (.int, 16, .inl (fun _ => 0))) := ab_fr_at f418 c396 (by omega)
  have c452 : h416[m+2+25]? = some (.inl (.int, 16, .inl (fun _ => 0))) := ab_fr_at f418 c397 (by omega)
  have c453 : h416[m+2+26]? = some (.inl (.int, 16, .inl (fun _ => 0))) := ab_fr_at f418 c398 (by omega)
  have c454 : h416[m+2+27]? = some (.inl (.int, 16, .inl (fun _ => 0))) := ab_fr_at f418 c399 (by omega)
  have c455 : h416[m+2+28]? = some (.inl (.int, 12, .inl (fun _ => 0))) := ab_fr_at f418 c400 (by omega)
  have c456 : h416[m+2+29]? = some (.inl (.int, 12, .inl (fun _ => 0))) := ab_fr_at f418 c401 (by omega)
  have c457 : h416[m+2+30]? = some (.inl (.boolean, 12, .inl (fun _ => 0))) := ab_fr_at f418 c402 (by omega)
  have c458 : h416[m+33]? = some (.inr (14, [.ref (m + 33 + 1), .int 0, .int 1, .ref (m + 33 + 2), .ref (m + 33 + 3), .ref (m + 33 + 4), .ref (m + 33 + 5), .ref (m + 33 + 6), .ref (m + 33 + 7), .int 0, .int 0, .int 0, .int 0, .ref (m + 33 + 8), .ref (m + 33 + 9), .ref (m + 33 + 10), .int 0, .ref (m + 33 + 11), .ref (m + 33 + 12), .ref (m + 33 + 13), .ref (m + 33 + 14), .int 0, .ref (m + 33 + 15), .ref (m + 33 + 16), .ref (m + 33 + 17), .ref (m + 33 + 18), .int 0, .ref (m + 33 + 19), .ref (m + 33 + 20), .int 0, .ref (m + 33 + 21), .ref (m + 33 + 22), .ref (m + 33 + 23), .ref (m + 33 + 24), .ref (m + 33 + 25), .ref (m + 33 + 26), .ref (m + 33 + 27), .int 0, .ref (m + 33 + 28), .ref (m + 33 + 29), .ref (m + 33 + 30), .int 0, .int 0])) := ab_fr_at f418 c403 (by omega)
  have c459 : h416[m]? = some (.inr (12, [.int 0, .ref (m + 1), .int 0, .ref (m + 33), .ref (m + 2), .int 1, .int (-1), .int (-1), .ref (m + 64), .ref (m + 74), .ref (m + 84), .ref (m + 94), .int 1, .int 0, .ref (m + 99), .ref (m + 100), .ref (m + 101), .ref (m + 102), .ref (m + 103), .ref (m + 104), .int 0, .ref (m + 105), .int 0, .int 0, .int 0, .ref (m + 106), .ref (m + 107), .int 0, .int 0])) := ab_fr_at f418 c404 (by omega)
  have c460 : h416[m+74]? = some (.inr (13, [.int 0, .int e, .int 0, .int 0, .ref (m + 74 + 1), .ref (m + 74 + 2), .ref (m + 74 + 3), .ref (m + 74 + 4), .int 0, .ref (m + 74 + 5), .ref (m + 74 + 6), .ref (m + 74 + 7), .ref (m + 74 + 8), .int (-1), .int 0, .int 0, .int 0, .ref (m + 74 + 9)])) := ab_fr_at f418 c405 (by omega)
  have c461 : h416[m+74+1]? = some (.inl (.int, 256, .inl (fun _ => 0))) := ab_fr_at f418 c406 (by omega)
  have c462 : h416[m+74+2]? = some (.inl (.boolean, 256, .inl (fun _ => 0))) := ab_fr_at f418 c407 (by omega)
  have c463 : h416[m+74+3]? = some (.inl (.int, 256, .inl (fun _ => 0))) := ab_fr_at f418 c408 (by omega)
  have c464 : h416[m+74+4]? = some (.inl (.int, 12288, .inl (fun _ => 0))) := ab_fr_at f418 c409 (by omega)
  have c465 : h416[m+74+5]? = some (.inl (.int, 256, .inl (fun _ => 0))) := ab_fr_at f418 c410 (by omega)
  have c466 : h416[m+74+6]? = some (.inl (.int, 256, .inl (fun _ => 0))) := ab_fr_at f418 c411 (by omega)
  have c467 : h416[m+74+7]? = some (.inl (.int, 256, .inl (fun _ => 0))) := ab_fr_at f418 c412 (by omega)
  have c468 : h416[m+74+8]? = some (.inl (.int, 1024, .inl (fun _ => 0))) := ab_fr_at f418 c413 (by omega)
  have c469 : h416[m+74+9]? = some (.inl (.int, 32, .inl (fun _ => 0))) := ab_fr_at f418 c414 (by omega)
  have fr470 : ab_fr (fun _ => True) h h416 := ab_fr_tr fr415 (ab_fr_mono f418 (fun _ _ => trivial))
  clear c362 c363 c365 c367 c368 c369 c370 c371 c372 c373 c374 c375 c376 c377 c378 c379 c380 c381 c382 c383 c384 c385 c386 c387 c388 c389 c390 c391 c392 c393 c394 c395 c396 c397 c398 c399 c400 c401 c402 c403 c404 c405 c406 c407 c408 c409 c410 c411 c412 c413 c414 f418 fr415
  try clear h357
  refine ab_aload_n d_M_text_52 rfl rfl rfl ?_
  refine ab_iconst (v := 0) d_M_text_53 (by decide) ?_
  refine ab_put (f := 20) d_M_text_54 c459 rfl (by decide) (k10 13 rfl rfl) rfl rfl (fun _ => rfl) (fun _ => rfl) (Nat.le_of_ble_eq_true rfl) ?_
  show ab_V _ _ _ _ _ _ _ 57 [some (.ref m), some (.int e)] [] (h416.set m (.inr (12, [.int 0, .ref (m + 1), .int 0, .ref (m + 33), .ref (m + 2), .int 1, .int (-1), .int (-1), .ref (m + 64), .ref (m + 74), .ref (m + 84), .ref (m + 94), .int 1, .int 0, .ref (m + 99), .ref (m + 100), .ref (m + 101), .ref (m + 102), .ref (m + 103), .ref (m + 104), .int 0, .ref (m + 105), .int 0, .int 0, .int 0, .ref (m + 106), .ref (m + 107), .int 0, .int 0])))
  refine ab_gen (fun h471 e472 => ?_)
  have c473 : h471[m+1]? = some (.inl (.byte, 6000, .inl (fun _ => 0))) := ab_other e472 (by omega) c419
  have c474 : h471[m+99]? = some (.inl (.int, 256, .inl (fun _ => 0))) := ab_other e472 (by omega) c420
  have c475 : h471[m+101]? = some (.inl (.int, 64, .inl (fun _ => 0))) := ab_other e472 (by omega) c421
  have c476 : h471[m+103]? = some (.inl (.int, 4, .inl (fun _ => 0))) := ab_other e472 (by omega) c422
  have c477 : h471[m+104]? = some (.inl (.int, 256, .inl (fun _ => 0))) := ab_other e472 (by omega) c423
  have c478 : h471[m+105]? = some (.inl (.byte, 58000, .inl (fun _ => 0))) := ab_other e472 (by omega) c424
  have c479 : h471[m+106]? = some (.inl (.boolean, 8, .inl (a0_M w 25))) := ab_other e472 (by omega) c425
  have c480 : h471[m+107]? = some (.inl (.boolean, 8, .inl (fun _ => 0))) := ab_other e472 (by omega) c426
  have c481 : h471[m+2]? = some (.inr (14, [.ref (m + 2 + 1), .int 0, .int 0, .ref (m + 2 + 2), .ref (m + 2 + 3), .ref (m + 2 + 4), .ref (m + 2 + 5), .ref (m + 2 + 6), .ref (m + 2 + 7), .int 0, .int 0, .int 0, .int 0, .ref (m + 2 + 8), .ref (m + 2 + 9), .ref (m + 2 + 10), .int 0, .ref (m + 2 + 11), .ref (m + 2 + 12), .ref (m + 2 + 13), .ref (m + 2 + 14), .int 0, .ref (m + 2 + 15), .ref (m + 2 + 16), .ref (m + 2 + 17), .ref (m + 2 + 18), .int 0, .ref (m + 2 + 19), .ref (m + 2 + 20), .int 0, .ref (m + 2 + 21), .ref (m + 2 + 22), .ref (m + 2 + 23), .ref (m + 2 + 24), .ref (m + 2 + 25), .ref (m + 2 + 26), .ref (m + 2 + 27), .int 0, .ref (m + 2 + 28), .ref (m + 2 + 29), .ref (m + 2 + 30), .int 0, .int 0])) := ab_other e472 (by omega) c427
  have c482 : h471[m+2+1]? = some (.inl (.byte, 6000, .inl (fun _ => 0))) := ab_other e472 (by omega) c428
  have c483 : h471[m+2+2]? = some (.inl (.int, 6002, .inl (fun _ => 0))) := ab_other e472 (by omega) c429
  have c484 : h471[m+2+3]? = some (.inl (.int, 6002, .inl (fun _ => 0))) := ab_other e472 (by omega) c430
  have c485 : h471[m+2+4]? = some (.inl (.int, 6002, .inl (fun _ => 0))) := ab_other e472 (by omega) c431
  have c486 : h471[m+2+5]? = some (.inl (.int, 6002, .inl (fun _ => 0))) := ab_other e472 (by omega) c432
  have c487 : h471[m+2+6]? = some (.inl (.boolean, 6002, .inl (fun _ => 0))) := ab_other e472 (by omega) c433
  have c488 : h471[m+2+7]? = some (.inl (.int, 6002, .inl (fun _ => 0))) := ab_other e472 (by omega) c434
  have c489 : h471[m+2+8]? = some (.inl (.int, 56, .inl (fun _ => 0))) := ab_other e472 (by omega) c435
  have c490 : h471[m+2+9]? = some (.inl (.int, 56, .inl (fun _ => 0))) := ab_other e472 (by omega) c436
  have c491 : h471[m+2+10]? = some (.inl (.int, 56, .inl (fun _ => 0))) := ab_other e472 (by omega) c437
  have c492 : h471[m+2+11]? = some (.inl (.int, 16, .inl (fun _ => 0))) := ab_other e472 (by omega) c438
  have c493 : h471[m+2+12]? = some (.inl (.int, 17, .inl (fun _ => 0))) := ab_other e472 (by omega) c439
  have c494 : h471[m+2+13]? = some (.inl (.int, 48, .inl (fun _ => 0))) := ab_other e472 (by omega) c440
  have c495 : h471[m+2+14]? = some (.inl (.int, 48, .inl (fun _ => 0))) := ab_other e472 (by omega) c441
  have c496 : h471[m+2+15]? = some (.inl (.int, 8, .inl (fun _ => 0))) := ab_other e472 (by omega) c442
  have c497 : h471[m+2+16]? = some (.inl (.int, 8, .inl (fun _ => 0))) := ab_other e472 (by omega) c443
  have c498 : h471[m+2+17]? = some (.inl (.int, 32, .inl (fun _ => 0))) := ab_other e472 (by omega) c444
  have c499 : h471[m+2+18]? = some (.inl (.int, 32, .inl (fun _ => 0))) := ab_other e472 (by omega) c445
  have c500 : h471[m+2+19]? = some (.inl (.int, 16, .inl (fun _ => 0))) := ab_other e472 (by omega) c446
  have c501 : h471[m+2+20]? = some (.inl (.int, 768, .inl (fun _ => 0))) := ab_other e472 (by omega) c447
  have c502 : h471[m+2+21]? = some (.inl (.int, 16, .inl (fun _ => 0))) := ab_other e472 (by omega) c448
  have c503 : h471[m+2+22]? = some (.inl (.int, 16, .inl (fun _ => 0))) := ab_other e472 (by omega) c449
  have c504 : h471[m+2+23]? = some (.inl (.int, 16, .inl (fun _ => 0))) := ab_other e472 (by omega) c450
  have c505 : h471[m+2+24]? = some (.inl (.int, 16, .inl (fun _ => 0))) := ab_other e472 (by omega) c451
  have c506 : h471[m+2+25]? = some (.inl (.int, 16, .inl (fun _ => 0))) := ab_other e472 (by omega) c452
  have c507 : h471[m+2+26]? = some (.inl (.int, 16, .inl (fun _ => 0))) := ab_other e472 (by omega) c453
  have c508 : h471[m+2+27]? = some (.inl (.int, 16, .inl (fun _ => 0))) := ab_other e472 (by omega) c454
  have c509 : h471[m+2+28]? = some (.inl (.int, 12, .inl (fun _ => 0))) := ab_other e472 (by omega) c455
  have c510 : h471[m+2+29]? = some (.inl (.int, 12, .inl (fun _ => 0))) := ab_other e472 (by omega) c456
  have c511 : h471[m+2+30]? = some (.inl (.boolean, 12, .inl (fun _ => 0))) := ab_other e472 (by omega) c457
  have c512 : h471[m+33]? = some (.inr (14, [.ref (m + 33 + 1), .int 0, .int 1, .ref (m + 33 + 2), .ref (m + 33 + 3), .ref (m + 33 + 4), .ref (m + 33 + 5), .ref (m + 33 + 6), .ref (m + 33 + 7), .int 0, .int 0, .int 0, .int 0, .ref (m + 33 + 8), .ref (m + 33 + 9), .ref (m + 33 + 10), .int 0, .ref (m + 33 + 11), .ref (m + 33 + 12), .ref (m + 33 + 13), .ref (m + 33 + 14), .int 0, .ref (m + 33 + 15), .ref (m + 33 + 16), .ref (m + 33 + 17), .ref (m + 33 + 18), .int 0, .ref (m + 33 + 19), .ref (m + 33 + 20), .int 0, .ref (m + 33 + 21), .ref (m + 33 + 22), .ref (m + 33 + 23), .ref (m + 33 + 24), .ref (m + 33 + 25), .ref (m + 33 + 26), .ref (m + 33 + 27), .int 0, .ref (m + 33 + 28), .ref (m + 33 + 29), .ref (m + 33 + 30), .int 0, .int 0])) := ab_other e472 (by omega) c458
  have c513 : h471[m]? = some (.inr (12, [.int 0, .ref (m + 1), .int 0, .ref (m + 33), .ref (m + 2), .int 1, .int (-1), .int (-1), .ref (m + 64), .ref (m + 74), .ref (m + 84), .ref (m + 94), .int 1, .int 0, .ref (m + 99), .ref (m + 100), .ref (m + 101), .ref (m + 102), .ref (m + 103), .ref (m + 104), .int 0, .ref (m + 105), .int 0, .int 0, .int 0, .ref (m + 106), .ref (m + 107), .int 0, .int 0])) := ab_self e472 c459
  have c514 : h471[m+74]? = some (.inr (13, [.int 0, .int e, .int 0, .int 0, .ref (m + 74 + 1), .ref (m + 74 + 2), .ref (m + 74 + 3), .ref (m + 74 + 4), .int 0, .ref (m + 74 + 5), .ref (m + 74 + 6), .ref (m + 74 + 7), .ref (m + 74 + 8), .int (-1), .int 0, .int 0, .int 0, .ref (m + 74 + 9)])) := ab_other e472 (by omega) c460
  have c515 : h471[m+74+1]? = some (.inl (.int, 256, .inl (fun _ => 0))) := ab_other e472 (by omega) c461
  have c516 : h471[m+74+2]? = some (.inl (.boolean, 256, .inl (fun _ => 0))) := ab_other e472 (by omega) c462
  have c517 : h471[m+74+3]? = some (.inl (.int, 256, .inl (fun _ => 0))) := ab_other e472 (by omega) c463
  have c518 : h471[m+74+4]? = some (.inl (.int, 12288, .inl (fun _ => 0))) := ab_other e472 (by omega) c464
  have c519 : h471[m+74+5]? = some (.inl (.int, 256, .inl (fun _ => 0))) := ab_other e472 (by omega) c465
  have c520 : h471[m+74+6]? = some (.inl (.int, 256, .inl (fun _ => 0))) := ab_other e472 (by omega) c466
  have c521 : h471[m+74+7]? = some (.inl (.int, 256, .inl (fun _ => 0))) := ab_other e472 (by omega) c467
  have c522 : h471[m+74+8]? = some (.inl (.int, 1024, .inl (fun _ => 0))) := ab_other e472 (by omega) c468
  have c523 : h471[m+74+9]? = some (.inl (.int, 32, .inl (fun _ => 0))) := ab_other e472 (by omega) c469
  have fr524 : ab_fr (fun _ => True) h h471 := ab_fr_set fr470 e472 (by trivial)
  clear c419 c420 c421 c422 c423 c424 c425 c426 c427 c428 c429 c430 c431 c432 c433 c434 c435 c436 c437 c438 c439 c440 c441 c442 c443 c444 c445 c446 c447 c448 c449 c450 c451 c452 c453 c454 c455 c456 c457 c458 c459 c460 c461 c462 c463 c464 c465 c466 c467 c468 c469 fr470 e472
  try clear h416
  refine ab_aload_n d_M_text_57 rfl rfl rfl ?_
  refine ab_iconst (v := 0) d_M_text_58 (by decide) ?_
  refine ab_put (f := 13) d_M_text_59 c513 rfl (by decide) (k10 6 rfl rfl) rfl rfl (fun _ => rfl) (fun _ => rfl) (Nat.le_of_ble_eq_true rfl) ?_
  show ab_V _ _ _ _ _ _ _ 62 [some (.ref m), some (.int e)] [] (h471.set m (.inr (12, [.int 0, .ref (m + 1), .int 0, .ref (m + 33), .ref (m + 2), .int 1, .int (-1), .int (-1), .ref (m + 64), .ref (m + 74), .ref (m + 84), .ref (m + 94), .int 1, .int 0, .ref (m + 99), .ref (m + 100), .ref (m + 101), .ref (m + 102), .ref (m + 103), .ref (m + 104), .int 0, .ref (m + 105), .int 0, .int 0, .int 0, .ref (m + 106), .ref (m + 107), .int 0, .int 0])))
  refine ab_gen (fun h525 e526 => ?_)
  have c527 : h525[m+1]? = some (.inl (.byte, 6000, .inl (fun _ => 0))) := ab_other e526 (by omega) c473
  have c528 : h525[m+99]? = some (.inl (.int, 256, .inl (fun _ => 0))) := ab_other e526 (by omega) c474
  have c529 : h525[m+101]? = some (.inl (.int, 64, .inl (fun _ => 0))) := ab_other e526 (by omega) c475
  have c530 : h525[m+103]? = some (.inl (.int, 4, .inl (fun _ => 0))) := ab_other e526 (by omega) c476
  have c531 : h525[m+104]? = some (.inl (.int, 256, .inl (fun _ => 0))) := ab_other e526 (by omega) c477
  have c532 : h525[m+105]? = some (.inl (.byte, 58000, .inl (fun _ => 0))) := ab_other e526 (by omega) c478
  have c533 : h525[m+106]? = some (.inl (.boolean, 8, .inl (a0_M w 25))) := ab_other e526 (by omega) c479
  have c534 : h525[m+107]? = some (.inl (.boolean, 8, .inl (fun _ => 0))) := ab_other e526 (by omega) c480
  have c535 : h525[m+2]? = some (.inr (14, [.ref (m + 2 + 1), .int 0, .int 0, .ref (m + 2 + 2), .ref (m + 2 + 3), .ref (m + 2 + 4), .ref (m + 2 + 5), .ref (m + 2 + 6), .ref (m + 2 + 7), .int 0, .int 0, .int 0, .int 0, .ref (m + 2 + 8), .ref (m + 2 + 9), .ref (m + 2 + 10), .int 0, .ref (m + 2 + 11), .ref (m + 2 + 12), .ref (m + 2 + 13), .ref (m + 2 + 14), .int 0, .ref (m + 2 + 15), .ref (m + 2 + 16), .ref (m + 2 + 17), .ref (m + 2 + 18), .int 0, .ref (m + 2 + 19), .ref (m + 2 + 20), .int 0, .ref (m + 2 + 21), .ref (m + 2 + 22), .ref (m + 2 + 23), .ref (m + 2 + 24), .ref (m + 2 + 25), .ref (m + 2 + 26), .ref (m + 2 + 27), .int 0, .ref (m + 2 + 28), .ref (m + 2 + 29), .ref (m + 2 + 30), .int 0, .int 0])) := ab_other e526 (by omega) c481
  have c536 : h525[m+2+1]? = some (.inl (.byte, 6000, .inl (fun _ => 0))) := ab_other e526 (by omega) c482
  have c537 : h525[m+2+2]? = some (.inl (.int, 6002, .inl (fun _ => 0))) := ab_other e526 (by omega) c483
  have c538 : h525[m+2+3]? = some (.inl (.int, 6002, .inl (fun _ => 0))) := ab_other e526 (by omega) c484
  have c539 : h525[m+2+4]? = some (.inl (.int, 6002, .inl (fun _ => 0))) := ab_other e526 (by omega) c485
  have c540 : h525[m+2+5]? = some (.inl (.int, 6002, .inl (fun _ => 0))) := ab_other e526 (by omega) c486
  have c541 : h525[m+2+6]? = some (.inl (.boolean, 6002, .inl (fun _ => 0))) := ab_other e526 (by omega) c487
  have c542 : h525[m+2+7]? = some (.inl (.int, 6002, .inl (fun _ => 0))) := ab_other e526 (by omega) c488
  have c543 : h525[m+2+8]? = some (.inl (.int, 56, .inl (fun _ => 0))) := ab_other e526 (by omega) c489
  have c544 : h525[m+2+9]? = some (.inl (.int, 56, .inl (fun _ => 0))) := ab_other e526 (by omega) c490
  have c545 : h525[m+2+10]? = some (.inl (.int, 56, .inl (fun _ => 0))) := ab_other e526 (by omega) c491
  have c546 : h525[m+2+11]? = some (.inl (.int, 16, .inl (fun _ => 0))) := ab_other e526 (by omega) c492
  have c547 : h525[m+2+12]? = some (.inl (.int, 17, .inl (fun _ => 0))) := ab_other e526 (by omega) c493
  have c548 : h525[m+2+13]? = some (.inl (.int, 48, .inl (fun _ => 0))) := ab_other e526 (by omega) c494
  have c549 : h525[m+2+14]? = some (.inl (.int, 48, .inl (fun _ => 0))) := ab_other e526 (by omega) c495
  have c550 : h525[m+2+15]? = some (.inl (.int, 8, .inl (fun _ => 0))) := ab_other e526 (by omega) c496
  have c551 : h525[m+2+16]? = some (.inl (.int, 8, .inl (fun _ => 0))) := ab_other e526 (by omega) c497
  have c552 : h525[m+2+17]? = some (.inl (.int, 32, .inl (fun _ => 0))) := ab_other e526 (by omega) c498
  have c553 : h525[m+2+18]? = some (.inl (.int, 32, .inl (fun _ => 0))) := ab_other e526 (by omega) c499
  have c554 : h525[m+2+19]? = some (.inl (.int, 16, .inl (fun _ => 0))) := ab_other e526 (by omega) c500
  have c555 : h525[m+2+20]? = some (.inl (.int, 768, .inl (fun _ => 0))) := ab_other e526 (by omega) c501
  have c556 : h525[m+2+21]? = some (.inl (.int, 16, .inl (fun _ => 0))) := ab_other e526 (by omega) c502
  have c557 : h525[m+2+22]? = some (.inl (.int, 16, .inl (fun _ => 0))) := ab_other e526 (by omega) c503
  have c558 : h525[m+2+23]? = some (.inl (.int, 16, .inl (fun _ => 0))) := ab_other e526 (by omega) c504
  have c559 : h525[m+2+24]? = some (.inl (.int, 16, .inl (fun _ => 0))) := ab_other e526 (by omega) c505
  have c560 : h525[m+2+25]? = some (.inl (.int, 16, .inl (fun _ => 0))) := ab_other e526 (by omega) c506
  have c561 : h525[m+2+26]? = some (.inl (.int, 16, .inl (fun _ => 0))) := ab_other e526 (by omega) c507
  have c562 : h525[m+2+27]? = some (.inl (.int, 16, .inl (fun _ => 0))) := ab_other e526 (by omega) c508
  have c563 : h525[m+2+28]? = some (.inl (.int, 12, .inl (fun _ => 0))) := ab_other e526 (by omega) c509
  have c564 : h525[m+2+29]? = some (.inl (.int, 12, .inl (fun _ => 0))) := ab_other e526 (by omega) c510
  have c565 : h525[m+2+30]? = some (.inl (.boolean, 12, .inl (fun _ => 0))) := ab_other e526 (by omega) c511
  have c566 : h525[m+33]? = some (.inr (14, [.ref (m + 33 + 1), .int 0, .int 1, .ref (m + 33 + 2), .ref (m + 33 + 3), .ref (m + 33 + 4), .ref (m + 33 + 5), .ref (m + 33 + 6), .ref (m + 33 + 7), .int 0, .int 0, .int 0, .int 0, .ref (m + 33 + 8), .ref (m + 33 + 9), .ref (m + 33 + 10), .int 0, .ref (m + 33 + 11), .ref (m + 33 + 12), .ref (m + 33 + 13), .ref (m + 33 + 14), .int 0, .ref (m + 33 + 15), .ref (m + 33 + 16), .ref (m + 33 + 17), .ref (m + 33 + 18), .int 0, .ref (m + 33 + 19), .ref (m + 33 + 20), .int 0, .ref (m + 33 + 21), .ref (m + 33 + 22), .ref (m + 33 + 23), .ref (m + 33 + 24), .ref (m + 33 + 25), .ref (m + 33 + 26), .ref (m + 33 + 27), .int 0, .ref (m + 33 + 28), .ref (m + 33 + 29), .ref (m + 33 + 30), .int 0, .int 0])) := ab_other e526 (by omega) c512
  have c567 : h525[m]? = some (.inr (12, [.int 0, .ref (m + 1), .int 0, .ref (m + 33), .ref (m + 2), .int 1, .int (-1), .int (-1), .ref (m + 64), .ref (m + 74), .ref (m + 84), .ref (m + 94), .int 1, .int 0, .ref (m + 99), .ref (m + 100), .ref (m + 101), .ref (m + 102), .ref (m + 103), .ref (m + 104), .int 0, .ref (m + 105), .int 0, .int 0, .int 0, .ref (m + 106), .ref (m + 107), .int 0, .int 0])) := ab_self e526 c513
  have c568 : h525[m+74]? = some (.inr (13, [.int 0, .int e, .int 0, .int 0, .ref (m + 74 + 1), .ref (m + 74 + 2), .ref (m + 74 + 3), .ref (m + 74 + 4), .int 0, .ref (m + 74 + 5), .ref (m + 74 + 6), .ref (m + 74 + 7), .ref (m + 74 + 8), .int (-1), .int 0, .int 0, .int 0, .ref (m + 74 + 9)])) := ab_other e526 (by omega) c514
  have c569 : h525[m+74+1]? = some (.inl (.int, 256, .inl (fun _ => 0))) := ab_other e526 (by omega) c515
  have c570 : h525[m+74+2]? = some (.inl (.boolean, 256, .inl (fun _ => 0))) := ab_other e526 (by omega) c516
  have c571 : h525[m+74+3]? = some (.inl (.int, 256, .inl (fun _ => 0))) := ab_other e526 (by omega) c517
  have c572 : h525[m+74+4]? = some (.inl (.int, 12288, .inl (fun _ => 0))) := ab_other e526 (by omega) c518
  have c573 : h525[m+74+5]? = some (.inl (.int, 256, .inl (fun _ => 0))) := ab_other e526 (by omega) c519
  have c574 : h525[m+74+6]? = some (.inl (.int, 256, .inl (fun _ => 0))) := ab_other e526 (by omega) c520
  have c575 : h525[m+74+7]? = some (.inl (.int, 256, .inl (fun _ => 0))) := ab_other e526 (by omega) c521
  have c576 : h525[m+74+8]? = some (.inl (.int, 1024, .inl (fun _ => 0))) := ab_other e526 (by omega) c522
  have c577 : h525[m+74+9]? = some (.inl (.int, 32, .inl (fun _ => 0))) := ab_other e526 (by omega) c523
  have fr578 : ab_fr (fun _ => True) h h525 := ab_fr_set fr524 e526 (by trivial)
  clear c473 c474 c475 c476 c477 c478 c479 c480 c481 c482 c483 c484 c485 c486 c487 c488 c489 c490 c491 c492 c493 c494 c495 c496 c497 c498 c499 c500 c501 c502 c503 c504 c505 c506 c507 c508 c509 c510 c511 c512 c513 c514 c515 c516 c517 c518 c519 c520 c521 c522 c523 fr524 e526
  try clear h471
  refine ab_aload_n d_M_text_62 rfl rfl rfl ?_
  refine ab_get (f := 3) d_M_text_63 c567 rfl (by decide) (k9 236 rfl rfl) rfl ?_
  refine ab_getN (f := 29) d_M_text_66 c566 rfl (by decide) (k8 212 rfl rfl) rfl ?_
  exact ab_iret d_M_text_69 rfl (Nat.le_refl _) (Nat.le_refl _) (by unfold sq_M_text; exact ⟨rfl, trivial⟩)
set_option maxRecDepth 20000 in
set_option maxHeartbeats 2000000 in
theorem l_carr {Po : Outcome → List ab_E → Prop} {mc ms cells slots : Nat} {n0 n1 n2 n3 n4 n6 n7 n8 n9 n10 n11 n12 n13 n14 n15 n16 n17 : Value} {dd0 dd1 dd2 dd3 dd4 dd5 dd7 dd8 dd9 dd10 dd11 dd12 dd13 dd14 dd15 dd16 dd17 : Value} {m : Nat}  (hcl : cells ≤ ({ frames := 2, cells := 0, slots := 0, locals := 80 } : Room).cells) (hsl : slots ≤ ({ frames := 2, cells := 0, slots := 0, locals := 80 } : Room).slots) : ∀ (n i : Nat) (h : List ab_E) (yf : Nat → Int32), i + n = 256 → h[m + 74]? = some (.inr (13, [n0, n1, n2, n3, n4, .ref (m + 74 + 2), n6, n7, n8, n9, n10, n11, n12, n13, n14, n15, n16, n17])) → h[m + 74 + 2]? = some (.inl (.boolean, 256, .inl (fun _ => 0))) → h[m + 84]? = some (.inr (13, [dd0, dd1, dd2, dd3, dd4, dd5, .ref (m + 84 + 3), dd7, dd8, dd9, dd10, dd11, dd12, dd13, dd14, dd15, dd16, dd17])) → h[m + 84 + 3]? = some (.inl (.int, 256, .inl yf)) → (∀ (h1 : List ab_E) (yf1 : Nat → Int32), h1[m + 74]? = some (.inr (13, [n0, n1, n2, n3, n4, .ref (m + 74 + 2), n6, n7, n8, n9, n10, n11, n12, n13, n14, n15, n16, n17])) → h1[m + 74 + 2]? = some (.inl (.boolean, 256, .inl (fun _ => 0))) → h1[m + 84]? = some (.inr (13, [dd0, dd1, dd2, dd3, dd4, dd5, .ref (m + 84 + 3), dd7, dd8, dd9, dd10, dd11, dd12, dd13, dd14, dd15, dd16, dd17])) → h1[m + 84 + 3]? = some (.inl (.int, 256, .inl yf1)) → ab_fr (fun j => j = m+84+3) h h1 → ab_V y_M_carries { frames := 2, cells := 0, slots := 0, locals := 80 } Po mc ms cells slots 263 [some (.ref m), some (.ref (m + 74)), some (.ref (m + 84)), some (.int (nI 256)), none, none, none, none] [] h1) →
    ab_V y_M_carries { frames := 2, cells := 0, slots := 0, locals := 80 } Po mc ms cells slots 22 [some (.ref m), some (.ref (m + 74)), some (.ref (m + 84)), some (.int (nI i)), none, none, none, none] [] h := by
  intro n
  induction n with
  | zero =>
    intro i h yf hi no za ddo ya hk
    refine ab_iload_n d_M_carries_22 rfl rfl ?_
    refine ab_sipush (v := 256) d_M_carries_23 (by decide) ?_
    refine ab_icmp_ge (tgt := 263) d_M_carries_26 (by decide) (fun q1 => ?_) (fun q1 => ?_)
    · have hiN : i = 256 := (by omega)
      subst hiN
      exact hk h yf no za ddo ya (ab_fr_rf _ _)
    · exact absurd (nI_le (a := 256) (b := i) (by omega) (by omega)) q1
  | succ n ih =>
    intro i h yf hi no za ddo ya hk
    refine ab_iload_n d_M_carries_22 rfl rfl ?_
    refine ab_sipush (v := 256) d_M_carries_23 (by decide) ?_
    refine ab_icmp_ge (tgt := 263) d_M_carries_26 (by decide) (fun q1 => ?_) (fun q1 => ?_)
    · exact absurd ((nI_leI (a := 256) (b := i) (by omega) (by omega)).mp q1) (by omega)
    · refine ab_aload_n d_M_carries_29 rfl rfl rfl ?_
      refine ab_getN (f := 6) d_M_carries_30 ddo rfl (by decide) (k9 106 rfl rfl) rfl ?_
      refine ab_iload_n d_M_carries_33 rfl rfl ?_
      refine ab_iconst (v := 0) d_M_carries_34 (by decide) ?_
      refine ab_iast d_M_carries_35 tI ya (vp_in_nI (by omega) (by decide)) ?_
      refine ab_gen (fun h2 e3 => ?_)
      have c4 : h2[m+74]? = some (.inr (13, [n0, n1, n2, n3, n4, .ref (m + 74 + 2), n6, n7, n8, n9, n10, n11, n12, n13, n14, n15, n16, n17])) := ab_other e3 (by omega) no
      have c5 : h2[m+74+2]? = some (.inl (.boolean, 256, .inl (fun _ => 0))) := ab_other e3 (by omega) za
      have c6 : h2[m+84]? = some (.inr (13, [dd0, dd1, dd2, dd3, dd4, dd5, .ref (m + 84 + 3), dd7, dd8, dd9, dd10, dd11, dd12, dd13, dd14, dd15, dd16, dd17])) := ab_other e3 (by omega) ddo
      have c7 : h2[m+84+3]? = some (.inl (.int, 256, .inl (upd yf ((nI i)).toNatClampNeg 0))) := ab_self e3 ya
      have fr8 : ab_fr (fun j => j = m+84+3) h h2 := ab_fr_set (ab_fr_rf _ _) e3 (by first | (show _ = _; omega) | (show _ ∨ _; omega))
      clear e3
      obtain ⟨y9, c10⟩ : ∃ f : Nat → Int32, h2[m+84+3]? = some (.inl (.int, 256, .inl f)) := ⟨_, c7⟩
      clear c7
      refine ab_iconst (v := 0) d_M_carries_36 (by decide) ?_
      refine ab_istore (lv' := [some (.ref m), some (.ref (m + 74)), some (.ref (m + 84)), some (.int (nI i)), some (.int 0), none, none, none]) d_M_carries_37 (by decide) rfl ?_
      refine ab_aload_n d_M_carries_39 rfl rfl rfl ?_
      refine ab_getN (f := 5) d_M_carries_40 c4 rfl (by decide) (k9 102 rfl rfl) rfl ?_
      refine ab_iload_n d_M_carries_43 rfl rfl ?_
      refine ab_zald d_M_carries_44 tZ c5 (vp_in_nI (by omega) (by decide)) ?_
      refine ab_topi (fun x11 ex11 => ?_)
      obtain rfl : x11 = 0 := ex11.trans rfl
      clear ex11
      refine ab_if_eq (tgt := 257) d_M_carries_45 (by decide) (fun q12 => ?_) (fun q12 => by exact absurd (by decide) q12)
      obtain ⟨x13, ex13⟩ : ∃ q : Int32, q = nI i + 1 := ⟨_, rfl⟩
      refine ab_iinc (v := x13) (lv' := [some (.ref m), some (.ref (m + 74)), some (.ref (m + 84)), some (.int x13), some (.int 0), none, none, none]) d_M_carries_257 rfl (by rw [ex13]; rfl) (by decide) rfl ?_
      refine ab_goto (tgt := 22) d_M_carries_260 (by decide) ?_
      subst ex13
      rw [nI_1]
      refine ab_sub (lv' := [some (.ref m), some (.ref (m + 74)), some (.ref (m + 84)), some (.int (nI (i + 1))), none, none, none, none]) (by intro i v hv; match i, hv with | 0, hv => exact hv | 1, hv => exact hv | 2, hv => exact hv | 3, hv => exact hv | 4, hv => exact nomatch (show some (none : Option Value) = some (some v) from hv) | 5, hv => exact nomatch (show some (none : Option Value) = some (some v) from hv) | 6, hv => exact nomatch (show some (none : Option Value) = some (some v) from hv) | 7, hv => exact nomatch (show some (none : Option Value) = some (some v) from hv) | k + 8, hv => exact nomatch (show (none : Option (Option Value)) = some (some v) from hv)) ?_
      refine ab_widen (cells' := cells) (slots' := slots) (by first | exact Nat.le_refl _ | (show _ ≤ _; omega)) (by first | exact Nat.le_refl _ | (show _ ≤ _; omega)) ?_
      exact ih (i + 1) h2 y9 (by omega) c4 c5 c6 c10 (fun h1 yf1 q0 q1 q2 q3 qf => hk h1 yf1 q0 q1 q2 q3 (ab_fr_tr fr8 qf))
set_option maxRecDepth 20000 in
set_option maxHeartbeats 2000000 in
theorem r_M_carries {h : List ab_E}   {p0 p1 p2 p3 p4 p5 p6 p7 p8 p11 p12 p13 p14 p15 p16 p17 p18 p19 p20 p21 p22 p23 p24 p25 p26 p27 p28 : Value} {m : Nat} (hN : at_MWorld h (m + 74) s0_MW (fun _ _ => 0)) (hD : at_MWorld h (m + 84) s0_MW (fun _ _ => 0)) (po : h[m]? = some (.inr (12, [p0, p1, p2, p3, p4, p5, p6, p7, p8, .ref (m + 74), .ref (m + 84), p11, p12, p13, p14, p15, p16, p17, p18, p19, p20, p21, p22, p23, p24, p25, p26, p27, p28])))  : ab_M y_M_carries { frames := 2, cells := 0, slots := 0, locals := 80 } [.ref m] h (ab_A none (fun h1 => ∃ a1, at_MWorld h1 (m + 84) (lf [0, 0, 0, 0, 0, 0, 0, 0, 0, 0, 0, 0, 0, (-1), 0, 0, 0, 0]) a1 ∧ ab_fr (in_MWorld (m + 84)) h h1)) := by
  have hN0 := hN; obtain ⟨gno, gn4, gn5, gn6, gn7, gn9, gn10, gn11, gn12, gn17⟩ := hN
  replace gno : h[m + 74]? = some (.inr (13, [.int 0, .int 0, .int 0, .int 0, .ref (m + 74 + 1), .ref (m + 74 + 2), .ref (m + 74 + 3), .ref (m + 74 + 4), .int 0, .ref (m + 74 + 5), .ref (m + 74 + 6), .ref (m + 74 + 7), .ref (m + 74 + 8), .int (-1), .int 0, .int 0, .int 0, .ref (m + 74 + 9)])) := gno
  replace gn4 : h[m + 74 + 1]? = some (.inl (.int, 256, .inl (fun _ => 0))) := gn4
  replace gn5 : h[m + 74 + 2]? = some (.inl (.boolean, 256, .inl (fun _ => 0))) := gn5
  replace gn6 : h[m + 74 + 3]? = some (.inl (.int, 256, .inl (fun _ => 0))) := gn6
  replace gn7 : h[m + 74 + 4]? = some (.inl (.int, 12288, .inl (fun _ => 0))) := gn7
  replace gn9 : h[m + 74 + 5]? = some (.inl (.int, 256, .inl (fun _ => 0))) := gn9
  replace gn10 : h[m + 74 + 6]? = some (.inl (.int, 256, .inl (fun _ => 0))) := gn10
  replace gn11 : h[m + 74 + 7]? = some (.inl (.int, 256, .inl (fun _ => 0))) := gn11
  replace gn12 : h[m + 74 + 8]? = some (.inl (.int, 1024, .inl (fun _ => 0))) := gn12
  replace gn17 : h[m + 74 + 9]? = some (.inl (.int, 32, .inl (fun _ => 0))) := gn17
  have hD0 := hD; obtain ⟨gdo, gd4, gd5, gd6, gd7, gd9, gd10, gd11, gd12, gd17⟩ := hD
  replace gdo : h[m + 84]? = some (.inr (13, [.int 0, .int 0, .int 0, .int 0, .ref (m + 84 + 1), .ref (m + 84 + 2), .ref (m + 84 + 3), .ref (m + 84 + 4), .int 0, .ref (m + 84 + 5), .ref (m + 84 + 6), .ref (m + 84 + 7), .ref (m + 84 + 8), .int (-1), .int 0, .int 0, .int 0, .ref (m + 84 + 9)])) := gdo
  replace gd4 : h[m + 84 + 1]? = some (.inl (.int, 256, .inl (fun _ => 0))) := gd4
  replace gd5 : h[m + 84 + 2]? = some (.inl (.boolean, 256, .inl (fun _ => 0))) := gd5
  replace gd6 : h[m + 84 + 3]? = some (.inl (.int, 256, .inl (fun _ => 0))) := gd6
  replace gd7 : h[m + 84 + 4]? = some (.inl (.int, 12288, .inl (fun _ => 0))) := gd7
  replace gd9 : h[m + 84 + 5]? = some (.inl (.int, 256, .inl (fun _ => 0))) := gd9
  replace gd10 : h[m + 84 + 6]? = some (.inl (.int, 256, .inl (fun _ => 0))) := gd10
  replace gd11 : h[m + 84 + 7]? = some (.inl (.int, 256, .inl (fun _ => 0))) := gd11
  replace gd12 : h[m + 84 + 8]? = some (.inl (.int, 1024, .inl (fun _ => 0))) := gd12
  replace gd17 : h[m + 84 + 9]? = some (.inl (.int, 32, .inl (fun _ => 0))) := gd17
  refine ab_of2 (lv := [some (.ref m), none, none, none, none, none, none, none]) 7 rfl rfl (Nat.le_of_ble_eq_true rfl) ?_
  refine ab_aload_n d_M_carries_0 rfl rfl rfl ?_
  refine ab_get (f := 9) d_M_carries_1 po rfl (by decide) (k10 2 rfl rfl) rfl ?_
  refine ab_astore_n (lv' := [some (.ref m), some (.ref (m + 74)), none, none, none, none, none, none]) d_M_carries_4 rfl (by decide) rfl rfl ?_
  refine ab_aload_n d_M_carries_5 rfl rfl rfl ?_
  refine ab_get (f := 10) d_M_carries_6 po rfl (by decide) (k10 3 rfl rfl) rfl ?_
  refine ab_astore_n (lv' := [some (.ref m), some (.ref (m + 74)), some (.ref (m + 84)), none, none, none, none, none]) d_M_carries_9 rfl (by decide) rfl rfl ?_
  refine ab_aload_n d_M_carries_10 rfl rfl rfl ?_
  refine ab_aload_n d_M_carries_11 rfl rfl rfl ?_
  refine ab_callV_v (As := [.ref (m + 74)]) (rest := []) d_M_carries_12 (r_MWorld_copies (show at_MWorld h (m + 84) (lf [0, 0, 0, 0, 0, 0, 0, 0, 0, 0, 0, 0, 0, (-1), 0, 0, 0, 0]) (fun k => if k = 4 then (fun _ => 0) else if k = 5 then (fun _ => 0) else if k = 6 then (fun _ => 0) else if k = 7 then (fun _ => 0) else if k = 9 then (fun _ => 0) else if k = 10 then (fun _ => 0) else if k = 11 then (fun _ => 0) else if k = 12 then (fun _ => 0) else if k = 17 then (fun _ => 0) else fun _ => 0) from ⟨gdo, gd4, gd5, gd6, gd7, gd9, gd10, gd11, gd12, gd17⟩) (show at_MWorld h (m + 74) (lf [0, 0, 0, 0, 0, 0, 0, 0, 0, 0, 0, 0, 0, (-1), 0, 0, 0, 0]) (fun k => if k = 4 then (fun _ => 0) else if k = 5 then (fun _ => 0) else if k = 6 then (fun _ => 0) else if k = 7 then (fun _ => 0) else if k = 9 then (fun _ => 0) else if k = 10 then (fun _ => 0) else if k = 11 then (fun _ => 0) else if k = 12 then (fun _ => 0) else if k = 17 then (fun _ => 0) else fun _ => 0) from ⟨gno, gn4, gn5, gn6, gn7, gn9, gn10, gn11, gn12, gn17⟩) (by omega) rfl) (ab_mkC s_MWorld_copies (Nat.le_of_ble_eq_true rfl) (Nat.le_of_ble_eq_true rfl) (by decide) (by decide)) (k11 146 rfl rfl) i_MWorld_copies v_MWorld_copies gdo rfl rfl (Nat.le_of_ble_eq_true rfl) (fun h1 q2 => ?_)
  obtain ⟨a5, kf3, f4⟩ := q2
  have c6 : h1[m+74]? = some (.inr (13, [.int 0, .int 0, .int 0, .int 0, .ref (m + 74 + 1), .ref (m + 74 + 2), .ref (m + 74 + 3), .ref (m + 74 + 4), .int 0, .ref (m + 74 + 5), .ref (m + 74 + 6), .ref (m + 74 + 7), .ref (m + 74 + 8), .int (-1), .int 0, .int 0, .int 0, .ref (m + 74 + 9)])) := ab_fr_at f4 gno (by simp only [in_MWorld] <;> omega)
  have c7 : h1[m+74+1]? = some (.inl (.int, 256, .inl (fun _ => 0))) := ab_fr_at f4 gn4 (by simp only [in_MWorld] <;> omega)
  have c8 : h1[m+74+2]? = some (.inl (.boolean, 256, .inl (fun _ => 0))) := ab_fr_at f4 gn5 (by simp only [in_MWorld] <;> omega)
  have c9 : h1[m+74+3]? = some (.inl (.int, 256, .inl (fun _ => 0))) := ab_fr_at f4 gn6 (by simp only [in_MWorld] <;> omega)
  have c10 : h1[m+74+4]? = some (.inl (.int, 12288, .inl (fun _ => 0))) := ab_fr_at f4 gn7 (by simp only [in_MWorld] <;> omega)
  have c11 : h1[m+74+5]? = some (.inl (.int, 256, .inl (fun _ => 0))) := ab_fr_at f4 gn9 (by simp only [in_MWorld] <;> omega)
  have c12 : h1[m+74+6]? = some (.inl (.int, 256, .inl (fun _ => 0))) := ab_fr_at f4 gn10 (by simp only [in_MWorld] <;> omega)
  have c13 : h1[m+74+7]? = some (.inl (.int, 256, .inl (fun _ => 0))) := ab_fr_at f4 gn11 (by simp only [in_MWorld] <;> omega)
  have c14 : h1[m+74+8]? = some (.inl (.int, 1024, .inl (fun _ => 0))) := ab_fr_at f4 gn12 (by simp only [in_MWorld] <;> omega)
  have c15 : h1[m+74+9]? = some (.inl (.int, 32, .inl (fun _ => 0))) := ab_fr_at f4 gn17 (by simp only [in_MWorld] <;> omega)
  have c16 : h1[m]? = some (.inr (12, [p0, p1, p2, p3, p4, p5, p6, p7, p8, .ref (m + 74), .ref (m + 84), p11, p12, p13, p14, p15, p16, p17, p18, p19, p20, p21, p22, p23, p24, p25, p26, p27, p28])) := ab_fr_at f4 po (by simp only [in_MWorld] <;> omega)
  have fr17 : ab_fr (in_MWorld (m + 84)) h h1 := ab_fr_tr (ab_fr_rf _ _) f4
  clear f4
  obtain ⟨g18o, g184, g185, g186, g187, g189, g1810, g1811, g1812, g1817⟩ := kf3
  replace g18o : h1[m + 84]? = some (.inr (13, [.int 0, .int 0, .int 0, .int 0, .ref (m + 84 + 1), .ref (m + 84 + 2), .ref (m + 84 + 3), .ref (m + 84 + 4), .int 0, .ref (m + 84 + 5), .ref (m + 84 + 6), .ref (m + 84 + 7), .ref (m + 84 + 8), .int (-1), .int 0, .int 0, .int 0, .ref (m + 84 + 9)])) := g18o
  refine ab_aload_n d_M_carries_15 rfl rfl rfl ?_
  refine ab_iconst (v := (-1)) d_M_carries_16 (by decide) ?_
  refine ab_putN (f := 13) d_M_carries_17 g18o rfl (by decide) (k9 128 rfl rfl) rfl rfl (fun _ => rfl) (fun _ => rfl) (Nat.le_of_ble_eq_true rfl) ?_
  show ab_V _ _ _ _ _ _ _ 20 [some (.ref m), some (.ref (m + 74)), some (.ref (m + 84)), none, none, none, none, none] [] (h1.set (m+84) (.inr (13, [.int 0, .int 0, .int 0, .int 0, .ref (m + 84 + 1), .ref (m + 84 + 2), .ref (m + 84 + 3), .ref (m + 84 + 4), .int 0, .ref (m + 84 + 5), .ref (m + 84 + 6), .ref (m + 84 + 7), .ref (m + 84 + 8), .int (-1), .int 0, .int 0, .int 0, .ref (m + 84 + 9)])))
  refine ab_gen (fun h19 e20 => ?_)
  have c21 : h19[m+74]? = some (.inr (13, [.int 0, .int 0, .int 0, .int 0, .ref (m + 74 + 1), .ref (m + 74 + 2), .ref (m + 74 + 3), .ref (m + 74 + 4), .int 0, .ref (m + 74 + 5), .ref (m + 74 + 6), .ref (m + 74 + 7), .ref (m + 74 + 8), .int (-1), .int 0, .int 0, .int 0, .ref (m + 74 + 9)])) := ab_other e20 (by omega) c6
  have c22 : h19[m+74+1]? = some (.inl (.int, 256, .inl (fun _ => 0))) := ab_other e20 (by omega) c7
  have c23 : h19[m+74+2]? = some (.inl (.boolean, 256, .inl (fun _ => 0))) := ab_other e20 (by omega) c8
  have c24 : h19[m+74+3]? = some (.inl (.int, 256, .inl (fun _ => 0))) := ab_other e20 (by omega) c9
  have c25 : h19[m+74+4]? = some (.inl (.int, 12288, .inl (fun _ => 0))) := ab_other e20 (by omega) c10
  have c26 : h19[m+74+5]? = some (.inl (.int, 256, .inl (fun _ => 0))) := ab_other e20 (by omega) c11
  have c27 : h19[m+74+6]? = some (.inl (.int, 256, .inl (fun _ => 0))) := ab_other e20 (by omega) c12
  have c28 : h19[m+74+7]? = some (.inl (.int, 256, .inl (fun _ => 0))) := ab_other e20 (by omega) c13
  have c29 : h19[m+74+8]? = some (.inl (.int, 1024, .inl (fun _ => 0))) := ab_other e20 (by omega) c14
  have c30 : h19[m+74+9]? = some (.inl (.int, 32, .inl (fun _ => 0))) := ab_other e20 (by omega) c15
  have c31 : h19[m]? = some (.inr (12, [p0, p1, p2, p3, p4, p5, p6, p7, p8, .ref (m + 74), .ref (m + 84), p11, p12, p13, p14, p15, p16, p17, p18, p19, p20, p21, p22, p23, p24, p25, p26, p27, p28])) := ab_other e20 (by omega) c16
  have c32 : h19[m+84]? = some (.inr (13, [.int 0, .int 0, .int 0, .int 0, .ref (m + 84 + 1), .ref (m + 84 + 2), .ref (m + 84 + 3), .ref (m + 84 + 4), .int 0, .ref (m + 84 + 5), .ref (m + 84 + 6), .ref (m + 84 + 7), .ref (m + 84 + 8), .int (-1), .int 0, .int 0, .int 0, .ref (m + 84 + 9)])) := ab_self e20 g18o
  have c33 : h19[m+84+1]? = some (.inl (.int, 256, .inl (a5 4))) := ab_other e20 (by omega) g184
  have c34 : h19[m+84+2]? = some (.inl (.boolean, 256, .inl (a5 5))) := ab_other e20 (by omega) g185
  have c35 : h19[m+84+3]? = some (.inl (.int, 256, .inl (a5 6))) := ab_other e20 (by omega) g186
  have c36 : h19[m+84+4]? = some (.inl (.int, 12288, .inl (a5 7))) := ab_other e20 (by omega) g187
  have c37 : h19[m+84+5]? = some (.inl (.int, 256, .inl (a5 9))) := ab_other e20 (by omega) g189
  have c38 : h19[m+84+6]? = some (.inl (.int, 256, .inl (a5 10))) := ab_other e20 (by omega) g1810
  have c39 : h19[m+84+7]? = some (.inl (.int, 256, .inl (a5 11))) := ab_other e20 (by omega) g1811
  have c40 : h19[m+84+8]? = some (.inl (.int, 1024, .inl (a5 12))) := ab_other e20 (by omega) g1812
  have c41 : h19[m+84+9]? = some (.inl (.int, 32, .inl (a5 17))) := ab_other e20 (by omega) g1817
  have fr42 : ab_fr (in_MWorld (m + 84)) h h19 := ab_fr_set fr17 e20 (by first | (show _ ∧ _; omega) | (show _ = _; omega))
  clear c6 c7 c8 c9 c10 c11 c12 c13 c14 c15 c16 fr17 e20
  try clear h1
  refine ab_iconst (v := 0) d_M_carries_20 (by decide) ?_
  refine ab_istore_n (lv' := [some (.ref m), some (.ref (m + 74)), some (.ref (m + 84)), some (.int 0), none, none, none, none]) d_M_carries_21 rfl (by decide) rfl ?_
  refine l_carr  (Nat.le_of_ble_eq_true rfl) (Nat.le_of_ble_eq_true rfl) 256 0 h19 (a5 6) (by omega) c21 c23 c32 c35 (fun h43 y44 c45 c46 c47 c48 f49 => ?_)
  have c50 : h43[m+74+1]? = some (.inl (.int, 256, .inl (fun _ => 0))) := ab_fr_at f49 c22 (by omega)
  have c51 : h43[m+74+3]? = some (.inl (.int, 256, .inl (fun _ => 0))) := ab_fr_at f49 c24 (by omega)
  have c52 : h43[m+74+4]? = some (.inl (.int, 12288, .inl (fun _ => 0))) := ab_fr_at f49 c25 (by omega)
  have c53 : h43[m+74+5]? = some (.inl (.int, 256, .inl (fun _ => 0))) := ab_fr_at f49 c26 (by omega)
  have c54 : h43[m+74+6]? = some (.inl (.int, 256, .inl (fun _ => 0))) := ab_fr_at f49 c27 (by omega)
  have c55 : h43[m+74+7]? = some (.inl (.int, 256, .inl (fun _ => 0))) := ab_fr_at f49 c28 (by omega)
  have c56 : h43[m+74+8]? = some (.inl (.int, 1024, .inl (fun _ => 0))) := ab_fr_at f49 c29 (by omega)
  have c57 : h43[m+74+9]? = some (.inl (.int, 32, .inl (fun _ => 0))) := ab_fr_at f49 c30 (by omega)
  have c58 : h43[m]? = some (.inr (12, [p0, p1, p2, p3, p4, p5, p6, p7, p8, .ref (m + 74), .ref (m + 84), p11, p12, p13, p14, p15, p16, p17, p18, p19, p20, p21, p22, p23, p24, p25, p26, p27, p28])) := ab_fr_at f49 c31 (by omega)
  have c59 : h43[m+84+1]? = some (.inl (.int, 256, .inl (a5 4))) := ab_fr_at f49 c33 (by omega)
  have c60 : h43[m+84+2]? = some (.inl (.boolean, 256, .inl (a5 5))) := ab_fr_at f49 c34 (by omega)
  have c61 : h43[m+84+4]? = some (.inl (.int, 12288, .inl (a5 7))) := ab_fr_at f49 c36 (by omega)
  have c62 : h43[m+84+5]? = some (.inl (.int, 256, .inl (a5 9))) := ab_fr_at f49 c37 (by omega)
  have c63 : h43[m+84+6]? = some (.inl (.int, 256, .inl (a5 10))) := ab_fr_at f49 c38 (by omega)
  have c64 : h43[m+84+7]? = some (.inl (.int, 256, .inl (a5 11))) := ab_fr_at f49 c39 (by omega)
  have c65 : h43[m+84+8]? = some (.inl (.int, 1024, .inl (a5 12))) := ab_fr_at f49 c40 (by omega)
  have c66 : h43[m+84+9]? = some (.inl (.int, 32, .inl (a5 17))) := ab_fr_at f49 c41 (by omega)
  have fr67 : ab_fr (in_MWorld (m + 84)) h h43 := ab_fr_tr fr42 (ab_fr_mono f49 (by intro i hi; simp only [in_MWorld] at * <;> omega))
  clear c21 c22 c23 c24 c25 c26 c27 c28 c29 c30 c31 c32 c33 c34 c35 c36 c37 c38 c39 c40 c41 f49 fr42
  try clear h19
  refine ab_aload_n d_M_carries_263 rfl rfl rfl ?_
  refine ab_iconst (v := 0) d_M_carries_264 (by decide) ?_
  refine ab_putN (f := 8) d_M_carries_265 c47 rfl (by decide) (k9 112 rfl rfl) rfl rfl (fun _ => rfl) (fun _ => rfl) (Nat.le_of_ble_eq_true rfl) ?_
  show ab_V _ _ _ _ _ _ _ 268 [some (.ref m), some (.ref (m + 74)), some (.ref (m + 84)), some (.int (nI 256)), none, none, none, none] [] (h43.set (m+84) (.inr (13, [.int 0, .int 0, .int 0, .int 0, .ref (m + 84 + 1), .ref (m + 84 + 2), .ref (m + 84 + 3), .ref (m + 84 + 4), .int 0, .ref (m + 84 + 5), .ref (m + 84 + 6), .ref (m + 84 + 7), .ref (m + 84 + 8), .int (-1), .int 0, .int 0, .int 0, .ref (m + 84 + 9)])))
  refine ab_gen (fun h68 e69 => ?_)
  have c70 : h68[m+74+1]? = some (.inl (.int, 256, .inl (fun _ => 0))) := ab_other e69 (by omega) c50
  have c71 : h68[m+74+3]? = some (.inl (.int, 256, .inl (fun _ => 0))) := ab_other e69 (by omega) c51
  have c72 : h68[m+74+4]? = some (.inl (.int, 12288, .inl (fun _ => 0))) := ab_other e69 (by omega) c52
  have c73 : h68[m+74+5]? = some (.inl (.int, 256, .inl (fun _ => 0))) := ab_other e69 (by omega) c53
  have c74 : h68[m+74+6]? = some (.inl (.int, 256, .inl (fun _ => 0))) := ab_other e69 (by omega) c54
  have c75 : h68[m+74+7]? = some (.inl (.int, 256, .inl (fun _ => 0))) := ab_other e69 (by omega) c55
  have c76 : h68[m+74+8]? = some (.inl (.int, 1024, .inl (fun _ => 0))) := ab_other e69 (by omega) c56
  have c77 : h68[m+74+9]? = some (.inl (.int, 32, .inl (fun _ => 0))) := ab_other e69 (by omega) c57
  have c78 : h68[m]? = some (.inr (12, [p0, p1, p2, p3, p4, p5, p6, p7, p8, .ref (m + 74), .ref (m + 84), p11, p12, p13, p14, p15, p16, p17, p18, p19, p20, p21, p22, p23, p24, p25, p26, p27, p28])) := ab_other e69 (by omega) c58
  have c79 : h68[m+84+1]? = some (.inl (.int, 256, .inl (a5 4))) := ab_other e69 (by omega) c59
  have c80 : h68[m+84+2]? = some (.inl (.boolean, 256, .inl (a5 5))) := ab_other e69 (by omega) c60
  have c81 : h68[m+84+4]? = some (.inl (.int, 12288, .inl (a5 7))) := ab_other e69 (by omega) c61
  have c82 : h68[m+84+5]? = some (.inl (.int, 256, .inl (a5 9))) := ab_other e69 (by omega) c62
  have c83 : h68[m+84+6]? = some (.inl (.int, 256, .inl (a5 10))) := ab_other e69 (by omega) c63
  have c84 : h68[m+84+7]? = some (.inl (.int, 256, .inl (a5 11))) := ab_other e69 (by omega) c64
  have c85 : h68[m+84+8]? = some (.inl (.int, 1024, .inl (a5 12))) := ab_other e69 (by omega) c65
  have c86 : h68[m+84+9]? = some (.inl (.int, 32, .inl (a5 17))) := ab_other e69 (by omega) c66
  have c87 : h68[m+74]? = some (.inr (13, [.int 0, .int 0, .int 0, .int 0, .ref (m + 74 + 1), .ref (m + 74 + 2), .ref (m + 74 + 3), .ref (m + 74 + 4), .int 0, .ref (m + 74 + 5), .ref (m + 74 + 6), .ref (m + 74 + 7), .ref (m + 74 + 8), .int (-1), .int 0, .int 0, .int 0, .ref (m + 74 + 9)])) := ab_other e69 (by omega) c45
  have c88 : h68[m+74+2]? = some (.inl (.boolean, 256, .inl (fun _ => 0))) := ab_other e69 (by omega) c46
  have c89 : h68[m+84]? = some (.inr (13, [.int 0, .int 0, .int 0, .int 0, .ref (m + 84 + 1), .ref (m + 84 + 2), .ref (m + 84 + 3), .ref (m + 84 + 4), .int 0, .ref (m + 84 + 5), .ref (m + 84 + 6), .ref (m + 84 + 7), .ref (m + 84 + 8), .int (-1), .int 0, .int 0, .int 0, .ref (m + 84 + 9)])) := ab_self e69 c47
  have c90 : h68[m+84+3]? = some (.inl (.int, 256, .inl y44)) := ab_other e69 (by omega) c48
  have fr91 : ab_fr (in_MWorld (m + 84)) h h68 := ab_fr_set fr67 e69 (by first | (show _ ∧ _; omega) | (show _ = _; omega))
  clear c50 c51 c52 c53 c54 c55 c56 c57 c58 c59 c60 c61 c62 c63 c64 c65 c66 c45 c46 c47 c48 fr67 e69
  try clear h43
  refine ab_iconst (v := 0) d_M_carries_268 (by decide) ?_
  refine ab_istore_n (lv' := [some (.ref m), some (.ref (m + 74)), some (.ref (m + 84)), some (.int 0), none, none, none, none]) d_M_carries_269 rfl (by decide) rfl ?_
  refine ab_iload_n d_M_carries_270 rfl rfl ?_
  refine ab_aload_n d_M_carries_271 rfl rfl rfl ?_
  refine ab_getN (f := 8) d_M_carries_272 c87 rfl (by decide) (k9 112 rfl rfl) rfl ?_
  refine ab_icmp_ge (tgt := 365) d_M_carries_275 (by decide) (fun q92 => ?_) (fun q92 => by exact absurd (by decide) q92)
  exact ab_vret d_M_carries_365 rfl (Nat.le_refl _) (Nat.le_refl _) (by exact ⟨rfl, (fun k => if k = 4 then (a5 4) else if k = 5 then (a5 5) else if k = 6 then y44 else if k = 7 then (a5 7) else if k = 9 then (a5 9) else if k = 10 then (a5 10) else if k = 11 then (a5 11) else if k = 12 then (a5 12) else if k = 17 then (a5 17) else fun _ => 0), ⟨c89, c79, c80, c90, c81, c82, c83, c84, c85, c86⟩, fr91⟩)
def sq_M_swap  : Int32 := (0)
set_option maxRecDepth 20000 in
set_option maxHeartbeats 2000000 in
theorem f_M_swap {h : List ab_E}       {m : Nat} {w : Int32}       (h0 : at_M0 h m w) : ab_M y_M_swap { frames := 4, cells := 0, slots := 0, locals := 160 } [.ref m] h (ab_A (some (.int (sq_M_swap ))) (fun h1 => True)) := by
  obtain ⟨hM, hT, hO, hS, hN, hD, hR⟩ := h0
  have hM0 := hM; obtain ⟨gmo, gm1, gm14, gm15, gm16, gm17, gm18, gm19, gm21, gm25, gm26⟩ := hM
  replace gmo : h[m]? = some (.inr (12, [.int 0, .ref (m + 1), .int 0, .ref (m + 2), .ref (m + 33), .int 0, .int (-1), .int (-1), .ref (m + 64), .ref (m + 74), .ref (m + 84), .ref (m + 94), .int 1, .int 0, .ref (m + 99), .ref (m + 100), .ref (m + 101), .ref (m + 102), .ref (m + 103), .ref (m + 104), .int 0, .ref (m + 105), .int 0, .int 0, .int 0, .ref (m + 106), .ref (m + 107), .int 0, .int 0])) := gmo
  replace gm1 : h[m + 1]? = some (.inl (.byte, 6000, .inl (fun _ => 0))) := (by rw [a0_M_0 w (by decide)] at gm1; exact gm1)
  replace gm14 : h[m + 99]? = some (.inl (.int, 256, .inl (fun _ => 0))) := (by rw [a0_M_0 w (by decide)] at gm14; exact gm14)
  replace gm15 : h[m + 100]? = some (.inl (.boolean, 256, .inl (fun _ => 0))) := (by rw [a0_M_0 w (by decide)] at gm15; exact gm15)
  replace gm16 : h[m + 101]? = some (.inl (.int, 64, .inl (fun _ => 0))) := (by rw [a0_M_0 w (by decide)] at gm16; exact gm16)
  replace gm17 : h[m + 102]? = some (.inl (.int, 4, .inl (fun _ => 0))) := (by rw [a0_M_0 w (by decide)] at gm17; exact gm17)
  replace gm18 : h[m + 103]? = some (.inl (.int, 4, .inl (fun _ => 0))) := (by rw [a0_M_0 w (by decide)] at gm18; exact gm18)
  replace gm19 : h[m + 104]? = some (.inl (.int, 256, .inl (fun _ => 0))) := (by rw [a0_M_0 w (by decide)] at gm19; exact gm19)
  replace gm21 : h[m + 105]? = some (.inl (.byte, 58000, .inl (fun _ => 0))) := (by rw [a0_M_0 w (by decide)] at gm21; exact gm21)
  replace gm25 : h[m + 106]? = some (.inl (.boolean, 8, .inl (a0_M w 25))) := gm25
  replace gm26 : h[m + 107]? = some (.inl (.boolean, 8, .inl (fun _ => 0))) := (by rw [a0_M_0 w (by decide)] at gm26; exact gm26)
  have hT0 := hT; obtain ⟨gto, gt0, gt3, gt4, gt5, gt6, gt7, gt8, gt13, gt14, gt15, gt17, gt18, gt19, gt20, gt22, gt23, gt24, gt25, gt27, gt28, gt30, gt31, gt32, gt33, gt34, gt35, gt36, gt38, gt39, gt40⟩ := hT
  replace gto : h[m + 2]? = some (.inr (14, [.ref (m + 2 + 1), .int 0, .int 0, .ref (m + 2 + 2), .ref (m + 2 + 3), .ref (m + 2 + 4), .ref (m + 2 + 5), .ref (m + 2 + 6), .ref (m + 2 + 7), .int 0, .int 0, .int 0, .int 0, .ref (m + 2 + 8), .ref (m + 2 + 9), .ref (m + 2 + 10), .int 0, .ref (m + 2 + 11), .ref (m + 2 + 12), .ref (m + 2 + 13), .ref (m + 2 + 14), .int 0, .ref (m + 2 + 15), .ref (m + 2 + 16), .ref (m + 2 + 17), .ref (m + 2 + 18), .int 0, .ref (m + 2 + 19), .ref (m + 2 + 20), .int 0, .ref (m + 2 + 21), .ref (m + 2 + 22), .ref (m + 2 + 23), .ref (m + 2 + 24), .ref (m + 2 + 25), .ref (m + 2 + 26), .ref (m + 2 + 27), .int 0, .ref (m + 2 + 28), .ref (m + 2 + 29), .ref (m + 2 + 30), .int 0, .int 0])) := gto
  replace gt0 : h[m + 2 + 1]? = some (.inl (.byte, 6000, .inl (fun _ => 0))) := gt0
  replace gt3 : h[m + 2 + 2]? = some (.inl (.int, 6002, .inl (fun _ => 0))) := gt3
  replace gt4 : h[m + 2 + 3]? = some (.inl (.int, 6002, .inl (fun _ => 0))) := gt4
  replace gt5 : h[m + 2 + 4]? = some (.inl (.int, 6002, .inl (fun _ => 0))) := gt5
  replace gt6 : h[m + 2 + 5]? = some (.inl (.int, 6002, .inl (fun _ => 0))) := gt6
  replace gt7 : h[m + 2 + 6]? = some (.inl (.boolean, 6002, .inl (fun _ => 0))) := gt7
  replace gt8 : h[m + 2 + 7]? = some (.inl (.int, 6002, .inl (fun _ => 0))) := gt8
  replace gt13 : h[m + 2 + 8]? = some (.inl (.int, 56, .inl (fun _ => 0))) := gt13
  replace gt14 : h[m + 2 + 9]? = some (.inl (.int, 56, .inl (fun _ => 0))) := gt14
  replace gt15 : h[m + 2 + 10]? = some (.inl (.int, 56, .inl (fun _ => 0))) := gt15
  replace gt17 : h[m + 2 + 11]? = some (.inl (.int, 16, .inl (fun _ => 0))) := gt17
  replace gt18 : h[m + 2 + 12]? = some (.inl (.int, 17, .inl (fun _ => 0))) := gt18
  replace gt19 : h[m + 2 + 13]? = some (.inl (.int, 48, .inl (fun _ => 0))) := gt19
  replace gt20 : h[m + 2 + 14]? = some (.inl (.int, 48, .inl (fun _ => 0))) := gt20
  replace gt22 : h[m + 2 + 15]? = some (.inl (.int, 8, .inl (fun _ => 0))) := gt22
  replace gt23 : h[m + 2 + 16]? = some (.inl (.int, 8, .inl (fun _ => 0))) := gt23
  replace gt24 : h[m + 2 + 17]? = some (.inl (.int, 32, .inl (fun _ => 0))) := gt24
  replace gt25 : h[m + 2 + 18]? = some (.inl (.int, 32, .inl (fun _ => 0))) := gt25
  replace gt27 : h[m + 2 + 19]? = some (.inl (.int, 16, .inl (fun _ => 0))) := gt27
  replace gt28 : h[m + 2 + 20]? = some (.inl (.int, 768, .inl (fun _ => 0))) := gt28
  replace gt30 : h[m + 2 + 21]? = some (.inl (.int, 16, .inl (fun _ => 0))) := gt30
  replace gt31 : h[m + 2 + 22]? = some (.inl (.int, 16, .inl (fun _ => 0))) := gt31
  replace gt32 : h[m + 2 + 23]? = some (.inl (.int, 16, .inl (fun _ => 0))) := gt32
  replace gt33 : h[m + 2 + 24]? = some (.inl (.int, 16, .inl (fun _ => 0))) := gt33
  replace gt34 : h[m + 2 + 25]? = some (.inl (.int, 16, .inl (fun _ => 0))) := gt34
  replace gt35 : h[m + 2 + 26]? = some (.inl (.int, 16, .inl (fun _ => 0))) := gt35
  replace gt36 : h[m + 2 + 27]? = some (.inl (.int, 16, .inl (fun _ => 0))) := gt36
  replace gt38 : h[m + 2 + 28]? = some (.inl (.int, 12, .inl (fun _ => 0))) := gt38
  replace gt39 : h[m + 2 + 29]? = some (.inl (.int, 12, .inl (fun _ => 0))) := gt39
  replace gt40 : h[m + 2 + 30]? = some (.inl (.boolean, 12, .inl (fun _ => 0))) := gt40
  have hO0 := hO; obtain ⟨guo, gu0, gu3, gu4, gu5, gu6, gu7, gu8, gu13, gu14, gu15, gu17, gu18, gu19, gu20, gu22, gu23, gu24, gu25, gu27, gu28, gu30, gu31, gu32, gu33, gu34, gu35, gu36, gu38, gu39, gu40⟩ := hO
  replace guo : h[m + 33]? = some (.inr (14, [.ref (m + 33 + 1), .int 0, .int 0, .ref (m + 33 + 2), .ref (m + 33 + 3), .ref (m + 33 + 4), .ref (m + 33 + 5), .ref (m + 33 + 6), .ref (m + 33 + 7), .int 0, .int 0, .int 0, .int 0, .ref (m + 33 + 8), .ref (m + 33 + 9), .ref (m + 33 + 10), .int 0, .ref (m + 33 + 11), .ref (m + 33 + 12), .ref (m + 33 + 13), .ref (m + 33 + 14), .int 0, .ref (m + 33 + 15), .ref (m + 33 + 16), .ref (m + 33 + 17), .ref (m + 33 + 18), .int 0, .ref (m + 33 + 19), .ref (m + 33 + 20), .int 0, .ref (m + 33 + 21), .ref (m + 33 + 22), .ref (m + 33 + 23), .ref (m + 33 + 24), .ref (m + 33 + 25), .ref (m + 33 + 26), .ref (m + 33 + 27), .int 0, .ref (m + 33 + 28), .ref (m + 33 + 29), .ref (m + 33 + 30), .int 0, .int 0])) := guo
  replace gu0 : h[m + 33 + 1]? = some (.inl (.byte, 6000, .inl (fun _ => 0))) := gu0
  replace gu3 : h[m + 33 + 2]? = some (.inl (.int, 6002, .inl (fun _ => 0))) := gu3
  replace gu4 : h[m + 33 + 3]? = some (.inl (.int, 6002, .inl (fun _ => 0))) := gu4
  replace gu5 : h[m + 33 + 4]? = some (.inl (.int, 6002, .inl (fun _ => 0))) := gu5
  replace gu6 : h[m + 33 + 5]? = some (.inl (.int, 6002, .inl (fun _ => 0))) := gu6
  replace gu7 : h[m + 33 + 6]? = some (.inl (.boolean, 6002, .inl (fun _ => 0))) := gu7
  replace gu8 : h[m + 33 + 7]? = some (.inl (.int, 6002, .inl (fun _ => 0))) := gu8
  replace gu13 : h[m + 33 + 8]? = some (.inl (.int, 56, .inl (fun _ => 0))) := gu13
  replace gu14 : h[m + 33 + 9]? = some (.inl (.int, 56, .inl (fun _ => 0))) := gu14
  replace gu15 : h[m + 33 + 10]? = some (.inl (.int, 56, .inl (fun _ => 0))) := gu15
  replace gu17 : h[m + 33 + 11]? = some (.inl (.int, 16, .inl (fun _ => 0))) := gu17
  replace gu18 : h[m + 33 + 12]? = some (.inl (.int, 17, .inl (fun _ => 0))) := gu18
  replace gu19 : h[m + 33 + 13]? = some (.inl (.int, 48, .inl (fun _ => 0))) := gu19
  replace gu20 : h[m + 33 + 14]? = some (.inl (.int, 48, .inl (fun _ => 0))) := gu20
  replace gu22 : h[m + 33 + 15]? = some (.inl (.int, 8, .inl (fun _ => 0))) := gu22
  replace gu23 : h[m + 33 + 16]? = some (.inl (.int, 8, .inl (fun _ => 0))) := gu23
  replace gu24 : h[m + 33 + 17]? = some (.inl (.int, 32, .inl (fun _ => 0))) := gu24
  replace gu25 : h[m + 33 + 18]? = some (.inl (.int, 32, .inl (fun _ => 0))) := gu25
  replace gu27 : h[m + 33 + 19]? = some (.inl (.int, 16, .inl (fun _ => 0))) := gu27
  replace gu28 : h[m + 33 + 20]? = some (.inl (.int, 768, .inl (fun _ => 0))) := gu28
  replace gu30 : h[m + 33 + 21]? = some (.inl (.int, 16, .inl (fun _ => 0))) := gu30
  replace gu31 : h[m + 33 + 22]? = some (.inl (.int, 16, .inl (fun _ => 0))) := gu31
  replace gu32 : h[m + 33 + 23]? = some (.inl (.int, 16, .inl (fun _ => 0))) := gu32
  replace gu33 : h[m + 33 + 24]? = some (.inl (.int, 16, .inl (fun _ => 0))) := gu33
  replace gu34 : h[m + 33 + 25]? = some (.inl (.int, 16, .inl (fun _ => 0))) := gu34
  replace gu35 : h[m + 33 + 26]? = some (.inl (.int, 16, .inl (fun _ => 0))) := gu35
  replace gu36 : h[m + 33 + 27]? = some (.inl (.int, 16, .inl (fun _ => 0))) := gu36
  replace gu38 : h[m + 33 + 28]? = some (.inl (.int, 12, .inl (fun _ => 0))) := gu38
  replace gu39 : h[m + 33 + 29]? = some (.inl (.int, 12, .inl (fun _ => 0))) := gu39
  replace gu40 : h[m + 33 + 30]? = some (.inl (.boolean, 12, .inl (fun _ => 0))) := gu40
  have hS0 := hS; obtain ⟨gso, gs4, gs5, gs6, gs7, gs9, gs10, gs11, gs12, gs17⟩ := hS
  replace gso : h[m + 64]? = some (.inr (13, [.int 0, .int 0, .int 0, .int 0, .ref (m + 64 + 1), .ref (m + 64 + 2), .ref (m + 64 + 3), .ref (m + 64 + 4), .int 0, .ref (m + 64 + 5), .ref (m + 64 + 6), .ref (m + 64 + 7), .ref (m + 64 + 8), .int (-1), .int 0, .int 0, .int 0, .ref (m + 64 + 9)])) := gso
  replace gs4 : h[m + 64 + 1]? = some (.inl (.int, 256, .inl (fun _ => 0))) := gs4
  replace gs5 : h[m + 64 + 2]? = some (.inl (.boolean, 256, .inl (fun _ => 0))) := gs5
  replace gs6 : h[m + 64 + 3]? = some (.inl (.int, 256, .inl (fun _ => 0))) := gs6
  replace gs7 : h[m + 64 + 4]? = some (.inl (.int, 12288, .inl (fun _ => 0))) := gs7
  replace gs9 : h[m + 64 + 5]? = some (.inl (.int, 256, .inl (fun _ => 0))) := gs9
  replace gs10 : h[m + 64 + 6]? = some (.inl (.int, 256, .inl (fun _ => 0))) := gs10
  replace gs11 : h[m + 64 + 7]? = some (.inl (.int, 256, .inl (fun _ => 0))) := gs11
  replace gs12 : h[m + 64 + 8]? = some (.inl (.int, 1024, .inl (fun _ => 0))) := gs12
  replace gs17 : h[m + 64 + 9]? = some (.inl (.int, 32, .inl (fun _ => 0))) := gs17
  have hN0 := hN; obtain ⟨gno, gn4, gn5, gn6, gn7, gn9, gn10, gn11, gn12, gn17⟩ := hN
  replace gno : h[m + 74]? = some (.inr (13, [.int 0, .int 0, .int 0, .int 0, .ref (m + 74 + 1), .ref (m + 74 + 2), .ref (m + 74 + 3), .ref (m + 74 + 4), .int 0, .ref (m + 74 + 5), .ref (m + 74 + 6), .ref (m + 74 + 7), .ref (m + 74 + 8), .int (-1), .int 0, .int 0, .int 0, .ref (m + 74 + 9)])) := gno
  replace gn4 : h[m + 74 + 1]? = some (.inl (.int, 256, .inl (fun _ => 0))) := gn4
  replace gn5 : h[m + 74 + 2]? = some (.inl (.boolean, 256, .inl (fun _ => 0))) := gn5
  replace gn6 : h[m + 74 + 3]? = some (.inl (.int, 256, .inl (fun _ => 0))) := gn6
  replace gn7 : h[m + 74 + 4]? = some (.inl (.int, 12288, .inl (fun _ => 0))) := gn7
  replace gn9 : h[m + 74 + 5]? = some (.inl (.int, 256, .inl (fun _ => 0))) := gn9
  replace gn10 : h[m + 74 + 6]? = some (.inl (.int, 256, .inl (fun _ => 0))) := gn10
  replace gn11 : h[m + 74 + 7]? = some (.inl (.int, 256, .inl (fun _ => 0))) := gn11
  replace gn12 : h[m + 74 + 8]? = some (.inl (.int, 1024, .inl (fun _ => 0))) := gn12
  replace gn17 : h[m + 74 + 9]? = some (.inl (.int, 32, .inl (fun _ => 0))) := gn17
  have hD0 := hD; obtain ⟨gdo, gd4, gd5, gd6, gd7, gd9, gd10, gd11, gd12, gd17⟩ := hD
  replace gdo : h[m + 84]? = some (.inr (13, [.int 0, .int 0, .int 0, .int 0, .ref (m + 84 + 1), .ref (m + 84 + 2), .ref (m + 84 + 3), .ref (m + 84 + 4), .int 0, .ref (m + 84 + 5), .ref (m + 84 + 6), .ref (m + 84 + 7), .ref (m + 84 + 8), .int (-1), .int 0, .int 0, .int 0, .ref (m + 84 + 9)])) := gdo
  replace gd4 : h[m + 84 + 1]? = some (.inl (.int, 256, .inl (fun _ => 0))) := gd4
  replace gd5 : h[m + 84 + 2]? = some (.inl (.boolean, 256, .inl (fun _ => 0))) := gd5
  replace gd6 : h[m + 84 + 3]? = some (.inl (.int, 256, .inl (fun _ => 0))) := gd6
  replace gd7 : h[m + 84 + 4]? = some (.inl (.int, 12288, .inl (fun _ => 0))) := gd7
  replace gd9 : h[m + 84 + 5]? = some (.inl (.int, 256, .inl (fun _ => 0))) := gd9
  replace gd10 : h[m + 84 + 6]? = some (.inl (.int, 256, .inl (fun _ => 0))) := gd10
  replace gd11 : h[m + 84 + 7]? = some (.inl (.int, 256, .inl (fun _ => 0))) := gd11
  replace gd12 : h[m + 84 + 8]? = some (.inl (.int, 1024, .inl (fun _ => 0))) := gd12
  replace gd17 : h[m + 84 + 9]? = some (.inl (.int, 32, .inl (fun _ => 0))) := gd17
  refine ab_of2 (lv := [some (.ref m), none]) 1 rfl rfl (Nat.le_of_ble_eq_true rfl) ?_
  refine ab_aload_n d_M_swap_0 rfl rfl rfl ?_
  refine ab_iconst (v := 0) d_M_swap_1 (by decide) ?_
  refine ab_put (f := 0) d_M_swap_2 gmo rfl (by decide) (k9 233 rfl rfl) rfl rfl (fun _ => rfl) (fun _ => rfl) (Nat.le_of_ble_eq_true rfl) ?_
  show ab_V _ _ _ _ _ _ _ 5 [some (.ref m), none] [] (h.set m (.inr (12, [.int 0, .ref (m + 1), .int 0, .ref (m + 2), .ref (m + 33), .int 0, .int (-1), .int (-1), .ref (m + 64), .ref (m + 74), .ref (m + 84), .ref (m + 94), .int 1, .int 0, .ref (m + 99), .ref (m + 100), .ref (m + 101), .ref (m + 102), .ref (m + 103), .ref (m + 104), .int 0, .ref (m + 105), .int 0, .int 0, .int 0, .ref (m + 106), .ref (m + 107), .int 0, .int 0])))
  refine ab_gen (fun h1 e2 => ?_)
  have c3 : h1[m]? = some (.inr (12, [.int 0, .ref (m + 1), .int 0, .ref (m + 2), .ref (m + 33), .int 0, .int (-1), .int (-1), .ref (m + 64), .ref (m + 74), .ref (m + 84), .ref (m + 94), .int 1, .int 0, .ref (m + 99), .ref (m + 100), .ref (m + 101), .ref (m + 102), .ref (m + 103), .ref (m + 104), .int 0, .ref (m + 105), .int 0, .int 0, .int 0, .ref (m + 106), .ref (m + 107), .int 0, .int 0])) := ab_self e2 gmo
  have c4 : h1[m+1]? = some (.inl (.byte, 6000, .inl (fun _ => 0))) := ab_other e2 (by omega) gm1
  have c5 : h1[m+99]? = some (.inl (.int, 256, .inl (fun _ => 0))) := ab_other e2 (by omega) gm14
  have c6 : h1[m+100]? = some (.inl (.boolean, 256, .inl (fun _ => 0))) := ab_other e2 (by omega) gm15
  have c7 : h1[m+101]? = some (.inl (.int, 64, .inl (fun _ => 0))) := ab_other e2 (by omega) gm16
  have c8 : h1[m+102]? = some (.inl (.int, 4, .inl (fun _ => 0))) := ab_other e2 (by omega) gm17
  have c9 : h1[m+103]? = some (.inl (.int, 4, .inl (fun _ => 0))) := ab_other e2 (by omega) gm18
  have c10 : h1[m+104]? = some (.inl (.int, 256, .inl (fun _ => 0))) := ab_other e2 (by omega) gm19
  have c11 : h1[m+105]? = some (.inl (.byte, 58000, .inl (fun _ => 0))) := ab_other e2 (by omega) gm21
  have c12 : h1[m+106]? = some (.inl (.boolean, 8, .inl (a0_M w 25))) := ab_other e2 (by omega) gm25
  have c13 : h1[m+107]? = some (.inl (.boolean, 8, .inl (fun _ => 0))) := ab_other e2 (by omega) gm26
  have c14 : h1[m+2]? = some (.inr (14, [.ref (m + 2 + 1), .int 0, .int 0, .ref (m + 2 + 2), .ref (m + 2 + 3), .ref (m + 2 + 4), .ref (m + 2 + 5), .ref (m + 2 + 6), .ref (m + 2 + 7), .int 0, .int 0, .int 0, .int 0, .ref (m + 2 + 8), .ref (m + 2 + 9), .ref (m + 2 + 10), .int 0, .ref (m + 2 + 11), .ref (m + 2 + 12), .ref (m + 2 + 13), .ref (m + 2 + 14), .int 0, .ref (m + 2 + 15), .ref (m + 2 + 16), .ref (m + 2 + 17), .ref (m + 2 + 18), .int 0, .ref (m + 2 + 19), .ref (m + 2 + 20), .int 0, .ref (m + 2 + 21), .ref (m + 2 + 22), .ref (m + 2 + 23), .ref (m + 2 + 24), .ref (m + 2 + 25), .ref (m + 2 + 26), .ref (m + 2 + 27), .int 0, .ref (m + 2 + 28), .ref (m + 2 + 29), .ref (m + 2 + 30), .int 0, .int 0])) := ab_other e2 (by omega) gto
  have c15 : h1[m+2+1]? = some (.inl (.byte, 6000, .inl (fun _ => 0))) := ab_other e2 (by omega) gt0
  have c16 : h1[m+2+2]? = some (.inl (.int, 6002, .inl (fun _ => 0))) := ab_other e2 (by omega) gt3
  have c17 : h1[m+2+3]? = some (.inl (.int, 6002, .inl (fun _ => 0))) := ab_other e2 (by omega) gt4
  have c18 : h1[m+2+4]? = some (.inl (.int, 6002, .inl (fun _ => 0))) := ab_other e2 (by omega) gt5
  have c19 : h1[m+2+5]? = some (.inl (.int, 6002, .inl (fun _ => 0))) := ab_other e2 (by omega) gt6
  have c20 : h1[m+2+6]? = some (.inl (.boolean, 6002, .inl (fun _ => 0))) := ab_other e2 (by omega) gt7
  have c21 : h1[m+2+7]? = some (.inl (.int, 6002, .inl (fun _ => 0))) := ab_other e2 (by omega) gt8
  have c22 : h1[m+2+8]? = some (.inl (.int, 56, .inl (fun _ => 0))) := ab_other e2 (by omega) gt13
  have c23 : h1[m+2+9]? = some (.inl (.int, 56, .inl (fun _ => 0))) := ab_other e2 (by omega) gt14
  have c24 : h1[m+2+10]? = some (.inl (.int, 56, .inl (fun _ => 0))) := ab_other e2 (by omega) gt15
  have c25 : h1[m+2+11]? = some (.inl (.int, 16, .inl (fun _ => 0))) := ab_other e2 (by omega) gt17
  have c26 : h1[m+2+12]? = some (.inl (.int, 17, .inl (fun _ => 0))) := ab_other e2 (by omega) gt18
  have c27 : h1[m+2+13]? = some (.inl (.int, 48, .inl (fun _ => 0))) := ab_other e2 (by omega) gt19
  have c28 : h1[m+2+14]? = some (.inl (.int, 48, .inl (fun _ => 0))) := ab_other e2 (by omega) gt20
  have c29 : h1[m+2+15]? = some (.inl (.int, 8, .inl (fun _ => 0))) := ab_other e2 (by omega) gt22
  have c30 : h1[m+2+16]? = some (.inl (.int, 8, .inl (fun _ => 0))) := ab_other e2 (by omega) gt23
  have c31 : h1[m+2+17]? = some (.inl (.int, 32, .inl (fun _ => 0))) := ab_other e2 (by omega) gt24
  have c32 : h1[m+2+18]? = some (.inl (.int, 32, .inl (fun _ => 0))) := ab_other e2 (by omega) gt25
  have c33 : h1[m+2+19]? = some (.inl (.int, 16, .inl (fun _ => 0))) := ab_other e2 (by omega) gt27
  have c34 : h1[m+2+20]? = some (.inl (.int, 768, .inl (fun _ => 0))) := ab_other e2 (by omega) gt28
  have c35 : h1[m+2+21]? = some (.inl (.int, 16, .inl (fun _ => 0))) := ab_other e2 (by omega) gt30
  have c36 : h1[m+2+22]? = some (.inl (.int, 16, .inl (fun _ => 0))) := ab_other e2 (by omega) gt31
  have c37 : h1[m+2+23]? = some (.inl (.int, 16, .inl (fun _ => 0))) := ab_other e2 (by omega) gt32
  have c38 : h1[m+2+24]? = some (.inl (.int, 16, .inl (fun _ => 0))) := ab_other e2 (by omega) gt33
  have c39 : h1[m+2+25]? = some (.inl (.int, 16, .inl (fun _ => 0))) := ab_other e2 (by omega) gt34
  have c40 : h1[m+2+26]? = some (.inl (.int, 16, .inl (fun _ => 0))) := ab_other e2 (by omega) gt35
  have c41 : h1[m+2+27]? = some (.inl (.int, 16, .inl (fun _ => 0))) := ab_other e2 (by omega) gt36
  have c42 : h1[m+2+28]? = some (.inl (.int, 12, .inl (fun _ => 0))) := ab_other e2 (by omega) gt38
  have c43 : h1[m+2+29]? = some (.inl (.int, 12, .inl (fun _ => 0))) := ab_other e2 (by omega) gt39
  have c44 : h1[m+2+30]? = some (.inl (.boolean, 12, .inl (fun _ => 0))) := ab_other e2 (by omega) gt40
  have c45 : h1[m+33]? = some (.inr (14, [.ref (m + 33 + 1), .int 0, .int 0, .ref (m + 33 + 2), .ref (m + 33 + 3), .ref (m + 33 + 4), .ref (m + 33 + 5), .ref (m + 33 + 6), .ref (m + 33 + 7), .int 0, .int 0, .int 0, .int 0, .ref (m + 33 + 8), .ref (m + 33 + 9), .ref (m + 33 + 10), .int 0, .ref (m + 33 + 11), .ref (m + 33 + 12), .ref (m + 33 + 13), .ref (m + 33 + 14), .int 0, .ref (m + 33 + 15), .ref (m + 33 + 16), .ref (m + 33 + 17), .ref (m + 33 + 18), .int 0, .ref (m + 33 + 19), .ref (m + 33 + 20), .int 0, .ref (m + 33 + 21), .ref (m + 33 + 22), .ref (m + 33 + 23), .ref (m + 33 + 24), .ref (m + 33 + 25), .ref (m + 33 + 26), .ref (m + 33 + 27), .int 0, .ref (m + 33 + 28), .ref (m + 33 + 29), .ref (m + 33 + 30), .int 0, .int 0])) := ab_other e2 (by omega) guo
  have c46 : h1[m+33+1]? = some (.inl (.byte, 6000, .inl (fun _ => 0))) := ab_other e2 (by omega) gu0
  have c47 : h1[m+33+2]? = some (.inl (.int, 6002, .inl (fun _ => 0))) := ab_other e2 (by omega) gu3
  have c48 : h1[m+33+3]? = some (.inl (.int, 6002, .inl (fun _ => 0))) := ab_other e2 (by omega) gu4
  have c49 : h1[m+33+4]? = some (.inl (.int, 6002, .inl (fun _ => 0))) := ab_other e2 (by omega) gu5
  have c50 : h1[m+33+5]? = some (.inl (.int, 6002, .inl (fun _ => 0))) := ab_other e2 (by omega) gu6
  have c51 : h1[m+33+6]? = some (.inl (.boolean, 6002, .inl (fun _ => 0))) := ab_other e2 (by omega) gu7
  have c52 : h1[m+33+7]? = some (.inl (.int, 6002, .inl (fun _ => 0))) := ab_other e2 (by omega) gu8
  have c53 : h1[m+33+8]? = some (.inl (.int, 56, .inl (fun _ => 0))) := ab_other e2 (by omega) gu13
  have c54 : h1[m+33+9]? = some (.inl (.int, 56, .inl (fun _ => 0))) := ab_other e2 (by omega) gu14
  have c55 : h1[m+33+10]? = some (.inl (.int, 56, .inl (fun _ => 0))) := ab_other e2 (by omega) gu15
  have c56 : h1[m+33+11]? = some (.inl (.int, 16, .inl (fun _ => 0))) := ab_other e2 (by omega) gu17
  have c57 : h1[m+33+12]? = some (.inl (.int, 17, .inl (fun _ => 0))) := ab_other e2 (by omega) gu18
  have c58 : h1[m+33+13]? = some (.inl (.int, 48, .inl (fun _ => 0))) := ab_other e2 (by omega) gu19
  have c59 : h1[m+33+14]? = some (.inl (.int, 48, .inl (fun _ => 0))) := ab_other e2 (by omega) gu20
  have c60 : h1[m+33+15]? = some (.inl (.int, 8, .inl (fun _ => 0))) := ab_other e2 (by omega) gu22
  have c61 : h1[m+33+16]? = some (.inl (.int, 8, .inl (fun _ => 0))) := ab_other e2 (by omega) gu23
  have c62 : h1[m+33+17]? = some (.inl (.int, 32, .inl (fun _ => 0))) := ab_other e2 (by omega) gu24
  have c63 : h1[m+33+18]? = some (.inl (.int, 32, .inl (fun _ => 0))) := ab_other e2 (by omega) gu25
  have c64 : h1[m+33+19]? = some (.inl (.int, 16, .inl (fun _ => 0))) := ab_other e2 (by omega) gu27
  have c65 : h1[m+33+20]? = some (.inl (.int, 768, .inl (fun _ => 0))) := ab_other e2 (by omega) gu28
  have c66 : h1[m+33+21]? = some (.inl (.int, 16, .inl (fun _ => 0))) := ab_other e2 (by omega) gu30
  have c67 : h1[m+33+22]? = some (.inl (.int, 16, .inl (fun _ => 0))) := ab_other e2 (by omega) gu31
  have c68 : h1[m+33+23]? = some (.inl (.int, 16, .inl (fun _ => 0))) := ab_other e2 (by omega) gu32
  have c69 : h1[m+33+24]? = some (.inl (.int, 16, .inl (fun _ => 0))) := ab_other e2 (by omega) gu33
  have c70 : h1[m+33+25]? = some (.inl (.int, 16, .inl (fun _ => 0))) := ab_other e2 (by omega) gu34
  have c71 : h1[m+33+26]? = some (.inl (.int, 16, .inl (fun _ => 0))) := ab_other e2 (by omega) gu35
  have c72 : h1[m+33+27]? = some (.inl (.int, 16, .inl (fun _ => 0))) := ab_other e2 (by omega) gu36
  have c73 : h1[m+33+28]? = some (.inl (.int, 12, .inl (fun _ => 0))) := ab_other e2 (by omega) gu38
  have c74 : h1[m+33+29]? = some (.inl (.int, 12, .inl (fun _ => 0))) := ab_other e2 (by omega) gu39
  have c75 : h1[m+33+30]? = some (.inl (.boolean, 12, .inl (fun _ => 0))) := ab_other e2 (by omega) gu40
  have c76 : h1[m+64]? = some (.inr (13, [.int 0, .int 0, .int 0, .int 0, .ref (m + 64 + 1), .ref (m + 64 + 2), .ref (m + 64 + 3), .ref (m + 64 + 4), .int 0, .ref (m + 64 + 5), .ref (m + 64 + 6), .ref (m + 64 + 7), .ref (m + 64 + 8), .int (-1), .int 0, .int 0, .int 0, .ref (m + 64 + 9)])) := ab_other e2 (by omega) gso
  have c77 : h1[m+64+1]? = some (.inl (.int, 256, .inl (fun _ => 0))) := ab_other e2 (by omega) gs4
  have c78 : h1[m+64+2]? = some (.inl (.boolean, 256, .inl (fun _ => 0))) := ab_other e2 (by omega) gs5
  have c79 : h1[m+64+3]? = some (.inl (.int, 256, .inl (fun _ => 0))) := ab_other e2 (by omega) gs6
  have c80 : h1[m+64+4]? = some (.inl (.int, 12288, .inl (fun _ => 0))) := ab_other e2 (by omega) gs7
  have c81 : h1[m+64+5]? = some (.inl (.int, 256, .inl (fun _ => 0))) := ab_other e2 (by omega) gs9
  have c82 : h1[m+64+6]? = some (.inl (.int, 256, .inl (fun _ => 0))) := ab_other e2 (by omega) gs10
  have c83 : h1[m+64+7]? = some (.inl (.int, 256, .inl (fun _ => 0))) := ab_other e2 (by omega) gs11
  have c84 : h1[m+64+8]? = some (.inl (.int, 1024, .inl (fun _ => 0))) := ab_other e2 (by omega) gs12
  have c85 : h1[m+64+9]? = some (.inl (.int, 32, .inl (fun _ => 0))) := ab_other e2 (by omega) gs17
  have c86 : h1[m+74]? = some (.inr (13, [.int 0, .int 0, .int 0, .int 0, .ref (m + 74 + 1), .ref (m + 74 + 2), .ref (m + 74 + 3), .ref (m + 74 + 4), .int 0, .ref (m + 74 + 5), .ref (m + 74 + 6), .ref (m + 74 + 7), .ref (m + 74 + 8), .int (-1), .int 0, .int 0, .int 0, .ref (m + 74 + 9)])) := ab_other e2 (by omega) gno
  have c87 : h1[m+74+1]? = some (.inl (.int, 256, .inl (fun _ => 0))) := ab_other e2 (by omega) gn4
  have c88 : h1[m+74+2]? = some (.inl (.boolean, 256, .inl (fun _ => 0))) := ab_other e2 (by omega) gn5
  have c89 : h1[m+74+3]? = some (.inl (.int, 256, .inl (fun _ => 0))) := ab_other e2 (by omega) gn6
  have c90 : h1[m+74+4]? = some (.inl (.int, 12288, .inl (fun _ => 0))) := ab_other e2 (by omega) gn7
  have c91 : h1[m+74+5]? = some (.inl (.int, 256, .inl (fun _ => 0))) := ab_other e2 (by omega) gn9
  have c92 : h1[m+74+6]? = some (.inl (.int, 256, .inl (fun _ => 0))) := ab_other e2 (by omega) gn10
  have c93 : h1[m+74+7]? = some (.inl (.int, 256, .inl (fun _ => 0))) := ab_other e2 (by omega) gn11
  have c94 : h1[m+74+8]? = some (.inl (.int, 1024, .inl (fun _ => 0))) := ab_other e2 (by omega) gn12
  have c95 : h1[m+74+9]? = some (.inl (.int, 32, .inl (fun _ => 0))) := ab_other e2 (by omega) gn17
  have c96 : h1[m+84]? = some (.inr (13, [.int 0, .int 0, .int 0, .int 0, .ref (m + 84 + 1), .ref (m + 84 + 2), .ref (m + 84 + 3), .ref (m + 84 + 4), .int 0, .ref (m + 84 + 5), .ref (m + 84 + 6), .ref (m + 84 + 7), .ref (m + 84 + 8), .int (-1), .int 0, .int 0, .int 0, .ref (m + 84 + 9)])) := ab_other e2 (by omega) gdo
  have c97 : h1[m+84+1]? = some (.inl (.int, 256, .inl (fun _ => 0))) := ab_other e2 (by omega) gd4
  have c98 : h1[m+84+2]? = some (.inl (.boolean, 256, .inl (fun _ => 0))) := ab_other e2 (by omega) gd5
  have c99 : h1[m+84+3]? = some (.inl (.int, 256, .inl (fun _ => 0))) := ab_other e2 (by omega) gd6
  have c100 : h1[m+84+4]? = some (.inl (.int, 12288, .inl (fun _ => 0))) := ab_other e2 (by omega) gd7
  have c101 : h1[m+84+5]? = some (.inl (.int, 256, .inl (fun _ => 0))) := ab_other e2 (by omega) gd9
  have c102 : h1[m+84+6]? = some (.inl (.int, 256, .inl (fun _ => 0))) := ab_other e2 (by omega) gd10
  have c103 : h1[m+84+7]? = some (.inl (.int, 256, .inl (fun _ => 0))) := ab_other e2 (by omega) gd11
  have c104 : h1[m+84+8]? = some (.inl (.int, 1024, .inl (fun _ => 0))) := ab_other e2 (by omega) gd12
  have c105 : h1[m+84+9]? = some (.inl (.int, 32, .inl (fun _ => 0))) := ab_other e2 (by omega) gd17
  have fr106 : ab_fr (fun _ => True) h h1 := ab_fr_set (ab_fr_rf _ _) e2 (by trivial)
  clear e2
  refine ab_aload_n d_M_swap_5 rfl rfl rfl ?_
  refine ab_callV_a (As := []) (rest := []) d_M_swap_6 (r_M_isQuiet c3 c86 c76) (ab_mkC s_M_isQuiet (Nat.le_of_ble_eq_true rfl) (Nat.le_of_ble_eq_true rfl) (by decide) (by decide)) (k11 166 rfl rfl) i_M_isQuiet v_M_isQuiet c3 rfl rfl (Nat.le_of_ble_eq_true rfl) (fun h108 q107 => ?_)
  subst q107
  refine ab_if_ne (tgt := 15) d_M_swap_9 (by decide) (fun q109 => ?_) (fun q109 => by exact absurd q109 (by decide))
  refine ab_aload_n d_M_swap_15 rfl rfl rfl ?_
  refine ab_callV_a (As := []) (rest := []) d_M_swap_16 (r_M_reads c3 c45 c47 c48 c49 c51 c52 c57) (ab_mkC s_M_reads (Nat.le_of_ble_eq_true rfl) (Nat.le_of_ble_eq_true rfl) (by decide) (by decide)) (k10 100 rfl rfl) i_M_reads v_M_reads c3 rfl rfl (Nat.le_of_ble_eq_true rfl) (fun h110 q111 => ?_)
  obtain ⟨c113, c114, f112⟩ := q111
  have c115 : h110[m+1]? = some (.inl (.byte, 6000, .inl (fun _ => 0))) := ab_fr_at f112 c4 (by simp only [in_MText] <;> omega)
  have c116 : h110[m+99]? = some (.inl (.int, 256, .inl (fun _ => 0))) := ab_fr_at f112 c5 (by simp only [in_MText] <;> omega)
  have c117 : h110[m+100]? = some (.inl (.boolean, 256, .inl (fun _ => 0))) := ab_fr_at f112 c6 (by simp only [in_MText] <;> omega)
  have c118 : h110[m+101]? = some (.inl (.int, 64, .inl (fun _ => 0))) := ab_fr_at f112 c7 (by simp only [in_MText] <;> omega)
  have c119 : h110[m+102]? = some (.inl (.int, 4, .inl (fun _ => 0))) := ab_fr_at f112 c8 (by simp only [in_MText] <;> omega)
  have c120 : h110[m+103]? = some (.inl (.int, 4, .inl (fun _ => 0))) := ab_fr_at f112 c9 (by simp only [in_MText] <;> omega)
  have c121 : h110[m+104]? = some (.inl (.int, 256, .inl (fun _ => 0))) := ab_fr_at f112 c10 (by simp only [in_MText] <;> omega)
  have c122 : h110[m+105]? = some (.inl (.byte, 58000, .inl (fun _ => 0))) := ab_fr_at f112 c11 (by simp only [in_MText] <;> omega)
  have c123 : h110[m+106]? = some (.inl (.boolean, 8, .inl (a0_M w 25))) := ab_fr_at f112 c12 (by simp only [in_MText] <;> omega)
  have c124 : h110[m+107]? = some (.inl (.boolean, 8, .inl (fun _ => 0))) := ab_fr_at f112 c13 (by simp only [in_MText] <;> omega)
  have c125 : h110[m+2]? = some (.inr (14, [.ref (m + 2 + 1), .int 0, .int 0, .ref (m + 2 + 2), .ref (m + 2 + 3), .ref (m + 2 + 4), .ref (m + 2 + 5), .ref (m + 2 + 6), .ref (m + 2 + 7), .int 0, .int 0, .int 0, .int 0, .ref (m + 2 + 8), .ref (m + 2 + 9), .ref (m + 2 + 10), .int 0, .ref (m + 2 + 11), .ref (m + 2 + 12), .ref (m + 2 + 13), .ref (m + 2 + 14), .int 0, .ref (m + 2 + 15), .ref (m + 2 + 16), .ref (m + 2 + 17), .ref (m + 2 + 18), .int 0, .ref (m + 2 + 19), .ref (m + 2 + 20), .int 0, .ref (m + 2 + 21), .ref (m + 2 + 22), .ref (m + 2 + 23), .ref (m + 2 + 24), .ref (m + 2 + 25), .ref (m + 2 + 26), .ref (m + 2 + 27), .int 0, .ref (m + 2 + 28), .ref (m + 2 + 29), .ref (m + 2 + 30), .int 0, .int 0])) := ab_fr_at f112 c14 (by simp only [in_MText] <;> omega)
  have c126 : h110[m+2+1]? = some (.inl (.byte, 6000, .inl (fun _ => 0))) := ab_fr_at f112 c15 (by simp only [in_MText] <;> omega)
  have c127 : h110[m+2+2]? = some (.inl (.int, 6002, .inl (fun _ => 0))) := ab_fr_at f112 c16 (by simp only [in_MText] <;> omega)
  have c128 : h110[m+2+3]? = some (.inl (.int, 6002, .inl (fun _ => 0))) := ab_fr_at f112 c17 (by simp only [in_MText] <;> omega)
  have c129 : h110[m+2+4]? = some (.inl (.int, 6002, .inl (fun _ => 0))) := ab_fr_at f112 c18 (by simp only [in_MText] <;> omega)
  have c130 : h110[m+2+5]? = some (.inl (.int, 6002, .inl (fun _ => 0))) := ab_fr_at f112 c19 (by simp only [in_MText] <;> omega)
  have c131 : h110[m+2+6]? = some (.inl (.boolean, 6002, .inl (fun _ => 0))) := ab_fr_at f112 c20 (by simp only [in_MText] <;> omega)
  have c132 : h110[m+2+7]? = some (.inl (.int, 6002, .inl (fun _ => 0))) := ab_fr_at f112 c21 (by simp only [in_MText] <;> omega)
  have c133 : h110[m+2+8]? = some (.inl (.int, 56, .inl (fun _ => 0))) := ab_fr_at f112 c22 (by simp only [in_MText] <;> omega)
  have c134 : h110[m+2+9]? = some (.inl (.int, 56, .inl (fun _ => 0))) := ab_fr_at f112 c23 (by simp only [in_MText] <;> omega)
  have c135 : h110[m+2+10]? = some (.inl (.int, 56, .inl (fun _ => 0))) := ab_fr_at f112 c24 (by simp only [in_MText] <;> omega)
  have c136 : h110[m+2+11]? = some (.inl (.int, 16, .inl (fun _ => 0))) := ab_fr_at f112 c25 (by simp only [in_MText] <;> omega)
  have c137 : h110[m+2+12]? = some (.inl (.int, 17, .inl (fun _ => 0))) := ab_fr_at f112 c26 (by simp only [in_MText] <;> omega)
  have c138 : h110[m+2+13]? = some (.inl (.int, 48, .inl (fun _ => 0))) := ab_fr_at f112 c27 (by simp only [in_MText] <;> omega)
  have c139 : h110[m+2+14]? = some (.inl (.int, 48, .inl (fun _ => 0))) := ab_fr_at f112 c28 (by simp only [in_MText] <;> omega)
  have c140 : h110[m+2+15]? = some (.inl (.int, 8, .inl (fun _ => 0))) := ab_fr_at f112 c29 (by simp only [in_MText] <;> omega)
  have c141 : h110[m+2+16]? = some (.inl (.int, 8, .inl (fun _ => 0))) := ab_fr_at f112 c30 (by simp only [in_MText] <;> omega)
  have c142 : h110[m+2+17]? = some (.inl (.int, 32, .inl (fun _ => 0))) := ab_fr_at f112 c31 (by simp only [in_MText] <;> omega)
  have c143 : h110[m+2+18]? = some (.inl (.int, 32, .inl (fun _ => 0))) := ab_fr_at f112 c32 (by simp only [in_MText] <;> omega)
  have c144 : h110[m+2+19]? = some (.inl (.int, 16, .inl (fun _ => 0))) := ab_fr_at f112 c33 (by simp only [in_MText] <;> omega)
  have c145 : h110[m+2+20]? = some (.inl (.int, 768, .inl (fun _ => 0))) := ab_fr_at f112 c34 (by simp only [in_MText] <;> omega)
  have c146 : h110[m+2+21]? = some (.inl (.int, 16, .inl (fun _ => 0))) := ab_fr_at f112 c35 (by simp only [in_MText] <;> omega)
  have c147 : h110[m+2+22]? = some (.inl (.int, 16, .inl (fun _ => 0))) := ab_fr_at f112 c36 (by simp only [in_MText] <;> omega)
  have c148 : h110[m+2+23]? = some (.inl (.int, 16, .inl (fun _ => 0))) := ab_fr_at f112 c37 (by simp only [in_MText] <;> omega)
  have c149 : h110[m+2+24]? = some (.inl (.int, 16, .inl (fun _ => 0))) := ab_fr_at f112 c38 (by simp only [in_MText] <;> omega)
  have c150 : h110[m+2+25]? = some (.inl (.int, 16, .inl (fun _ => 0))) := ab_fr_at f112 c39 (by simp only [in_MText] <;> omega)
  have c151 : h110[m+2+26]? = some (.inl (.int, 16, .inl (fun _ => 0))) := ab_fr_at f112 c40 (by simp only [in_MText] <;> omega)
  have c152 : h110[m+2+27]? = some (.inl (.int, 16, .inl (fun _ => 0))) := ab_fr_at f112 c41 (by simp only [in_MText] <;> omega)
  have c153 : h110[m+2+28]? = some (.inl (.int, 12, .inl (fun _ => 0))) := ab_fr_at f112 c42 (by simp only [in_MText] <;> omega)
  have c154 : h110[m+2+29]? = some (.inl (.int, 12, .inl (fun _ => 0))) := ab_fr_at f112 c43 (by simp only [in_MText] <;> omega)
  have c155 : h110[m+2+30]? = some (.inl (.boolean, 12, .inl (fun _ => 0))) := ab_fr_at f112 c44 (by simp only [in_MText] <;> omega)
  have c156 : h110[m+64]? = some (.inr (13, [.int 0, .int 0, .int 0, .int 0, .ref (m + 64 + 1), .ref (m + 64 + 2), .ref (m + 64 + 3), .ref (m + 64 + 4), .int 0, .ref (m + 64 + 5), .ref (m + 64 + 6), .ref (m + 64 + 7), .ref (m + 64 + 8), .int (-1), .int 0, .int 0, .int 0, .ref (m + 64 + 9)])) := ab_fr_at f112 c76 (by simp only [in_MText] <;> omega)
  have c157 : h110[m+64+1]? = some (.inl (.int, 256, .inl (fun _ => 0))) := ab_fr_at f112 c77 (by simp only [in_MText] <;> omega)
  have c158 : h110[m+64+2]? = some (.inl (.boolean, 256, .inl (fun _ => 0))) := ab_fr_at f112 c78 (by simp only [in_MText] <;> omega)
  have c159 : h110[m+64+3]? = some (.inl (.int, 256, .inl (fun _ => 0))) := ab_fr_at f112 c79 (by simp only [in_MText] <;> omega)
  have c160 : h110[m+64+4]? = some (.inl (.int, 12288, .inl (fun _ => 0))) := ab_fr_at f112 c80 (by simp only [in_MText] <;> omega)
  have c161 : h110[m+64+5]? = some (.inl (.int, 256, .inl (fun _ => 0))) := ab_fr_at f112 c81 (by simp only [in_MText] <;> omega)
  have c162 : h110[m+64+6]? = some (.inl (.int, 256, .inl (fun _ => 0))) := ab_fr_at f112 c82 (by simp only [in_MText] <;> omega)
  have c163 : h110[m+64+7]? = some (.inl (.int, 256, .inl (fun _ => 0))) := ab_fr_at f112 c83 (by simp only [in_MText] <;> omega)
  have c164 : h110[m+64+8]? = some (.inl (.int, 1024, .inl (fun _ => 0))) := ab_fr_at f112 c84 (by simp only [in_MText] <;> omega)
  have c165 : h110[m+64+9]? = some (.inl (.int, 32, .inl (fun _ => 0))) := ab_fr_at f112 c85 (by simp only [in_MText] <;> omega)
  have c166 : h110[m+74]? = some (.inr (13, [.int 0, .int 0, .int 0, .int 0, .ref (m + 74 + 1), .ref (m + 74 + 2), .ref (m + 74 + 3), .ref (m + 74 + 4), .int 0, .ref (m + 74 + 5), .ref (m + 74 + 6), .ref (m + 74 + 7), .ref (m + 74 + 8), .int (-1), .int 0, .int 0, .int 0, .ref (m + 74 + 9)])) := ab_fr_at f112 c86 (by simp only [in_MText] <;> omega)
  have c167 : h110[m+74+1]? = some (.inl (.int, 256, .inl (fun _ => 0))) := ab_fr_at f112 c87 (by simp only [in_MText] <;> omega)
  have c168 : h110[m+74+2]? = some (.inl (.boolean, 256, .inl (fun _ => 0))) := ab_fr_at f112 c88 (by simp only [in_MText] <;> omega)
  have c169 : h110[m+74+3]? = some (.inl (.int, 256, .inl (fun _ => 0))) := ab_fr_at f112 c89 (by simp only [in_MText] <;> omega)
  have c170 : h110[m+74+4]? = some (.inl (.int, 12288, .inl (fun _ => 0))) := ab_fr_at f112 c90 (by simp only [in_MText] <;> omega)
  have c171 : h110[m+74+5]? = some (.inl (.int, 256, .inl (fun _ => 0))) := ab_fr_at f112 c91 (by simp only [in_MText] <;> omega)
  have c172 : h110[m+74+6]? = some (.inl (.int, 256, .inl (fun _ => 0))) := ab_fr_at f112 c92 (by simp only [in_MText] <;> omega)
  have c173 : h110[m+74+7]? = some (.inl (.int, 256, .inl (fun _ => 0))) := ab_fr_at f112 c93 (by simp only [in_MText] <;> omega)
  have c174 : h110[m+74+8]? = some (.inl (.int, 1024, .inl (fun _ => 0))) := ab_fr_at f112 c94 (by simp only [in_MText] <;> omega)
  have c175 : h110[m+74+9]? = some (.inl (.int, 32, .inl (fun _ => 0))) := ab_fr_at f112 c95 (by simp only [in_MText] <;> omega)
  have c176 : h110[m+84]? = some (.inr (13, [.int 0, .int 0, .int 0, .int 0, .ref (m + 84 + 1), .ref (m + 84 + 2), .ref (m + 84 + 3), .ref (m + 84 + 4), .int 0, .ref (m + 84 + 5), .ref (m + 84 + 6), .ref (m + 84 + 7), .ref (m + 84 + 8), .int (-1), .int 0, .int 0, .int 0, .ref (m + 84 + 9)])) := ab_fr_at f112 c96 (by simp only [in_MText] <;> omega)
  have c177 : h110[m+84+1]? = some (.inl (.int, 256, .inl (fun _ => 0))) := ab_fr_at f112 c97 (by simp only [in_MText] <;> omega)
  have c178 : h110[m+84+2]? = some (.inl (.boolean, 256, .inl (fun _ => 0))) := ab_fr_at f112 c98 (by simp only [in_MText] <;> omega)
  have c179 : h110[m+84+3]? = some (.inl (.int, 256, .inl (fun _ => 0))) := ab_fr_at f112 c99 (by simp only [in_MText] <;> omega)
  have c180 : h110[m+84+4]? = some (.inl (.int, 12288, .inl (fun _ => 0))) := ab_fr_at f112 c100 (by simp only [in_MText] <;> omega)
  have c181 : h110[m+84+5]? = some (.inl (.int, 256, .inl (fun _ => 0))) := ab_fr_at f112 c101 (by simp only [in_MText] <;> omega)
  have c182 : h110[m+84+6]? = some (.inl (.int, 256, .inl (fun _ => 0))) := ab_fr_at f112 c102 (by simp only [in_MText] <;> omega)
  have c183 : h110[m+84+7]? = some (.inl (.int, 256, .inl (fun _ => 0))) := ab_fr_at f112 c103 (by simp only [in_MText] <;> omega)
  have c184 : h110[m+84+8]? = some (.inl (.int, 1024, .inl (fun _ => 0))) := ab_fr_at f112 c104 (by simp only [in_MText] <;> omega)
  have c185 : h110[m+84+9]? = some (.inl (.int, 32, .inl (fun _ => 0))) := ab_fr_at f112 c105 (by simp only [in_MText] <;> omega)
  have fr186 : ab_fr (fun _ => True) h h110 := ab_fr_tr fr106 (ab_fr_mono f112 (fun _ _ => trivial))
  clear c3 c4 c5 c6 c7 c8 c9 c10 c11 c12 c13 c14 c15 c16 c17 c18 c19 c20 c21 c22 c23 c24 c25 c26 c27 c28 c29 c30 c31 c32 c33 c34 c35 c36 c37 c38 c39 c40 c41 c42 c43 c44 c45 c76 c77 c78 c79 c80 c81 c82 c83 c84 c85 c86 c87 c88 c89 c90 c91 c92 c93 c94 c95 c96 c97 c98 c99 c100 c101 c102 c103 c104 c105 f112 fr106
  try clear h1
  replace c113 : h110[m]? = some (.inr (12, [.int 0, .ref (m + 1), .int 0, .ref (m + 2), .ref (m + 33), .int 0, .int (-1), .int (-1), .ref (m + 64), .ref (m + 74), .ref (m + 84), .ref (m + 94), .int 1, .int 0, .ref (m + 99), .ref (m + 100), .ref (m + 101), .ref (m + 102), .ref (m + 103), .ref (m + 104), .int 0, .ref (m + 105), .int 0, .int 0, .int 0, .ref (m + 106), .ref (m + 107), .int 0, .int 0])) := c113
  replace c114 : h110[m+33]? = some (.inr (14, [.ref (m + 33 + 1), .int 0, .int 1, .ref (m + 33 + 2), .ref (m + 33 + 3), .ref (m + 33 + 4), .ref (m + 33 + 5), .ref (m + 33 + 6), .ref (m + 33 + 7), .int 0, .int 0, .int 0, .int 0, .ref (m + 33 + 8), .ref (m + 33 + 9), .ref (m + 33 + 10), .int 0, .ref (m + 33 + 11), .ref (m + 33 + 12), .ref (m + 33 + 13), .ref (m + 33 + 14), .int 0, .ref (m + 33 + 15), .ref (m + 33 + 16), .ref (m + 33 + 17), .ref (m + 33 + 18), .int 0, .ref (m + 33 + 19), .ref (m + 33 + 20), .int 0, .ref (m + 33 + 21), .ref (m + 33 + 22), .ref (m + 33 + 23), .ref (m + 33 + 24), .ref (m + 33 + 25), .ref (m + 33 + 26), .ref (m + 33 + 27), .int 0, .ref (m + 33 + 28), .ref (m + 33 + 29), .ref (m + 33 + 30), .int 0, .int 0])) := c114
  refine ab_if_ne (tgt := 28) d_M_swap_19 (by decide) (fun q187 => ?_) (fun q187 => by exact absurd q187 (by decide))
  refine ab_aload_n d_M_swap_28 rfl rfl rfl ?_
  refine ab_callV_v (As := []) (rest := []) d_M_swap_29 (r_M_carries (show at_MWorld h110 (m + 74) s0_MW (fun _ _ => 0) from ⟨c166, c167, c168, c169, c170, c171, c172, c173, c174, c175⟩) (show at_MWorld h110 (m + 84) s0_MW (fun _ _ => 0) from ⟨c176, c177, c178, c179, c180, c181, c182, c183, c184, c185⟩) c113) (ab_mkC s_M_carries (Nat.le_of_ble_eq_true rfl) (Nat.le_of_ble_eq_true rfl) (by decide) (by decide)) (k11 170 rfl rfl) i_M_carries v_M_carries c113 rfl rfl (Nat.le_of_ble_eq_true rfl) (fun h188 q189 => ?_)
  obtain ⟨a192, kf190, f191⟩ := q189
  have c193 : h188[m+1]? = some (.inl (.byte, 6000, .inl (fun _ => 0))) := ab_fr_at f191 c115 (by simp only [in_MWorld] <;> omega)
  have c194 : h188[m+99]? = some (.inl (.int, 256, .inl (fun _ => 0))) := ab_fr_at f191 c116 (by simp only [in_MWorld] <;> omega)
  have c195 : h188[m+100]? = some (.inl (.boolean, 256, .inl (fun _ => 0))) := ab_fr_at f191 c117 (by simp only [in_MWorld] <;> omega)
  have c196 : h188[m+101]? = some (.inl (.int, 64, .inl (fun _ => 0))) := ab_fr_at f191 c118 (by simp only [in_MWorld] <;> omega)
  have c197 : h188[m+102]? = some (.inl (.int, 4, .inl (fun _ => 0))) := ab_fr_at f191 c119 (by simp only [in_MWorld] <;> omega)
  have c198 : h188[m+103]? = some (.inl (.int, 4, .inl (fun _ => 0))) := ab_fr_at f191 c120 (by simp only [in_MWorld] <;> omega)
  have c199 : h188[m+104]? = some (.inl (.int, 256, .inl (fun _ => 0))) := ab_fr_at f191 c121 (by simp only [in_MWorld] <;> omega)
  have c200 : h188[m+105]? = some (.inl (.byte, 58000, .inl (fun _ => 0))) := ab_fr_at f191 c122 (by simp only [in_MWorld] <;> omega)
  have c201 : h188[m+106]? = some (.inl (.boolean, 8, .inl (a0_M w 25))) := ab_fr_at f191 c123 (by simp only [in_MWorld] <;> omega)
  have c202 : h188[m+107]? = some (.inl (.boolean, 8, .inl (fun _ => 0))) := ab_fr_at f191 c124 (by simp only [in_MWorld] <;> omega)
  have c203 : h188[m+2]? = some (.inr (14, [.ref (m + 2 + 1), .int 0, .int 0, .ref (m + 2 + 2), .ref (m + 2 + 3), .ref (m + 2 + 4), .ref (m + 2 + 5), .ref (m + 2 + 6), .ref (m + 2 + 7), .int 0, .int 0, .int 0, .int 0, .ref (m + 2 + 8), .ref (m + 2 + 9), .ref (m + 2 + 10), .int 0, .ref (m + 2 + 11), .ref (m + 2 + 12), .ref (m + 2 + 13), .ref (m + 2 + 14), .int 0, .ref (m + 2 + 15), .ref (m + 2 + 16), .ref (m + 2 + 17), .ref (m + 2 + 18), .int 0, .ref (m + 2 + 19), .ref (m + 2 + 20), .int 0, .ref (m + 2 + 21), .ref (m + 2 + 22), .ref (m + 2 + 23), .ref (m + 2 + 24), .ref (m + 2 + 25), .ref (m + 2 + 26), .ref (m + 2 + 27), .int 0, .ref (m + 2 + 28), .ref (m + 2 + 29), .ref (m + 2 + 30), .int 0, .int 0])) := ab_fr_at f191 c125 (by simp only [in_MWorld] <;> omega)
  have c204 : h188[m+2+1]? = some (.inl (.byte, 6000, .inl (fun _ => 0))) := ab_fr_at f191 c126 (by simp only [in_MWorld] <;> omega)
  have c205 : h188[m+2+2]? = some (.inl (.int, 6002, .inl (fun _ => 0))) := ab_fr_at f191 c127 (by simp only [in_MWorld] <;> omega)
  have c206 : h188[m+2+3]? = some (.inl (.int, 6002, .inl (fun _ => 0))) := ab_fr_at f191 c128 (by simp only [in_MWorld] <;> omega)
  have c207 : h188[m+2+4]? = some (.inl (.int, 6002, .inl (fun _ => 0))) := ab_fr_at f191 c129 (by simp only [in_MWorld] <;> omega)
  have c208 : h188[m+2+5]? = some (.inl (.int, 6002, .inl (fun _ => 0))) := ab_fr_at f191 c130 (by simp only [in_MWorld] <;> omega)
  have c209 : h188[m+2+6]? = some (.inl (.boolean, 6002, .inl (fun _ => 0))) := ab_fr_at f191 c131 (by simp only [in_MWorld] <;> omega)
  have c210 : h188[m+2+7]? = some (.inl (.int, 6002, .inl (fun _ => 0))) := ab_fr_at f191 c132 (by simp only [in_MWorld] <;> omega)
  have c211 : h188[m+2+8]? = some (.inl (.int, 56, .inl (fun _ => 0))) := ab_fr_at f191 c133 (by simp only [in_MWorld] <;> omega)
  have c212 : h188[m+2+9]? = some (.inl (.int, 56, .inl (fun _ => 0))) := ab_fr_at f191 c134 (by simp only [in_MWorld] <;> omega)
  have c213 : h188[m+2+10]? = some (.inl (.int, 56, .inl (fun _ => 0))) := ab_fr_at f191 c135 (by simp only [in_MWorld] <;> omega)
  have c214 : h188[m+2+11]? = some (.inl (.int, 16, .inl (fun _ => 0))) := ab_fr_at f191 c136 (by simp only [in_MWorld] <;> omega)
  have c215 : h188[m+2+12]? = some (.inl (.int, 17, .inl (fun _ => 0))) := ab_fr_at f191 c137 (by simp only [in_MWorld] <;> omega)
  have c216 : h188[m+2+13]? = some (.inl (.int, 48, .inl (fun _ => 0))) := ab_fr_at f191 c138 (by simp only [in_MWorld] <;> omega)
  have c217 : h188[m+2+14]? = some (.inl (.int, 48, .inl (fun _ => 0))) := ab_fr_at f191 c139 (by simp only [in_MWorld] <;> omega)
  have c218 : h188[m+2+15]? = some (.inl (.int, 8, .inl (fun _ => 0))) := ab_fr_at f191 c140 (by simp only [in_MWorld] <;> omega)
  have c219 : h188[m+2+16]? = some (.inl (.int, 8, .inl (fun _ => 0))) := ab_fr_at f191 c141 (by simp only [in_MWorld] <;> omega)
  have c220 : h188[m+2+17]? = some (.inl (.int, 32, .inl (fun _ => 0))) := ab_fr_at f191 c142 (by simp only [in_MWorld] <;> omega)
  have c221 : h188[m+2+18]? = some (.inl (.int, 32, .inl (fun _ => 0))) := ab_fr_at f191 c143 (by simp only [in_MWorld] <;> omega)
  have c222 : h188[m+2+19]? = some (.inl (.int, 16, .inl (fun _ => 0))) := ab_fr_at f191 c144 (by simp only [in_MWorld] <;> omega)
  have c223 : h188[m+2+20]? = some (.inl (.int, 768, .inl (fun _ => 0))) := ab_fr_at f191 c145 (by simp only [in_MWorld] <;> omega)
  have c224 : h188[m+2+21]? = some (.inl (.int, 16, .inl (fun _ => 0))) := ab_fr_at f191 c146 (by simp only [in_MWorld] <;> omega)
  have c225 : h188[m+2+22]? = some (.inl (.int, 16, .inl (fun _ => 0))) := ab_fr_at f191 c147 (by simp only [in_MWorld] <;> omega)
  have c226 : h188[m+2+23]? = some (.inl (.int, 16, .inl (fun _ => 0))) := ab_fr_at f191 c148 (by simp only [in_MWorld] <;> omega)
  have c227 : h188[m+2+24]? = some (.inl (.int, 16, .inl (fun _ => 0))) := ab_fr_at f191 c149 (by simp only [in_MWorld] <;> omega)
  have c228 : h188[m+2+25]? = some (.inl (.int, 16, .inl (fun _ => 0))) := ab_fr_at f191 c150 (by simp only [in_MWorld] <;> omega)
  have c229 : h188[m+2+26]? = some (.inl (.int, 16, .inl (fun _ => 0))) := ab_fr_at f191 c151 (by simp only [in_MWorld] <;> omega)
  have c230 : h188[m+2+27]? = some (.inl (.int, 16, .inl (fun _ => 0))) := ab_fr_at f191 c152 (by simp only [in_MWorld] <;> omega)
  have c231 : h188[m+2+28]? = some (.inl (.int, 12, .inl (fun _ => 0))) := ab_fr_at f191 c153 (by simp only [in_MWorld] <;> omega)
  have c232 : h188[m+2+29]? = some (.inl (.int, 12, .inl (fun _ => 0))) := ab_fr_at f191 c154 (by simp only [in_MWorld] <;> omega)
  have c233 : h188[m+2+30]? = some (.inl (.boolean, 12, .inl (fun _ => 0))) := ab_fr_at f191 c155 (by simp only [in_MWorld] <;> omega)
  have c234 : h188[m+64]? = some (.inr (13, [.int 0, .int 0, .int 0, .int 0, .ref (m + 64 + 1), .ref (m + 64 + 2), .ref (m + 64 + 3), .ref (m + 64 + 4), .int 0, .ref (m + 64 + 5), .ref (m + 64 + 6), .ref (m + 64 + 7), .ref (m + 64 + 8), .int (-1), .int 0, .int 0, .int 0, .ref (m + 64 + 9)])) := ab_fr_at f191 c156 (by simp only [in_MWorld] <;> omega)
  have c235 : h188[m+64+1]? = some (.inl (.int, 256, .inl (fun _ => 0))) := ab_fr_at f191 c157 (by simp only [in_MWorld] <;> omega)
  have c236 : h188[m+64+2]? = some (.inl (.boolean, 256, .inl (fun _ => 0))) := ab_fr_at f191 c158 (by simp only [in_MWorld] <;> omega)
  have c237 : h188[m+64+3]? = some (.inl (.int, 256, .inl (fun _ => 0))) := ab_fr_at f191 c159 (by simp only [in_MWorld] <;> omega)
  have c238 : h188[m+64+4]? = some (.inl (.int, 12288, .inl (fun _ => 0))) := ab_fr_at f191 c160 (by simp only [in_MWorld] <;> omega)
  have c239 : h188[m+64+5]? = some (.inl (.int, 256, .inl (fun _ => 0))) := ab_fr_at f191 c161 (by simp only [in_MWorld] <;> omega)
  have c240 : h188[m+64+6]? = some (.inl (.int, 256, .inl (fun _ => 0))) := ab_fr_at f191 c162 (by simp only [in_MWorld] <;> omega)
  have c241 : h188[m+64+7]? = some (.inl (.int, 256, .inl (fun _ => 0))) := ab_fr_at f191 c163 (by simp only [in_MWorld] <;> omega)
  have c242 : h188[m+64+8]? = some (.inl (.int, 1024, .inl (fun _ => 0))) := ab_fr_at f191 c164 (by simp only [in_MWorld] <;> omega)
  have c243 : h188[m+64+9]? = some (.inl (.int, 32, .inl (fun _ => 0))) := ab_fr_at f191 c165 (by simp only [in_MWorld] <;> omega)
  have c244 : h188[m+74]? = some (.inr (13, [.int 0, .int 0, .int 0, .int 0, .ref (m + 74 + 1), .ref (m + 74 + 2), .ref (m + 74 + 3), .ref (m + 74 + 4), .int 0, .ref (m + 74 + 5), .ref (m + 74 + 6), .ref (m + 74 + 7), .ref (m + 74 + 8), .int (-1), .int 0, .int 0, .int 0, .ref (m + 74 + 9)])) := ab_fr_at f191 c166 (by simp only [in_MWorld] <;> omega)
  have c245 : h188[m+74+1]? = some (.inl (.int, 256, .inl (fun _ => 0))) := ab_fr_at f191 c167 (by simp only [in_MWorld] <;> omega)
  have c246 : h188[m+74+2]? = some (.inl (.boolean, 256, .inl (fun _ => 0))) := ab_fr_at f191 c168 (by simp only [in_MWorld] <;> omega)
  have c247 : h188[m+74+3]? = some (.inl (.int, 256, .inl (fun _ => 0))) := ab_fr_at f191 c169 (by simp only [in_MWorld] <;> omega)
  have c248 : h188[m+74+4]? = some (.inl (.int, 12288, .inl (fun _ => 0))) := ab_fr_at f191 c170 (by simp only [in_MWorld] <;> omega)
  have c249 : h188[m+74+5]? = some (.inl (.int, 256, .inl (fun _ => 0))) := ab_fr_at f191 c171 (by simp only [in_MWorld] <;> omega)
  have c250 : h188[m+74+6]? = some (.inl (.int, 256, .inl (fun _ => 0))) := ab_fr_at f191 c172 (by simp only [in_MWorld] <;> omega)
  have c251 : h188[m+74+7]? = some (.inl (.int, 256, .inl (fun _ => 0))) := ab_fr_at f191 c173 (by simp only [in_MWorld] <;> omega)
  have c252 : h188[m+74+8]? = some (.inl (.int, 1024, .inl (fun _ => 0))) := ab_fr_at f191 c174 (by simp only [in_MWorld] <;> omega)
  have c253 : h188[m+74+9]? = some (.inl (.int, 32, .inl (fun _ => 0))) := ab_fr_at f191 c175 (by simp only [in_MWorld] <;> omega)
  have c254 : h188[m]? = some (.inr (12, [.int 0, .ref (m + 1), .int 0, .ref (m + 2), .ref (m + 33), .int 0, .int (-1), .int (-1), .ref (m + 64), .ref (m + 74), .ref (m + 84), .ref (m + 94), .int 1, .int 0, .ref (m + 99), .ref (m + 100), .ref (m + 101), .ref (m + 102), .ref (m + 103), .ref (m + 104), .int 0, .ref (m + 105), .int 0, .int 0, .int 0, .ref (m + 106), .ref (m + 107), .int 0, .int 0])) := ab_fr_at f191 c113 (by simp only [in_MWorld] <;> omega)
  have c255 : h188[m+33]? = some (.inr (14, [.ref (m + 33 + 1), .int 0, .int 1, .ref (m + 33 + 2), .ref (m + 33 + 3), .ref (m + 33 + 4), .ref (m + 33 + 5), .ref (m + 33 + 6), .ref (m + 33 + 7), .int 0, .int 0, .int 0, .int 0, .ref (m + 33 + 8), .ref (m + 33 + 9), .ref (m + 33 + 10), .int 0, .ref (m + 33 + 11), .ref (m + 33 + 12), .ref (m + 33 + 13), .ref (m + 33 + 14), .int 0, .ref (m + 33 + 15), .ref (m + 33 + 16), .ref (m + 33 + 17), .ref (m + 33 + 18), .int 0, .ref (m + 33 + 19), .ref (m + 33 + 20), .int 0, .ref (m + 33 + 21), .ref (m + 33 + 22), .ref (m + 33 + 23), .ref (m + 33 + 24), .ref (m + 33 + 25), .ref (m + 33 + 26), .ref (m + 33 + 27), .int 0, .ref (m + 33 + 28), .ref (m + 33 + 29), .ref (m + 33 + 30), .int 0, .int 0])) := ab_fr_at f191 c114 (by simp only [in_MWorld] <;> omega)
  have fr256 : ab_fr (fun _ => True) h h188 := ab_fr_tr fr186 (ab_fr_mono f191 (fun _ _ => trivial))
  clear c115 c116 c117 c118 c119 c120 c121 c122 c123 c124 c125 c126 c127 c128 c129 c130 c131 c132 c133 c134 c135 c136 c137 c138 c139 c140 c141 c142 c143 c144 c145 c146 c147 c148 c149 c150 c151 c152 c153 c154 c155 c156 c157 c158 c159 c160 c161 c162 c163 c164 c165 c166 c167 c168 c169 c170 c171 c172 c173 c174 c175 c176 c177 c178 c179 c180 c181 c182 c183 c184 c185 c113 c114 f191 fr186
  try clear h110
  obtain ⟨g257o, g2574, g2575, g2576, g2577, g2579, g25710, g25711, g25712, g25717⟩ := kf190
  replace g257o : h188[m + 84]? = some (.inr (13, [.int 0, .int 0, .int 0, .int 0, .ref (m + 84 + 1), .ref (m + 84 + 2), .ref (m + 84 + 3), .ref (m + 84 + 4), .int 0, .ref (m + 84 + 5), .ref (m + 84 + 6), .ref (m + 84 + 7), .ref (m + 84 + 8), .int (-1), .int 0, .int 0, .int 0, .ref (m + 84 + 9)])) := g257o
  refine ab_aload_n d_M_swap_32 rfl rfl rfl ?_
  refine ab_callV_v (As := []) (rest := []) d_M_swap_33 (r_M_takes c254) (ab_mkC s_M_takes (Nat.le_of_ble_eq_true rfl) (Nat.le_of_ble_eq_true rfl) (by decide) (by decide)) (k11 141 rfl rfl) i_M_takes v_M_takes c254 rfl rfl (Nat.le_of_ble_eq_true rfl) (fun h258 q259 => ?_)
  obtain ⟨c261, f260⟩ := q259
  have c262 : h258[m+1]? = some (.inl (.byte, 6000, .inl (fun _ => 0))) := ab_fr_at f260 c193 (by omega)
  have c263 : h258[m+99]? = some (.inl (.int, 256, .inl (fun _ => 0))) := ab_fr_at f260 c194 (by omega)
  have c264 : h258[m+100]? = some (.inl (.boolean, 256, .inl (fun _ => 0))) := ab_fr_at f260 c195 (by omega)
  have c265 : h258[m+101]? = some (.inl (.int, 64, .inl (fun _ => 0))) := ab_fr_at f260 c196 (by omega)
  have c266 : h258[m+102]? = some (.inl (.int, 4, .inl (fun _ => 0))) := ab_fr_at f260 c197 (by omega)
  have c267 : h258[m+103]? = some (.inl (.int, 4, .inl (fun _ => 0))) := ab_fr_at f260 c198 (by omega)
  have c268 : h258[m+104]? = some (.inl (.int, 256, .inl (fun _ => 0))) := ab_fr_at f260 c199 (by omega)
  have c269 : h258[m+105]? = some (.inl (.byte, 58000, .inl (fun _ => 0))) := ab_fr_at f260 c200 (by omega)
  have c270 : h258[m+106]? = some (.inl (.boolean, 8, .inl (a0_M w 25))) := ab_fr_at f260 c201 (by omega)
  have c271 : h258[m+107]? = some (.inl (.boolean, 8, .inl (fun _ => 0))) := ab_fr_at f260 c202 (by omega)
  have c272 : h258[m+2]? = some (.inr (14, [.ref (m + 2 + 1), .int 0, .int 0, .ref (m + 2 + 2), .ref (m + 2 + 3), .ref (m + 2 + 4), .ref (m + 2 + 5), .ref (m + 2 + 6), .ref (m + 2 + 7), .int 0, .int 0, .int 0, .int 0, .ref (m + 2 + 8), .ref (m + 2 + 9), .ref (m + 2 + 10), .int 0, .ref (m + 2 + 11), .ref (m + 2 + 12), .ref (m + 2 + 13), .ref (m + 2 + 14), .int 0, .ref (m + 2 + 15), .ref (m + 2 + 16), .ref (m + 2 + 17), .ref (m + 2 + 18), .int 0, .ref (m + 2 + 19), .ref (m + 2 + 20), .int 0, .ref (m + 2 + 21), .ref (m + 2 + 22), .ref (m + 2 + 23), .ref (m + 2 + 24), .ref (m + 2 + 25), .ref (m + 2 + 26), .ref (m + 2 + 27), .int 0, .ref (m + 2 + 28), .ref (m + 2 + 29), .ref (m + 2 + 30), .int 0, .int 0])) := ab_fr_at f260 c203 (by omega)
  have c273 : h258[m+2+1]? = some (.inl (.byte, 6000, .inl (fun _ => 0))) := ab_fr_at f260 c204 (by omega)
  have c274 : h258[m+2+2]? = some (.inl (.int, 6002, .inl (fun _ => 0))) := ab_fr_at f260 c205 (by omega)
  have c275 : h258[m+2+3]? = some (.inl (.int, 6002, .inl (fun _ => 0))) := ab_fr_at f260 c206 (by omega)
  have c276 : h258[m+2+4]? = some (.inl (.int, 6002, .inl (fun _ => 0))) := ab_fr_at f260 c207 (by omega)
  have c277 : h258[m+2+5]? = some (.inl (.int, 6002, .inl (fun _ => 0))) := ab_fr_at f260 c208 (by omega)
  have c278 : h258[m+2+6]? = some (.inl (.boolean, 6002, .inl (fun _ => 0))) := ab_fr_at f260 c209 (by omega)
  have c279 : h258[m+2+7]? = some (.inl (.int, 6002, .inl (fun _ => 0))) := ab_fr_at f260 c210 (by omega)
  have c280 : h258[m+2+8]? = some (.inl (.int, 56, .inl (fun _ => 0))) := ab_fr_at f260 c211 (by omega)
  have c281 : h258[m+2+9]? = some (.inl (.int, 56, .inl (fun _ => 0))) := ab_fr_at f260 c212 (by omega)
  have c282 : h258[m+2+10]? = some (.inl (.int, 56, .inl (fun _ => 0))) := ab_fr_at f260 c213 (by omega)
  have c283 : h258[m+2+11]? = some (.inl (.int, 16, .inl (fun _ => 0))) := ab_fr_at f260 c214 (by omega)
  have c284 : h258[m+2+12]? = some (.inl (.int, 17, .inl (fun _ => 0))) := ab_fr_at f260 c215 (by omega)
  have c285 : h258[m+2+13]? = some (.inl (.int, 48, .inl (fun _ => 0))) := ab_fr_at f260 c216 (by omega)
  have c286 : h258[m+2+14]? = some (.inl (.int, 48, .inl (fun _ => 0))) := ab_fr_at f260 c217 (by omega)
  have c287 : h258[m+2+15]? = some (.inl (.int, 8, .inl (fun _ => 0))) := ab_fr_at f260 c218 (by omega)
  have c288 : h258[m+2+16]? = some (.inl (.int, 8, .inl (fun _ => 0))) := ab_fr_at f260 c219 (by omega)
  have c289 : h258[m+2+17]? = some (.inl (.int, 32, .inl (fun _ => 0))) := ab_fr_at f260 c220 (by omega)
  have c290 : h258[m+2+18]? = some (.inl (.int, 32, .inl (fun _ => 0))) := ab_fr_at f260 c221 (by omega)
  have c291 : h258[m+2+19]? = some (.inl (.int, 16, .inl (fun _ => 0))) := ab_fr_at f260 c222 (by omega)
  have c292 : h258[m+2+20]? = some (.inl (.int, 768, .inl (fun _ => 0))) := ab_fr_at f260 c223 (by omega)
  have c293 : h258[m+2+21]? = some (.inl (.int, 16, .inl (fun _ => 0))) := ab_fr_at f260 c224 (by omega)
  have c294 : h258[m+2+22]? = some (.inl (.int, 16, .inl (fun _ => 0))) := ab_fr_at f260 c225 (by omega)
  have c295 : h258[m+2+23]? = some (.inl (.int, 16, .inl (fun _ => 0))) := ab_fr_at f260 c226 (by omega)
  have c296 : h258[m+2+24]? = some (.inl (.int, 16, .inl (fun _ => 0))) := ab_fr_at f260 c227 (by omega)
  have c297 : h258[m+2+25]? = some (.inl (.int, 16, .inl (fun _ => 0))) := ab_fr_at f260 c228 (by omega)
  have c298 : h258[m+2+26]? = some (.inl (.int, 16, .inl (fun _ => 0))) := ab_fr_at f260 c229 (by omega)
  have c299 : h258[m+2+27]? = some (.inl (.int, 16, .inl (fun _ => 0))) := ab_fr_at f260 c230 (by omega)
  have c300 : h258[m+2+28]? = some (.inl (.int, 12, .inl (fun _ => 0))) := ab_fr_at f260 c231 (by omega)
  have c301 : h258[m+2+29]? = some (.inl (.int, 12, .inl (fun _ => 0))) := ab_fr_at f260 c232 (by omega)
  have c302 : h258[m+2+30]? = some (.inl (.boolean, 12, .inl (fun _ => 0))) := ab_fr_at f260 c233 (by omega)
  have c303 : h258[m+64]? = some (.inr (13, [.int 0, .int 0, .int 0, .int 0, .ref (m + 64 + 1), .ref (m + 64 + 2), .ref (m + 64 + 3), .ref (m + 64 + 4), .int 0, .ref (m + 64 + 5), .ref (m + 64 + 6), .ref (m + 64 + 7), .ref (m + 64 + 8), .int (-1), .int 0, .int 0, .int 0, .ref (m + 64 + 9)])) := ab_fr_at f260 c234 (by omega)
  have c304 : h258[m+64+1]? = some (.inl (.int, 256, .inl (fun _ => 0))) := ab_fr_at f260 c235 (by omega)
  have c305 : h258[m+64+2]? = some (.inl (.boolean, 256, .inl (fun _ => 0))) := ab_fr_at f260 c236 (by omega)
  have c306 : h258[m+64+3]? = some (.inl (.int, 256, .inl (fun _ => 0))) := ab_fr_at f260 c237 (by omega)
  have c307 : h258[m+64+4]? = some (.inl (.int, 12288, .inl (fun _ => 0))) := ab_fr_at f260 c238 (by omega)
  have c308 : h258[m+64+5]? = some (.inl (.int, 256, .inl (fun _ => 0))) := ab_fr_at f260 c239 (by omega)
  have c309 : h258[m+64+6]? = some (.inl (.int, 256, .inl (fun _ => 0))) := ab_fr_at f260 c240 (by omega)
  have c310 : h258[m+64+7]? = some (.inl (.int, 256, .inl (fun _ => 0))) := ab_fr_at f260 c241 (by omega)
  have c311 : h258[m+64+8]? = some (.inl (.int, 1024, .inl (fun _ => 0))) := ab_fr_at f260 c242 (by omega)
  have c312 : h258[m+64+9]? = some (.inl (.int, 32, .inl (fun _ => 0))) := ab_fr_at f260 c243 (by omega)
  have c313 : h258[m+74]? = some (.inr (13, [.int 0, .int 0, .int 0, .int 0, .ref (m + 74 + 1), .ref (m + 74 + 2), .ref (m + 74 + 3), .ref (m + 74 + 4), .int 0, .ref (m + 74 + 5), .ref (m + 74 + 6), .ref (m + 74 + 7), .ref (m + 74 + 8), .int (-1), .int 0, .int 0, .int 0, .ref (m + 74 + 9)])) := ab_fr_at f260 c244 (by omega)
  have c314 : h258[m+74+1]? = some (.inl (.int, 256, .inl (fun _ => 0))) := ab_fr_at f260 c245 (by omega)
  have c315 : h258[m+74+2]? = some (.inl (.boolean, 256, .inl (fun _ => 0))) := ab_fr_at f260 c246 (by omega)
  have c316 : h258[m+74+3]? = some (.inl (.int, 256, .inl (fun _ => 0))) := ab_fr_at f260 c247 (by omega)
  have c317 : h258[m+74+4]? = some (.inl (.int, 12288, .inl (fun _ => 0))) := ab_fr_at f260 c248 (by omega)
  have c318 : h258[m+74+5]? = some (.inl (.int, 256, .inl (fun _ => 0))) := ab_fr_at f260 c249 (by omega)
  have c319 : h258[m+74+6]? = some (.inl (.int, 256, .inl (fun _ => 0))) := ab_fr_at f260 c250 (by omega)
  have c320 : h258[m+74+7]? = some (.inl (.int, 256, .inl (fun _ => 0))) := ab_fr_at f260 c251 (by omega)
  have c321 : h258[m+74+8]? = some (.inl (.int, 1024, .inl (fun _ => 0))) := ab_fr_at f260 c252 (by omega)
  have c322 : h258[m+74+9]? = some (.inl (.int, 32, .inl (fun _ => 0))) := ab_fr_at f260 c253 (by omega)
  have c323 : h258[m+33]? = some (.inr (14, [.ref (m + 33 + 1), .int 0, .int 1, .ref (m + 33 + 2), .ref (m + 33 + 3), .ref (m + 33 + 4), .ref (m + 33 + 5), .ref (m + 33 + 6), .ref (m + 33 + 7), .int 0, .int 0, .int 0, .int 0, .ref (m + 33 + 8), .ref (m + 33 + 9), .ref (m + 33 + 10), .int 0, .ref (m + 33 + 11), .ref (m + 33 + 12), .ref (m + 33 + 13), .ref (m + 33 + 14), .int 0, .ref (m + 33 + 15), .ref (m + 33 + 16), .ref (m + 33 + 17), .ref (m + 33 + 18), .int 0, .ref (m + 33 + 19), .ref (m + 33 + 20), .int 0, .ref (m + 33 + 21), .ref (m + 33 + 22), .ref (m + 33 + 23), .ref (m + 33 + 24), .ref (m + 33 + 25), .ref (m + 33 + 26), .ref (m + 33 + 27), .int 0, .ref (m + 33 + 28), .ref (m + 33 + 29), .ref (m + 33 + 30), .int 0, .int 0])) := ab_fr_at f260 c255 (by omega)
  have c324 : h258[m+84]? = some (.inr (13, [.int 0, .int 0, .int 0, .int 0, .ref (m + 84 + 1), .ref (m + 84 + 2), .ref (m + 84 + 3), .ref (m + 84 + 4), .int 0, .ref (m + 84 + 5), .ref (m + 84 + 6), .ref (m + 84 + 7), .ref (m + 84 + 8), .int (-1), .int 0, .int 0, .int 0, .ref (m + 84 + 9)])) := ab_fr_at f260 g257o (by omega)
  have c325 : h258[m+84+1]? = some (.inl (.int, 256, .inl (a192 4))) := ab_fr_at f260 g2574 (by omega)
  have c326 : h258[m+84+2]? = some (.inl (.boolean, 256, .inl (a192 5))) := ab_fr_at f260 g2575 (by omega)
  have c327 : h258[m+84+3]? = some (.inl (.int, 256, .inl (a192 6))) := ab_fr_at f260 g2576 (by omega)
  have c328 : h258[m+84+4]? = some (.inl (.int, 12288, .inl (a192 7))) := ab_fr_at f260 g2577 (by omega)
  have c329 : h258[m+84+5]? = some (.inl (.int, 256, .inl (a192 9))) := ab_fr_at f260 g2579 (by omega)
  have c330 : h258[m+84+6]? = some (.inl (.int, 256, .inl (a192 10))) := ab_fr_at f260 g25710 (by omega)
  have c331 : h258[m+84+7]? = some (.inl (.int, 256, .inl (a192 11))) := ab_fr_at f260 g25711 (by omega)
  have c332 : h258[m+84+8]? = some (.inl (.int, 1024, .inl (a192 12))) := ab_fr_at f260 g25712 (by omega)
  have c333 : h258[m+84+9]? = some (.inl (.int, 32, .inl (a192 17))) := ab_fr_at f260 g25717 (by omega)
  have fr334 : ab_fr (fun _ => True) h h258 := ab_fr_tr fr256 (ab_fr_mono f260 (fun _ _ => trivial))
  clear c193 c194 c195 c196 c197 c198 c199 c200 c201 c202 c203 c204 c205 c206 c207 c208 c209 c210 c211 c212 c213 c214 c215 c216 c217 c218 c219 c220 c221 c222 c223 c224 c225 c226 c227 c228 c229 c230 c231 c232 c233 c234 c235 c236 c237 c238 c239 c240 c241 c242 c243 c244 c245 c246 c247 c248 c249 c250 c251 c252 c253 c254 c255 f260 fr256
  try clear h188
  replace c261 : h258[m]? = some (.inr (12, [.int 0, .ref (m + 1), .int 0, .ref (m + 33), .ref (m + 2), .int 1, .int (-1), .int (-1), .ref (m + 64), .ref (m + 74), .ref (m + 84), .ref (m + 94), .int 1, .int 0, .ref (m + 99), .ref (m + 100), .ref (m + 101), .ref (m + 102), .ref (m + 103), .ref (m + 104), .int 0, .ref (m + 105), .int 0, .int 0, .int 0, .ref (m + 106), .ref (m + 107), .int 0, .int 0])) := c261
  refine ab_aload_n d_M_swap_36 rfl rfl rfl ?_
  refine ab_get (f := 9) d_M_swap_37 c261 rfl (by decide) (k10 2 rfl rfl) rfl ?_
  refine ab_astore_n (lv' := [some (.ref m), some (.ref (m + 74))]) d_M_swap_40 rfl (by decide) rfl rfl ?_
  refine ab_aload_n d_M_swap_41 rfl rfl rfl ?_
  refine ab_aload_n d_M_swap_42 rfl rfl rfl ?_
  refine ab_get (f := 10) d_M_swap_43 c261 rfl (by decide) (k10 3 rfl rfl) rfl ?_
  refine ab_put (f := 9) d_M_swap_46 c261 rfl (by decide) (k10 2 rfl rfl) rfl rfl (fun _ => rfl) (fun _ => rfl) (Nat.le_of_ble_eq_true rfl) ?_
  show ab_V _ _ _ _ _ _ _ 49 [some (.ref m), some (.ref (m + 74))] [] (h258.set m (.inr (12, [.int 0, .ref (m + 1), .int 0, .ref (m + 33), .ref (m + 2), .int 1, .int (-1), .int (-1), .ref (m + 64), .ref (m + 84), .ref (m + 84), .ref (m + 94), .int 1, .int 0, .ref (m + 99), .ref (m + 100), .ref (m + 101), .ref (m + 102), .ref (m + 103), .ref (m + 104), .int 0, .ref (m + 105), .int 0, .int 0, .int 0, .ref (m + 106), .ref (m + 107), .int 0, .int 0])))
  refine ab_gen (fun h335 e336 => ?_)
  have c337 : h335[m+1]? = some (.inl (.byte, 6000, .inl (fun _ => 0))) := ab_other e336 (by omega) c262
  have c338 : h335[m+99]? = some (.inl (.int, 256, .inl (fun _ => 0))) := ab_other e336 (by omega) c263
  have c339 : h335[m+100]? = some (.inl (.boolean, 256, .inl (fun _ => 0))) := ab_other e336 (by omega) c264
  have c340 : h335[m+101]? = some (.inl (.int, 64, .inl (fun _ => 0))) := ab_other e336 (by omega) c265
  have c341 : h335[m+102]? = some (.inl (.int, 4, .inl (fun _ => 0))) := ab_other e336 (by omega) c266
  have c342 : h335[m+103]? = some (.inl (.int, 4, .inl (fun _ => 0))) := ab_other e336 (by omega) c267
  have c343 : h335[m+104]? = some (.inl (.int, 256, .inl (fun _ => 0))) := ab_other e336 (by omega) c268
  have c344 : h335[m+105]? = some (.inl (.byte, 58000, .inl (fun _ => 0))) := ab_other e336 (by omega) c269
  have c345 : h335[m+106]? = some (.inl (.boolean, 8, .inl (a0_M w 25))) := ab_other e336 (by omega) c270
  have c346 : h335[m+107]? = some (.inl (.boolean, 8, .inl (fun _ => 0))) := ab_other e336 (by omega) c271
  have c347 : h335[m+2]? = some (.inr (14, [.ref (m + 2 + 1), .int 0, .int 0, .ref (m + 2 + 2), .ref (m + 2 + 3), .ref (m + 2 + 4), .ref (m + 2 + 5), .ref (m + 2 + 6), .ref (m + 2 + 7), .int 0, .int 0, .int 0, .int 0, .ref (m + 2 + 8), .ref (m + 2 + 9), .ref (m + 2 + 10), .int 0, .ref (m + 2 + 11), .ref (m + 2 + 12), .ref (m + 2 + 13), .ref (m + 2 + 14), .int 0, .ref (m + 2 + 15), .ref (m + 2 + 16), .ref (m + 2 + 17), .ref (m + 2 + 18), .int 0, .ref (m + 2 + 19), .ref (m + 2 + 20), .int 0, .ref (m + 2 + 21), .ref (m + 2 + 22), .ref (m + 2 + 23), .ref (m + 2 + 24), .ref (m + 2 + 25), .ref (m + 2 + 26), .ref (m + 2 + 27), .int 0, .ref (m + 2 + 28), .ref (m + 2 + 29), .ref (m + 2 + 30), .int 0, .int 0])) := ab_other e336 (by omega) c272
  have c348 : h335[m+2+1]? = some (.inl (.byte, 6000, .inl (fun _ => 0))) := ab_other e336 (by omega) c273
  have c349 : h335[m+2+2]? = some (.inl (.int, 6002, .inl (fun _ => 0))) := ab_other e336 (by omega) c274
  have c350 : h335[m+2+3]? = some (.inl (.int, 6002, .inl (fun _ => 0))) := ab_other e336 (by omega) c275
  have c351 : h335[m+2+4]? = some (.inl (.int, 6002, .inl (fun _ => 0))) := ab_other e336 (by omega) c276
  have c352 : h335[m+2+5]? = some (.inl (.int, 6002, .inl (fun _ => 0))) := ab_other e336 (by omega) c277
  have c353 : h335[m+2+6]? = some (.inl (.boolean, 6002, .inl (fun _ => 0))) := ab_other e336 (by omega) c278
  have c354 : h335[m+2+7]? = some (.inl (.int, 6002, .inl (fun _ => 0))) := ab_other e336 (by omega) c279
  have c355 : h335[m+2+8]? = some (.inl (.int, 56, .inl (fun _ => 0))) := ab_other e336 (by omega) c280
  have c356 : h335[m+2+9]? = some (.inl (.int, 56, .inl (fun _ => 0))) := ab_other e336 (by omega) c281
  have c357 : h335[m+2+10]? = some (.inl (.int, 56, .inl (fun _ => 0))) := ab_other e336 (by omega) c282
  have c358 : h335[m+2+11]? = some (.inl (.int, 16, .inl (fun _ => 0))) := ab_other e336 (by omega) c283
  have c359 : h335[m+2+12]? = some (.inl (.int, 17, .inl (fun _ => 0))) := ab_other e336 (by omega) c284
  have c360 : h335[m+2+13]? = some (.inl (.int, 48, .inl (fun _ => 0))) := ab_other e336 (by omega) c285
  have c361 : h335[m+2+14]? = some (.inl (.int, 48, .inl (fun _ => 0))) := ab_other e336 (by omega) c286
  have c362 : h335[m+2+15]? = some (.inl (.int, 8, .inl (fun _ => 0))) := ab_other e336 (by omega) c287
  have c363 : h335[m+2+16]? = some (.inl (.int, 8, .inl (fun _ => 0))) := ab_other e336 (by omega) c288
  have c364 : h335[m+2+17]? = some (.inl (.int, 32, .inl (fun _ => 0))) := ab_other e336 (by omega) c289
  have c365 : h335[m+2+18]? = some (.inl (.int, 32, .inl (fun _ => 0))) := ab_other e336 (by omega) c290
  have c366 : h335[m+2+19]? = some (.inl (.int, 16, .inl (fun _ => 0))) := ab_other e336 (by omega) c291
  have c367 : h335[m+2+20]? = some (.inl (.int, 768, .inl (fun _ => 0))) := ab_other e336 (by omega) c292
  have c368 : h335[m+2+21]? = some (.inl (.int, 16, .inl (fun _ => 0))) := ab_other e336 (by omega) c293
  have c369 : h335[m+2+22]? = some (.inl (.int, 16, .inl (fun _ => 0))) := ab_other e336 (by omega) c294
  have c370 : h335[m+2+23]? = some (.inl (.int, 16, .inl (fun _ => 0))) := ab_other e336 (by omega) c295
  have c371 : h335[m+2+24]? = some (.inl (.int, 16, .inl (fun _ => 0))) := ab_other e336 (by omega) c296
  have c372 : h335[m+2+25]? = some (.inl (.int, 16, .inl (fun _ => 0))) := ab_other e336 (by omega) c297
  have c373 : h335[m+2+26]? = some (.inl (.int, 16, .inl (fun _ => 0))) := ab_other e336 (by omega) c298
  have c374 : h335[m+2+27]? = some (.inl (.int, 16, .inl (fun _ => 0))) := ab_other e336 (by omega) c299
  have c375 : h335[m+2+28]? = some (.inl (.int, 12, .inl (fun _ => 0))) := ab_other e336 (by omega) c300
  have c376 : h335[m+2+29]? = some (.inl (.int, 12, .inl (fun _ => 0))) := ab_other e336 (by omega) c301
  have c377 : h335[m+2+30]? = some (.inl (.boolean, 12, .inl (fun _ => 0))) := ab_other e336 (by omega) c302
  have c378 : h335[m+64]? = some (.inr (13, [.int 0, .int 0, .int 0, .int 0, .ref (m + 64 + 1), .ref (m + 64 + 2), .ref (m + 64 + 3), .ref (m + 64 + 4), .int 0, .ref (m + 64 + 5), .ref (m + 64 + 6), .ref (m + 64 + 7), .ref (m + 64 + 8), .int (-1), .int 0, .int 0, .int 0, .ref (m + 64 + 9)])) := ab_other e336 (by omega) c303
  have c379 : h335[m+64+1]? = some (.inl (.int, 256, .inl (fun _ => 0))) := ab_other e336 (by omega) c304
  have c380 : h335[m+64+2]? = some (.inl (.boolean, 256, .inl (fun _ => 0))) := ab_other e336 (by omega) c305
  have c381 : h335[m+64+3]? = some (.inl (.int, 256, .inl (fun _ => 0))) := ab_other e336 (by omega) c306
  have c382 : h335[m+64+4]? = some (.inl (.int, 12288, .inl (fun _ => 0))) := ab_other e336 (by omega) c307
  have c383 : h335[m+64+5]? = some (.inl (.int, 256, .inl (fun _ => 0))) := ab_other e336 (by omega) c308
  have c384 : h335[m+64+6]? = some (.inl (.int, 256, .inl (fun _ => 0))) := ab_other e336 (by omega) c309
  have c385 : h335[m+64+7]? = some (.inl (.int, 256, .inl (fun _ => 0))) := ab_other e336 (by omega) c310
  have c386 : h335[m+64+8]? = some (.inl (.int, 1024, .inl (fun _ => 0))) := ab_other e336 (by omega) c311
  have c387 : h335[m+64+9]? = some (.inl (.int, 32, .inl (fun _ => 0))) := ab_other e336 (by omega) c312
  have c388 : h335[m+74]? = some (.inr (13, [.int 0, .int 0, .int 0, .int 0, .ref (m + 74 + 1), .ref (m + 74 + 2), .ref (m + 74 + 3), .ref (m + 74 + 4), .int 0, .ref (m + 74 + 5), .ref (m + 74 + 6), .ref (m + 74 + 7), .ref (m + 74 + 8), .int (-1), .int 0, .int 0, .int 0, .ref (m + 74 + 9)])) := ab_other e336 (by omega) c313
  have c389 : h335[m+74+1]? = some (.inl (.int, 256, .inl (fun _ => 0))) := ab_other e336 (by omega) c314
  have c390 : h335[m+74+2]? = some (.inl (.boolean, 256, .inl (fun _ => 0))) := ab_other e336 (by omega) c315
  have c391 : h335[m+74+3]? = some (.inl (.int, 256, .inl (fun _ => 0))) := ab_other e336 (by omega) c316
  have c392 : h335[m+74+4]? = some (.inl (.int, 12288, .inl (fun _ => 0))) := ab_other e336 (by omega) c317
  have c393 : h335[m+74+5]? = some (.inl (.int, 256, .inl (fun _ => 0))) := ab_other e336 (by omega) c318
  have c394 : h335[m+74+6]? = some (.inl (.int, 256, .inl (fun _ => 0))) := ab_other e336 (by omega) c319
  have c395 : h335[m+74+7]? = some (.inl (.int, 256, .inl (fun _ => 0))) := ab_other e336 (by omega) c320
  have c396 : h335[m+74+8]? = some (.inl (.int, 1024, .inl (fun _ => 0))) := ab_other e336 (by omega) c321
  have c397 : h335[m+74+9]? = some (.inl (.int, 32, .inl (fun _ => 0))) := ab_other e336 (by omega) c322
  have c398 : h335[m+33]? = some (.inr (14, [.ref (m + 33 + 1), .int 0, .int 1, .ref (m + 33 + 2), .ref (m + 33 + 3), .ref (m + 33 + 4), .ref (m + 33 + 5), .ref (m + 33 + 6), .ref (m + 33 + 7), .int 0, .int 0, .int 0, .int 0, .ref (m + 33 + 8), .ref (m + 33 + 9), .ref (m + 33 + 10), .int 0, .ref (m + 33 + 11), .ref (m + 33 + 12), .ref (m + 33 + 13), .ref (m + 33 + 14), .int 0, .ref (m + 33 + 15), .ref (m + 33 + 16), .ref (m + 33 + 17), .ref (m + 33 + 18), .int 0, .ref (m + 33 + 19), .ref (m + 33 + 20), .int 0, .ref (m + 33 + 21), .ref (m + 33 + 22), .ref (m + 33 + 23), .ref (m + 33 + 24), .ref (m + 33 + 25), .ref (m + 33 + 26), .ref (m + 33 + 27), .int 0, .ref (m + 33 + 28), .ref (m + 33 + 29), .ref (m + 33 + 30), .int 0, .int 0])) := ab_other e336 (by omega) c323
  have c399 : h335[m+84]? = some (.inr (13, [.int 0, .int 0, .int 0, .int 0, .ref (m + 84 + 1), .ref (m + 84 + 2), .ref (m + 84 + 3), .ref (m + 84 + 4), .int 0, .ref (m + 84 + 5), .ref (m + 84 + 6), .ref (m + 84 + 7), .ref (m + 84 + 8), .int (-1), .int 0, .int 0, .int 0, .ref (m + 84 + 9)])) := ab_other e336 (by omega) c324
  have c400 : h335[m+84+1]? = some (.inl (.int, 256, .inl (a192 4))) := ab_other e336 (by omega) c325
  have c401 : h335[m+84+2]? = some (.inl (.boolean, 256, .inl (a192 5))) := ab_other e336 (by omega) c326
  have c402 : h335[m+84+3]? = some (.inl (.int, 256, .inl (a192 6))) := ab_other e336 (by omega) c327
  have c403 : h335[m+84+4]? = some (.inl (.int, 12288, .inl (a192 7))) := ab_other e336 (by omega) c328
  have c404 : h335[m+84+5]? = some (.inl (.int, 256, .inl (a192 9))) := ab_other e336 (by omega) c329
  have c405 : h335[m+84+6]? = some (.inl (.int, 256, .inl (a192 10))) := ab_other e336 (by omega) c330
  have c406 : h335[m+84+7]? = some (.inl (.int, 256, .inl (a192 11))) := ab_other e336 (by omega) c331
  have c407 : h335[m+84+8]? = some (.inl (.int, 1024, .inl (a192 12))) := ab_other e336 (by omega) c332
  have c408 : h335[m+84+9]? = some (.inl (.int, 32, .inl (a192 17))) := ab_other e336 (by omega) c333
  have c409 : h335[m]? = some (.inr (12, [.int 0, .ref (m + 1), .int 0, .ref (m + 33), .ref (m + 2), .int 1, .int (-1), .int (-1), .ref (m + 64), .ref (m + 84), .ref (m + 84), .ref (m + 94), .int 1, .int 0, .ref (m + 99), .ref (m + 100), .ref (m + 101), .ref (m + 102), .ref (m + 103), .ref (m + 104), .int 0, .ref (m + 105), .int 0, .int 0, .int 0, .ref (m + 106), .ref (m + 107), .int 0, .int 0])) := ab_self e336 c261
  have fr410 : ab_fr (fun _ => True) h h335 := ab_fr_set fr334 e336 (by trivial)
  clear c262 c263 c264 c265 c266 c267 c268 c269 c270 c271 c272 c273 c274 c275 c276 c277 c278 c279 c280 c281 c282 c283 c284 c285 c286 c287 c288 c289 c290 c291 c292 c293 c294 c295 c296 c297 c298 c299 c300 c301 c302 c303 c304 c305 c306 c307 c308 c309 c310 c311 c312 c313 c314 c315 c316 c317 c318 c319 c320 c321 c322 c323 c324 c325 c326 c327 c328 c329 c330 c331 c332 c333 c261 fr334 e336
  try clear h258
  refine ab_aload_n d_M_swap_49 rfl rfl rfl ?_
  refine ab_aload_n d_M_swap_50 rfl rfl rfl ?_
  refine ab_put (f := 10) d_M_swap_51 c409 rfl (by decide) (k10 3 rfl rfl) rfl rfl (fun _ => rfl) (fun _ => rfl) (Nat.le_of_ble_eq_true rfl) ?_
  show ab_V _ _ _ _ _ _ _ 54 [some (.ref m), some (.ref (m + 74))] [] (h335.set m (.inr (12, [.int 0, .ref (m + 1), .int 0, .ref (m + 33), .ref (m + 2), .int 1, .int (-1), .int (-1), .ref (m + 64), .ref (m + 84), .ref (m + 74), .ref (m + 94), .int 1, .int 0, .ref (m + 99), .ref (m + 100), .ref (m + 101), .ref (m + 102), .ref (m + 103), .ref (m + 104), .int 0, .ref (m + 105), .int 0, .int 0, .int 0, .ref (m + 106), .ref (m + 107), .int 0, .int 0])))
  refine ab_gen (fun h411 e412 => ?_)
  have c413 : h411[m+1]? = some (.inl (.byte, 6000, .inl (fun _ => 0))) := ab_other e412 (by omega) c337
  have c414 : h411[m+99]? = some (.inl (.int, 256, .inl (fun _ => 0))) := ab_other e412 (by omega) c338
  have c415 : h411[m+100]? = some (.inl (.boolean, 256, .inl (fun _ => 0))) := ab_other e412 (by omega) c339
  have c416 : h411[m+101]? = some (.inl (.int, 64, .inl (fun _ => 0))) := ab_other e412 (by omega) c340
  have c417 : h411[m+102]? = some (.inl (.int, 4, .inl (fun _ => 0))) := ab_other e412 (by omega) c341
  have c418 : h411[m+103]? = some (.inl (.int, 4, .inl (fun _ => 0))) := ab_other e412 (by omega) c342
  have c419 : h411[m+104]? = some (.inl (.int, 256, .inl (fun _ => 0))) := ab_other e412 (by omega) c343
  have c420 : h411[m+105]? = some (.inl (.byte, 58000, .inl (fun _ => 0))) := ab_other e412 (by omega) c344
  have c421 : h411[m+106]? = some (.inl (.boolean, 8, .inl (a0_M w 25))) := ab_other e412 (by omega) c345
  have c422 : h411[m+107]? = some (.inl (.boolean, 8, .inl (fun _ => 0))) := ab_other e412 (by omega) c346
  have c423 : h411[m+2]? = some (.inr (14, [.ref (m + 2 + 1), .int 0, .int 0, .ref (m + 2 + 2), .ref (m + 2 + 3), .ref (m + 2 + 4), .ref (m + 2 + 5), .ref (m + 2 + 6), .ref (m + 2 + 7), .int 0, .int 0, .int 0, .int 0, .ref (m + 2 + 8), .ref (m + 2 + 9), .ref (m + 2 + 10), .int 0, .ref (m + 2 + 11), .ref (m + 2 + 12), .ref (m + 2 + 13), .ref (m + 2 + 14), .int 0, .ref (m + 2 + 15), .ref (m + 2 + 16), .ref (m + 2 + 17), .ref (m + 2 + 18), .int 0, .ref (m + 2 + 19), .ref (m + 2 + 20), .int 0, .ref (m + 2 + 21), .ref (m + 2 + 22), .ref (m + 2 + 23), .ref (m + 2 + 24), .ref (m + 2 + 25), .ref (m + 2 + 26), .ref (m + 2 + 27), .int 0, .ref (m + 2 + 28), .ref (m + 2 + 29), .ref (m + 2 + 30), .int 0, .int 0])) := ab_other e412 (by omega) c347
  have c424 : h411[m+2+1]? = some (.inl (.byte, 6000, .inl (fun _ => 0))) := ab_other e412 (by omega) c348
  have c425 : h411[m+2+2]? = some (.inl (.int, 6002, .inl (fun _ => 0))) := ab_other e412 (by omega) c349
  have c426 : h411[m+2+3]? = some (.inl (.int, 6002, .inl (fun _ => 0))) := ab_other e412 (by omega) c350
  have c427 : h411[m+2+4]? = some (.inl (.int, 6002, .inl (fun _ => 0))) := ab_other e412 (by omega) c351
  have c428 : h411[m+2+5]? = some (.inl (.int, 6002, .inl (fun _ => 0))) := ab_other e412 (by omega) c352
  have c429 : h411[m+2+6]? = some (.inl (.boolean, 6002, .inl (fun _ => 0))) := ab_other e412 (by omega) c353
  have c430 : h411[m+2+7]? = some (.inl (.int, 6002, .inl (fun _ => 0))) := ab_other e412 (by omega) c354
  have c431 : h411[m+2+8]? = some (.inl (.int, 56, .inl (fun _ => 0))) := ab_other e412 (by omega) c355
  have c432 : h411[m+2+9]? = some (.inl (.int, 56, .inl (fun _ => 0))) := ab_other e412 (by omega) c356
  have c433 : h411[m+2+10]? = some (.inl (.int, 56, .inl (fun _ => 0))) := ab_other e412 (by omega) c357
  have c434 : h411[m+2+11]? = some (.inl (.int, 16, .inl (fun _ => 0))) := ab_other e412 (by omega) c358
  have c435 : h411[m+2+12]? = some (.inl (.int, 17, .inl (fun _ => 0))) := ab_other e412 (by omega) c359
  have c436 : h411[m+2+13]? = some (.inl (.int, 48, .inl (fun _ => 0))) := ab_other e412 (by omega) c360
  have c437 : h411[m+2+14]? = some (.inl (.int, 48, .inl (fun _ => 0))) := ab_other e412 (by omega) c361
  have c438 : h411[m+2+15]? = some (.inl (.int, 8, .inl (fun _ => 0))) := ab_other e412 (by omega) c362
  have c439 : h411[m+2+16]? = some (.inl (.int, 8, .inl (fun _ => 0))) := ab_other e412 (by omega) c363
  have c440 : h411[m+2+17]? = some (.inl (.int, 32, .inl (fun _ => 0))) := ab_other e412 (by omega) c364
  have c441 : h411[m+2+18]? = some (.inl (.int, 32, .inl (fun _ => 0))) := ab_other e412 (by omega) c365
  have c442 : h411[m+2+19]? = some (.inl (.int, 16, .inl (fun _ => 0))) := ab_other e412 (by omega) c366
  have c443 : h411[m+2+20]? = some (.inl (.int, 768, .inl (fun _ => 0))) := ab_other e412 (by omega) c367
  have c444 : h411[m+2+21]? = some (.inl (.int, 16, .inl (fun _ => 0))) := ab_other e412 (by omega) c368
  have c445 : h411[m+2+22]? = some (.inl (.int, 16, .inl (fun _ => 0))) := ab_other e412 (by omega) c369
  have c446 : h411[m+2+23]? = some (.inl (.int, 16, .inl (fun _ => 0))) := ab_other e412 (by omega) c370
  have c447 : h411[m+2+24]? = some (.inl (.int, 16, .inl (fun _ => 0))) := ab_other e412 (by omega) c371
  have c448 : h411[m+2+25]? = some (.inl (.int, 16, .inl (fun _ => 0))) := ab_other e412 (by omega) c372
  have c449 : h411[m+2+26]? = some (.inl (.int, 16, .inl (fun _ => 0))) := ab_other e412 (by omega) c373
  have c450 : h411[m+2+27]? = some (.inl (.int, 16, .inl (fun _ => 0))) := ab_other e412 (by omega) c374
  have c451 : h411[m+2+28]? = some (.inl (.int, 12, .inl (fun _ => 0))) := ab_other e412 (by omega) c375
  have c452 : h411[m+2+29]? = some (.inl (.int, 12, .inl (fun _ => 0))) := ab_other e412 (by omega) c376
  have c453 : h411[m+2+30]? = some (.inl (.boolean, 12, .inl (fun _ => 0))) := ab_other e412 (by omega) c377
  have c454 : h411[m+64]? = some (.inr (13, [.int 0, .int 0, .int 0, .int 0, .ref (m + 64 + 1), .ref (m + 64 + 2), .ref (m + 64 + 3), .ref (m + 64 + 4), .int 0, .ref (m + 64 + 5), .ref (m + 64 + 6), .ref (m + 64 + 7), .ref (m + 64 + 8), .int (-1), .int 0, .int 0, .int 0, .ref (m + 64 + 9)])) := ab_other e412 (by omega) c378
  have c455 : h411[m+64+1]? = some (.inl (.int, 256, .inl (fun _ => 0))) := ab_other e412 (by omega) c379
  have c456 : h411[m+64+2]? = some (.inl (.boolean, 256, .inl (fun _ => 0))) := ab_other e412 (by omega) c380
  have c457 : h411[m+64+3]? = some (.inl (.int, 256, .inl (fun _ => 0))) := ab_other e412 (by omega) c381
  have c458 : h411[m+64+4]? = some (.inl (.int, 12288, .inl (fun _ => 0))) := ab_other e412 (by omega) c382
  have c459 : h411[m+64+5]? = some (.inl (.int, 256, .inl (fun _ => 0))) := ab_other e412 (by omega) c383
  have c460 : h411[m+64+6]? = some (.inl (.int, 256, .inl (fun _ => 0))) := ab_other e412 (by omega) c384
  have c461 : h411[m+64+7]? = some (.inl (.int, 256, .inl (fun _ => 0))) := ab_other e412 (by omega) c385
  have c462 : h411[m+64+8]? = some (.inl (.int, 1024, .inl (fun _ => 0))) := ab_other e412 (by omega) c386
  have c463 : h411[m+64+9]? = some (.inl (.int, 32, .inl (fun _ => 0))) := ab_other e412 (by omega) c387
  have c464 : h411[m+74]? = some (.inr (13, [.int 0, .int 0, .int 0, .int 0, .ref (m + 74 + 1), .ref (m + 74 + 2), .ref (m + 74 + 3), .ref (m + 74 + 4), .int 0, .ref (m + 74 + 5), .ref (m + 74 + 6), .ref (m + 74 + 7), .ref (m + 74 + 8), .int (-1), .int 0, .int 0, .int 0, .ref (m + 74 + 9)])) := ab_other e412 (by omega) c388
  have c465 : h411[m+74+1]? = some (.inl (.int, 256, .inl (fun _ => 0))) := ab_other e412 (by omega) c389
  have c466 : h411[m+74+2]? = some (.inl (.boolean, 256, .inl (fun _ => 0))) := ab_other e412 (by omega) c390
  have c467 : h411[m+74+3]? = some (.inl (.int, 256, .inl (fun _ => 0))) := ab_other e412 (by omega) c391
  have c468 : h411[m+74+4]? = some (.inl (.int, 12288, .inl (fun _ => 0))) := ab_other e412 (by omega) c392
  have c469 : h411[m+74+5]? = some (.inl (.int, 256, .inl (fun _ => 0))) := ab_other e412 (by omega) c393
  have c470 : h411[m+74+6]? = some (.inl (.int, 256, .inl (fun _ => 0))) := ab_other e412 (by omega) c394
  have c471 : h411[m+74+7]? = some (.inl (.int, 256, .inl (fun _ => 0))) := ab_other e412 (by omega) c395
  have c472 : h411[m+74+8]? = some (.inl (.int, 1024, .inl (fun _ => 0))) := ab_other e412 (by omega) c396
  have c473 : h411[m+74+9]? = some (.inl (.int, 32, .inl (fun _ => 0))) := ab_other e412 (by omega) c397
  have c474 : h411[m+33]? = some (.inr (14, [.ref (m + 33 + 1), .int 0, .int 1, .ref (m + 33 + 2), .ref (m + 33 + 3), .ref (m + 33 + 4), .ref (m + 33 + 5), .ref (m + 33 + 6), .ref (m + 33 + 7), .int 0, .int 0, .int 0, .int 0, .ref (m + 33 + 8), .ref (m + 33 + 9), .ref (m + 33 + 10), .int 0, .ref (m + 33 + 11), .ref (m + 33 + 12), .ref (m + 33 + 13), .ref (m + 33 + 14), .int 0, .ref (m + 33 + 15), .ref (m + 33 + 16), .ref (m + 33 + 17), .ref (m + 33 + 18), .int 0, .ref (m + 33 + 19), .ref (m + 33 + 20), .int 0, .ref (m + 33 + 21), .ref (m + 33 + 22), .ref (m + 33 + 23), .ref (m + 33 + 24), .ref (m + 33 + 25), .ref (m + 33 + 26), .ref (m + 33 + 27), .int 0, .ref (m + 33 + 28), .ref (m + 33 + 29), .ref (m + 33 + 30), .int 0, .int 0])) := ab_other e412 (by omega) c398
  have c475 : h411[m+84]? = some (.inr (13, [.int 0, .int 0, .int 0, .int 0, .ref (m + 84 + 1), .ref (m + 84 + 2), .ref (m + 84 + 3), .ref (m + 84 + 4), .int 0, .ref (m + 84 + 5), .ref (m + 84 + 6), .ref (m + 84 + 7), .ref (m + 84 + 8), .int (-1), .int 0, .int 0, .int 0, .ref (m + 84 + 9)])) := ab_other e412 (by omega) c399
  have c476 : h411[m+84+1]? = some (.inl (.int, 256, .inl (a192 4))) := ab_other e412 (by omega) c400
  have c477 : h411[m+84+2]? = some (.inl (.boolean, 256, .inl (a192 5))) := ab_other e412 (by omega) c401
  have c478 : h411[m+84+3]? = some (.inl (.int, 256, .inl (a192 6))) := ab_other e412 (by omega) c402
  have c479 : h411[m+84+4]? = some (.inl (.int, 12288, .inl (a192 7))) := ab_other e412 (by omega) c403
  have c480 : h411[m+84+5]? = some (.inl (.int, 256, .inl (a192 9))) := ab_other e412 (by omega) c404
  have c481 : h411[m+84+6]? = some (.inl (.int, 256, .inl (a192 10))) := ab_other e412 (by omega) c405
  have c482 : h411[m+84+7]? = some (.inl (.int, 256, .inl (a192 11))) := ab_other e412 (by omega) c406
  have c483 : h411[m+84+8]? = some (.inl (.int, 1024, .inl (a192 12))) := ab_other e412 (by omega) c407
  have c484 : h411[m+84+9]? = some (.inl (.int, 32, .inl (a192 17))) := ab_other e412 (by omega) c408
  have c485 : h411[m]? = some (.inr (12, [.int 0, .ref (m + 1), .int 0, .ref (m + 33), .ref (m + 2), .int 1, .int (-1), .int (-1), .ref (m + 64), .ref (m + 84), .ref (m + 74), .ref (m + 94), .int 1, .int 0, .ref (m + 99), .ref (m + 100), .ref (m + 101), .ref (m + 102), .ref (m + 103), .ref (m + 104), .int 0, .ref (m + 105), .int 0, .int 0, .int 0, .ref (m + 106), .ref (m + 107), .int 0, .int 0])) := ab_self e412 c409
  have fr486 : ab_fr (fun _ => True) h h411 := ab_fr_set fr410 e412 (by trivial)
  clear c337 c338 c339 c340 c341 c342 c343 c344 c345 c346 c347 c348 c349 c350 c351 c352 c353 c354 c355 c356 c357 c358 c359 c360 c361 c362 c363 c364 c365 c366 c367 c368 c369 c370 c371 c372 c373 c374 c375 c376 c377 c378 c379 c380 c381 c382 c383 c384 c385 c386 c387 c388 c389 c390 c391 c392 c393 c394 c395 c396 c397 c398 c399 c400 c401 c402 c403 c404 c405 c406 c407 c408 c409 fr410 e412
  try clear h335
  refine ab_aload_n d_M_swap_54 rfl rfl rfl ?_
  refine ab_get (f := 8) d_M_swap_55 c485 rfl (by decide) (k10 1 rfl rfl) rfl ?_
  refine ab_aload_n d_M_swap_58 rfl rfl rfl ?_
  refine ab_get (f := 9) d_M_swap_59 c485 rfl (by decide) (k10 2 rfl rfl) rfl ?_
  refine ab_callV_v (As := [.ref (m + 84)]) (rest := []) d_M_swap_62 (r_MWorld_copies (show at_MWorld h411 (m + 64) (lf [0, 0, 0, 0, 0, 0, 0, 0, 0, 0, 0, 0, 0, (-1), 0, 0, 0, 0]) (fun k => if k = 4 then (fun _ => 0) else if k = 5 then (fun _ => 0) else if k = 6 then (fun _ => 0) else if k = 7 then (fun _ => 0) else if k = 9 then (fun _ => 0) else if k = 10 then (fun _ => 0) else if k = 11 then (fun _ => 0) else if k = 12 then (fun _ => 0) else if k = 17 then (fun _ => 0) else fun _ => 0) from ⟨c454, c455, c456, c457, c458, c459, c460, c461, c462, c463⟩) (show at_MWorld h411 (m + 84) (lf [0, 0, 0, 0, 0, 0, 0, 0, 0, 0, 0, 0, 0, (-1), 0, 0, 0, 0]) (fun k => if k = 4 then (a192 4) else if k = 5 then (a192 5) else if k = 6 then (a192 6) else if k = 7 then (a192 7) else if k = 9 then (a192 9) else if k = 10 then (a192 10) else if k = 11 then (a192 11) else if k = 12 then (a192 12) else if k = 17 then (a192 17) else fun _ => 0) from ⟨c475, c476, c477, c478, c479, c480, c481, c482, c483, c484⟩) (by omega) rfl) (ab_mkC s_MWorld_copies (Nat.le_of_ble_eq_true rfl) (Nat.le_of_ble_eq_true rfl) (by decide) (by decide)) (k11 146 rfl rfl) i_MWorld_copies v_MWorld_copies c454 rfl rfl (Nat.le_of_ble_eq_true rfl) (fun h487 q488 => ?_)
  obtain ⟨a491, kf489, f490⟩ := q488
  have c492 : h487[m+1]? = some (.inl (.byte, 6000, .inl (fun _ => 0))) := ab_fr_at f490 c413 (by simp only [in_MWorld] <;> omega)
  have c493 : h487[m+99]? = some (.inl (.int, 256, .inl (fun _ => 0))) := ab_fr_at f490 c414 (by simp only [in_MWorld] <;> omega)
  have c494 : h487[m+100]? = some (.inl (.boolean, 256, .inl (fun _ => 0))) := ab_fr_at f490 c415 (by simp only [in_MWorld] <;> omega)
  have c495 : h487[m+101]? = some (.inl (.int, 64, .inl (fun _ => 0))) := ab_fr_at f490 c416 (by simp only [in_MWorld] <;> omega)
  have c496 : h487[m+102]? = some (.inl (.int, 4, .inl (fun _ => 0))) := ab_fr_at f490 c417 (by simp only [in_MWorld] <;> omega)
  have c497 : h487[m+103]? = some (.inl (.int, 4, .inl (fun _ => 0))) := ab_fr_at f490 c418 (by simp only [in_MWorld] <;> omega)
  have c498 : h487[m+104]? = some (.inl (.int, 256, .inl (fun _ => 0))) := ab_fr_at f490 c419 (by simp only [in_MWorld] <;> omega)
  have c499 : h487[m+105]? = some (.inl (.byte, 58000, .inl (fun _ => 0))) := ab_fr_at f490 c420 (by simp only [in_MWorld] <;> omega)
  have c500 : h487[m+106]? = some (.inl (.boolean, 8, .inl (a0_M w 25))) := ab_fr_at f490 c421 (by simp only [in_MWorld] <;> omega)
  have c501 : h487[m+107]? = some (.inl (.boolean, 8, .inl (fun _ => 0))) := ab_fr_at f490 c422 (by simp only [in_MWorld] <;> omega)
  have c502 : h487[m+2]? = some (.inr (14, [.ref (m + 2 + 1), .int 0, .int 0, .ref (m + 2 + 2), .ref (m + 2 + 3), .ref (m + 2 + 4), .ref (m + 2 + 5), .ref (m + 2 + 6), .ref (m + 2 + 7), .int 0, .int 0, .int 0, .int 0, .ref (m + 2 + 8), .ref (m + 2 + 9), .ref (m + 2 + 10), .int 0, .ref (m + 2 + 11), .ref (m + 2 + 12), .ref (m + 2 + 13), .ref (m + 2 + 14), .int 0, .ref (m + 2 + 15), .ref (m + 2 + 16), .ref (m + 2 + 17), .ref (m + 2 + 18), .int 0, .ref (m + 2 + 19), .ref (m + 2 + 20), .int 0, .ref (m + 2 + 21), .ref (m + 2 + 22), .ref (m + 2 + 23), .ref (m + 2 + 24), .ref (m + 2 + 25), .ref (m + 2 + 26), .ref (m + 2 + 27), .int 0, .ref (m + 2 + 28), .ref (m + 2 + 29), .ref (m + 2 + 30), .int 0, .int 0])) := ab_fr_at f490 c423 (by simp only [in_MWorld] <;> omega)
  have c503 : h487[m+2+1]? = some (.inl (.byte, 6000, .inl (fun _ => 0))) := ab_fr_at f490 c424 (by simp only [in_MWorld] <;> omega)
  have c504 : h487[m+2+2]? = some (.inl (.int, 6002, .inl (fun _ => 0))) := ab_fr_at f490 c425 (by simp only [in_MWorld] <;> omega)
  have c505 : h487[m+2+3]? = some (.inl (.int, 6002, .inl (fun _ => 0))) := ab_fr_at f490 c426 (by simp only [in_MWorld] <;> omega)
  have c506 : h487[m+2+4]? = some (.inl (.int, 6002, .inl (fun _ => 0))) := ab_fr_at f490 c427 (by simp only [in_MWorld] <;> omega)
  have c507 : h487[m+2+5]? = some (.inl (.int, 6002, .inl (fun _ => 0))) := ab_fr_at f490 c428 (by simp only [in_MWorld] <;> omega)
  have c508 : h487[m+2+6]? = some (.inl (.boolean, 6002, .inl (fun _ => 0))) := ab_fr_at f490 c429 (by simp only [in_MWorld] <;> omega)
  have c509 : h487[m+2+7]? = some (.inl (.int, 6002, .inl (fun _ => 0))) := ab_fr_at f490 c430 (by simp only [in_MWorld] <;> omega)
  have c510 : h487[m+2+8]? = some (.inl (.int, 56, .inl (fun _ => 0))) := ab_fr_at f490 c431 (by simp only [in_MWorld] <;> omega)
  have c511 : h487[m+2+9]? = some (.inl (.int, 56, .inl (fun _ => 0))) := ab_fr_at f490 c432 (by simp only [in_MWorld] <;> omega)
  have c512 : h487[m+2+10]? = some (.inl (.int, 56, .inl (fun _ => 0))) := ab_fr_at f490 c433 (by simp only [in_MWorld] <;> omega)
  have c513 : h487[m+2+11]? = some (.inl (.int, 16, .inl (fun _ => 0))) := ab_fr_at f490 c434 (by simp only [in_MWorld] <;> omega)
  have c514 : h487[m+2+12]? = some (.inl (.int, 17, .inl (fun _ => 0))) := ab_fr_at f490 c435 (by simp only [in_MWorld] <;> omega)
  have c515 : h487[m+2+13]? = some (.inl (.int, 48, .inl (fun _ => 0))) := ab_fr_at f490 c436 (by simp only [in_MWorld] <;> omega)
  have c516 : h487[m+2+14]? = some (.inl (.int, 48, .inl (fun _ => 0))) := ab_fr_at f490 c437 (by simp only [in_MWorld] <;> omega)
  have c517 : h487[m+2+15]? = some (.inl (.int, 8, .inl (fun _ => 0))) := ab_fr_at f490 c438 (by simp only [in_MWorld] <;> omega)
  have c518 : h487[m+2+16]? = some (.inl (.int, 8, .inl (fun _ => 0))) := ab_fr_at f490 c439 (by simp only [in_MWorld] <;> omega)
  have c519 : h487[m+2+17]? = some (.inl (.int, 32, .inl (fun _ => 0))) := ab_fr_at f490 c440 (by simp only [in_MWorld] <;> omega)
  have c520 : h487[m+2+18]? = some (.inl (.int, 32, .inl (fun _ => 0))) := ab_fr_at f490 c441 (by simp only [in_MWorld] <;> omega)
  have c521 : h487[m+2+19]? = some (.inl (.int, 16, .inl (fun _ => 0))) := ab_fr_at f490 c442 (by simp only [in_MWorld] <;> omega)
  have c522 : h487[m+2+20]? = some (.inl (.int, 768, .inl (fun _ => 0))) := ab_fr_at f490 c443 (by simp only [in_MWorld] <;> omega)
  have c523 : h487[m+2+21]? = some (.inl (.int, 16, .inl (fun _ => 0))) := ab_fr_at f490 c444 (by simp only [in_MWorld] <;> omega)
  have c524 : h487[m+2+22]? = some (.inl (.int, 16, .inl (fun _ => 0))) := ab_fr_at f490 c445 (by simp only [in_MWorld] <;> omega)
  have c525 : h487[m+2+23]? = some (.inl (.int, 16, .inl (fun _ => 0))) := ab_fr_at f490 c446 (by simp only [in_MWorld] <;> omega)
  have c526 : h487[m+2+24]? = some (.inl (.int, 16, .inl (fun _ => 0))) := ab_fr_at f490 c447 (by simp only [in_MWorld] <;> omega)
  have c527 : h487[m+2+25]? = some (.inl (.int, 16, .inl (fun _ => 0))) := ab_fr_at f490 c448 (by simp only [in_MWorld] <;> omega)
  have c528 : h487[m+2+26]? = some (.inl (.int, 16, .inl (fun _ => 0))) := ab_fr_at f490 c449 (by simp only [in_MWorld] <;> omega)
  have c529 : h487[m+2+27]? = some (.inl (.int, 16, .inl (fun _ => 0))) := ab_fr_at f490 c450 (by simp only [in_MWorld] <;> omega)
  have c530 : h487[m+2+28]? = some (.inl (.int, 12, .inl (fun _ => 0))) := ab_fr_at f490 c451 (by simp only [in_MWorld] <;> omega)
  have c531 : h487[m+2+29]? = some (.inl (.int, 12, .inl (fun _ => 0))) := ab_fr_at f490 c452 (by simp only [in_MWorld] <;> omega)
  have c532 : h487[m+2+30]? = some (.inl (.boolean, 12, .inl (fun _ => 0))) := ab_fr_at f490 c453 (by simp only [in_MWorld] <;> omega)
  have c533 : h487[m+74]? = some (.inr (13, [.int 0, .int 0, .int 0, .int 0, .ref (m + 74 + 1), .ref (m + 74 + 2), .ref (m + 74 + 3), .ref (m + 74 + 4), .int 0, .ref (m + 74 + 5), .ref (m + 74 + 6), .ref (m + 74 + 7), .ref (m + 74 + 8), .int (-1), .int 0, .int 0, .int 0, .ref (m + 74 + 9)])) := ab_fr_at f490 c464 (by simp only [in_MWorld] <;> omega)
  have c534 : h487[m+74+1]? = some (.inl (.int, 256, .inl (fun _ => 0))) := ab_fr_at f490 c465 (by simp only [in_MWorld] <;> omega)
  have c535 : h487[m+74+2]? = some (.inl (.boolean, 256, .inl (fun _ => 0))) := ab_fr_at f490 c466 (by simp only [in_MWorld] <;> omega)
  have c536 : h487[m+74+3]? = some (.inl (.int, 256, .inl (fun _ => 0))) := ab_fr_at f490 c467 (by simp only [in_MWorld] <;> omega)
  have c537 : h487[m+74+4]? = some (.inl (.int, 12288, .inl (fun _ => 0))) := ab_fr_at f490 c468 (by simp only [in_MWorld] <;> omega)
  have c538 : h487[m+74+5]? = some (.inl (.int, 256, .inl (fun _ => 0))) := ab_fr_at f490 c469 (by simp only [in_MWorld] <;> omega)
  have c539 : h487[m+74+6]? = some (.inl (.int, 256, .inl (fun _ => 0))) := ab_fr_at f490 c470 (by simp only [in_MWorld] <;> omega)
  have c540 : h487[m+74+7]? = some (.inl (.int, 256, .inl (fun _ => 0))) := ab_fr_at f490 c471 (by simp only [in_MWorld] <;> omega)
  have c541 : h487[m+74+8]? = some (.inl (.int, 1024, .inl (fun _ => 0))) := ab_fr_at f490 c472 (by simp only [in_MWorld] <;> omega)
  have c542 : h487[m+74+9]? = some (.inl (.int, 32, .inl (fun _ => 0))) := ab_fr_at f490 c473 (by simp only [in_MWorld] <;> omega)
  have c543 : h487[m+33]? = some (.inr (14, [.ref (m + 33 + 1), .int 0, .int 1, .ref (m + 33 + 2), .ref (m + 33 + 3), .ref (m + 33 + 4), .ref (m + 33 + 5), .ref (m + 33 + 6), .ref (m + 33 + 7), .int 0, .int 0, .int 0, .int 0, .ref (m + 33 + 8), .ref (m + 33 + 9), .ref (m + 33 + 10), .int 0, .ref (m + 33 + 11), .ref (m + 33 + 12), .ref (m + 33 + 13), .ref (m + 33 + 14), .int 0, .ref (m + 33 + 15), .ref (m + 33 + 16), .ref (m + 33 + 17), .ref (m + 33 + 18), .int 0, .ref (m + 33 + 19), .ref (m + 33 + 20), .int 0, .ref (m + 33 + 21), .ref (m + 33 + 22), .ref (m + 33 + 23), .ref (m + 33 + 24), .ref (m + 33 + 25), .ref (m + 33 + 26), .ref (m + 33 + 27), .int 0, .ref (m + 33 + 28), .ref (m + 33 + 29), .ref (m + 33 + 30), .int 0, .int 0])) := ab_fr_at f490 c474 (by simp only [in_MWorld] <;> omega)
  have c544 : h487[m+84]? = some (.inr (13, [.int 0, .int 0, .int 0, .int 0, .ref (m + 84 + 1), .ref (m + 84 + 2), .ref (m + 84 + 3), .ref (m + 84 + 4), .int 0, .ref (m + 84 + 5), .ref (m + 84 + 6), .ref (m + 84 + 7), .ref (m + 84 + 8), .int (-1), .int 0, .int 0, .int 0, .ref (m + 84 + 9)])) := ab_fr_at f490 c475 (by simp only [in_MWorld] <;> omega)
  have c545 : h487[m+84+1]? = some (.inl (.int, 256, .inl (a192 4))) := ab_fr_at f490 c476 (by simp only [in_MWorld] <;> omega)
  have c546 : h487[m+84+2]? = some (.inl (.boolean, 256, .inl (a192 5))) := ab_fr_at f490 c477 (by simp only [in_MWorld] <;> omega)
  have c547 : h487[m+84+3]? = some (.inl (.int, 256, .inl (a192 6))) := ab_fr_at f490 c478 (by simp only [in_MWorld] <;> omega)
  have c548 : h487[m+84+4]? = some (.inl (.int, 12288, .inl (a192 7))) := ab_fr_at f490 c479 (by simp only [in_MWorld] <;> omega)
  have c549 : h487[m+84+5]? = some (.inl (.int, 256, .inl (a192 9))) := ab_fr_at f490 c480 (by simp only [in_MWorld] <;> omega)
  have c550 : h487[m+84+6]? = some (.inl (.int, 256, .inl (a192 10))) := ab_fr_at f490 c481 (by simp only [in_MWorld] <;> omega)
  have c551 : h487[m+84+7]? = some (.inl (.int, 256, .inl (a192 11))) := ab_fr_at f490 c482 (by simp only [in_MWorld] <;> omega)
  have c552 : h487[m+84+8]? = some (.inl (.int, 1024, .inl (a192 12))) := ab_fr_at f490 c483 (by simp only [in_MWorld] <;> omega)
  have c553 : h487[m+84+9]? = some (.inl (.int, 32, .inl (a192 17))) := ab_fr_at f490 c484 (by simp only [in_MWorld] <;> omega)
  have c554 : h487[m]? = some (.inr (12, [.int 0, .ref (m + 1), .int 0, .ref (m + 33), .ref (m + 2), .int 1, .int (-1), .int (-1), .ref (m + 64), .ref (m + 84), .ref (m + 74), .ref (m + 94), .int 1, .int 0, .ref (m + 99), .ref (m + 100), .ref (m + 101), .ref (m + 102), .ref (m + 103), .ref (m + 104), .int 0, .ref (m + 105), .int 0, .int 0, .int 0, .ref (m + 106), .ref (m + 107), .int 0, .int 0])) := ab_fr_at f490 c485 (by simp only [in_MWorld] <;> omega)
  have fr555 : ab_fr (fun _ => True) h h487 := ab_fr_tr fr486 (ab_fr_mono f490 (fun _ _ => trivial))
  clear c413 c414 c415 c416 c417 c418 c419 c420 c421 c422 c423 c424 c425 c426 c427 c428 c429 c430 c431 c432 c433 c434 c435 c436 c437 c438 c439 c440 c441 c442 c443 c444 c445 c446 c447 c448 c449 c450 c451 c452 c453 c454 c455 c456 c457 c458 c459 c460 c461 c462 c463 c464 c465 c466 c467 c468 c469 c470 c471 c472 c473 c474 c475 c476 c477 c478 c479 c480 c481 c482 c483 c484 c485 f490 fr486
  try clear h411
  refine ab_aload_n d_M_swap_65 rfl rfl rfl ?_
  refine ab_get (f := 3) d_M_swap_66 c554 rfl (by decide) (k9 236 rfl rfl) rfl ?_
  refine ab_getN (f := 29) d_M_swap_69 c543 rfl (by decide) (k8 212 rfl rfl) rfl ?_
  exact ab_iret d_M_swap_72 rfl (Nat.le_refl _) (Nat.le_refl _) (by unfold sq_M_swap; exact ⟨rfl, trivial⟩)
