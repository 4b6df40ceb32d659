theorem hz_12 (z : Int32) : hz 2 z = hz 1 (hz 1 z) := rfl
theorem sum0_eq {y : Int32} (e : y = hz 4 (hz 4 (hz 4 (hz 4 (hz 1 (hz 1 (31 * (31 * 0 + 87) + 69))))))) : hz 1 (hz 1 (hz (5 * 256) y)) = sum0 := by
  subst e
  unfold sum0
  rw [hz_12]
set_option maxRecDepth 20000 in
set_option maxHeartbeats 2000000 in
theorem r_sw_s {h : List ab_E}  {gv0 gv1 gv4 gv5 gv6 gv7 gv8 gv9 gv10 gv11 gv12 gv13 gv14 gv15 gv16 gv17 : Value} {cv0 cv1 cv2 : Value} {dd0 dd1 dd2 : Value} {n4 n5 n6 n9 n10 n11 n12 n14 n15 : Value} {x : Nat}  (po : h[x + 131]? = some (.inr (11, [.ref (x + 131 + 1), .int 0, .int 0, .int 0, .int 0, .int 0]))) (go : h[x + 133]? = some (.inr (4, [gv0, gv1, .ref (x + 133 + 70), .ref (x + 133 + 138), gv4, gv5, gv6, gv7, gv8, gv9, gv10, gv11, gv12, gv13, gv14, gv15, gv16, gv17]))) (co : h[x + 133 + 70]? = some (.inr (3, [cv0, cv1, cv2, .int 0]))) (ddo : h[x + 133 + 138]? = some (.inr (3, [dd0, dd1, dd2, .int 0]))) (no : h[x + 11 + 1]? = some (.inr (7, [.int 0, .int 0, .int 0, .int 0, n4, n5, n6, .ref (x + 11 + 1 + 1), .ref (x + 11 + 1 + 2), n9, n10, n11, n12, .int 0, n14, n15]))) (ea : h[x + 11 + 1 + 1]? = some (.inl (.int, 256, .inl (fun _ => 0)))) (ra : h[x + 11 + 1 + 2]? = some (.inl (.int, 256, .inl (a0_World 8))))  : ab_M y_Store_write { frames := 2, cells := 0, slots := 0, locals := 80 } [.ref (x + 131), .ref (x + 133), .ref (x + 11 + 1), .int 0] h (ab_A (some (.int (sum0))) (fun h1 => ab_fr (fun j => j = x + 131) h h1)) := by
  refine ab_of2 (lv := [some (.ref (x + 131)), some (.ref (x + 133)), some (.ref (x + 11 + 1)), some (.int 0), none]) 1 rfl rfl (Nat.le_of_ble_eq_true rfl) ?_
  refine ab_aload_n d_Store_write_0 rfl rfl rfl ?_
  refine ab_iload_n d_Store_write_1 rfl rfl ?_
  refine ab_put (f := 3) d_Store_write_2 po rfl (by decide) (k2 192 rfl rfl) rfl rfl (fun _ => rfl) (fun _ => rfl) (Nat.le_of_ble_eq_true rfl) ?_
  show ab_V _ _ _ _ _ _ _ 5 [some (.ref (x + 131)), some (.ref (x + 133)), some (.ref (x + 11 + 1)), some (.int 0), none] [] (h.set (x+131) (.inr (11, [.ref (x + 131 + 1), .int 0, .int 0, .int 0, .int 0, .int 0])))
  refine ab_gen (fun h1 e2 => ?_)
  have c3 : h1[x+131]? = some (.inr (11, [.ref (x + 131 + 1), .int 0, .int 0, .int 0, .int 0, .int 0])) := ab_self e2 po
  have c4 : h1[x+133]? = some (.inr (4, [gv0, gv1, .ref (x + 133 + 70), .ref (x + 133 + 138), gv4, gv5, gv6, gv7, gv8, gv9, gv10, gv11, gv12, gv13, gv14, gv15, gv16, gv17])) := ab_other e2 (by omega) go
  have c5 : h1[x+133+70]? = some (.inr (3, [cv0, cv1, cv2, .int 0])) := ab_other e2 (by omega) co
  have c6 : h1[x+133+138]? = some (.inr (3, [dd0, dd1, dd2, .int 0])) := ab_other e2 (by omega) ddo
  have c7 : h1[x+11+1]? = some (.inr (7, [.int 0, .int 0, .int 0, .int 0, n4, n5, n6, .ref (x + 11 + 1 + 1), .ref (x + 11 + 1 + 2), n9, n10, n11, n12, .int 0, n14, n15])) := ab_other e2 (by omega) no
  have c8 : h1[x+11+1+1]? = some (.inl (.int, 256, .inl (fun _ => 0))) := ab_other e2 (by omega) ea
  have c9 : h1[x+11+1+2]? = some (.inl (.int, 256, .inl (a0_World 8))) := ab_other e2 (by omega) ra
  have fr10 : ab_fr (fun j => j = x + 131) h h1 := ab_fr_set (ab_fr_rf _ _) e2 (by first | (show _ ∧ _; omega) | (show _ ∨ _; omega) | (show _ = _; omega) | (show _ ≤ _; omega))
  clear e2
  refine ab_aload_n d_Store_write_5 rfl rfl rfl ?_
  refine ab_iconst (v := 0) d_Store_write_6 (by decide) ?_
  refine ab_put (f := 4) d_Store_write_7 c3 rfl (by decide) (k2 193 rfl rfl) rfl rfl (fun _ => rfl) (fun _ => rfl) (Nat.le_of_ble_eq_true rfl) ?_
  show ab_V _ _ _ _ _ _ _ 10 [some (.ref (x + 131)), some (.ref (x + 133)), some (.ref (x + 11 + 1)), some (.int 0), none] [] (h1.set (x+131) (.inr (11, [.ref (x + 131 + 1), .int 0, .int 0, .int 0, .int 0, .int 0])))
  refine ab_gen (fun h11 e12 => ?_)
  have c13 : h11[x+131]? = some (.inr (11, [.ref (x + 131 + 1), .int 0, .int 0, .int 0, .int 0, .int 0])) := ab_self e12 c3
  have c14 : h11[x+133]? = some (.inr (4, [gv0, gv1, .ref (x + 133 + 70), .ref (x + 133 + 138), gv4, gv5, gv6, gv7, gv8, gv9, gv10, gv11, gv12, gv13, gv14, gv15, gv16, gv17])) := ab_other e12 (by omega) c4
  have c15 : h11[x+133+70]? = some (.inr (3, [cv0, cv1, cv2, .int 0])) := ab_other e12 (by omega) c5
  have c16 : h11[x+133+138]? = some (.inr (3, [dd0, dd1, dd2, .int 0])) := ab_other e12 (by omega) c6
  have c17 : h11[x+11+1]? = some (.inr (7, [.int 0, .int 0, .int 0, .int 0, n4, n5, n6, .ref (x + 11 + 1 + 1), .ref (x + 11 + 1 + 2), n9, n10, n11, n12, .int 0, n14, n15])) := ab_other e12 (by omega) c7
  have c18 : h11[x+11+1+1]? = some (.inl (.int, 256, .inl (fun _ => 0))) := ab_other e12 (by omega) c8
  have c19 : h11[x+11+1+2]? = some (.inl (.int, 256, .inl (a0_World 8))) := ab_other e12 (by omega) c9
  have fr20 : ab_fr (fun j => j = x + 131) h h11 := ab_fr_set fr10 e12 (by first | (show _ ∧ _; omega) | (show _ ∨ _; omega) | (show _ = _; omega) | (show _ ≤ _; omega))
  clear c3 c4 c5 c6 c7 c8 c9 fr10 e12
  try clear h1
  refine ab_aload_n d_Store_write_10 rfl rfl rfl ?_
  refine ab_iload_n d_Store_write_11 rfl rfl ?_
  refine ab_if_eq (tgt := 19) d_Store_write_12 (by decide) (fun q21 => ?_) (fun q21 => by exact absurd (by decide) q21)
  refine ab_aload_n d_Store_write_19 rfl rfl rfl ?_
  refine ab_get (f := 1) d_Store_write_20 c13 rfl (by decide) (k2 188 rfl rfl) rfl ?_
  refine ab_put (f := 1) d_Store_write_23 c13 rfl (by decide) (k2 188 rfl rfl) rfl rfl (fun _ => rfl) (fun _ => rfl) (Nat.le_of_ble_eq_true rfl) ?_
  show ab_V _ _ _ _ _ _ _ 26 [some (.ref (x + 131)), some (.ref (x + 133)), some (.ref (x + 11 + 1)), some (.int 0), none] [] (h11.set (x+131) (.inr (11, [.ref (x + 131 + 1), .int 0, .int 0, .int 0, .int 0, .int 0])))
  refine ab_gen (fun h22 e23 => ?_)
  have c24 : h22[x+131]? = some (.inr (11, [.ref (x + 131 + 1), .int 0, .int 0, .int 0, .int 0, .int 0])) := ab_self e23 c13
  have c25 : h22[x+133]? = some (.inr (4, [gv0, gv1, .ref (x + 133 + 70), .ref (x + 133 + 138), gv4, gv5, gv6, gv7, gv8, gv9, gv10, gv11, gv12, gv13, gv14, gv15, gv16, gv17])) := ab_other e23 (by omega) c14
  have c26 : h22[x+133+70]? = some (.inr (3, [cv0, cv1, cv2, .int 0])) := ab_other e23 (by omega) c15
  have c27 : h22[x+133+138]? = some (.inr (3, [dd0, dd1, dd2, .int 0])) := ab_other e23 (by omega) c16
  have c28 : h22[x+11+1]? = some (.inr (7, [.int 0, .int 0, .int 0, .int 0, n4, n5, n6, .ref (x + 11 + 1 + 1), .ref (x + 11 + 1 + 2), n9, n10, n11, n12, .int 0, n14, n15])) := ab_other e23 (by omega) c17
  have c29 : h22[x+11+1+1]? = some (.inl (.int, 256, .inl (fun _ => 0))) := ab_other e23 (by omega) c18
  have c30 : h22[x+11+1+2]? = some (.inl (.int, 256, .inl (a0_World 8))) := ab_other e23 (by omega) c19
  have fr31 : ab_fr (fun j => j = x + 131) h h22 := ab_fr_set fr20 e23 (by first | (show _ ∧ _; omega) | (show _ ∨ _; omega) | (show _ = _; omega) | (show _ ≤ _; omega))
  clear c13 c14 c15 c16 c17 c18 c19 fr20 e23
  try clear h11
  refine ab_aload_n d_Store_write_26 rfl rfl rfl ?_
  refine ab_bipush (v := 87) d_Store_write_27 (by decide) ?_
  refine ab_callV_v (As := [.int 87]) (rest := []) d_Store_write_29 (r_wb_s87 c24) (ab_mkC s_Store_writeByte (Nat.le_of_ble_eq_true rfl) (Nat.le_of_ble_eq_true rfl) (by decide) (by decide)) (k8 0 rfl rfl) i_Store_writeByte v_Store_writeByte c24 rfl rfl (Nat.le_of_ble_eq_true rfl) (fun h32 q33 => ?_)
  obtain ⟨c35, f34⟩ := q33
  have c36 : h32[x+133]? = some (.inr (4, [gv0, gv1, .ref (x + 133 + 70), .ref (x + 133 + 138), gv4, gv5, gv6, gv7, gv8, gv9, gv10, gv11, gv12, gv13, gv14, gv15, gv16, gv17])) := ab_fr_at f34 c25 (by omega)
  have c37 : h32[x+133+70]? = some (.inr (3, [cv0, cv1, cv2, .int 0])) := ab_fr_at f34 c26 (by omega)
  have c38 : h32[x+133+138]? = some (.inr (3, [dd0, dd1, dd2, .int 0])) := ab_fr_at f34 c27 (by omega)
  have c39 : h32[x+11+1]? = some (.inr (7, [.int 0, .int 0, .int 0, .int 0, n4, n5, n6, .ref (x + 11 + 1 + 1), .ref (x + 11 + 1 + 2), n9, n10, n11, n12, .int 0, n14, n15])) := ab_fr_at f34 c28 (by omega)
  have c40 : h32[x+11+1+1]? = some (.inl (.int, 256, .inl (fun _ => 0))) := ab_fr_at f34 c29 (by omega)
  have c41 : h32[x+11+1+2]? = some (.inl (.int, 256, .inl (a0_World 8))) := ab_fr_at f34 c30 (by omega)
  have fr42 : ab_fr (fun j => j = x + 131) h h32 := ab_fr_tr fr31 f34
  clear c24 c25 c26 c27 c28 c29 c30 f34 fr31
  try clear h22
  replace c35 : h32[x+131]? = some (.inr (11, [.ref (x + 131 + 1), .int 0, .int 0, .int 0, .int (31 * 0 + 87), .int 0])) := c35
  refine ab_aload_n d_Store_write_32 rfl rfl rfl ?_
  refine ab_bipush (v := 69) d_Store_write_33 (by decide) ?_
  refine ab_callV_v (As := [.int 69]) (rest := []) d_Store_write_35 (r_wb_s69 c35) (ab_mkC s_Store_writeByte (Nat.le_of_ble_eq_true rfl) (Nat.le_of_ble_eq_true rfl) (by decide) (by decide)) (k8 0 rfl rfl) i_Store_writeByte v_Store_writeByte c35 rfl rfl (Nat.le_of_ble_eq_true rfl) (fun h43 q44 => ?_)
  obtain ⟨c46, f45⟩ := q44
  have c47 : h43[x+133]? = some (.inr (4, [gv0, gv1, .ref (x + 133 + 70), .ref (x + 133 + 138), gv4, gv5, gv6, gv7, gv8, gv9, gv10, gv11, gv12, gv13, gv14, gv15, gv16, gv17])) := ab_fr_at f45 c36 (by omega)
  have c48 : h43[x+133+70]? = some (.inr (3, [cv0, cv1, cv2, .int 0])) := ab_fr_at f45 c37 (by omega)
  have c49 : h43[x+133+138]? = some (.inr (3, [dd0, dd1, dd2, .int 0])) := ab_fr_at f45 c38 (by omega)
  have c50 : h43[x+11+1]? = some (.inr (7, [.int 0, .int 0, .int 0, .int 0, n4, n5, n6, .ref (x + 11 + 1 + 1), .ref (x + 11 + 1 + 2), n9, n10, n11, n12, .int 0, n14, n15])) := ab_fr_at f45 c39 (by omega)
  have c51 : h43[x+11+1+1]? = some (.inl (.int, 256, .inl (fun _ => 0))) := ab_fr_at f45 c40 (by omega)
  have c52 : h43[x+11+1+2]? = some (.inl (.int, 256, .inl (a0_World 8))) := ab_fr_at f45 c41 (by omega)
  have fr53 : ab_fr (fun j => j = x + 131) h h43 := ab_fr_tr fr42 f45
  clear c36 c37 c38 c39 c40 c41 c35 f45 fr42
  try clear h32
  replace c46 : h43[x+131]? = some (.inr (11, [.ref (x + 131 + 1), .int 0, .int 0, .int 0, .int (31 * (31 * 0 + 87) + 69), .int 0])) := c46
  refine ab_aload_n d_Store_write_38 rfl rfl rfl ?_
  refine ab_aload_n d_Store_write_39 rfl rfl rfl ?_
  refine ab_get (f := 2) d_Store_write_40 c47 rfl (by decide) (k3 56 rfl rfl) rfl ?_
  refine ab_callV_v (As := [.ref (x + 133 + 70)]) (rest := []) d_Store_write_43 (r_ws_s c46 c48 (by omega) (by omega)) (ab_mkC s_Store_writeShapes (Nat.le_of_ble_eq_true rfl) (Nat.le_of_ble_eq_true rfl) (by decide) (by decide)) (k8 4 rfl rfl) i_Store_writeShapes v_Store_writeShapes c46 rfl rfl (Nat.le_of_ble_eq_true rfl) (fun h54 q55 => ?_)
  obtain ⟨c57, f56⟩ := q55
  have c58 : h54[x+133]? = some (.inr (4, [gv0, gv1, .ref (x + 133 + 70), .ref (x + 133 + 138), gv4, gv5, gv6, gv7, gv8, gv9, gv10, gv11, gv12, gv13, gv14, gv15, gv16, gv17])) := ab_fr_at f56 c47 (by omega)
  have c59 : h54[x+133+70]? = some (.inr (3, [cv0, cv1, cv2, .int 0])) := ab_fr_at f56 c48 (by omega)
  have c60 : h54[x+133+138]? = some (.inr (3, [dd0, dd1, dd2, .int 0])) := ab_fr_at f56 c49 (by omega)
  have c61 : h54[x+11+1]? = some (.inr (7, [.int 0, .int 0, .int 0, .int 0, n4, n5, n6, .ref (x + 11 + 1 + 1), .ref (x + 11 + 1 + 2), n9, n10, n11, n12, .int 0, n14, n15])) := ab_fr_at f56 c50 (by omega)
  have c62 : h54[x+11+1+1]? = some (.inl (.int, 256, .inl (fun _ => 0))) := ab_fr_at f56 c51 (by omega)
  have c63 : h54[x+11+1+2]? = some (.inl (.int, 256, .inl (a0_World 8))) := ab_fr_at f56 c52 (by omega)
  have fr64 : ab_fr (fun j => j = x + 131) h h54 := ab_fr_tr fr53 f56
  clear c47 c48 c49 c50 c51 c52 c46 f56 fr53
  try clear h43
  replace c57 : h54[x+131]? = some (.inr (11, [.ref (x + 131 + 1), .int 0, .int 0, .int 0, .int (hz 1 (31 * (31 * 0 + 87) + 69)), .int 0])) := c57
  refine ab_aload_n d_Store_write_46 rfl rfl rfl ?_
  refine ab_aload_n d_Store_write_47 rfl rfl rfl ?_
  refine ab_get (f := 3) d_Store_write_48 c58 rfl (by decide) (k3 63 rfl rfl) rfl ?_
  refine ab_callV_v (As := [.ref (x + 133 + 138)]) (rest := []) d_Store_write_51 (r_ws_s c57 c60 (by omega) (by omega)) (ab_mkC s_Store_writeShapes (Nat.le_of_ble_eq_true rfl) (Nat.le_of_ble_eq_true rfl) (by decide) (by decide)) (k8 4 rfl rfl) i_Store_writeShapes v_Store_writeShapes c57 rfl rfl (Nat.le_of_ble_eq_true rfl) (fun h65 q66 => ?_)
  obtain ⟨c68, f67⟩ := q66
  have c69 : h65[x+133]? = some (.inr (4, [gv0, gv1, .ref (x + 133 + 70), .ref (x + 133 + 138), gv4, gv5, gv6, gv7, gv8, gv9, gv10, gv11, gv12, gv13, gv14, gv15, gv16, gv17])) := ab_fr_at f67 c58 (by omega)
  have c70 : h65[x+133+70]? = some (.inr (3, [cv0, cv1, cv2, .int 0])) := ab_fr_at f67 c59 (by omega)
  have c71 : h65[x+133+138]? = some (.inr (3, [dd0, dd1, dd2, .int 0])) := ab_fr_at f67 c60 (by omega)
  have c72 : h65[x+11+1]? = some (.inr (7, [.int 0, .int 0, .int 0, .int 0, n4, n5, n6, .ref (x + 11 + 1 + 1), .ref (x + 11 + 1 + 2), n9, n10, n11, n12, .int 0, n14, n15])) := ab_fr_at f67 c61 (by omega)
  have c73 : h65[x+11+1+1]? = some (.inl (.int, 256, .inl (fun _ => 0))) := ab_fr_at f67 c62 (by omega)
  have c74 : h65[x+11+1+2]? = some (.inl (.int, 256, .inl (a0_World 8))) := ab_fr_at f67 c63 (by omega)
  have fr75 : ab_fr (fun j => j = x + 131) h h65 := ab_fr_tr fr64 f67
  clear c58 c59 c60 c61 c62 c63 c57 f67 fr64
  try clear h54
  replace c68 : h65[x+131]? = some (.inr (11, [.ref (x + 131 + 1), .int 0, .int 0, .int 0, .int (hz 1 (hz 1 (31 * (31 * 0 + 87) + 69))), .int 0])) := c68
  refine ab_aload_n d_Store_write_54 rfl rfl rfl ?_
  refine ab_aload_n d_Store_write_55 rfl rfl rfl ?_
  refine ab_get (f := 0) d_Store_write_56 c72 rfl (by decide) (k1 207 rfl rfl) rfl ?_
  refine ab_callV_v (As := [.int 0]) (rest := []) d_Store_write_59 (r_wi_s c68) (ab_mkC s_Store_writeInt (Nat.le_of_ble_eq_true rfl) (Nat.le_of_ble_eq_true rfl) (by decide) (by decide)) (k8 9 rfl rfl) i_Store_writeInt v_Store_writeInt c68 rfl rfl (Nat.le_of_ble_eq_true rfl) (fun h76 q77 => ?_)
  obtain ⟨c79, f78⟩ := q77
  have c80 : h76[x+133]? = some (.inr (4, [gv0, gv1, .ref (x + 133 + 70), .ref (x + 133 + 138), gv4, gv5, gv6, gv7, gv8, gv9, gv10, gv11, gv12, gv13, gv14, gv15, gv16, gv17])) := ab_fr_at f78 c69 (by omega)
  have c81 : h76[x+133+70]? = some (.inr (3, [cv0, cv1, cv2, .int 0])) := ab_fr_at f78 c70 (by omega)
  have c82 : h76[x+133+138]? = some (.inr (3, [dd0, dd1, dd2, .int 0])) := ab_fr_at f78 c71 (by omega)
  have c83 : h76[x+11+1]? = some (.inr (7, [.int 0, .int 0, .int 0, .int 0, n4, n5, n6, .ref (x + 11 + 1 + 1), .ref (x + 11 + 1 + 2), n9, n10, n11, n12, .int 0, n14, n15])) := ab_fr_at f78 c72 (by omega)
  have c84 : h76[x+11+1+1]? = some (.inl (.int, 256, .inl (fun _ => 0))) := ab_fr_at f78 c73 (by omega)
  have c85 : h76[x+11+1+2]? = some (.inl (.int, 256, .inl (a0_World 8))) := ab_fr_at f78 c74 (by omega)
  have fr86 : ab_fr (fun j => j = x + 131) h h76 := ab_fr_tr fr75 f78
  clear c69 c70 c71 c72 c73 c74 c68 f78 fr75
  try clear h65
  replace c79 : h76[x+131]? = some (.inr (11, [.ref (x + 131 + 1), .int 0, .int 0, .int 0, .int (hz 4 (hz 1 (hz 1 (31 * (31 * 0 + 87) + 69)))), .int 0])) := c79
  refine ab_aload_n d_Store_write_62 rfl rfl rfl ?_
  refine ab_aload_n d_Store_write_63 rfl rfl rfl ?_
  refine ab_get (f := 1) d_Store_write_64 c83 rfl (by decide) (k1 211 rfl rfl) rfl ?_
  refine ab_callV_v (As := [.int 0]) (rest := []) d_Store_write_67 (r_wi_s c79) (ab_mkC s_Store_writeInt (Nat.le_of_ble_eq_true rfl) (Nat.le_of_ble_eq_true rfl) (by decide) (by decide)) (k8 9 rfl rfl) i_Store_writeInt v_Store_writeInt c79 rfl rfl (Nat.le_of_ble_eq_true rfl) (fun h87 q88 => ?_)
  obtain ⟨c90, f89⟩ := q88
  have c91 : h87[x+133]? = some (.inr (4, [gv0, gv1, .ref (x + 133 + 70), .ref (x + 133 + 138), gv4, gv5, gv6, gv7, gv8, gv9, gv10, gv11, gv12, gv13, gv14, gv15, gv16, gv17])) := ab_fr_at f89 c80 (by omega)
  have c92 : h87[x+133+70]? = some (.inr (3, [cv0, cv1, cv2, .int 0])) := ab_fr_at f89 c81 (by omega)
  have c93 : h87[x+133+138]? = some (.inr (3, [dd0, dd1, dd2, .int 0])) := ab_fr_at f89 c82 (by omega)
  have c94 : h87[x+11+1]? = some (.inr (7, [.int 0, .int 0, .int 0, .int 0, n4, n5, n6, .ref (x + 11 + 1 + 1), .ref (x + 11 + 1 + 2), n9, n10, n11, n12, .int 0, n14, n15])) := ab_fr_at f89 c83 (by omega)
  have c95 : h87[x+11+1+1]? = some (.inl (.int, 256, .inl (fun _ => 0))) := ab_fr_at f89 c84 (by omega)
  have c96 : h87[x+11+1+2]? = some (.inl (.int, 256, .inl (a0_World 8))) := ab_fr_at f89 c85 (by omega)
  have fr97 : ab_fr (fun j => j = x + 131) h h87 := ab_fr_tr fr86 f89
  clear c80 c81 c82 c83 c84 c85 c79 f89 fr86
  try clear h76
  replace c90 : h87[x+131]? = some (.inr (11, [.ref (x + 131 + 1), .int 0, .int 0, .int 0, .int (hz 4 (hz 4 (hz 1 (hz 1 (31 * (31 * 0 + 87) + 69))))), .int 0])) := c90
  refine ab_aload_n d_Store_write_70 rfl rfl rfl ?_
  refine ab_aload_n d_Store_write_71 rfl rfl rfl ?_
  refine ab_get (f := 2) d_Store_write_72 c94 rfl (by decide) (k1 214 rfl rfl) rfl ?_
  refine ab_callV_v (As := [.int 0]) (rest := []) d_Store_write_75 (r_wi_s c90) (ab_mkC s_Store_writeInt (Nat.le_of_ble_eq_true rfl) (Nat.le_of_ble_eq_true rfl) (by decide) (by decide)) (k8 9 rfl rfl) i_Store_writeInt v_Store_writeInt c90 rfl rfl (Nat.le_of_ble_eq_true rfl) (fun h98 q99 => ?_)
  obtain ⟨c101, f100⟩ := q99
  have c102 : h98[x+133]? = some (.inr (4, [gv0, gv1, .ref (x + 133 + 70), .ref (x + 133 + 138), gv4, gv5, gv6, gv7, gv8, gv9, gv10, gv11, gv12, gv13, gv14, gv15, gv16, gv17])) := ab_fr_at f100 c91 (by omega)
  have c103 : h98[x+133+70]? = some (.inr (3, [cv0, cv1, cv2, .int 0])) := ab_fr_at f100 c92 (by omega)
  have c104 : h98[x+133+138]? = some (.inr (3, [dd0, dd1, dd2, .int 0])) := ab_fr_at f100 c93 (by omega)
  have c105 : h98[x+11+1]? = some (.inr (7, [.int 0, .int 0, .int 0, .int 0, n4, n5, n6, .ref (x + 11 + 1 + 1), .ref (x + 11 + 1 + 2), n9, n10, n11, n12, .int 0, n14, n15])) := ab_fr_at f100 c94 (by omega)
  have c106 : h98[x+11+1+1]? = some (.inl (.int, 256, .inl (fun _ => 0))) := ab_fr_at f100 c95 (by omega)
  have c107 : h98[x+11+1+2]? = some (.inl (.int, 256, .inl (a0_World 8))) := ab_fr_at f100 c96 (by omega)
  have fr108 : ab_fr (fun j => j = x + 131) h h98 := ab_fr_tr fr97 f100
  clear c91 c92 c93 c94 c95 c96 c90 f100 fr97
  try clear h87
  replace c101 : h98[x+131]? = some (.inr (11, [.ref (x + 131 + 1), .int 0, .int 0, .int 0, .int (hz 4 (hz 4 (hz 4 (hz 1 (hz 1 (31 * (31 * 0 + 87) + 69)))))), .int 0])) := c101
  refine ab_aload_n d_Store_write_78 rfl rfl rfl ?_
  refine ab_aload_n d_Store_write_79 rfl rfl rfl ?_
  refine ab_get (f := 3) d_Store_write_80 c105 rfl (by decide) (k1 217 rfl rfl) rfl ?_
  refine ab_callV_v (As := [.int 0]) (rest := []) d_Store_write_83 (r_wi_s c101) (ab_mkC s_Store_writeInt (Nat.le_of_ble_eq_true rfl) (Nat.le_of_ble_eq_true rfl) (by decide) (by decide)) (k8 9 rfl rfl) i_Store_writeInt v_Store_writeInt c101 rfl rfl (Nat.le_of_ble_eq_true rfl) (fun h109 q110 => ?_)
  obtain ⟨c112, f111⟩ := q110
  have c113 : h109[x+133]? = some (.inr (4, [gv0, gv1, .ref (x + 133 + 70), .ref (x + 133 + 138), gv4, gv5, gv6, gv7, gv8, gv9, gv10, gv11, gv12, gv13, gv14, gv15, gv16, gv17])) := ab_fr_at f111 c102 (by omega)
  have c114 : h109[x+133+70]? = some (.inr (3, [cv0, cv1, cv2, .int 0])) := ab_fr_at f111 c103 (by omega)
  have c115 : h109[x+133+138]? = some (.inr (3, [dd0, dd1, dd2, .int 0])) := ab_fr_at f111 c104 (by omega)
  have c116 : h109[x+11+1]? = some (.inr (7, [.int 0, .int 0, .int 0, .int 0, n4, n5, n6, .ref (x + 11 + 1 + 1), .ref (x + 11 + 1 + 2), n9, n10, n11, n12, .int 0, n14, n15])) := ab_fr_at f111 c105 (by omega)
  have c117 : h109[x+11+1+1]? = some (.inl (.int, 256, .inl (fun _ => 0))) := ab_fr_at f111 c106 (by omega)
  have c118 : h109[x+11+1+2]? = some (.inl (.int, 256, .inl (a0_World 8))) := ab_fr_at f111 c107 (by omega)
  have fr119 : ab_fr (fun j => j = x + 131) h h109 := ab_fr_tr fr108 f111
  clear c102 c103 c104 c105 c106 c107 c101 f111 fr108
  try clear h98
  replace c112 : h109[x+131]? = some (.inr (11, [.ref (x + 131 + 1), .int 0, .int 0, .int 0, .int (hz 4 (hz 4 (hz 4 (hz 4 (hz 1 (hz 1 (31 * (31 * 0 + 87) + 69))))))), .int 0])) := c112
  refine ab_iconst (v := 0) d_Store_write_86 (by decide) ?_
  refine ab_istore (lv' := [some (.ref (x + 131)), some (.ref (x + 133)), some (.ref (x + 11 + 1)), some (.int 0), some (.int 0)]) d_Store_write_87 (by decide) rfl ?_
  obtain ⟨y120, ey120⟩ : ∃ z : Int32, z = hz 4 (hz 4 (hz 4 (hz 4 (hz 1 (hz 1 (31 * (31 * 0 + 87) + 69)))))) := ⟨_, rfl⟩
  have c121 : h109[x + 131]? = some (.inr (11, [.ref (x + 131 + 1), .int 0, .int 0, .int 0, .int (hz (5 * 0) y120), .int 0])) := (by have z := c112; rw [← ey120] at z; exact z)
  refine l_sw_s  (Nat.le_of_ble_eq_true rfl) (Nat.le_of_ble_eq_true rfl) 256 0 h109  (by omega) c121 c116 c117 c118 (fun h122  c123 c124 c125 c126 f127 => ?_)
  have c128 : h122[x+133]? = some (.inr (4, [gv0, gv1, .ref (x + 133 + 70), .ref (x + 133 + 138), gv4, gv5, gv6, gv7, gv8, gv9, gv10, gv11, gv12, gv13, gv14, gv15, gv16, gv17])) := ab_fr_at f127 c113 (by omega)
  have c129 : h122[x+133+70]? = some (.inr (3, [cv0, cv1, cv2, .int 0])) := ab_fr_at f127 c114 (by omega)
  have c130 : h122[x+133+138]? = some (.inr (3, [dd0, dd1, dd2, .int 0])) := ab_fr_at f127 c115 (by omega)
  have fr131 : ab_fr (fun j => j = x + 131) h h122 := ab_fr_tr fr119 f127
  clear c113 c114 c115 c116 c117 c118 c121 f127 fr119
  try clear h109
  refine ab_aload_n d_Store_write_154 rfl rfl rfl ?_
  refine ab_aload_n d_Store_write_155 rfl rfl rfl ?_
  refine ab_get (f := 3) d_Store_write_156 c128 rfl (by decide) (k3 63 rfl rfl) rfl ?_
  refine ab_aload_n d_Store_write_159 rfl rfl rfl ?_
  refine ab_callV_v (As := [.ref (x + 133 + 138), .ref (x + 11 + 1)]) (rest := []) d_Store_write_160 (r_we_s c123 c124 (by omega) (by omega)) (ab_mkC s_Store_writeEvents (Nat.le_of_ble_eq_true rfl) (Nat.le_of_ble_eq_true rfl) (by decide) (by decide)) (k8 19 rfl rfl) i_Store_writeEvents v_Store_writeEvents c123 rfl rfl (Nat.le_of_ble_eq_true rfl) (fun h132 q133 => ?_)
  obtain ⟨c135, f134⟩ := q133
  have c136 : h132[x+133]? = some (.inr (4, [gv0, gv1, .ref (x + 133 + 70), .ref (x + 133 + 138), gv4, gv5, gv6, gv7, gv8, gv9, gv10, gv11, gv12, gv13, gv14, gv15, gv16, gv17])) := ab_fr_at f134 c128 (by omega)
  have c137 : h132[x+133+70]? = some (.inr (3, [cv0, cv1, cv2, .int 0])) := ab_fr_at f134 c129 (by omega)
  have c138 : h132[x+133+138]? = some (.inr (3, [dd0, dd1, dd2, .int 0])) := ab_fr_at f134 c130 (by omega)
  have c139 : h132[x+11+1]? = some (.inr (7, [.int 0, .int 0, .int 0, .int 0, n4, n5, n6, .ref (x + 11 + 1 + 1), .ref (x + 11 + 1 + 2), n9, n10, n11, n12, .int 0, n14, n15])) := ab_fr_at f134 c124 (by omega)
  have c140 : h132[x+11+1+1]? = some (.inl (.int, 256, .inl (fun _ => 0))) := ab_fr_at f134 c125 (by omega)
  have c141 : h132[x+11+1+2]? = some (.inl (.int, 256, .inl (a0_World 8))) := ab_fr_at f134 c126 (by omega)
  have fr142 : ab_fr (fun j => j = x + 131) h h132 := ab_fr_tr fr131 f134
  clear c128 c129 c130 c123 c124 c125 c126 f134 fr131
  try clear h122
  replace c135 : h132[x+131]? = some (.inr (11, [.ref (x + 131 + 1), .int 0, .int 0, .int 0, .int (hz 1 (hz 1 (hz (5 * 256) y120))), .int 0])) := c135
  refine ab_aload_n d_Store_write_163 rfl rfl rfl ?_
  refine ab_get (f := 4) d_Store_write_164 c135 rfl (by decide) (k2 193 rfl rfl) rfl ?_
  exact ab_iret d_Store_write_167 rfl (Nat.le_refl _) (Nat.le_refl _) (by exact ⟨congrArg (fun z => Outcome.returned (some (.int z))) (sum0_eq ey120), fr142⟩)
set_option maxRecDepth 20000 in
set_option maxHeartbeats 2000000 in
theorem r_sw_k {h : List ab_E}  {qf : Nat → Int32} {gv0 gv1 gv4 gv5 gv6 gv7 gv8 gv9 gv10 gv11 gv12 gv13 gv14 gv15 gv16 gv17 : Value} {cv0 cv1 cv2 : Value} {dd0 dd1 dd2 : Value} {n4 n5 n6 n9 n10 n11 n12 n14 n15 : Value} {x : Nat}  (po : h[x + 131]? = some (.inr (11, [.ref (x + 131 + 1), .int 0, .int 0, .int 0, .int 0, .int 0]))) (qa : h[x + 131 + 1]? = some (.inl (.byte, 60000, .inl qf))) (go : h[x + 133]? = some (.inr (4, [gv0, gv1, .ref (x + 133 + 70), .ref (x + 133 + 138), gv4, gv5, gv6, gv7, gv8, gv9, gv10, gv11, gv12, gv13, gv14, gv15, gv16, gv17]))) (co : h[x + 133 + 70]? = some (.inr (3, [cv0, cv1, cv2, .int 0]))) (ddo : h[x + 133 + 138]? = some (.inr (3, [dd0, dd1, dd2, .int 0]))) (no : h[x + 11 + 1]? = some (.inr (7, [.int 0, .int 0, .int 0, .int 0, n4, n5, n6, .ref (x + 11 + 1 + 1), .ref (x + 11 + 1 + 2), n9, n10, n11, n12, .int 0, n14, n15]))) (ea : h[x + 11 + 1 + 1]? = some (.inl (.int, 256, .inl (fun _ => 0)))) (ra : h[x + 11 + 1 + 2]? = some (.inl (.int, 256, .inl (a0_World 8))))  : ab_M y_Store_write { frames := 2, cells := 0, slots := 0, locals := 80 } [.ref (x + 131), .ref (x + 133), .ref (x + 11 + 1), .int 1] h (ab_Ai (fun _ h1 => ∃ y : Int32, h1[x + 131]? = some (.inr (11, [.ref (x + 131 + 1), .int 1302, .int 0, .int 1, .int y, .int 0])) ∧ ab_fr (fun j => j = x + 131 ∨ j = x + 131 + 1) h h1)) := by
  refine ab_of2 (lv := [some (.ref (x + 131)), some (.ref (x + 133)), some (.ref (x + 11 + 1)), some (.int 1), none]) 1 rfl rfl (Nat.le_of_ble_eq_true rfl) ?_
  refine ab_aload_n d_Store_write_0 rfl rfl rfl ?_
  refine ab_iload_n d_Store_write_1 rfl rfl ?_
  refine ab_put (f := 3) d_Store_write_2 po rfl (by decide) (k2 192 rfl rfl) rfl rfl (fun _ => rfl) (fun _ => rfl) (Nat.le_of_ble_eq_true rfl) ?_
  show ab_V _ _ _ _ _ _ _ 5 [some (.ref (x + 131)), some (.ref (x + 133)), some (.ref (x + 11 + 1)), some (.int 1), none] [] (h.set (x+131) (.inr (11, [.ref (x + 131 + 1), .int 0, .int 0, .int 1, .int 0, .int 0])))
  refine ab_gen (fun h1 e2 => ?_)
  have c3 : h1[x+131]? = some (.inr (11, [.ref (x + 131 + 1), .int 0, .int 0, .int 1, .int 0, .int 0])) := ab_self e2 po
  have c4 : h1[x+131+1]? = some (.inl (.byte, 60000, .inl qf)) := ab_other e2 (by omega) qa
  have c5 : h1[x+133]? = some (.inr (4, [gv0, gv1, .ref (x + 133 + 70), .ref (x + 133 + 138), gv4, gv5, gv6, gv7, gv8, gv9, gv10, gv11, gv12, gv13, gv14, gv15, gv16, gv17])) := ab_other e2 (by omega) go
  have c6 : h1[x+133+70]? = some (.inr (3, [cv0, cv1, cv2, .int 0])) := ab_other e2 (by omega) co
  have c7 : h1[x+133+138]? = some (.inr (3, [dd0, dd1, dd2, .int 0])) := ab_other e2 (by omega) ddo
  have c8 : h1[x+11+1]? = some (.inr (7, [.int 0, .int 0, .int 0, .int 0, n4, n5, n6, .ref (x + 11 + 1 + 1), .ref (x + 11 + 1 + 2), n9, n10, n11, n12, .int 0, n14, n15])) := ab_other e2 (by omega) no
  have c9 : h1[x+11+1+1]? = some (.inl (.int, 256, .inl (fun _ => 0))) := ab_other e2 (by omega) ea
  have c10 : h1[x+11+1+2]? = some (.inl (.int, 256, .inl (a0_World 8))) := ab_other e2 (by omega) ra
  have fr11 : ab_fr (fun j => j = x + 131 ∨ j = x + 131 + 1) h h1 := ab_fr_set (ab_fr_rf _ _) e2 (by first | (show _ ∧ _; omega) | (show _ ∨ _; omega) | (show _ = _; omega) | (show _ ≤ _; omega))
  clear e2
  refine ab_aload_n d_Store_write_5 rfl rfl rfl ?_
  refine ab_iconst (v := 0) d_Store_write_6 (by decide) ?_
  refine ab_put (f := 4) d_Store_write_7 c3 rfl (by decide) (k2 193 rfl rfl) rfl rfl (fun _ => rfl) (fun _ => rfl) (Nat.le_of_ble_eq_true rfl) ?_
  show ab_V _ _ _ _ _ _ _ 10 [some (.ref (x + 131)), some (.ref (x + 133)), some (.ref (x + 11 + 1)), some (.int 1), none] [] (h1.set (x+131) (.inr (11, [.ref (x + 131 + 1), .int 0, .int 0, .int 1, .int 0, .int 0])))
  refine ab_gen (fun h12 e13 => ?_)
  have c14 : h12[x+131]? = some (.inr (11, [.ref (x + 131 + 1), .int 0, .int 0, .int 1, .int 0, .int 0])) := ab_self e13 c3
  have c15 : h12[x+131+1]? = some (.inl (.byte, 60000, .inl qf)) := ab_other e13 (by omega) c4
  have c16 : h12[x+133]? = some (.inr (4, [gv0, gv1, .ref (x + 133 + 70), .ref (x + 133 + 138), gv4, gv5, gv6, gv7, gv8, gv9, gv10, gv11, gv12, gv13, gv14, gv15, gv16, gv17])) := ab_other e13 (by omega) c5
  have c17 : h12[x+133+70]? = some (.inr (3, [cv0, cv1, cv2, .int 0])) := ab_other e13 (by omega) c6
  have c18 : h12[x+133+138]? = some (.inr (3, [dd0, dd1, dd2, .int 0])) := ab_other e13 (by omega) c7
  have c19 : h12[x+11+1]? = some (.inr (7, [.int 0, .int 0, .int 0, .int 0, n4, n5, n6, .ref (x + 11 + 1 + 1), .ref (x + 11 + 1 + 2), n9, n10, n11, n12, .int 0, n14, n15])) := ab_other e13 (by omega) c8
  have c20 : h12[x+11+1+1]? = some (.inl (.int, 256, .inl (fun _ => 0))) := ab_other e13 (by omega) c9
  have c21 : h12[x+11+1+2]? = some (.inl (.int, 256, .inl (a0_World 8))) := ab_other e13 (by omega) c10
  have fr22 : ab_fr (fun j => j = x + 131 ∨ j = x + 131 + 1) h h12 := ab_fr_set fr11 e13 (by first | (show _ ∧ _; omega) | (show _ ∨ _; omega) | (show _ = _; omega) | (show _ ≤ _; omega))
  clear c3 c4 c5 c6 c7 c8 c9 c10 fr11 e13
  try clear h1
  refine ab_aload_n d_Store_write_10 rfl rfl rfl ?_
  refine ab_iload_n d_Store_write_11 rfl rfl ?_
  refine ab_if_eq (tgt := 19) d_Store_write_12 (by decide) (fun q23 => by exact absurd q23 (by decide)) (fun q23 => ?_)
  refine ab_iconst (v := 0) d_Store_write_15 (by decide) ?_
  refine ab_goto (tgt := 23) d_Store_write_16 (by decide) ?_
  refine ab_put (f := 1) d_Store_write_23 c14 rfl (by decide) (k2 188 rfl rfl) rfl rfl (fun _ => rfl) (fun _ => rfl) (Nat.le_of_ble_eq_true rfl) ?_
  show ab_V _ _ _ _ _ _ _ 26 [some (.ref (x + 131)), some (.ref (x + 133)), some (.ref (x + 11 + 1)), some (.int 1), none] [] (h12.set (x+131) (.inr (11, [.ref (x + 131 + 1), .int 0, .int 0, .int 1, .int 0, .int 0])))
  refine ab_gen (fun h24 e25 => ?_)
  have c26 : h24[x+131]? = some (.inr (11, [.ref (x + 131 + 1), .int 0, .int 0, .int 1, .int 0, .int 0])) := ab_self e25 c14
  have c27 : h24[x+131+1]? = some (.inl (.byte, 60000, .inl qf)) := ab_other e25 (by omega) c15
  have c28 : h24[x+133]? = some (.inr (4, [gv0, gv1, .ref (x + 133 + 70), .ref (x + 133 + 138), gv4, gv5, gv6, gv7, gv8, gv9, gv10, gv11, gv12, gv13, gv14, gv15, gv16, gv17])) := ab_other e25 (by omega) c16
  have c29 : h24[x+133+70]? = some (.inr (3, [cv0, cv1, cv2, .int 0])) := ab_other e25 (by omega) c17
  have c30 : h24[x+133+138]? = some (.inr (3, [dd0, dd1, dd2, .int 0])) := ab_other e25 (by omega) c18
  have c31 : h24[x+11+1]? = some (.inr (7, [.int 0, .int 0, .int 0, .int 0, n4, n5, n6, .ref (x + 11 + 1 + 1), .ref (x + 11 + 1 + 2), n9, n10, n11, n12, .int 0, n14, n15])) := ab_other e25 (by omega) c19
  have c32 : h24[x+11+1+1]? = some (.inl (.int, 256, .inl (fun _ => 0))) := ab_other e25 (by omega) c20
  have c33 : h24[x+11+1+2]? = some (.inl (.int, 256, .inl (a0_World 8))) := ab_other e25 (by omega) c21
  have fr34 : ab_fr (fun j => j = x + 131 ∨ j = x + 131 + 1) h h24 := ab_fr_set fr22 e25 (by first | (show _ ∧ _; omega) | (show _ ∨ _; omega) | (show _ = _; omega) | (show _ ≤ _; omega))
  clear c14 c15 c16 c17 c18 c19 c20 c21 fr22 e25
  try clear h12
  refine ab_aload_n d_Store_write_26 rfl rfl rfl ?_
  refine ab_bipush (v := 87) d_Store_write_27 (by decide) ?_
  refine ab_callV_v (As := [.int 87]) (rest := []) d_Store_write_29 (r_wb_k87 (k := 0) c26 c27 (by omega)) (ab_mkC s_Store_writeByte (Nat.le_of_ble_eq_true rfl) (Nat.le_of_ble_eq_true rfl) (by decide) (by decide)) (k8 0 rfl rfl) i_Store_writeByte v_Store_writeByte c26 rfl rfl (Nat.le_of_ble_eq_true rfl) (fun h35 q36 => ?_)
  obtain ⟨y40, y41, c38, c39, f37⟩ := q36
  have c42 : h35[x+133]? = some (.inr (4, [gv0, gv1, .ref (x + 133 + 70), .ref (x + 133 + 138), gv4, gv5, gv6, gv7, gv8, gv9, gv10, gv11, gv12, gv13, gv14, gv15, gv16, gv17])) := ab_fr_at f37 c28 (by omega)
  have c43 : h35[x+133+70]? = some (.inr (3, [cv0, cv1, cv2, .int 0])) := ab_fr_at f37 c29 (by omega)
  have c44 : h35[x+133+138]? = some (.inr (3, [dd0, dd1, dd2, .int 0])) := ab_fr_at f37 c30 (by omega)
  have c45 : h35[x+11+1]? = some (.inr (7, [.int 0, .int 0, .int 0, .int 0, n4, n5, n6, .ref (x + 11 + 1 + 1), .ref (x + 11 + 1 + 2), n9, n10, n11, n12, .int 0, n14, n15])) := ab_fr_at f37 c31 (by omega)
  have c46 : h35[x+11+1+1]? = some (.inl (.int, 256, .inl (fun _ => 0))) := ab_fr_at f37 c32 (by omega)
  have c47 : h35[x+11+1+2]? = some (.inl (.int, 256, .inl (a0_World 8))) := ab_fr_at f37 c33 (by omega)
  have fr48 : ab_fr (fun j => j = x + 131 ∨ j = x + 131 + 1) h h35 := ab_fr_tr fr34 f37
  clear c26 c27 c28 c29 c30 c31 c32 c33 f37 fr34
  try clear h24
  replace c38 : h35[x+131]? = some (.inr (11, [.ref (x + 131 + 1), .int (nI 1), .int 0, .int 1, .int y40, .int 0])) := c38
  replace c39 : h35[x+131+1]? = some (.inl (.byte, 60000, .inl y41)) := c39
  refine ab_aload_n d_Store_write_32 rfl rfl rfl ?_
  refine ab_bipush (v := 69) d_Store_write_33 (by decide) ?_
  refine ab_callV_v (As := [.int 69]) (rest := []) d_Store_write_35 (r_wb_k69 (k := 1) c38 c39 (by omega)) (ab_mkC s_Store_writeByte (Nat.le_of_ble_eq_true rfl) (Nat.le_of_ble_eq_true rfl) (by decide) (by decide)) (k8 0 rfl rfl) i_Store_writeByte v_Store_writeByte c38 rfl rfl (Nat.le_of_ble_eq_true rfl) (fun h49 q50 => ?_)
  obtain ⟨y54, y55, c52, c53, f51⟩ := q50
  have c56 : h49[x+133]? = some (.inr (4, [gv0, gv1, .ref (x + 133 + 70), .ref (x + 133 + 138), gv4, gv5, gv6, gv7, gv8, gv9, gv10, gv11, gv12, gv13, gv14, gv15, gv16, gv17])) := ab_fr_at f51 c42 (by omega)
  have c57 : h49[x+133+70]? = some (.inr (3, [cv0, cv1, cv2, .int 0])) := ab_fr_at f51 c43 (by omega)
  have c58 : h49[x+133+138]? = some (.inr (3, [dd0, dd1, dd2, .int 0])) := ab_fr_at f51 c44 (by omega)
  have c59 : h49[x+11+1]? = some (.inr (7, [.int 0, .int 0, .int 0, .int 0, n4, n5, n6, .ref (x + 11 + 1 + 1), .ref (x + 11 + 1 + 2), n9, n10, n11, n12, .int 0, n14, n15])) := ab_fr_at f51 c45 (by omega)
  have c60 : h49[x+11+1+1]? = some (.inl (.int, 256, .inl (fun _ => 0))) := ab_fr_at f51 c46 (by omega)
  have c61 : h49[x+11+1+2]? = some (.inl (.int, 256, .inl (a0_World 8))) := ab_fr_at f51 c47 (by omega)
  have fr62 : ab_fr (fun j => j = x + 131 ∨ j = x + 131 + 1) h h49 := ab_fr_tr fr48 f51
  clear c42 c43 c44 c45 c46 c47 c38 c39 f51 fr48
  try clear h35
  replace c52 : h49[x+131]? = some (.inr (11, [.ref (x + 131 + 1), .int (nI 2), .int 0, .int 1, .int y54, .int 0])) := c52
  replace c53 : h49[x+131+1]? = some (.inl (.byte, 60000, .inl y55)) := c53
  refine ab_aload_n d_Store_write_38 rfl rfl rfl ?_
  refine ab_aload_n d_Store_write_39 rfl rfl rfl ?_
  refine ab_get (f := 2) d_Store_write_40 c56 rfl (by decide) (k3 56 rfl rfl) rfl ?_
  refine ab_callV_v (As := [.ref (x + 133 + 70)]) (rest := []) d_Store_write_43 (r_ws_k (k := 2) c52 c53 c57 (by omega) (by omega) (by omega)) (ab_mkC s_Store_writeShapes (Nat.le_of_ble_eq_true rfl) (Nat.le_of_ble_eq_true rfl) (by decide) (by decide)) (k8 4 rfl rfl) i_Store_writeShapes v_Store_writeShapes c52 rfl rfl (Nat.le_of_ble_eq_true rfl) (fun h63 q64 => ?_)
  obtain ⟨y68, y69, c66, c67, f65⟩ := q64
  have c70 : h63[x+133]? = some (.inr (4, [gv0, gv1, .ref (x + 133 + 70), .ref (x + 133 + 138), gv4, gv5, gv6, gv7, gv8, gv9, gv10, gv11, gv12, gv13, gv14, gv15, gv16, gv17])) := ab_fr_at f65 c56 (by omega)
  have c71 : h63[x+133+70]? = some (.inr (3, [cv0, cv1, cv2, .int 0])) := ab_fr_at f65 c57 (by omega)
  have c72 : h63[x+133+138]? = some (.inr (3, [dd0, dd1, dd2, .int 0])) := ab_fr_at f65 c58 (by omega)
  have c73 : h63[x+11+1]? = some (.inr (7, [.int 0, .int 0, .int 0, .int 0, n4, n5, n6, .ref (x + 11 + 1 + 1), .ref (x + 11 + 1 + 2), n9, n10, n11, n12, .int 0, n14, n15])) := ab_fr_at f65 c59 (by omega)
  have c74 : h63[x+11+1+1]? = some (.inl (.int, 256, .inl (fun _ => 0))) := ab_fr_at f65 c60 (by omega)
  have c75 : h63[x+11+1+2]? = some (.inl (.int, 256, .inl (a0_World 8))) := ab_fr_at f65 c61 (by omega)
  have fr76 : ab_fr (fun j => j = x + 131 ∨ j = x + 131 + 1) h h63 := ab_fr_tr fr62 f65
  clear c56 c57 c58 c59 c60 c61 c52 c53 f65 fr62
  try clear h49
  replace c66 : h63[x+131]? = some (.inr (11, [.ref (x + 131 + 1), .int (nI 3), .int 0, .int 1, .int y68, .int 0])) := c66
  replace c67 : h63[x+131+1]? = some (.inl (.byte, 60000, .inl y69)) := c67
  refine ab_aload_n d_Store_write_46 rfl rfl rfl ?_
  refine ab_aload_n d_Store_write_47 rfl rfl rfl ?_
  refine ab_get (f := 3) d_Store_write_48 c70 rfl (by decide) (k3 63 rfl rfl) rfl ?_
  refine ab_callV_v (As := [.ref (x + 133 + 138)]) (rest := []) d_Store_write_51 (r_ws_k (k := 3) c66 c67 c72 (by omega) (by omega) (by omega)) (ab_mkC s_Store_writeShapes (Nat.le_of_ble_eq_true rfl) (Nat.le_of_ble_eq_true rfl) (by decide) (by decide)) (k8 4 rfl rfl) i_Store_writeShapes v_Store_writeShapes c66 rfl rfl (Nat.le_of_ble_eq_true rfl) (fun h77 q78 => ?_)
  obtain ⟨y82, y83, c80, c81, f79⟩ := q78
  have c84 : h77[x+133]? = some (.inr (4, [gv0, gv1, .ref (x + 133 + 70), .ref (x + 133 + 138), gv4, gv5, gv6, gv7, gv8, gv9, gv10, gv11, gv12, gv13, gv14, gv15, gv16, gv17])) := ab_fr_at f79 c70 (by omega)
  have c85 : h77[x+133+70]? = some (.inr (3, [cv0, cv1, cv2, .int 0])) := ab_fr_at f79 c71 (by omega)
  have c86 : h77[x+133+138]? = some (.inr (3, [dd0, dd1, dd2, .int 0])) := ab_fr_at f79 c72 (by omega)
  have c87 : h77[x+11+1]? = some (.inr (7, [.int 0, .int 0, .int 0, .int 0, n4, n5, n6, .ref (x + 11 + 1 + 1), .ref (x + 11 + 1 + 2), n9, n10, n11, n12, .int 0, n14, n15])) := ab_fr_at f79 c73 (by omega)
  have c88 : h77[x+11+1+1]? = some (.inl (.int, 256, .inl (fun _ => 0))) := ab_fr_at f79 c74 (by omega)
  have c89 : h77[x+11+1+2]? = some (.inl (.int, 256, .inl (a0_World 8))) := ab_fr_at f79 c75 (by omega)
  have fr90 : ab_fr (fun j => j = x + 131 ∨ j = x + 131 + 1) h h77 := ab_fr_tr fr76 f79
  clear c70 c71 c72 c73 c74 c75 c66 c67 f79 fr76
  try clear h63
  replace c80 : h77[x+131]? = some (.inr (11, [.ref (x + 131 + 1), .int (nI 4), .int 0, .int 1, .int y82, .int 0])) := c80
  replace c81 : h77[x+131+1]? = some (.inl (.byte, 60000, .inl y83)) := c81
  refine ab_aload_n d_Store_write_54 rfl rfl rfl ?_
  refine ab_aload_n d_Store_write_55 rfl rfl rfl ?_
  refine ab_get (f := 0) d_Store_write_56 c87 rfl (by decide) (k1 207 rfl rfl) rfl ?_
  refine ab_callV_v (As := [.int 0]) (rest := []) d_Store_write_59 (r_wi_k (k := 4) c80 c81 (by omega)) (ab_mkC s_Store_writeInt (Nat.le_of_ble_eq_true rfl) (Nat.le_of_ble_eq_true rfl) (by decide) (by decide)) (k8 9 rfl rfl) i_Store_writeInt v_Store_writeInt c80 rfl rfl (Nat.le_of_ble_eq_true rfl) (fun h91 q92 => ?_)
  obtain ⟨y96, y97, c94, c95, f93⟩ := q92
  have c98 : h91[x+133]? = some (.inr (4, [gv0, gv1, .ref (x + 133 + 70), .ref (x + 133 + 138), gv4, gv5, gv6, gv7, gv8, gv9, gv10, gv11, gv12, gv13, gv14, gv15, gv16, gv17])) := ab_fr_at f93 c84 (by omega)
  have c99 : h91[x+133+70]? = some (.inr (3, [cv0, cv1, cv2, .int 0])) := ab_fr_at f93 c85 (by omega)
  have c100 : h91[x+133+138]? = some (.inr (3, [dd0, dd1, dd2, .int 0])) := ab_fr_at f93 c86 (by omega)
  have c101 : h91[x+11+1]? = some (.inr (7, [.int 0, .int 0, .int 0, .int 0, n4, n5, n6, .ref (x + 11 + 1 + 1), .ref (x + 11 + 1 + 2), n9, n10, n11, n12, .int 0, n14, n15])) := ab_fr_at f93 c87 (by omega)
  have c102 : h91[x+11+1+1]? = some (.inl (.int, 256, .inl (fun _ => 0))) := ab_fr_at f93 c88 (by omega)
  have c103 : h91[x+11+1+2]? = some (.inl (.int, 256, .inl (a0_World 8))) := ab_fr_at f93 c89 (by omega)
  have fr104 : ab_fr (fun j => j = x + 131 ∨ j = x + 131 + 1) h h91 := ab_fr_tr fr90 f93
  clear c84 c85 c86 c87 c88 c89 c80 c81 f93 fr90
  try clear h77
  replace c94 : h91[x+131]? = some (.inr (11, [.ref (x + 131 + 1), .int (nI 8), .int 0, .int 1, .int y96, .int 0])) := c94
  replace c95 : h91[x+131+1]? = some (.inl (.byte, 60000, .inl y97)) := c95
  refine ab_aload_n d_Store_write_62 rfl rfl rfl ?_
  refine ab_aload_n d_Store_write_63 rfl rfl rfl ?_
  refine ab_get (f := 1) d_Store_write_64 c101 rfl (by decide) (k1 211 rfl rfl) rfl ?_
  refine ab_callV_v (As := [.int 0]) (rest := []) d_Store_write_67 (r_wi_k (k := 8) c94 c95 (by omega)) (ab_mkC s_Store_writeInt (Nat.le_of_ble_eq_true rfl) (Nat.le_of_ble_eq_true rfl) (by decide) (by decide)) (k8 9 rfl rfl) i_Store_writeInt v_Store_writeInt c94 rfl rfl (Nat.le_of_ble_eq_true rfl) (fun h105 q106 => ?_)
  obtain ⟨y110, y111, c108, c109, f107⟩ := q106
  have c112 : h105[x+133]? = some (.inr (4, [gv0, gv1, .ref (x + 133 + 70), .ref (x + 133 + 138), gv4, gv5, gv6, gv7, gv8, gv9, gv10, gv11, gv12, gv13, gv14, gv15, gv16, gv17])) := ab_fr_at f107 c98 (by omega)
  have c113 : h105[x+133+70]? = some (.inr (3, [cv0, cv1, cv2, .int 0])) := ab_fr_at f107 c99 (by omega)
  have c114 : h105[x+133+138]? = some (.inr (3, [dd0, dd1, dd2, .int 0])) := ab_fr_at f107 c100 (by omega)
  have c115 : h105[x+11+1]? = some (.inr (7, [.int 0, .int 0, .int 0, .int 0, n4, n5, n6, .ref (x + 11 + 1 + 1), .ref (x + 11 + 1 + 2), n9, n10, n11, n12, .int 0, n14, n15])) := ab_fr_at f107 c101 (by omega)
  have c116 : h105[x+11+1+1]? = some (.inl (.int, 256, .inl (fun _ => 0))) := ab_fr_at f107 c102 (by omega)
  have c117 : h105[x+11+1+2]? = some (.inl (.int, 256, .inl (a0_World 8))) := ab_fr_at f107 c103 (by omega)
  have fr118 : ab_fr (fun j => j = x + 131 ∨ j = x + 131 + 1) h h105 := ab_fr_tr fr104 f107
  clear c98 c99 c100 c101 c102 c103 c94 c95 f107 fr104
  try clear h91
  replace c108 : h105[x+131]? = some (.inr (11, [.ref (x + 131 + 1), .int (nI 12), .int 0, .int 1, .int y110, .int 0])) := c108
  replace c109 : h105[x+131+1]? = some (.inl (.byte, 60000, .inl y111)) := c109
  refine ab_aload_n d_Store_write_70 rfl rfl rfl ?_
  refine ab_aload_n d_Store_write_71 rfl rfl rfl ?_
  refine ab_get (f := 2) d_Store_write_72 c115 rfl (by decide) (k1 214 rfl rfl) rfl ?_
  refine ab_callV_v (As := [.int 0]) (rest := []) d_Store_write_75 (r_wi_k (k := 12) c108 c109 (by omega)) (ab_mkC s_Store_writeInt (Nat.le_of_ble_eq_true rfl) (Nat.le_of_ble_eq_true rfl) (by decide) (by decide)) (k8 9 rfl rfl) i_Store_writeInt v_Store_writeInt c108 rfl rfl (Nat.le_of_ble_eq_true rfl) (fun h119 q120 => ?_)
  obtain ⟨y124, y125, c122, c123, f121⟩ := q120
  have c126 : h119[x+133]? = some (.inr (4, [gv0, gv1, .ref (x + 133 + 70), .ref (x + 133 + 138), gv4, gv5, gv6, gv7, gv8, gv9, gv10, gv11, gv12, gv13, gv14, gv15, gv16, gv17])) := ab_fr_at f121 c112 (by omega)
  have c127 : h119[x+133+70]? = some (.inr (3, [cv0, cv1, cv2, .int 0])) := ab_fr_at f121 c113 (by omega)
  have c128 : h119[x+133+138]? = some (.inr (3, [dd0, dd1, dd2, .int 0])) := ab_fr_at f121 c114 (by omega)
  have c129 : h119[x+11+1]? = some (.inr (7, [.int 0, .int 0, .int 0, .int 0, n4, n5, n6, .ref (x + 11 + 1 + 1), .ref (x + 11 + 1 + 2), n9, n10, n11, n12, .int 0, n14, n15])) := ab_fr_at f121 c115 (by omega)
  have c130 : h119[x+11+1+1]? = some (.inl (.int, 256, .inl (fun _ => 0))) := ab_fr_at f121 c116 (by omega)
  have c131 : h119[x+11+1+2]? = some (.inl (.int, 256, .inl (a0_World 8))) := ab_fr_at f121 c117 (by omega)
  have fr132 : ab_fr (fun j => j = x + 131 ∨ j = x + 131 + 1) h h119 := ab_fr_tr fr118 f121
  clear c112 c113 c114 c115 c116 c117 c108 c109 f121 fr118
  try clear h105
  replace c122 : h119[x+131]? = some (.inr (11, [.ref (x + 131 + 1), .int (nI 16), .int 0, .int 1, .int y124, .int 0])) := c122
  replace c123 : h119[x+131+1]? = some (.inl (.byte, 60000, .inl y125)) := c123
  refine ab_aload_n d_Store_write_78 rfl rfl rfl ?_
  refine ab_aload_n d_Store_write_79 rfl rfl rfl ?_
  refine ab_get (f := 3) d_Store_write_80 c129 rfl (by decide) (k1 217 rfl rfl) rfl ?_
  refine ab_callV_v (As := [.int 0]) (rest := []) d_Store_write_83 (r_wi_k (k := 16) c122 c123 (by omega)) (ab_mkC s_Store_writeInt (Nat.le_of_ble_eq_true rfl) (Nat.le_of_ble_eq_true rfl) (by decide) (by decide)) (k8 9 rfl rfl) i_Store_writeInt v_Store_writeInt c122 rfl rfl (Nat.le_of_ble_eq_true rfl) (fun h133 q134 => ?_)
  obtain ⟨y138, y139, c136, c137, f135⟩ := q134
  have c140 : h133[x+133]? = some (.inr (4, [gv0, gv1, .ref (x + 133 + 70), .ref (x + 133 + 138), gv4, gv5, gv6, gv7, gv8, gv9, gv10, gv11, gv12, gv13, gv14, gv15, gv16, gv17])) := ab_fr_at f135 c126 (by omega)
  have c141 : h133[x+133+70]? = some (.inr (3, [cv0, cv1, cv2, .int 0])) := ab_fr_at f135 c127 (by omega)
  have c142 : h133[x+133+138]? = some (.inr (3, [dd0, dd1, dd2, .int 0])) := ab_fr_at f135 c128 (by omega)
  have c143 : h133[x+11+1]? = some (.inr (7, [.int 0, .int 0, .int 0, .int 0, n4, n5, n6, .ref (x + 11 + 1 + 1), .ref (x + 11 + 1 + 2), n9, n10, n11, n12, .int 0, n14, n15])) := ab_fr_at f135 c129 (by omega)
  have c144 : h133[x+11+1+1]? = some (.inl (.int, 256, .inl (fun _ => 0))) := ab_fr_at f135 c130 (by omega)
  have c145 : h133[x+11+1+2]? = some (.inl (.int, 256, .inl (a0_World 8))) := ab_fr_at f135 c131 (by omega)
  have fr146 : ab_fr (fun j => j = x + 131 ∨ j = x + 131 + 1) h h133 := ab_fr_tr fr132 f135
  clear c126 c127 c128 c129 c130 c131 c122 c123 f135 fr132
  try clear h119
  replace c136 : h133[x+131]? = some (.inr (11, [.ref (x + 131 + 1), .int (nI 20), .int 0, .int 1, .int y138, .int 0])) := c136
  replace c137 : h133[x+131+1]? = some (.inl (.byte, 60000, .inl y139)) := c137
  refine ab_iconst (v := 0) d_Store_write_86 (by decide) ?_
  refine ab_istore (lv' := [some (.ref (x + 131)), some (.ref (x + 133)), some (.ref (x + 11 + 1)), some (.int 1), some (.int 0)]) d_Store_write_87 (by decide) rfl ?_
  refine l_sw_k  (Nat.le_of_ble_eq_true rfl) (Nat.le_of_ble_eq_true rfl) 256 0 h133 y139 y138 (by omega) c136 c137 c143 c144 c145 (fun h147 y148 y149 c150 c151 c152 c153 c154 f155 => ?_)
  have c156 : h147[x+133]? = some (.inr (4, [gv0, gv1, .ref (x + 133 + 70), .ref (x + 133 + 138), gv4, gv5, gv6, gv7, gv8, gv9, gv10, gv11, gv12, gv13, gv14, gv15, gv16, gv17])) := ab_fr_at f155 c140 (by omega)
  have c157 : h147[x+133+70]? = some (.inr (3, [cv0, cv1, cv2, .int 0])) := ab_fr_at f155 c141 (by omega)
  have c158 : h147[x+133+138]? = some (.inr (3, [dd0, dd1, dd2, .int 0])) := ab_fr_at f155 c142 (by omega)
  have fr159 : ab_fr (fun j => j = x + 131 ∨ j = x + 131 + 1) h h147 := ab_fr_tr fr146 f155
  clear c140 c141 c142 c143 c144 c145 c136 c137 f155 fr146
  try clear h133
  refine ab_aload_n d_Store_write_154 rfl rfl rfl ?_
  refine ab_aload_n d_Store_write_155 rfl rfl rfl ?_
  refine ab_get (f := 3) d_Store_write_156 c156 rfl (by decide) (k3 63 rfl rfl) rfl ?_
  refine ab_aload_n d_Store_write_159 rfl rfl rfl ?_
  refine ab_callV_v (As := [.ref (x + 133 + 138), .ref (x + 11 + 1)]) (rest := []) d_Store_write_160 (r_we_k (k := 20 + 5 * 256) c150 c151 c152 (by omega) (by omega) (by omega)) (ab_mkC s_Store_writeEvents (Nat.le_of_ble_eq_true rfl) (Nat.le_of_ble_eq_true rfl) (by decide) (by decide)) (k8 19 rfl rfl) i_Store_writeEvents v_Store_writeEvents c150 rfl rfl (Nat.le_of_ble_eq_true rfl) (fun h160 q161 => ?_)
  obtain ⟨y165, y166, c163, c164, f162⟩ := q161
  have c167 : h160[x+133]? = some (.inr (4, [gv0, gv1, .ref (x + 133 + 70), .ref (x + 133 + 138), gv4, gv5, gv6, gv7, gv8, gv9, gv10, gv11, gv12, gv13, gv14, gv15, gv16, gv17])) := ab_fr_at f162 c156 (by omega)
  have c168 : h160[x+133+70]? = some (.inr (3, [cv0, cv1, cv2, .int 0])) := ab_fr_at f162 c157 (by omega)
  have c169 : h160[x+133+138]? = some (.inr (3, [dd0, dd1, dd2, .int 0])) := ab_fr_at f162 c158 (by omega)
  have c170 : h160[x+11+1]? = some (.inr (7, [.int 0, .int 0, .int 0, .int 0, n4, n5, n6, .ref (x + 11 + 1 + 1), .ref (x + 11 + 1 + 2), n9, n10, n11, n12, .int 0, n14, n15])) := ab_fr_at f162 c152 (by omega)
  have c171 : h160[x+11+1+1]? = some (.inl (.int, 256, .inl (fun _ => 0))) := ab_fr_at f162 c153 (by omega)
  have c172 : h160[x+11+1+2]? = some (.inl (.int, 256, .inl (a0_World 8))) := ab_fr_at f162 c154 (by omega)
  have fr173 : ab_fr (fun j => j = x + 131 ∨ j = x + 131 + 1) h h160 := ab_fr_tr fr159 f162
  clear c156 c157 c158 c150 c151 c152 c153 c154 f162 fr159
  try clear h147
  replace c163 : h160[x+131]? = some (.inr (11, [.ref (x + 131 + 1), .int (nI (20 + 5 * 256 + 2)), .int 0, .int 1, .int y165, .int 0])) := c163
  replace c164 : h160[x+131+1]? = some (.inl (.byte, 60000, .inl y166)) := c164
  refine ab_aload_n d_Store_write_163 rfl rfl rfl ?_
  refine ab_get (f := 4) d_Store_write_164 c163 rfl (by decide) (k2 193 rfl rfl) rfl ?_
  exact ab_iret d_Store_write_167 rfl (Nat.le_refl _) (Nat.le_refl _) (by exact ⟨_, rfl, _, c163, fr173⟩)
def sq_W_sum  : Int32 := (sum0)
set_option maxRecDepth 20000 in
set_option maxHeartbeats 2000000 in
theorem f_W_sum {h : List ab_E}        {x : Nat} {w : Int32}        (h0 : at_W0 h x w) : ab_M y_W_sum { frames := 3, cells := 0, slots := 0, locals := 120 } [.ref x] h (ab_A (some (.int (sq_W_sum ))) (fun h1 => ab_fr (in_lo x) h h1)) := by
  obtain ⟨hW, hL, hRd, hB, ⟨hP, hN, hBe, hWs, hTk, hRw⟩, hSt, ⟨hG, hG1, hGc, hG2, hG3, hGe, hG4, hG5⟩, ⟨hH, hH1, hHc, hH2, hH3, hHe, hH4, hH5⟩⟩ := h0
  have hW0 := hW; have gwo := hW
  replace gwo : h[x]? = some (.inr (0, [.ref (x + 1), .ref (x + 8), .ref (x + 11), .ref (x + 131), .ref (x + 133), .ref (x + 325), .int 0, .int (s0_W w 7), .int 0])) := gwo
  have hP0 := hP; obtain ⟨gpo, gp4, gp8, gp9, gp10, gp11, gp12, gp13⟩ := hP
  replace gpo : h[x + 11]? = some (.inr (10, [.ref (x + 11 + 1), .int 0, .int 1, .int 0, .ref (x + 11 + 104), .int 0, .ref (x + 11 + 7), .ref (x + 11 + 105), .ref (x + 11 + 114), .ref (x + 11 + 115), .ref (x + 11 + 116), .ref (x + 11 + 117), .ref (x + 11 + 118), .ref (x + 11 + 119)])) := gpo
  replace gp4 : h[x + 11 + 104]? = some (.inl (.int, 256, .inl (fun _ => 0))) := gp4
  replace gp8 : h[x + 11 + 114]? = some (.inl (.boolean, 256, .inl (fun _ => 0))) := gp8
  replace gp9 : h[x + 11 + 115]? = some (.inl (.int, 256, .inl (fun _ => 0))) := gp9
  replace gp10 : h[x + 11 + 116]? = some (.inl (.int, 4, .inl (fun _ => 0))) := gp10
  replace gp11 : h[x + 11 + 117]? = some (.inl (.int, 16, .inl (fun _ => 0))) := gp11
  replace gp12 : h[x + 11 + 118]? = some (.inl (.int, 64, .inl (fun _ => 0))) := gp12
  replace gp13 : h[x + 11 + 119]? = some (.inl (.int, 4, .inl (fun _ => 0))) := gp13
  have hN0 := hN; obtain ⟨gno, gn7, gn8, gn11, gn12, gn14⟩ := hN
  replace gno : h[x + 11 + 1]? = some (.inr (7, [.int 0, .int 0, .int 0, .int 0, .int 0, .int 0, .int 0, .ref (x + 11 + 1 + 1), .ref (x + 11 + 1 + 2), .int 0, .int 0, .ref (x + 11 + 1 + 3), .ref (x + 11 + 1 + 4), .int 0, .ref (x + 11 + 1 + 5), .int 0])) := gno
  replace gn7 : h[x + 11 + 1 + 1]? = some (.inl (.int, 256, .inl (fun _ => 0))) := gn7
  replace gn8 : h[x + 11 + 1 + 2]? = some (.inl (.int, 256, .inl (a0_World 8))) := gn8
  replace gn11 : h[x + 11 + 1 + 3]? = some (.inl (.int, 12288, .inl (fun _ => 0))) := gn11
  replace gn12 : h[x + 11 + 1 + 4]? = some (.inl (.int, 1792, .inl (fun _ => 0))) := gn12
  replace gn14 : h[x + 11 + 1 + 5]? = some (.inl (.int, 32, .inl (fun _ => 0))) := gn14
  have hSt0 := hSt; obtain ⟨gsto, gst0⟩ := hSt
  replace gsto : h[x + 131]? = some (.inr (11, [.ref (x + 131 + 1), .int 0, .int 0, .int 0, .int 0, .int 0])) := gsto
  replace gst0 : h[x + 131 + 1]? = some (.inl (.byte, 60000, .inl (fun _ => 0))) := gst0
  have hG0 := hG; obtain ⟨ggo, gg5, gg6, gg8, gg9, gg10, gg11, gg12, gg13, gg14, gg16⟩ := hG
  replace ggo : h[x + 133]? = some (.inr (4, [.ref (x + 133 + 1), .int 0, .ref (x + 133 + 70), .ref (x + 133 + 138), .int 0, .ref (x + 133 + 182), .ref (x + 133 + 183), .int 0, .ref (x + 133 + 184), .ref (x + 133 + 185), .ref (x + 133 + 186), .ref (x + 133 + 187), .ref (x + 133 + 188), .ref (x + 133 + 189), .ref (x + 133 + 190), .int 0, .ref (x + 133 + 191), .int 0])) := ggo
  replace gg5 : h[x + 133 + 182]? = some (.inl (.int, 16, .inl (fun _ => 0))) := gg5
  replace gg6 : h[x + 133 + 183]? = some (.inl (.int, 768, .inl (fun _ => 0))) := gg6
  replace gg8 : h[x + 133 + 184]? = some (.inl (.int, 16, .inl (fun _ => 0))) := gg8
  replace gg9 : h[x + 133 + 185]? = some (.inl (.int, 16, .inl (fun _ => 0))) := gg9
  replace gg10 : h[x + 133 + 186]? = some (.inl (.int, 16, .inl (fun _ => 0))) := gg10
  replace gg11 : h[x + 133 + 187]? = some (.inl (.int, 16, .inl (fun _ => 0))) := gg11
  replace gg12 : h[x + 133 + 188]? = some (.inl (.int, 16, .inl (fun _ => 0))) := gg12
  replace gg13 : h[x + 133 + 189]? = some (.inl (.int, 16, .inl (fun _ => 0))) := gg13
  replace gg14 : h[x + 133 + 190]? = some (.inl (.int, 16, .inl (fun _ => 0))) := gg14
  replace gg16 : h[x + 133 + 191]? = some (.inl (.int, 12000, .inl (fun _ => 0))) := gg16
  have hGc0 := hGc; obtain ⟨gco, gc2⟩ := hGc
  replace gco : h[x + 133 + 70]? = some (.inr (3, [.ref (x + 133 + 70 + 1), .ref (x + 133 + 70 + 18), .ref (x + 133 + 70 + 67), .int 0])) := gco
  replace gc2 : h[x + 133 + 70 + 67]? = some (.inl (.int, 17, .inl (fun _ => 0))) := gc2
  have hGe0 := hGe; obtain ⟨geo, ge2⟩ := hGe
  replace geo : h[x + 133 + 138]? = some (.inr (3, [.ref (x + 133 + 138 + 1), .ref (x + 133 + 138 + 10), .ref (x + 133 + 138 + 43), .int 0])) := geo
  replace ge2 : h[x + 133 + 138 + 43]? = some (.inl (.int, 9, .inl (fun _ => 0))) := ge2
  refine ab_of2 (lv := [some (.ref x)]) 0 rfl rfl (Nat.le_of_ble_eq_true rfl) ?_
  refine ab_aload_n d_W_sum_0 rfl rfl rfl ?_
  refine ab_get (f := 3) d_W_sum_1 gwo rfl (by decide) (k3 160 rfl rfl) rfl ?_
  refine ab_aload_n d_W_sum_4 rfl rfl rfl ?_
  refine ab_get (f := 4) d_W_sum_5 gwo rfl (by decide) (k3 161 rfl rfl) rfl ?_
  refine ab_aload_n d_W_sum_8 rfl rfl rfl ?_
  refine ab_get (f := 2) d_W_sum_9 gwo rfl (by decide) (k3 159 rfl rfl) rfl ?_
  refine ab_get (f := 0) d_W_sum_12 gpo rfl (by decide) (k2 131 rfl rfl) rfl ?_
  refine ab_iconst (v := 0) d_W_sum_15 (by decide) ?_
  refine ab_callV_a (As := [.ref (x + 133), .ref (x + 11 + 1), .int 0]) (rest := []) d_W_sum_16 (r_sw_s gsto ggo gco geo gno gn7 gn8) (ab_mkC s_Store_write (Nat.le_of_ble_eq_true rfl) (Nat.le_of_ble_eq_true rfl) (by decide) (by decide)) (k7 236 rfl rfl) i_Store_write v_Store_write gsto rfl rfl (Nat.le_of_ble_eq_true rfl) (fun h1 q2 => ?_)
  have f3 := q2
  have c4 : h1[x]? = some (.inr (0, [.ref (x + 1), .ref (x + 8), .ref (x + 11), .ref (x + 131), .ref (x + 133), .ref (x + 325), .int 0, .int (s0_W w 7), .int 0])) := ab_fr_at f3 gwo (by omega)
  have c5 : h1[x+11]? = some (.inr (10, [.ref (x + 11 + 1), .int 0, .int 1, .int 0, .ref (x + 11 + 104), .int 0, .ref (x + 11 + 7), .ref (x + 11 + 105), .ref (x + 11 + 114), .ref (x + 11 + 115), .ref (x + 11 + 116), .ref (x + 11 + 117), .ref (x + 11 + 118), .ref (x + 11 + 119)])) := ab_fr_at f3 gpo (by omega)
  have c6 : h1[x+11+104]? = some (.inl (.int, 256, .inl (fun _ => 0))) := ab_fr_at f3 gp4 (by omega)
  have c7 : h1[x+11+114]? = some (.inl (.boolean, 256, .inl (fun _ => 0))) := ab_fr_at f3 gp8 (by omega)
  have c8 : h1[x+11+115]? = some (.inl (.int, 256, .inl (fun _ => 0))) := ab_fr_at f3 gp9 (by omega)
  have c9 : h1[x+11+116]? = some (.inl (.int, 4, .inl (fun _ => 0))) := ab_fr_at f3 gp10 (by omega)
  have c10 : h1[x+11+117]? = some (.inl (.int, 16, .inl (fun _ => 0))) := ab_fr_at f3 gp11 (by omega)
  have c11 : h1[x+11+118]? = some (.inl (.int, 64, .inl (fun _ => 0))) := ab_fr_at f3 gp12 (by omega)
  have c12 : h1[x+11+119]? = some (.inl (.int, 4, .inl (fun _ => 0))) := ab_fr_at f3 gp13 (by omega)
  have c13 : h1[x+11+1]? = some (.inr (7, [.int 0, .int 0, .int 0, .int 0, .int 0, .int 0, .int 0, .ref (x + 11 + 1 + 1), .ref (x + 11 + 1 + 2), .int 0, .int 0, .ref (x + 11 + 1 + 3), .ref (x + 11 + 1 + 4), .int 0, .ref (x + 11 + 1 + 5), .int 0])) := ab_fr_at f3 gno (by omega)
  have c14 : h1[x+11+1+1]? = some (.inl (.int, 256, .inl (fun _ => 0))) := ab_fr_at f3 gn7 (by omega)
  have c15 : h1[x+11+1+2]? = some (.inl (.int, 256, .inl (a0_World 8))) := ab_fr_at f3 gn8 (by omega)
  have c16 : h1[x+11+1+3]? = some (.inl (.int, 12288, .inl (fun _ => 0))) := ab_fr_at f3 gn11 (by omega)
  have c17 : h1[x+11+1+4]? = some (.inl (.int, 1792, .inl (fun _ => 0))) := ab_fr_at f3 gn12 (by omega)
  have c18 : h1[x+11+1+5]? = some (.inl (.int, 32, .inl (fun _ => 0))) := ab_fr_at f3 gn14 (by omega)
  have c19 : h1[x+131+1]? = some (.inl (.byte, 60000, .inl (fun _ => 0))) := ab_fr_at f3 gst0 (by omega)
  have c20 : h1[x+133]? = some (.inr (4, [.ref (x + 133 + 1), .int 0, .ref (x + 133 + 70), .ref (x + 133 + 138), .int 0, .ref (x + 133 + 182), .ref (x + 133 + 183), .int 0, .ref (x + 133 + 184), .ref (x + 133 + 185), .ref (x + 133 + 186), .ref (x + 133 + 187), .ref (x + 133 + 188), .ref (x + 133 + 189), .ref (x + 133 + 190), .int 0, .ref (x + 133 + 191), .int 0])) := ab_fr_at f3 ggo (by omega)
  have c21 : h1[x+133+182]? = some (.inl (.int, 16, .inl (fun _ => 0))) := ab_fr_at f3 gg5 (by omega)
  have c22 : h1[x+133+183]? = some (.inl (.int, 768, .inl (fun _ => 0))) := ab_fr_at f3 gg6 (by omega)
  have c23 : h1[x+133+184]? = some (.inl (.int, 16, .inl (fun _ => 0))) := ab_fr_at f3 gg8 (by omega)
  have c24 : h1[x+133+185]? = some (.inl (.int, 16, .inl (fun _ => 0))) := ab_fr_at f3 gg9 (by omega)
  have c25 : h1[x+133+186]? = some (.inl (.int, 16, .inl (fun _ => 0))) := ab_fr_at f3 gg10 (by omega)
  have c26 : h1[x+133+187]? = some (.inl (.int, 16, .inl (fun _ => 0))) := ab_fr_at f3 gg11 (by omega)
  have c27 : h1[x+133+188]? = some (.inl (.int, 16, .inl (fun _ => 0))) := ab_fr_at f3 gg12 (by omega)
  have c28 : h1[x+133+189]? = some (.inl (.int, 16, .inl (fun _ => 0))) := ab_fr_at f3 gg13 (by omega)
  have c29 : h1[x+133+190]? = some (.inl (.int, 16, .inl (fun _ => 0))) := ab_fr_at f3 gg14 (by omega)
  have c30 : h1[x+133+191]? = some (.inl (.int, 12000, .inl (fun _ => 0))) := ab_fr_at f3 gg16 (by omega)
  have c31 : h1[x+133+70]? = some (.inr (3, [.ref (x + 133 + 70 + 1), .ref (x + 133 + 70 + 18), .ref (x + 133 + 70 + 67), .int 0])) := ab_fr_at f3 gco (by omega)
  have c32 : h1[x+133+70+67]? = some (.inl (.int, 17, .inl (fun _ => 0))) := ab_fr_at f3 gc2 (by omega)
  have c33 : h1[x+133+138]? = some (.inr (3, [.ref (x + 133 + 138 + 1), .ref (x + 133 + 138 + 10), .ref (x + 133 + 138 + 43), .int 0])) := ab_fr_at f3 geo (by omega)
  have c34 : h1[x+133+138+43]? = some (.inl (.int, 9, .inl (fun _ => 0))) := ab_fr_at f3 ge2 (by omega)
  have fr35 : ab_fr (in_lo x) h h1 := ab_fr_tr (ab_fr_rf _ _) (ab_fr_mono f3 (by intro i hi; simp only [in_lo] at * <;> omega))
  clear f3
  exact ab_iret d_W_sum_19 rfl (Nat.le_refl _) (Nat.le_refl _) (by unfold sq_W_sum; exact ⟨rfl, fr35⟩)
def sq_W_save  : Int32 := (1302)
set_option maxRecDepth 20000 in
set_option maxHeartbeats 2000000 in
theorem f_W_save {h : List ab_E}        {x : Nat} {w : Int32}        (h0 : at_W0 h x w) : ab_M y_W_save { frames := 3, cells := 0, slots := 0, locals := 120 } [.ref x] h (ab_A (some (.int (sq_W_save ))) (fun h1 => ab_fr (in_lo x) h h1)) := by
  obtain ⟨hW, hL, hRd, hB, ⟨hP, hN, hBe, hWs, hTk, hRw⟩, hSt, ⟨hG, hG1, hGc, hG2, hG3, hGe, hG4, hG5⟩, ⟨hH, hH1, hHc, hH2, hH3, hHe, hH4, hH5⟩⟩ := h0
  have hW0 := hW; have gwo := hW
  replace gwo : h[x]? = some (.inr (0, [.ref (x + 1), .ref (x + 8), .ref (x + 11), .ref (x + 131), .ref (x + 133), .ref (x + 325), .int 0, .int (s0_W w 7), .int 0])) := gwo
  have hP0 := hP; obtain ⟨gpo, gp4, gp8, gp9, gp10, gp11, gp12, gp13⟩ := hP
  replace gpo : h[x + 11]? = some (.inr (10, [.ref (x + 11 + 1), .int 0, .int 1, .int 0, .ref (x + 11 + 104), .int 0, .ref (x + 11 + 7), .ref (x + 11 + 105), .ref (x + 11 + 114), .ref (x + 11 + 115), .ref (x + 11 + 116), .ref (x + 11 + 117), .ref (x + 11 + 118), .ref (x + 11 + 119)])) := gpo
  replace gp4 : h[x + 11 + 104]? = some (.inl (.int, 256, .inl (fun _ => 0))) := gp4
  replace gp8 : h[x + 11 + 114]? = some (.inl (.boolean, 256, .inl (fun _ => 0))) := gp8
  replace gp9 : h[x + 11 + 115]? = some (.inl (.int, 256, .inl (fun _ => 0))) := gp9
  replace gp10 : h[x + 11 + 116]? = some (.inl (.int, 4, .inl (fun _ => 0))) := gp10
  replace gp11 : h[x + 11 + 117]? = some (.inl (.int, 16, .inl (fun _ => 0))) := gp11
  replace gp12 : h[x + 11 + 118]? = some (.inl (.int, 64, .inl (fun _ => 0))) := gp12
  replace gp13 : h[x + 11 + 119]? = some (.inl (.int, 4, .inl (fun _ => 0))) := gp13
  have hN0 := hN; obtain ⟨gno, gn7, gn8, gn11, gn12, gn14⟩ := hN
  replace gno : h[x + 11 + 1]? = some (.inr (7, [.int 0, .int 0, .int 0, .int 0, .int 0, .int 0, .int 0, .ref (x + 11 + 1 + 1), .ref (x + 11 + 1 + 2), .int 0, .int 0, .ref (x + 11 + 1 + 3), .ref (x + 11 + 1 + 4), .int 0, .ref (x + 11 + 1 + 5), .int 0])) := gno
  replace gn7 : h[x + 11 + 1 + 1]? = some (.inl (.int, 256, .inl (fun _ => 0))) := gn7
  replace gn8 : h[x + 11 + 1 + 2]? = some (.inl (.int, 256, .inl (a0_World 8))) := gn8
  replace gn11 : h[x + 11 + 1 + 3]? = some (.inl (.int, 12288, .inl (fun _ => 0))) := gn11
  replace gn12 : h[x + 11 + 1 + 4]? = some (.inl (.int, 1792, .inl (fun _ => 0))) := gn12
  replace gn14 : h[x + 11 + 1 + 5]? = some (.inl (.int, 32, .inl (fun _ => 0))) := gn14
  have hSt0 := hSt; obtain ⟨gsto, gst0⟩ := hSt
  replace gsto : h[x + 131]? = some (.inr (11, [.ref (x + 131 + 1), .int 0, .int 0, .int 0, .int 0, .int 0])) := gsto
  replace gst0 : h[x + 131 + 1]? = some (.inl (.byte, 60000, .inl (fun _ => 0))) := gst0
  have hG0 := hG; obtain ⟨ggo, gg5, gg6, gg8, gg9, gg10, gg11, gg12, gg13, gg14, gg16⟩ := hG
  replace ggo : h[x + 133]? = some (.inr (4, [.ref (x + 133 + 1), .int 0, .ref (x + 133 + 70), .ref (x + 133 + 138), .int 0, .ref (x + 133 + 182), .ref (x + 133 + 183), .int 0, .ref (x + 133 + 184), .ref (x + 133 + 185), .ref (x + 133 + 186), .ref (x + 133 + 187), .ref (x + 133 + 188), .ref (x + 133 + 189), .ref (x + 133 + 190), .int 0, .ref (x + 133 + 191), .int 0])) := ggo
  replace gg5 : h[x + 133 + 182]? = some (.inl (.int, 16, .inl (fun _ => 0))) := gg5
  replace gg6 : h[x + 133 + 183]? = some (.inl (.int, 768, .inl (fun _ => 0))) := gg6
  replace gg8 : h[x + 133 + 184]? = some (.inl (.int, 16, .inl (fun _ => 0))) := gg8
  replace gg9 : h[x + 133 + 185]? = some (.inl (.int, 16, .inl (fun _ => 0))) := gg9
  replace gg10 : h[x + 133 + 186]? = some (.inl (.int, 16, .inl (fun _ => 0))) := gg10
  replace gg11 : h[x + 133 + 187]? = some (.inl (.int, 16, .inl (fun _ => 0))) := gg11
  replace gg12 : h[x + 133 + 188]? = some (.inl (.int, 16, .inl (fun _ => 0))) := gg12
  replace gg13 : h[x + 133 + 189]? = some (.inl (.int, 16, .inl (fun _ => 0))) := gg13
  replace gg14 : h[x + 133 + 190]? = some (.inl (.int, 16, .inl (fun _ => 0))) := gg14
  replace gg16 : h[x + 133 + 191]? = some (.inl (.int, 12000, .inl (fun _ => 0))) := gg16
  have hGc0 := hGc; obtain ⟨gco, gc2⟩ := hGc
  replace gco : h[x + 133 + 70]? = some (.inr (3, [.ref (x + 133 + 70 + 1), .ref (x + 133 + 70 + 18), .ref (x + 133 + 70 + 67), .int 0])) := gco
  replace gc2 : h[x + 133 + 70 + 67]? = some (.inl (.int, 17, .inl (fun _ => 0))) := gc2
  have hGe0 := hGe; obtain ⟨geo, ge2⟩ := hGe
  replace geo : h[x + 133 + 138]? = some (.inr (3, [.ref (x + 133 + 138 + 1), .ref (x + 133 + 138 + 10), .ref (x + 133 + 138 + 43), .int 0])) := geo
  replace ge2 : h[x + 133 + 138 + 43]? = some (.inl (.int, 9, .inl (fun _ => 0))) := ge2
  refine ab_of2 (lv := [some (.ref x)]) 0 rfl rfl (Nat.le_of_ble_eq_true rfl) ?_
  refine ab_aload_n d_W_save_0 rfl rfl rfl ?_
  refine ab_get (f := 2) d_W_save_1 gwo rfl (by decide) (k3 159 rfl rfl) rfl ?_
  refine ab_callV_a (As := []) (rest := []) d_W_save_4 (r_Play_isQuiet gpo gno) (ab_mkC s_Play_isQuiet (Nat.le_of_ble_eq_true rfl) (Nat.le_of_ble_eq_true rfl) (by decide) (by decide)) (k6 95 rfl rfl) i_Play_isQuiet v_Play_isQuiet gpo rfl rfl (Nat.le_of_ble_eq_true rfl) (fun h2 q1 => ?_)
  subst q1
  refine ab_if_ne (tgt := 13) d_W_save_7 (by decide) (fun q3 => ?_) (fun q3 => by exact absurd q3 (by decide))
  refine ab_aload_n d_W_save_13 rfl rfl rfl ?_
  refine ab_get (f := 3) d_W_save_14 gwo rfl (by decide) (k3 160 rfl rfl) rfl ?_
  refine ab_aload_n d_W_save_17 rfl rfl rfl ?_
  refine ab_get (f := 4) d_W_save_18 gwo rfl (by decide) (k3 161 rfl rfl) rfl ?_
  refine ab_aload_n d_W_save_21 rfl rfl rfl ?_
  refine ab_get (f := 2) d_W_save_22 gwo rfl (by decide) (k3 159 rfl rfl) rfl ?_
  refine ab_get (f := 0) d_W_save_25 gpo rfl (by decide) (k2 131 rfl rfl) rfl ?_
  refine ab_iconst (v := 1) d_W_save_28 (by decide) ?_
  refine ab_callV_i (As := [.ref (x + 133), .ref (x + 11 + 1), .int 1]) (rest := []) d_W_save_29 (r_sw_k gsto gst0 ggo gco geo gno gn7 gn8) (ab_mkC s_Store_write (Nat.le_of_ble_eq_true rfl) (Nat.le_of_ble_eq_true rfl) (by decide) (by decide)) (k7 236 rfl rfl) i_Store_write v_Store_write gsto rfl rfl (Nat.le_of_ble_eq_true rfl) (fun v9 h4 q5 => ?_)
  obtain ⟨y8, c7, f6⟩ := q5
  have c10 : h4[x]? = some (.inr (0, [.ref (x + 1), .ref (x + 8), .ref (x + 11), .ref (x + 131), .ref (x + 133), .ref (x + 325), .int 0, .int (s0_W w 7), .int 0])) := ab_fr_at f6 gwo (by omega)
  have c11 : h4[x+11]? = some (.inr (10, [.ref (x + 11 + 1), .int 0, .int 1, .int 0, .ref (x + 11 + 104), .int 0, .ref (x + 11 + 7), .ref (x + 11 + 105), .ref (x + 11 + 114), .ref (x + 11 + 115), .ref (x + 11 + 116), .ref (x + 11 + 117), .ref (x + 11 + 118), .ref (x + 11 + 119)])) := ab_fr_at f6 gpo (by omega)
  have c12 : h4[x+11+104]? = some (.inl (.int, 256, .inl (fun _ => 0))) := ab_fr_at f6 gp4 (by omega)
  have c13 : h4[x+11+114]? = some (.inl (.boolean, 256, .inl (fun _ => 0))) := ab_fr_at f6 gp8 (by omega)
  have c14 : h4[x+11+115]? = some (.inl (.int, 256, .inl (fun _ => 0))) := ab_fr_at f6 gp9 (by omega)
  have c15 : h4[x+11+116]? = some (.inl (.int, 4, .inl (fun _ => 0))) := ab_fr_at f6 gp10 (by omega)
  have c16 : h4[x+11+117]? = some (.inl (.int, 16, .inl (fun _ => 0))) := ab_fr_at f6 gp11 (by omega)
  have c17 : h4[x+11+118]? = some (.inl (.int, 64, .inl (fun _ => 0))) := ab_fr_at f6 gp12 (by omega)
  have c18 : h4[x+11+119]? = some (.inl (.int, 4, .inl (fun _ => 0))) := ab_fr_at f6 gp13 (by omega)
  have c19 : h4[x+11+1]? = some (.inr (7, [.int 0, .int 0, .int 0, .int 0, .int 0, .int 0, .int 0, .ref (x + 11 + 1 + 1), .ref (x + 11 + 1 + 2), .int 0, .int 0, .ref (x + 11 + 1 + 3), .ref (x + 11 + 1 + 4), .int 0, .ref (x + 11 + 1 + 5), .int 0])) := ab_fr_at f6 gno (by omega)
  have c20 : h4[x+11+1+1]? = some (.inl (.int, 256, .inl (fun _ => 0))) := ab_fr_at f6 gn7 (by omega)
  have c21 : h4[x+11+1+2]? = some (.inl (.int, 256, .inl (a0_World 8))) := ab_fr_at f6 gn8 (by omega)
  have c22 : h4[x+11+1+3]? = some (.inl (.int, 12288, .inl (fun _ => 0))) := ab_fr_at f6 gn11 (by omega)
  have c23 : h4[x+11+1+4]? = some (.inl (.int, 1792, .inl (fun _ => 0))) := ab_fr_at f6 gn12 (by omega)
  have c24 : h4[x+11+1+5]? = some (.inl (.int, 32, .inl (fun _ => 0))) := ab_fr_at f6 gn14 (by omega)
  have c25 : h4[x+133]? = some (.inr (4, [.ref (x + 133 + 1), .int 0, .ref (x + 133 + 70), .ref (x + 133 + 138), .int 0, .ref (x + 133 + 182), .ref (x + 133 + 183), .int 0, .ref (x + 133 + 184), .ref (x + 133 + 185), .ref (x + 133 + 186), .ref (x + 133 + 187), .ref (x + 133 + 188), .ref (x + 133 + 189), .ref (x + 133 + 190), .int 0, .ref (x + 133 + 191), .int 0])) := ab_fr_at f6 ggo (by omega)
  have c26 : h4[x+133+182]? = some (.inl (.int, 16, .inl (fun _ => 0))) := ab_fr_at f6 gg5 (by omega)
  have c27 : h4[x+133+183]? = some (.inl (.int, 768, .inl (fun _ => 0))) := ab_fr_at f6 gg6 (by omega)
  have c28 : h4[x+133+184]? = some (.inl (.int, 16, .inl (fun _ => 0))) := ab_fr_at f6 gg8 (by omega)
  have c29 : h4[x+133+185]? = some (.inl (.int, 16, .inl (fun _ => 0))) := ab_fr_at f6 gg9 (by omega)
  have c30 : h4[x+133+186]? = some (.inl (.int, 16, .inl (fun _ => 0))) := ab_fr_at f6 gg10 (by omega)
  have c31 : h4[x+133+187]? = some (.inl (.int, 16, .inl (fun _ => 0))) := ab_fr_at f6 gg11 (by omega)
  have c32 : h4[x+133+188]? = some (.inl (.int, 16, .inl (fun _ => 0))) := ab_fr_at f6 gg12 (by omega)
  have c33 : h4[x+133+189]? = some (.inl (.int, 16, .inl (fun _ => 0))) := ab_fr_at f6 gg13 (by omega)
  have c34 : h4[x+133+190]? = some (.inl (.int, 16, .inl (fun _ => 0))) := ab_fr_at f6 gg14 (by omega)
  have c35 : h4[x+133+191]? = some (.inl (.int, 12000, .inl (fun _ => 0))) := ab_fr_at f6 gg16 (by omega)
  have c36 : h4[x+133+70]? = some (.inr (3, [.ref (x + 133 + 70 + 1), .ref (x + 133 + 70 + 18), .ref (x + 133 + 70 + 67), .int 0])) := ab_fr_at f6 gco (by omega)
  have c37 : h4[x+133+70+67]? = some (.inl (.int, 17, .inl (fun _ => 0))) := ab_fr_at f6 gc2 (by omega)
  have c38 : h4[x+133+138]? = some (.inr (3, [.ref (x + 133 + 138 + 1), .ref (x + 133 + 138 + 10), .ref (x + 133 + 138 + 43), .int 0])) := ab_fr_at f6 geo (by omega)
  have c39 : h4[x+133+138+43]? = some (.inl (.int, 9, .inl (fun _ => 0))) := ab_fr_at f6 ge2 (by omega)
  have fr40 : ab_fr (in_lo x) h h4 := ab_fr_tr (ab_fr_rf _ _) (ab_fr_mono f6 (by intro i hi; simp only [in_lo] at * <;> omega))
  clear f6
  refine ab_pop d_W_save_32 rfl ?_
  refine ab_aload_n d_W_save_33 rfl rfl rfl ?_
  refine ab_get (f := 3) d_W_save_34 c10 rfl (by decide) (k3 160 rfl rfl) rfl ?_
  refine ab_get (f := 1) d_W_save_37 c7 rfl (by decide) (k2 189 rfl rfl) rfl ?_
  exact ab_iret d_W_save_40 rfl (Nat.le_refl _) (Nat.le_refl _) (by unfold sq_W_save; exact ⟨rfl, fr40⟩)
set_option maxRecDepth 20000 in
set_option maxHeartbeats 2000000 in
theorem r_addInt {h : List ab_E}  {p2 p3 p4 p5 p6 p7 p8 p9 p10 p11 p12 : Value} {qf : Nat → Int32} {x k : Nat} {v : Int32}  (po : h[x + 1]? = some (.inr (1, [.ref (x + 1 + 1), .int (nI k), p2, p3, p4, p5, p6, p7, p8, p9, p10, p11, p12]))) (qa : h[x + 1 + 1]? = some (.inl (.byte, 6000, .inl qf))) (hk : k + 4 ≤ 6000) : ab_M y_Lexer_addInt { frames := 0, cells := 0, slots := 0, locals := 0 } [.ref (x + 1), .int v] h (ab_A none (fun h1 => ∃ f : Nat → Int32, h1[x + 1]? = some (.inr (1, [.ref (x + 1 + 1), .int (nI (k + 4)), p2, p3, p4, p5, p6, p7, p8, p9, p10, p11, p12])) ∧ h1[x + 1 + 1]? = some (.inl (.byte, 6000, .inl f)) ∧ ab_fr (fun j => j = x + 1 ∨ j = x + 1 + 1) h h1)) := by
  refine ab_of2 (lv := [some (.ref (x + 1)), some (.int v), none]) 1 rfl rfl (Nat.le_of_ble_eq_true rfl) ?_
  refine ab_bipush (v := 24) d_Lexer_addInt_0 (by decide) ?_
  refine ab_istore_n (lv' := [some (.ref (x + 1)), some (.int v), some (.int 24)]) d_Lexer_addInt_2 rfl (by decide) rfl ?_
  refine ab_iload_n d_Lexer_addInt_3 rfl rfl ?_
  refine ab_if_lt (tgt := 46) d_Lexer_addInt_4 (by decide) (fun q1 => by exact absurd q1 (by decide)) (fun q1 => ?_)
  refine ab_aload_n d_Lexer_addInt_7 rfl rfl rfl ?_
  refine ab_get (f := 1) d_Lexer_addInt_8 po rfl (by decide) (k1 95 rfl rfl) rfl ?_
  refine ab_sipush (v := 6000) d_Lexer_addInt_11 (by decide) ?_
  refine ab_icmp_ge (tgt := 40) d_Lexer_addInt_14 (by decide) (fun q2 => ?_) (fun q2 => ?_)
  · exact absurd ((nI_leI (a := 6000) (by omega) (by omega)).mp q2) (by omega)
  · refine ab_aload_n d_Lexer_addInt_17 rfl rfl rfl ?_
    refine ab_get (f := 0) d_Lexer_addInt_18 po rfl (by decide) (k1 94 rfl rfl) rfl ?_
    refine ab_aload_n d_Lexer_addInt_21 rfl rfl rfl ?_
    refine ab_get (f := 1) d_Lexer_addInt_22 po rfl (by decide) (k1 95 rfl rfl) rfl ?_
    refine ab_iload_n d_Lexer_addInt_25 rfl rfl ?_
    refine ab_iload_n d_Lexer_addInt_26 rfl rfl ?_
    refine ab_ishr d_Lexer_addInt_27 ?_
    refine ab_i2b d_Lexer_addInt_28 ?_
    refine ab_bast d_Lexer_addInt_29 tB qa (vp_in_nI (by omega) (by decide)) ?_
    refine ab_gen (fun h3 e4 => ?_)
    have c5 : h3[x+1]? = some (.inr (1, [.ref (x + 1 + 1), .int (nI k), p2, p3, p4, p5, p6, p7, p8, p9, p10, p11, p12])) := ab_other e4 (by omega) po
    have c6 : h3[x+1+1]? = some (.inl (.byte, 6000, .inl (upd qf ((nI k)).toNatClampNeg (vp_nar .byte (((v >>> (24 &&& 31)) : Int32).toInt8.toInt32))))) := ab_self e4 qa
    have fr7 : ab_fr (fun j => j = x + 1 ∨ j = x + 1 + 1) h h3 := ab_fr_set (ab_fr_rf _ _) e4 (by first | (show _ ∧ _; omega) | (show _ ∨ _; omega) | (show _ = _; omega) | (show _ ≤ _; omega))
    clear e4
    obtain ⟨y8, c9⟩ : ∃ f : Nat → Int32, h3[x+1+1]? = some (.inl (.byte, 6000, .inl f)) := ⟨_, c6⟩
    clear c6
    refine ab_aload_n d_Lexer_addInt_30 rfl rfl rfl ?_
    refine ab_dup d_Lexer_addInt_31 rfl ?_
    refine ab_get (f := 1) d_Lexer_addInt_32 c5 rfl (by decide) (k1 95 rfl rfl) rfl ?_
    refine ab_iconst (v := 1) d_Lexer_addInt_35 (by decide) ?_
    refine ab_iadd d_Lexer_addInt_36 ?_
    refine ab_topi (fun x10 ex10 => ?_)
    obtain rfl : x10 = nI (k + 1) := ex10.trans (nI_1 _)
    clear ex10
    refine ab_put (f := 1) d_Lexer_addInt_37 c5 rfl (by decide) (k1 95 rfl rfl) rfl rfl (fun _ => rfl) (fun _ => rfl) (Nat.le_of_ble_eq_true rfl) ?_
    show ab_V _ _ _ _ _ _ _ 40 [some (.ref (x + 1)), some (.int v), some (.int 24)] [] (h3.set (x+1) (.inr (1, [.ref (x + 1 + 1), .int (nI (k + 1)), p2, p3, p4, p5, p6, p7, p8, p9, p10, p11, p12])))
    refine ab_gen (fun h11 e12 => ?_)
    have c13 : h11[x+1]? = some (.inr (1, [.ref (x + 1 + 1), .int (nI (k + 1)), p2, p3, p4, p5, p6, p7, p8, p9, p10, p11, p12])) := ab_self e12 c5
    have c14 : h11[x+1+1]? = some (.inl (.byte, 6000, .inl y8)) := ab_other e12 (by omega) c9
    have fr15 : ab_fr (fun j => j = x + 1 ∨ j = x + 1 + 1) h h11 := ab_fr_set fr7 e12 (by first | (show _ ∧ _; omega) | (show _ ∨ _; omega) | (show _ = _; omega) | (show _ ≤ _; omega))
    clear c5 c9 fr7 e12
    try clear h3
    refine ab_iinc (v := 16) (lv' := [some (.ref (x + 1)), some (.int v), some (.int 16)]) d_Lexer_addInt_40 rfl (by decide) (by decide) rfl ?_
    refine ab_goto (tgt := 3) d_Lexer_addInt_43 (by decide) ?_
    refine ab_iload_n d_Lexer_addInt_3 rfl rfl ?_
    refine ab_if_lt (tgt := 46) d_Lexer_addInt_4 (by decide) (fun q16 => by exact absurd q16 (by decide)) (fun q16 => ?_)
    refine ab_aload_n d_Lexer_addInt_7 rfl rfl rfl ?_
    refine ab_get (f := 1) d_Lexer_addInt_8 c13 rfl (by decide) (k1 95 rfl rfl) rfl ?_
    refine ab_sipush (v := 6000) d_Lexer_addInt_11 (by decide) ?_
    refine ab_icmp_ge (tgt := 40) d_Lexer_addInt_14 (by decide) (fun q17 => ?_) (fun q17 => ?_)
    · exact absurd ((nI_leI (a := 6000) (by omega) (by omega)).mp q17) (by omega)
    · refine ab_aload_n d_Lexer_addInt_17 rfl rfl rfl ?_
      refine ab_get (f := 0) d_Lexer_addInt_18 c13 rfl (by decide) (k1 94 rfl rfl) rfl ?_
      refine ab_aload_n d_Lexer_addInt_21 rfl rfl rfl ?_
      refine ab_get (f := 1) d_Lexer_addInt_22 c13 rfl (by decide) (k1 95 rfl rfl) rfl ?_
      refine ab_iload_n d_Lexer_addInt_25 rfl rfl ?_
      refine ab_iload_n d_Lexer_addInt_26 rfl rfl ?_
      refine ab_ishr d_Lexer_addInt_27 ?_
      refine ab_i2b d_Lexer_addInt_28 ?_
      refine ab_bast d_Lexer_addInt_29 tB c14 (vp_in_nI (by omega) (by decide)) ?_
      refine ab_gen (fun h18 e19 => ?_)
      have c20 : h18[x+1]? = some (.inr (1, [.ref (x + 1 + 1), .int (nI (k + 1)), p2, p3, p4, p5, p6, p7, p8, p9, p10, p11, p12])) := ab_other e19 (by omega) c13
      have c21 : h18[x+1+1]? = some (.inl (.byte, 6000, .inl (upd y8 ((nI (k + 1))).toNatClampNeg (vp_nar .byte (((v >>> (16 &&& 31)) : Int32).toInt8.toInt32))))) := ab_self e19 c14
      have fr22 : ab_fr (fun j => j = x + 1 ∨ j = x + 1 + 1) h h18 := ab_fr_set fr15 e19 (by first | (show _ ∧ _; omega) | (show _ ∨ _; omega) | (show _ = _; omega) | (show _ ≤ _; omega))
      clear c13 c14 fr15 e19
      try clear h11
      obtain ⟨y23, c24⟩ : ∃ f : Nat → Int32, h18[x+1+1]? = some (.inl (.byte, 6000, .inl f)) := ⟨_, c21⟩
      clear c21
      refine ab_aload_n d_Lexer_addInt_30 rfl rfl rfl ?_
      refine ab_dup d_Lexer_addInt_31 rfl ?_
      refine ab_get (f := 1) d_Lexer_addInt_32 c20 rfl (by decide) (k1 95 rfl rfl) rfl ?_
      refine ab_iconst (v := 1) d_Lexer_addInt_35 (by decide) ?_
      refine ab_iadd d_Lexer_addInt_36 ?_
      refine ab_topi (fun x25 ex25 => ?_)
      obtain rfl : x25 = nI (k + 2) := ex25.trans (nI_1 _)
      clear ex25
      refine ab_put (f := 1) d_Lexer_addInt_37 c20 rfl (by decide) (k1 95 rfl rfl) rfl rfl (fun _ => rfl) (fun _ => rfl) (Nat.le_of_ble_eq_true rfl) ?_
      show ab_V _ _ _ _ _ _ _ 40 [some (.ref (x + 1)), some (.int v), some (.int 16)] [] (h18.set (x+1) (.inr (1, [.ref (x + 1 + 1), .int (nI (k + 2)), p2, p3, p4, p5, p6, p7, p8, p9, p10, p11, p12])))
      refine ab_gen (fun h26 e27 => ?_)
      have c28 : h26[x+1]? = some (.inr (1, [.ref (x + 1 + 1), .int (nI (k + 2)), p2, p3, p4, p5, p6, p7, p8, p9, p10, p11, p12])) := ab_self e27 c20
      have c29 : h26[x+1+1]? = some (.inl (.byte, 6000, .inl y23)) := ab_other e27 (by omega) c24
      have fr30 : ab_fr (fun j => j = x + 1 ∨ j = x + 1 + 1) h h26 := ab_fr_set fr22 e27 (by first | (show _ ∧ _; omega) | (show _ ∨ _; omega) | (show _ = _; omega) | (show _ ≤ _; omega))
      clear c20 c24 fr22 e27
      try clear h18
      refine ab_iinc (v := 8) (lv' := [some (.ref (x + 1)), some (.int v), some (.int 8)]) d_Lexer_addInt_40 rfl (by decide) (by decide) rfl ?_
      refine ab_goto (tgt := 3) d_Lexer_addInt_43 (by decide) ?_
      refine ab_iload_n d_Lexer_addInt_3 rfl rfl ?_
      refine ab_if_lt (tgt := 46) d_Lexer_addInt_4 (by decide) (fun q31 => by exact absurd q31 (by decide)) (fun q31 => ?_)
      refine ab_aload_n d_Lexer_addInt_7 rfl rfl rfl ?_
      refine ab_get (f := 1) d_Lexer_addInt_8 c28 rfl (by decide) (k1 95 rfl rfl) rfl ?_
      refine ab_sipush (v := 6000) d_Lexer_addInt_11 (by decide) ?_
      refine ab_icmp_ge (tgt := 40) d_Lexer_addInt_14 (by decide) (fun q32 => ?_) (fun q32 => ?_)
      · exact absurd ((nI_leI (a := 6000) (by omega) (by omega)).mp q32) (by omega)
      · refine ab_aload_n d_Lexer_addInt_17 rfl rfl rfl ?_
        refine ab_get (f := 0) d_Lexer_addInt_18 c28 rfl (by decide) (k1 94 rfl rfl) rfl ?_
        refine ab_aload_n d_Lexer_addInt_21 rfl rfl rfl ?_
        refine ab_get (f := 1) d_Lexer_addInt_22 c28 rfl (by decide) (k1 95 rfl rfl) rfl ?_
        refine ab_iload_n d_Lexer_addInt_25 rfl rfl ?_
        refine ab_iload_n d_Lexer_addInt_26 rfl rfl ?_
        refine ab_ishr d_Lexer_addInt_27 ?_
        refine ab_i2b d_Lexer_addInt_28 ?_
        refine ab_bast d_Lexer_addInt_29 tB c29 (vp_in_nI (by omega) (by decide)) ?_
        refine ab_gen (fun h33 e34 => ?_)
        have c35 : h33[x+1]? = some (.inr (1, [.ref (x + 1 + 1), .int (nI (k + 2)), p2, p3, p4, p5, p6, p7, p8, p9, p10, p11, p12])) := ab_other e34 (by omega) c28
        have c36 : h33[x+1+1]? = some (.inl (.byte, 6000, .inl (upd y23 ((nI (k + 2))).toNatClampNeg (vp_nar .byte (((v >>> (8 &&& 31)) : Int32).toInt8.toInt32))))) := ab_self e34 c29
        have fr37 : ab_fr (fun j => j = x + 1 ∨ j = x + 1 + 1) h h33 := ab_fr_set fr30 e34 (by first | (show _ ∧ _; omega) | (show _ ∨ _; omega) | (show _ = _; omega) | (show _ ≤ _; omega))
        clear c28 c29 fr30 e34
        try clear h26
        obtain ⟨y38, c39⟩ : ∃ f : Nat → Int32, h33[x+1+1]? = some (.inl (.byte, 6000, .inl f)) := ⟨_, c36⟩
        clear c36
        refine ab_aload_n d_Lexer_addInt_30 rfl rfl rfl ?_
        refine ab_dup d_Lexer_addInt_31 rfl ?_
        refine ab_get (f := 1) d_Lexer_addInt_32 c35 rfl (by decide) (k1 95 rfl rfl) rfl ?_
        refine ab_iconst (v := 1) d_Lexer_addInt_35 (by decide) ?_
        refine ab_iadd d_Lexer_addInt_36 ?_
        refine ab_topi (fun x40 ex40 => ?_)
        obtain rfl : x40 = nI (k + 3) := ex40.trans (nI_1 _)
        clear ex40
        refine ab_put (f := 1) d_Lexer_addInt_37 c35 rfl (by decide) (k1 95 rfl rfl) rfl rfl (fun _ => rfl) (fun _ => rfl) (Nat.le_of_ble_eq_true rfl) ?_
        show ab_V _ _ _ _ _ _ _ 40 [some (.ref (x + 1)), some (.int v), some (.int 8)] [] (h33.set (x+1) (.inr (1, [.ref (x + 1 + 1), .int (nI (k + 3)), p2, p3, p4, p5, p6, p7, p8, p9, p10, p11, p12])))
        refine ab_gen (fun h41 e42 => ?_)
        have c43 : h41[x+1]? = some (.inr (1, [.ref (x + 1 + 1), .int (nI (k + 3)), p2, p3, p4, p5, p6, p7, p8, p9, p10, p11, p12])) := ab_self e42 c35
        have c44 : h41[x+1+1]? = some (.inl (.byte, 6000, .inl y38)) := ab_other e42 (by omega) c39
        have fr45 : ab_fr (fun j => j = x + 1 ∨ j = x + 1 + 1) h h41 := ab_fr_set fr37 e42 (by first | (show _ ∧ _; omega) | (show _ ∨ _; omega) | (show _ = _; omega) | (show _ ≤ _; omega))
        clear c35 c39 fr37 e42
        try clear h33
        refine ab_iinc (v := 0) (lv' := [some (.ref (x + 1)), some (.int v), some (.int 0)]) d_Lexer_addInt_40 rfl (by decide) (by decide) rfl ?_
        refine ab_goto (tgt := 3) d_Lexer_addInt_43 (by decide) ?_
        refine ab_iload_n d_Lexer_addInt_3 rfl rfl ?_
        refine ab_if_lt (tgt := 46) d_Lexer_addInt_4 (by decide) (fun q46 => by exact absurd q46 (by decide)) (fun q46 => ?_)
        refine ab_aload_n d_Lexer_addInt_7 rfl rfl rfl ?_
        refine ab_get (f := 1) d_Lexer_addInt_8 c43 rfl (by decide) (k1 95 rfl rfl) rfl ?_
        refine ab_sipush (v := 6000) d_Lexer_addInt_11 (by decide) ?_
        refine ab_icmp_ge (tgt := 40) d_Lexer_addInt_14 (by decide) (fun q47 => ?_) (fun q47 => ?_)
        · exact absurd ((nI_leI (a := 6000) (by omega) (by omega)).mp q47) (by omega)
        · refine ab_aload_n d_Lexer_addInt_17 rfl rfl rfl ?_
          refine ab_get (f := 0) d_Lexer_addInt_18 c43 rfl (by decide) (k1 94 rfl rfl) rfl ?_
          refine ab_aload_n d_Lexer_addInt_21 rfl rfl rfl ?_
          refine ab_get (f := 1) d_Lexer_addInt_22 c43 rfl (by decide) (k1 95 rfl rfl) rfl ?_
          refine ab_iload_n d_Lexer_addInt_25 rfl rfl ?_
          refine ab_iload_n d_Lexer_addInt_26 rfl rfl ?_
          refine ab_ishr d_Lexer_addInt_27 ?_
          refine ab_i2b d_Lexer_addInt_28 ?_
          refine ab_bast d_Lexer_addInt_29 tB c44 (vp_in_nI (by omega) (by decide)) ?_
          refine ab_gen (fun h48 e49 => ?_)
          have c50 : h48[x+1]? = some (.inr (1, [.ref (x + 1 + 1), .int (nI (k + 3)), p2, p3, p4, p5, p6, p7, p8, p9, p10, p11, p12])) := ab_other e49 (by omega) c43
          have c51 : h48[x+1+1]? = some (.inl (.byte, 6000, .inl (upd y38 ((nI (k + 3))).toNatClampNeg (vp_nar .byte (((v >>> (0 &&& 31)) : Int32).toInt8.toInt32))))) := ab_self e49 c44
          have fr52 : ab_fr (fun j => j = x + 1 ∨ j = x + 1 + 1) h h48 := ab_fr_set fr45 e49 (by first | (show _ ∧ _; omega) | (show _ ∨ _; omega) | (show _ = _; omega) | (show _ ≤ _; omega))
          clear c43 c44 fr45 e49
          try clear h41
          obtain ⟨y53, c54⟩ : ∃ f : Nat → Int32, h48[x+1+1]? = some (.inl (.byte, 6000, .inl f)) := ⟨_, c51⟩
          clear c51
          refine ab_aload_n d_Lexer_addInt_30 rfl rfl rfl ?_
          refine ab_dup d_Lexer_addInt_31 rfl ?_
          refine ab_get (f := 1) d_Lexer_addInt_32 c50 rfl (by decide) (k1 95 rfl rfl) rfl ?_
          refine ab_iconst (v := 1) d_Lexer_addInt_35 (by decide) ?_
          refine ab_iadd d_Lexer_addInt_36 ?_
          refine ab_topi (fun x55 ex55 => ?_)
          obtain rfl : x55 = nI (k + 4) := ex55.trans (nI_1 _)
          clear ex55
          refine ab_put (f := 1) d_Lexer_addInt_37 c50 rfl (by decide) (k1 95 rfl rfl) rfl rfl (fun _ => rfl) (fun _ => rfl) (Nat.le_of_ble_eq_true rfl) ?_
          show ab_V _ _ _ _ _ _ _ 40 [some (.ref (x + 1)), some (.int v), some (.int 0)] [] (h48.set (x+1) (.inr (1, [.ref (x + 1 + 1), .int (nI (k + 4)), p2, p3, p4, p5, p6, p7, p8, p9, p10, p11, p12])))
          refine ab_gen (fun h56 e57 => ?_)
          have c58 : h56[x+1]? = some (.inr (1, [.ref (x + 1 + 1), .int (nI (k + 4)), p2, p3, p4, p5, p6, p7, p8, p9, p10, p11, p12])) := ab_self e57 c50
          have c59 : h56[x+1+1]? = some (.inl (.byte, 6000, .inl y53)) := ab_other e57 (by omega) c54
          have fr60 : ab_fr (fun j => j = x + 1 ∨ j = x + 1 + 1) h h56 := ab_fr_set fr52 e57 (by first | (show _ ∧ _; omega) | (show _ ∨ _; omega) | (show _ = _; omega) | (show _ ≤ _; omega))
          clear c50 c54 fr52 e57
          try clear h48
          refine ab_iinc (v := (-8)) (lv' := [some (.ref (x + 1)), some (.int v), some (.int (-8))]) d_Lexer_addInt_40 rfl (by decide) (by decide) rfl ?_
          refine ab_goto (tgt := 3) d_Lexer_addInt_43 (by decide) ?_
          refine ab_iload_n d_Lexer_addInt_3 rfl rfl ?_
          refine ab_if_lt (tgt := 46) d_Lexer_addInt_4 (by decide) (fun q61 => ?_) (fun q61 => by exact absurd (by decide) q61)
          exact ab_vret d_Lexer_addInt_46 rfl (Nat.le_refl _) (Nat.le_refl _) (by exact ⟨rfl, _, c58, c59, fr60⟩)
set_option maxRecDepth 20000 in
set_option maxHeartbeats 2000000 in
theorem r_hasRoom {h : List ab_E}  {p2 p3 p4 p5 p6 p7 p8 p9 p10 p11 p12 : Value} {x : Nat}  (po : h[x + 1]? = some (.inr (1, [.ref (x + 1 + 1), .int 0, p2, p3, p4, p5, p6, p7, p8, p9, p10, p11, p12])))  : ab_M y_Lexer_hasRoom { frames := 0, cells := 0, slots := 0, locals := 0 } [.ref (x + 1), .int 20] h (ab_A (some (.int (1))) (fun h1 => h = h1)) := by
  refine ab_of2 (lv := [some (.ref (x + 1)), some (.int 20)]) 0 rfl rfl (Nat.le_of_ble_eq_true rfl) ?_
  refine ab_aload_n d_Lexer_hasRoom_0 rfl rfl rfl ?_
  refine ab_get (f := 1) d_Lexer_hasRoom_1 po rfl (by decide) (k1 95 rfl rfl) rfl ?_
  refine ab_sipush (v := 6000) d_Lexer_hasRoom_4 (by decide) ?_
  refine ab_iload_n d_Lexer_hasRoom_7 rfl rfl ?_
  refine ab_isub d_Lexer_hasRoom_8 ?_
  refine ab_topi (fun x1 ex1 => ?_)
  obtain rfl : x1 = 5980 := ex1.trans (by decide)
  clear ex1
  refine ab_icmp_gt (tgt := 16) d_Lexer_hasRoom_9 (by decide) (fun q2 => by exact absurd q2 (by decide)) (fun q2 => ?_)
  refine ab_iconst (v := 1) d_Lexer_hasRoom_12 (by decide) ?_
  refine ab_goto (tgt := 17) d_Lexer_hasRoom_13 (by decide) ?_
  exact ab_zret d_Lexer_hasRoom_17 rfl rfl (Nat.le_refl _) (Nat.le_refl _) (by exact ⟨rfl, rfl⟩)
def sq_W_feed  : Int32 := (1)
set_option maxRecDepth 20000 in
set_option maxHeartbeats 2000000 in
theorem f_W_feed {h : List ab_E}   {x : Nat} {w a b c d e : Int32}   (h0 : at_W0 h x w) : ab_M y_W_feed { frames := 1, cells := 0, slots := 0, locals := 40 } [.ref x, .int a, .int b, .int c, .int d, .int e] h (ab_A (some (.int (sq_W_feed ))) (fun h1 => ab_fr (in_lo x) h h1)) := by
  obtain ⟨hW, hL, hRd, hB, ⟨hP, hN, hBe, hWs, hTk, hRw⟩, hSt, ⟨hG, hG1, hGc, hG2, hG3, hGe, hG4, hG5⟩, ⟨hH, hH1, hHc, hH2, hH3, hHe, hH4, hH5⟩⟩ := h0
  have hW0 := hW; have gwo := hW
  replace gwo : h[x]? = some (.inr (0, [.ref (x + 1), .ref (x + 8), .ref (x + 11), .ref (x + 131), .ref (x + 133), .ref (x + 325), .int 0, .int (s0_W w 7), .int 0])) := gwo
  have hL0 := hL; obtain ⟨glo, gl0, gl6, gl7, gl8, gl9, gl12⟩ := hL
  replace glo : h[x + 1]? = some (.inr (1, [.ref (x + 1 + 1), .int 0, .int 0, .int 0, .int 0, .int 0, .ref (x + 1 + 2), .ref (x + 1 + 3), .ref (x + 1 + 4), .ref (x + 1 + 5), .int 0, .int 0, .ref (x + 1 + 6)])) := glo
  replace gl0 : h[x + 1 + 1]? = some (.inl (.byte, 6000, .inl (fun _ => 0))) := gl0
  replace gl6 : h[x + 1 + 2]? = some (.inl (.int, 6001, .inl (fun _ => 0))) := gl6
  replace gl7 : h[x + 1 + 3]? = some (.inl (.int, 6001, .inl (fun _ => 0))) := gl7
  replace gl8 : h[x + 1 + 4]? = some (.inl (.int, 6001, .inl (fun _ => 0))) := gl8
  replace gl9 : h[x + 1 + 5]? = some (.inl (.boolean, 6001, .inl (fun _ => 0))) := gl9
  replace gl12 : h[x + 1 + 6]? = some (.inl (.int, 42, .inl (a0_Lexer 12))) := gl12
  refine ab_of2 (lv := [some (.ref x), some (.int a), some (.int b), some (.int c), some (.int d), some (.int e)]) 0 rfl rfl (Nat.le_of_ble_eq_true rfl) ?_
  refine ab_aload_n d_W_feed_0 rfl rfl rfl ?_
  refine ab_get (f := 0) d_W_feed_1 gwo rfl (by decide) (k3 157 rfl rfl) rfl ?_
  refine ab_bipush (v := 20) d_W_feed_4 (by decide) ?_
  refine ab_callV_a (As := [.int 20]) (rest := []) d_W_feed_6 (r_hasRoom glo) (ab_mkC s_Lexer_hasRoom (Nat.le_of_ble_eq_true rfl) (Nat.le_of_ble_eq_true rfl) (by decide) (by decide)) (k3 189 rfl rfl) i_Lexer_hasRoom v_Lexer_hasRoom glo rfl rfl (Nat.le_of_ble_eq_true rfl) (fun h2 q1 => ?_)
  subst q1
  refine ab_if_ne (tgt := 14) d_W_feed_9 (by decide) (fun q3 => ?_) (fun q3 => by exact absurd q3 (by decide))
  refine ab_aload_n d_W_feed_14 rfl rfl rfl ?_
  refine ab_get (f := 0) d_W_feed_15 gwo rfl (by decide) (k3 157 rfl rfl) rfl ?_
  refine ab_iload_n d_W_feed_18 rfl rfl ?_
  refine ab_callV_v (As := [.int a]) (rest := []) d_W_feed_19 (r_addInt (k := 0) glo gl0 (by omega)) (ab_mkC s_Lexer_addInt (Nat.le_of_ble_eq_true rfl) (Nat.le_of_ble_eq_true rfl) (by decide) (by decide)) (k3 193 rfl rfl) i_Lexer_addInt v_Lexer_addInt glo rfl rfl (Nat.le_of_ble_eq_true rfl) (fun h4 q5 => ?_)
  obtain ⟨y9, c7, c8, f6⟩ := q5
  have c10 : h4[x]? = some (.inr (0, [.ref (x + 1), .ref (x + 8), .ref (x + 11), .ref (x + 131), .ref (x + 133), .ref (x + 325), .int 0, .int (s0_W w 7), .int 0])) := ab_fr_at f6 gwo (by omega)
  have c11 : h4[x+1+2]? = some (.inl (.int, 6001, .inl (fun _ => 0))) := ab_fr_at f6 gl6 (by omega)
  have c12 : h4[x+1+3]? = some (.inl (.int, 6001, .inl (fun _ => 0))) := ab_fr_at f6 gl7 (by omega)
  have c13 : h4[x+1+4]? = some (.inl (.int, 6001, .inl (fun _ => 0))) := ab_fr_at f6 gl8 (by omega)
  have c14 : h4[x+1+5]? = some (.inl (.boolean, 6001, .inl (fun _ => 0))) := ab_fr_at f6 gl9 (by omega)
  have c15 : h4[x+1+6]? = some (.inl (.int, 42, .inl (a0_Lexer 12))) := ab_fr_at f6 gl12 (by omega)
  have fr16 : ab_fr (in_lo x) h h4 := ab_fr_tr (ab_fr_rf _ _) (ab_fr_mono f6 (by intro i hi; simp only [in_lo] at * <;> omega))
  clear f6
  replace c7 : h4[x+1]? = some (.inr (1, [.ref (x + 1 + 1), .int (nI 4), .int 0, .int 0, .int 0, .int 0, .ref (x + 1 + 2), .ref (x + 1 + 3), .ref (x + 1 + 4), .ref (x + 1 + 5), .int 0, .int 0, .ref (x + 1 + 6)])) := c7
  replace c8 : h4[x+1+1]? = some (.inl (.byte, 6000, .inl y9)) := c8
  refine ab_aload_n d_W_feed_22 rfl rfl rfl ?_
  refine ab_get (f := 0) d_W_feed_23 c10 rfl (by decide) (k3 157 rfl rfl) rfl ?_
  refine ab_iload_n d_W_feed_26 rfl rfl ?_
  refine ab_callV_v (As := [.int b]) (rest := []) d_W_feed_27 (r_addInt (k := 4) c7 c8 (by omega)) (ab_mkC s_Lexer_addInt (Nat.le_of_ble_eq_true rfl) (Nat.le_of_ble_eq_true rfl) (by decide) (by decide)) (k3 193 rfl rfl) i_Lexer_addInt v_Lexer_addInt c7 rfl rfl (Nat.le_of_ble_eq_true rfl) (fun h17 q18 => ?_)
  obtain ⟨y22, c20, c21, f19⟩ := q18
  have c23 : h17[x]? = some (.inr (0, [.ref (x + 1), .ref (x + 8), .ref (x + 11), .ref (x + 131), .ref (x + 133), .ref (x + 325), .int 0, .int (s0_W w 7), .int 0])) := ab_fr_at f19 c10 (by omega)
  have c24 : h17[x+1+2]? = some (.inl (.int, 6001, .inl (fun _ => 0))) := ab_fr_at f19 c11 (by omega)
  have c25 : h17[x+1+3]? = some (.inl (.int, 6001, .inl (fun _ => 0))) := ab_fr_at f19 c12 (by omega)
  have c26 : h17[x+1+4]? = some (.inl (.int, 6001, .inl (fun _ => 0))) := ab_fr_at f19 c13 (by omega)
  have c27 : h17[x+1+5]? = some (.inl (.boolean, 6001, .inl (fun _ => 0))) := ab_fr_at f19 c14 (by omega)
  have c28 : h17[x+1+6]? = some (.inl (.int, 42, .inl (a0_Lexer 12))) := ab_fr_at f19 c15 (by omega)
  have fr29 : ab_fr (in_lo x) h h17 := ab_fr_tr fr16 (ab_fr_mono f19 (by intro i hi; simp only [in_lo] at * <;> omega))
  clear c10 c11 c12 c13 c14 c15 c7 c8 f19 fr16
  try clear h4
  replace c20 : h17[x+1]? = some (.inr (1, [.ref (x + 1 + 1), .int (nI 8), .int 0, .int 0, .int 0, .int 0, .ref (x + 1 + 2), .ref (x + 1 + 3), .ref (x + 1 + 4), .ref (x + 1 + 5), .int 0, .int 0, .ref (x + 1 + 6)])) := c20
  replace c21 : h17[x+1+1]? = some (.inl (.byte, 6000, .inl y22)) := c21
  refine ab_aload_n d_W_feed_30 rfl rfl rfl ?_
  refine ab_get (f := 0) d_W_feed_31 c23 rfl (by decide) (k3 157 rfl rfl) rfl ?_
  refine ab_iload_n d_W_feed_34 rfl rfl ?_
  refine ab_callV_v (As := [.int c]) (rest := []) d_W_feed_35 (r_addInt (k := 8) c20 c21 (by omega)) (ab_mkC s_Lexer_addInt (Nat.le_of_ble_eq_true rfl) (Nat.le_of_ble_eq_true rfl) (by decide) (by decide)) (k3 193 rfl rfl) i_Lexer_addInt v_Lexer_addInt c20 rfl rfl (Nat.le_of_ble_eq_true rfl) (fun h30 q31 => ?_)
  obtain ⟨y35, c33, c34, f32⟩ := q31
  have c36 : h30[x]? = some (.inr (0, [.ref (x + 1), .ref (x + 8), .ref (x + 11), .ref (x + 131), .ref (x + 133), .ref (x + 325), .int 0, .int (s0_W w 7), .int 0])) := ab_fr_at f32 c23 (by omega)
  have c37 : h30[x+1+2]? = some (.inl (.int, 6001, .inl (fun _ => 0))) := ab_fr_at f32 c24 (by omega)
  have c38 : h30[x+1+3]? = some (.inl (.int, 6001, .inl (fun _ => 0))) := ab_fr_at f32 c25 (by omega)
  have c39 : h30[x+1+4]? = some (.inl (.int, 6001, .inl (fun _ => 0))) := ab_fr_at f32 c26 (by omega)
  have c40 : h30[x+1+5]? = some (.inl (.boolean, 6001, .inl (fun _ => 0))) := ab_fr_at f32 c27 (by omega)
  have c41 : h30[x+1+6]? = some (.inl (.int, 42, .inl (a0_Lexer 12))) := ab_fr_at f32 c28 (by omega)
  have fr42 : ab_fr (in_lo x) h h30 := ab_fr_tr fr29 (ab_fr_mono f32 (by intro i hi; simp only [in_lo] at * <;> omega))
  clear c23 c24 c25 c26 c27 c28 c20 c21 f32 fr29
  try clear h17
  replace c33 : h30[x+1]? = some (.inr (1, [.ref (x + 1 + 1), .int (nI 12), .int 0, .int 0, .int 0, .int 0, .ref (x + 1 + 2), .ref (x + 1 + 3), .ref (x + 1 + 4), .ref (x + 1 + 5), .int 0, .int 0, .ref (x + 1 + 6)])) := c33
  replace c34 : h30[x+1+1]? = some (.inl (.byte, 6000, .inl y35)) := c34
  refine ab_aload_n d_W_feed_38 rfl rfl rfl ?_
  refine ab_get (f := 0) d_W_feed_39 c36 rfl (by decide) (k3 157 rfl rfl) rfl ?_
  refine ab_iload d_W_feed_42 rfl ?_
  refine ab_callV_v (As := [.int d]) (rest := []) d_W_feed_44 (r_addInt (k := 12) c33 c34 (by omega)) (ab_mkC s_Lexer_addInt (Nat.le_of_ble_eq_true rfl) (Nat.le_of_ble_eq_true rfl) (by decide) (by decide)) (k3 193 rfl rfl) i_Lexer_addInt v_Lexer_addInt c33 rfl rfl (Nat.le_of_ble_eq_true rfl) (fun h43 q44 => ?_)
  obtain ⟨y48, c46, c47, f45⟩ := q44
  have c49 : h43[x]? = some (.inr (0, [.ref (x + 1), .ref (x + 8), .ref (x + 11), .ref (x + 131), .ref (x + 133), .ref (x + 325), .int 0, .int (s0_W w 7), .int 0])) := ab_fr_at f45 c36 (by omega)
  have c50 : h43[x+1+2]? = some (.inl (.int, 6001, .inl (fun _ => 0))) := ab_fr_at f45 c37 (by omega)
  have c51 : h43[x+1+3]? = some (.inl (.int, 6001, .inl (fun _ => 0))) := ab_fr_at f45 c38 (by omega)
  have c52 : h43[x+1+4]? = some (.inl (.int, 6001, .inl (fun _ => 0))) := ab_fr_at f45 c39 (by omega)
  have c53 : h43[x+1+5]? = some (.inl (.boolean, 6001, .inl (fun _ => 0))) := ab_fr_at f45 c40 (by omega)
  have c54 : h43[x+1+6]? = some (.inl (.int, 42, .inl (a0_Lexer 12))) := ab_fr_at f45 c41 (by omega)
  have fr55 : ab_fr (in_lo x) h h43 := ab_fr_tr fr42 (ab_fr_mono f45 (by intro i hi; simp only [in_lo] at * <;> omega))
  clear c36 c37 c38 c39 c40 c41 c33 c34 f45 fr42
  try clear h30
  replace c46 : h43[x+1]? = some (.inr (1, [.ref (x + 1 + 1), .int (nI 16), .int 0, .int 0, .int 0, .int 0, .ref (x + 1 + 2), .ref (x + 1 + 3), .ref (x + 1 + 4), .ref (x + 1 + 5), .int 0, .int 0, .ref (x + 1 + 6)])) := c46
  replace c47 : h43[x+1+1]? = some (.inl (.byte, 6000, .inl y48)) := c47
  refine ab_aload_n d_W_feed_47 rfl rfl rfl ?_
  refine ab_get (f := 0) d_W_feed_48 c49 rfl (by decide) (k3 157 rfl rfl) rfl ?_
  refine ab_iload d_W_feed_51 rfl ?_
  refine ab_callV_v (As := [.int e]) (rest := []) d_W_feed_53 (r_addInt (k := 16) c46 c47 (by omega)) (ab_mkC s_Lexer_addInt (Nat.le_of_ble_eq_true rfl) (Nat.le_of_ble_eq_true rfl) (by decide) (by decide)) (k3 193 rfl rfl) i_Lexer_addInt v_Lexer_addInt c46 rfl rfl (Nat.le_of_ble_eq_true rfl) (fun h56 q57 => ?_)
  obtain ⟨y61, c59, c60, f58⟩ := q57
  have c62 : h56[x]? = some (.inr (0, [.ref (x + 1), .ref (x + 8), .ref (x + 11), .ref (x + 131), .ref (x + 133), .ref (x + 325), .int 0, .int (s0_W w 7), .int 0])) := ab_fr_at f58 c49 (by omega)
  have c63 : h56[x+1+2]? = some (.inl (.int, 6001, .inl (fun _ => 0))) := ab_fr_at f58 c50 (by omega)
  have c64 : h56[x+1+3]? = some (.inl (.int, 6001, .inl (fun _ => 0))) := ab_fr_at f58 c51 (by omega)
  have c65 : h56[x+1+4]? = some (.inl (.int, 6001, .inl (fun _ => 0))) := ab_fr_at f58 c52 (by omega)
  have c66 : h56[x+1+5]? = some (.inl (.boolean, 6001, .inl (fun _ => 0))) := ab_fr_at f58 c53 (by omega)
  have c67 : h56[x+1+6]? = some (.inl (.int, 42, .inl (a0_Lexer 12))) := ab_fr_at f58 c54 (by omega)
  have fr68 : ab_fr (in_lo x) h h56 := ab_fr_tr fr55 (ab_fr_mono f58 (by intro i hi; simp only [in_lo] at * <;> omega))
  clear c49 c50 c51 c52 c53 c54 c46 c47 f58 fr55
  try clear h43
  replace c59 : h56[x+1]? = some (.inr (1, [.ref (x + 1 + 1), .int (nI 20), .int 0, .int 0, .int 0, .int 0, .ref (x + 1 + 2), .ref (x + 1 + 3), .ref (x + 1 + 4), .ref (x + 1 + 5), .int 0, .int 0, .ref (x + 1 + 6)])) := c59
  replace c60 : h56[x+1+1]? = some (.inl (.byte, 6000, .inl y61)) := c60
  refine ab_iconst (v := 1) d_W_feed_56 (by decide) ?_
  exact ab_zret d_W_feed_57 rfl rfl (Nat.le_refl _) (Nat.le_refl _) (by unfold sq_W_feed; exact ⟨rfl, fr68⟩)
theorem up_eq (w : Int32) : s0_W w 7 = (1 <<< nI (nwork w)) - 1 := by
  show (1 <<< ((if 1 < (if w < 8 then w else 8) then (if w < 8 then w else 8) else 1) &&& 31)) - 1 = _
  have key : (if 1 < (if w < 8 then w else 8) then (if w < 8 then w else 8) else 1 : Int32) = nI (nwork w) := by
    by_cases h1 : (1 : Int32) ≤ w
    · by_cases h2 : w ≤ 8
      · rw [← nwork_eq h1 h2]
        by_cases h3 : w < 8
        · rw [if_pos h3]
          by_cases h4 : 1 < w
          · rw [if_pos h4]
          · rw [if_neg h4]
            exact Int32.le_antisymm h1 (Int32.not_lt.mp h4)
        · rw [if_neg h3, if_pos (by decide)]
          exact Int32.le_antisymm (Int32.not_lt.mp h3) h2
      · have h3 : ¬ w < 8 := fun z => h2 (Int32.le_of_lt z)
        rw [if_neg h3, if_pos (by decide)]
        unfold nwork
        rw [if_neg (fun z => z h1), if_neg h2]
        rfl
    · have h2 : w < 8 := Int32.lt_of_lt_of_le (Int32.not_le.mp h1) (by decide)
      have h4 : ¬ 1 < w := fun z => h1 (Int32.le_of_lt z)
      rw [if_pos h2, if_neg h4]
      unfold nwork
      rw [if_pos h1]
      rfl
  rw [key]
  have h := nwork_le w
  generalize nwork w = k at h
  have : k = 0 ∨ k = 1 ∨ k = 2 ∨ k = 3 ∨ k = 4 ∨ k = 5 ∨ k = 6 ∨ k = 7 ∨ k = 8 := by omega
  rcases this with rfl | rfl | rfl | rfl | rfl | rfl | rfl | rfl | rfl <;> decide
theorem up_ne (w : Int32) : ¬ s0_W w 7 &&& (-1) = 0 := by
  rw [up_eq]
  have h := nwork_le w
  have h' := nwork_pos w
  generalize nwork w = k at h h'
  have : k = 1 ∨ k = 2 ∨ k = 3 ∨ k = 4 ∨ k = 5 ∨ k = 6 ∨ k = 7 ∨ k = 8 := by omega
  rcases this with rfl | rfl | rfl | rfl | rfl | rfl | rfl | rfl <;> decide
def sq_W_step  : Int32 := ((-3))
set_option maxRecDepth 20000 in
set_option maxHeartbeats 2000000 in
theorem f_W_step {h : List ab_E}    {x : Nat} {w : Int32}    (h0 : at_W0 h x w) : ab_M y_W_step { frames := 1, cells := 0, slots := 0, locals := 40 } [.ref x] h (ab_A (some (.int (sq_W_step ))) (fun h1 => ab_fr (in_lo x) h h1)) := by
  obtain ⟨hW, hL, hRd, hB, ⟨hP, hN, hBe, hWs, hTk, hRw⟩, hSt, ⟨hG, hG1, hGc, hG2, hG3, hGe, hG4, hG5⟩, ⟨hH, hH1, hHc, hH2, hH3, hHe, hH4, hH5⟩⟩ := h0
  have hW0 := hW; have gwo := hW
  replace gwo : h[x]? = some (.inr (0, [.ref (x + 1), .ref (x + 8), .ref (x + 11), .ref (x + 131), .ref (x + 133), .ref (x + 325), .int 0, .int (s0_W w 7), .int 0])) := gwo
  have hP0 := hP; obtain ⟨gpo, gp4, gp8, gp9, gp10, gp11, gp12, gp13⟩ := hP
  replace gpo : h[x + 11]? = some (.inr (10, [.ref (x + 11 + 1), .int 0, .int 1, .int 0, .ref (x + 11 + 104), .int 0, .ref (x + 11 + 7), .ref (x + 11 + 105), .ref (x + 11 + 114), .ref (x + 11 + 115), .ref (x + 11 + 116), .ref (x + 11 + 117), .ref (x + 11 + 118), .ref (x + 11 + 119)])) := gpo
  replace gp4 : h[x + 11 + 104]? = some (.inl (.int, 256, .inl (fun _ => 0))) := gp4
  replace gp8 : h[x + 11 + 114]? = some (.inl (.boolean, 256, .inl (fun _ => 0))) := gp8
  replace gp9 : h[x + 11 + 115]? = some (.inl (.int, 256, .inl (fun _ => 0))) := gp9
  replace gp10 : h[x + 11 + 116]? = some (.inl (.int, 4, .inl (fun _ => 0))) := gp10
  replace gp11 : h[x + 11 + 117]? = some (.inl (.int, 16, .inl (fun _ => 0))) := gp11
  replace gp12 : h[x + 11 + 118]? = some (.inl (.int, 64, .inl (fun _ => 0))) := gp12
  replace gp13 : h[x + 11 + 119]? = some (.inl (.int, 4, .inl (fun _ => 0))) := gp13
  have hN0 := hN; obtain ⟨gno, gn7, gn8, gn11, gn12, gn14⟩ := hN
  replace gno : h[x + 11 + 1]? = some (.inr (7, [.int 0, .int 0, .int 0, .int 0, .int 0, .int 0, .int 0, .ref (x + 11 + 1 + 1), .ref (x + 11 + 1 + 2), .int 0, .int 0, .ref (x + 11 + 1 + 3), .ref (x + 11 + 1 + 4), .int 0, .ref (x + 11 + 1 + 5), .int 0])) := gno
  replace gn7 : h[x + 11 + 1 + 1]? = some (.inl (.int, 256, .inl (fun _ => 0))) := gn7
  replace gn8 : h[x + 11 + 1 + 2]? = some (.inl (.int, 256, .inl (a0_World 8))) := gn8
  replace gn11 : h[x + 11 + 1 + 3]? = some (.inl (.int, 12288, .inl (fun _ => 0))) := gn11
  replace gn12 : h[x + 11 + 1 + 4]? = some (.inl (.int, 1792, .inl (fun _ => 0))) := gn12
  replace gn14 : h[x + 11 + 1 + 5]? = some (.inl (.int, 32, .inl (fun _ => 0))) := gn14
  refine ab_of2 (lv := [some (.ref x)]) 0 rfl rfl (Nat.le_of_ble_eq_true rfl) ?_
  refine ab_aload_n d_W_step_0 rfl rfl rfl ?_
  refine ab_get (f := 2) d_W_step_1 gwo rfl (by decide) (k3 159 rfl rfl) rfl ?_
  refine ab_callV_a (As := []) (rest := []) d_W_step_4 (r_Play_isFullyAhead gpo gno) (ab_mkC s_Play_isFullyAhead (Nat.le_of_ble_eq_true rfl) (Nat.le_of_ble_eq_true rfl) (by decide) (by decide)) (k6 164 rfl rfl) i_Play_isFullyAhead v_Play_isFullyAhead gpo rfl rfl (Nat.le_of_ble_eq_true rfl) (fun h2 q1 => ?_)
  subst q1
  refine ab_if_eq (tgt := 12) d_W_step_7 (by decide) (fun q3 => ?_) (fun q3 => by exact absurd (by decide) q3)
  refine ab_aload_n d_W_step_12 rfl rfl rfl ?_
  refine ab_get (f := 7) d_W_step_13 gwo rfl (by decide) (k3 164 rfl rfl) rfl ?_
  refine ab_aload_n d_W_step_16 rfl rfl rfl ?_
  refine ab_get (f := 8) d_W_step_17 gwo rfl (by decide) (k3 165 rfl rfl) rfl ?_
  refine ab_iconst (v := (-1)) d_W_step_20 (by decide) ?_
  refine ab_ixor d_W_step_21 ?_
  refine ab_topi (fun x4 ex4 => ?_)
  obtain rfl : x4 = (-1) := ex4.trans (by decide)
  clear ex4
  refine ab_iand d_W_step_22 ?_
  refine ab_if_ne (tgt := 29) d_W_step_23 (by decide) (fun q5 => ?_) (fun q5 => ?_)
  · refine ab_aload_n d_W_step_29 rfl rfl rfl ?_
    refine ab_get (f := 6) d_W_step_30 gwo rfl (by decide) (k3 163 rfl rfl) rfl ?_
    refine ab_if_ne (tgt := 39) d_W_step_33 (by decide) (fun q6 => by exact absurd q6 (by decide)) (fun q6 => ?_)
    refine ab_bipush (v := (-3)) d_W_step_36 (by decide) ?_
    exact ab_iret d_W_step_38 rfl (Nat.le_refl _) (Nat.le_refl _) (by unfold sq_W_step; exact ⟨rfl, (ab_fr_rf _ _)⟩)
  · exact absurd q5 (up_ne w)
def sq_W_isWorker (n : Int32) : Int32 := if n < (0 : Int32) then (0) else if (8 : Int32) ≤ n then (0) else (1)
set_option maxRecDepth 20000 in
set_option maxHeartbeats 2000000 in
theorem r_W_isWorker {h : List ab_E}  {p0 p1 p2 p3 p4 p5 p6 p7 p8 : Value} {x : Nat} {n : Int32}  (po : h[x]? = some (.inr (0, [p0, p1, p2, p3, p4, p5, p6, p7, p8])))  : ab_M y_W_isWorker { frames := 0, cells := 0, slots := 0, locals := 0 } [.ref x, .int n] h (ab_A (some (.int (sq_W_isWorker n))) (fun h1 => h = h1)) := by
  refine ab_of2 (lv := [some (.ref x), some (.int n)]) 0 rfl rfl (Nat.le_of_ble_eq_true rfl) ?_
  refine ab_iload_n d_W_isWorker_0 rfl rfl ?_
  refine ab_if_lt (tgt := 14) d_W_isWorker_1 (by decide) (fun q1 => ?_) (fun q1 => ?_)
  · refine ab_iconst (v := 0) d_W_isWorker_14 (by decide) ?_
    exact ab_zret d_W_isWorker_15 rfl rfl (Nat.le_refl _) (Nat.le_refl _) (by unfold sq_W_isWorker; rw [if_pos q1]; exact ⟨rfl, rfl⟩)
  · refine ab_iload_n d_W_isWorker_4 rfl rfl ?_
    refine ab_bipush (v := 8) d_W_isWorker_5 (by decide) ?_
    refine ab_icmp_ge (tgt := 14) d_W_isWorker_7 (by decide) (fun q2 => ?_) (fun q2 => ?_)
    · refine ab_iconst (v := 0) d_W_isWorker_14 (by decide) ?_
      exact ab_zret d_W_isWorker_15 rfl rfl (Nat.le_refl _) (Nat.le_refl _) (by unfold sq_W_isWorker; rw [if_neg q1]; rw [if_pos q2]; exact ⟨rfl, rfl⟩)
    · refine ab_iconst (v := 1) d_W_isWorker_10 (by decide) ?_
      refine ab_goto (tgt := 15) d_W_isWorker_11 (by decide) ?_
      exact ab_zret d_W_isWorker_15 rfl rfl (Nat.le_refl _) (Nat.le_refl _) (by unfold sq_W_isWorker; rw [if_neg q1]; rw [if_neg q2]; exact ⟨rfl, rfl⟩)
def sq_W_fall (n : Int32) (w : Int32) : Int32 := if (sq_W_isWorker n) = (0 : Int32) then (0) else if (((s0_W w 7) >>> (n &&& 31)) &&& 1) = (0 : Int32) then (0) else if ¬ ((0 >>> (n &&& 31)) &&& 1) = (1 : Int32) then (1) else (0)
set_option maxRecDepth 20000 in
set_option maxHeartbeats 2000000 in
theorem f_W_fall {h : List ab_E}  {x : Nat} {w n : Int32}  (h0 : at_W0 h x w) : ab_M y_W_fall { frames := 1, cells := 0, slots := 0, locals := 40 } [.ref x, .int n] h (ab_A (some (.int (sq_W_fall n w))) (fun h1 => ab_fr (in_lo x) h h1)) := by
  obtain ⟨hW, hL, hRd, hB, ⟨hP, hN, hBe, hWs, hTk, hRw⟩, hSt, ⟨hG, hG1, hGc, hG2, hG3, hGe, hG4, hG5⟩, ⟨hH, hH1, hHc, hH2, hH3, hHe, hH4, hH5⟩⟩ := h0
  have hW0 := hW; have gwo := hW
  replace gwo : h[x]? = some (.inr (0, [.ref (x + 1), .ref (x + 8), .ref (x + 11), .ref (x + 131), .ref (x + 133), .ref (x + 325), .int 0, .int (s0_W w 7), .int 0])) := gwo
  refine ab_of2 (lv := [some (.ref x), some (.int n)]) 0 rfl rfl (Nat.le_of_ble_eq_true rfl) ?_
  refine ab_aload_n d_W_fall_0 rfl rfl rfl ?_
  refine ab_iload_n d_W_fall_1 rfl rfl ?_
  refine ab_callV_a (As := [.int n]) (rest := []) d_W_fall_2 (r_W_isWorker gwo) (ab_mkC s_W_isWorker (Nat.le_of_ble_eq_true rfl) (Nat.le_of_ble_eq_true rfl) (by decide) (by decide)) (k8 99 rfl rfl) i_W_isWorker v_W_isWorker gwo rfl rfl (Nat.le_of_ble_eq_true rfl) (fun h2 q1 => ?_)
  subst q1
  refine ab_if_eq (tgt := 31) d_W_fall_5 (by decide) (fun q3 => ?_) (fun q3 => ?_)
  · refine ab_iconst (v := 0) d_W_fall_31 (by decide) ?_
    exact ab_zret d_W_fall_32 rfl rfl (Nat.le_refl _) (Nat.le_refl _) (by unfold sq_W_fall; rw [if_pos q3]; exact ⟨rfl, (ab_fr_rf _ _)⟩)
  · refine ab_aload_n d_W_fall_8 rfl rfl rfl ?_
    refine ab_get (f := 7) d_W_fall_9 gwo rfl (by decide) (k3 164 rfl rfl) rfl ?_
    refine ab_iload_n d_W_fall_12 rfl rfl ?_
    refine ab_ishr d_W_fall_13 ?_
    refine ab_iconst (v := 1) d_W_fall_14 (by decide) ?_
    refine ab_iand d_W_fall_15 ?_
    refine ab_if_eq (tgt := 31) d_W_fall_16 (by decide) (fun q4 => ?_) (fun q4 => ?_)
    · refine ab_iconst (v := 0) d_W_fall_31 (by decide) ?_
      exact ab_zret d_W_fall_32 rfl rfl (Nat.le_refl _) (Nat.le_refl _) (by unfold sq_W_fall; rw [if_neg q3]; rw [if_pos q4]; exact ⟨rfl, (ab_fr_rf _ _)⟩)
    · refine ab_aload_n d_W_fall_19 rfl rfl rfl ?_
      refine ab_get (f := 8) d_W_fall_20 gwo rfl (by decide) (k3 165 rfl rfl) rfl ?_
      refine ab_iload_n d_W_fall_23 rfl rfl ?_
      refine ab_ishr d_W_fall_24 ?_
      refine ab_iconst (v := 1) d_W_fall_25 (by decide) ?_
      refine ab_iand d_W_fall_26 ?_
      refine ab_iconst (v := 1) d_W_fall_27 (by decide) ?_
      refine ab_icmp_ne (tgt := 33) d_W_fall_28 (by decide) (fun q5 => ?_) (fun q5 => ?_)
      · refine ab_aload_n d_W_fall_33 rfl rfl rfl ?_
        refine ab_dup d_W_fall_34 rfl ?_
        refine ab_get (f := 8) d_W_fall_35 gwo rfl (by decide) (k3 165 rfl rfl) rfl ?_
        refine ab_iconst (v := 1) d_W_fall_38 (by decide) ?_
        refine ab_iload_n d_W_fall_39 rfl rfl ?_
        refine ab_ishl d_W_fall_40 ?_
        refine ab_ior d_W_fall_41 ?_
        refine ab_topi (fun x6 ex6 => ?_)
        refine ab_put (f := 8) d_W_fall_42 gwo rfl (by decide) (k3 165 rfl rfl) rfl rfl (fun _ => rfl) (fun _ => rfl) (Nat.le_of_ble_eq_true rfl) ?_
        show ab_V _ _ _ _ _ _ _ 45 [some (.ref x), some (.int n)] [] (h.set x (.inr (0, [.ref (x + 1), .ref (x + 8), .ref (x + 11), .ref (x + 131), .ref (x + 133), .ref (x + 325), .int 0, .int (s0_W w 7), .int x6])))
        refine ab_gen (fun h7 e8 => ?_)
        have c9 : h7[x]? = some (.inr (0, [.ref (x + 1), .ref (x + 8), .ref (x + 11), .ref (x + 131), .ref (x + 133), .ref (x + 325), .int 0, .int (s0_W w 7), .int x6])) := ab_self e8 gwo
        have fr10 : ab_fr (in_lo x) h h7 := ab_fr_set (ab_fr_rf _ _) e8 (by (show _ < _; omega))
        clear e8
        refine ab_iconst (v := 1) d_W_fall_45 (by decide) ?_
        exact ab_zret d_W_fall_46 rfl rfl (Nat.le_refl _) (Nat.le_refl _) (by subst ex6; unfold sq_W_fall; rw [if_neg q3]; rw [if_neg q4]; rw [if_pos q5]; exact ⟨rfl, fr10⟩)
      · refine ab_iconst (v := 0) d_W_fall_31 (by decide) ?_
        exact ab_zret d_W_fall_32 rfl rfl (Nat.le_refl _) (Nat.le_refl _) (by unfold sq_W_fall; rw [if_neg q3]; rw [if_neg q4]; rw [if_neg (fun z => z q5)]; exact ⟨rfl, (ab_fr_rf _ _)⟩)
def sq_W_stand (n : Int32) (w : Int32) : Int32 := if ¬ (sq_W_isWorker n) = (0 : Int32) then if ¬ ((((s0_W w 7) &&& (-1)) >>> (n &&& 31)) &&& 1) = (1 : Int32) then (1) else (0) else (0)
set_option maxRecDepth 20000 in
set_option maxHeartbeats 2000000 in
theorem f_W_stand {h : List ab_E}  {x : Nat} {w n : Int32}  (h0 : at_W0 h x w) : ab_M y_W_stand { frames := 1, cells := 0, slots := 0, locals := 40 } [.ref x, .int n] h (ab_A (some (.int (sq_W_stand n w))) (fun h1 => ab_fr (in_lo x) h h1)) := by
  obtain ⟨hW, hL, hRd, hB, ⟨hP, hN, hBe, hWs, hTk, hRw⟩, hSt, ⟨hG, hG1, hGc, hG2, hG3, hGe, hG4, hG5⟩, ⟨hH, hH1, hHc, hH2, hH3, hHe, hH4, hH5⟩⟩ := h0
  have hW0 := hW; have gwo := hW
  replace gwo : h[x]? = some (.inr (0, [.ref (x + 1), .ref (x + 8), .ref (x + 11), .ref (x + 131), .ref (x + 133), .ref (x + 325), .int 0, .int (s0_W w 7), .int 0])) := gwo
  refine ab_of2 (lv := [some (.ref x), some (.int n)]) 0 rfl rfl (Nat.le_of_ble_eq_true rfl) ?_
  refine ab_aload_n d_W_stand_0 rfl rfl rfl ?_
  refine ab_iload_n d_W_stand_1 rfl rfl ?_
  refine ab_callV_a (As := [.int n]) (rest := []) d_W_stand_2 (r_W_isWorker gwo) (ab_mkC s_W_isWorker (Nat.le_of_ble_eq_true rfl) (Nat.le_of_ble_eq_true rfl) (by decide) (by decide)) (k8 99 rfl rfl) i_W_isWorker v_W_isWorker gwo rfl rfl (Nat.le_of_ble_eq_true rfl) (fun h2 q1 => ?_)
  subst q1
  refine ab_if_ne (tgt := 10) d_W_stand_5 (by decide) (fun q3 => ?_) (fun q3 => ?_)
  · refine ab_aload_n d_W_stand_10 rfl rfl rfl ?_
    refine ab_get (f := 7) d_W_stand_11 gwo rfl (by decide) (k3 164 rfl rfl) rfl ?_
    refine ab_aload_n d_W_stand_14 rfl rfl rfl ?_
    refine ab_get (f := 8) d_W_stand_15 gwo rfl (by decide) (k3 165 rfl rfl) rfl ?_
    refine ab_iconst (v := (-1)) d_W_stand_18 (by decide) ?_
    refine ab_ixor d_W_stand_19 ?_
    refine ab_topi (fun x4 ex4 => ?_)
    obtain rfl : x4 = (-1) := ex4.trans (by decide)
    clear ex4
    refine ab_iand d_W_stand_20 ?_
    refine ab_iload_n d_W_stand_21 rfl rfl ?_
    refine ab_ishr d_W_stand_22 ?_
    refine ab_iconst (v := 1) d_W_stand_23 (by decide) ?_
    refine ab_iand d_W_stand_24 ?_
    refine ab_iconst (v := 1) d_W_stand_25 (by decide) ?_
    refine ab_icmp_ne (tgt := 31) d_W_stand_26 (by decide) (fun q5 => ?_) (fun q5 => ?_)
    · refine ab_aload_n d_W_stand_31 rfl rfl rfl ?_
      refine ab_dup d_W_stand_32 rfl ?_
      refine ab_get (f := 7) d_W_stand_33 gwo rfl (by decide) (k3 164 rfl rfl) rfl ?_
      refine ab_iconst (v := 1) d_W_stand_36 (by decide) ?_
      refine ab_iload_n d_W_stand_37 rfl rfl ?_
      refine ab_ishl d_W_stand_38 ?_
      refine ab_ior d_W_stand_39 ?_
      refine ab_topi (fun x6 ex6 => ?_)
      refine ab_put (f := 7) d_W_stand_40 gwo rfl (by decide) (k3 164 rfl rfl) rfl rfl (fun _ => rfl) (fun _ => rfl) (Nat.le_of_ble_eq_true rfl) ?_
      show ab_V _ _ _ _ _ _ _ 43 [some (.ref x), some (.int n)] [] (h.set x (.inr (0, [.ref (x + 1), .ref (x + 8), .ref (x + 11), .ref (x + 131), .ref (x + 133), .ref (x + 325), .int 0, .int x6, .int 0])))
      refine ab_gen (fun h7 e8 => ?_)
      have c9 : h7[x]? = some (.inr (0, [.ref (x + 1), .ref (x + 8), .ref (x + 11), .ref (x + 131), .ref (x + 133), .ref (x + 325), .int 0, .int x6, .int 0])) := ab_self e8 gwo
      have fr10 : ab_fr (in_lo x) h h7 := ab_fr_set (ab_fr_rf _ _) e8 (by (show _ < _; omega))
      clear e8
      refine ab_aload_n d_W_stand_43 rfl rfl rfl ?_
      refine ab_dup d_W_stand_44 rfl ?_
      refine ab_get (f := 8) d_W_stand_45 c9 rfl (by decide) (k3 165 rfl rfl) rfl ?_
      refine ab_iconst (v := 1) d_W_stand_48 (by decide) ?_
      refine ab_iload_n d_W_stand_49 rfl rfl ?_
      refine ab_ishl d_W_stand_50 ?_
      refine ab_iconst (v := (-1)) d_W_stand_51 (by decide) ?_
      refine ab_ixor d_W_stand_52 ?_
      refine ab_iand d_W_stand_53 ?_
      refine ab_topi (fun x11 ex11 => ?_)
      refine ab_put (f := 8) d_W_stand_54 c9 rfl (by decide) (k3 165 rfl rfl) rfl rfl (fun _ => rfl) (fun _ => rfl) (Nat.le_of_ble_eq_true rfl) ?_
      show ab_V _ _ _ _ _ _ _ 57 [some (.ref x), some (.int n)] [] (h7.set x (.inr (0, [.ref (x + 1), .ref (x + 8), .ref (x + 11), .ref (x + 131), .ref (x + 133), .ref (x + 325), .int 0, .int x6, .int x11])))
      refine ab_gen (fun h12 e13 => ?_)
      have c14 : h12[x]? = some (.inr (0, [.ref (x + 1), .ref (x + 8), .ref (x + 11), .ref (x + 131), .ref (x + 133), .ref (x + 325), .int 0, .int x6, .int x11])) := ab_self e13 c9
      have fr15 : ab_fr (in_lo x) h h12 := ab_fr_set fr10 e13 (by (show _ < _; omega))
      clear c9 fr10 e13
      try clear h7
      refine ab_iconst (v := 1) d_W_stand_57 (by decide) ?_
      exact ab_zret d_W_stand_58 rfl rfl (Nat.le_refl _) (Nat.le_refl _) (by subst ex6; subst ex11; unfold sq_W_stand; rw [if_pos q3]; rw [if_pos q5]; exact ⟨rfl, fr15⟩)
    · refine ab_iconst (v := 0) d_W_stand_29 (by decide) ?_
      exact ab_zret d_W_stand_30 rfl rfl (Nat.le_refl _) (Nat.le_refl _) (by unfold sq_W_stand; rw [if_pos q3]; rw [if_neg (fun z => z q5)]; exact ⟨rfl, (ab_fr_rf _ _)⟩)
  · refine ab_iconst (v := 0) d_W_stand_8 (by decide) ?_
    exact ab_zret d_W_stand_9 rfl rfl (Nat.le_refl _) (Nat.le_refl _) (by unfold sq_W_stand; rw [if_neg (fun z => z q3)]; exact ⟨rfl, (ab_fr_rf _ _)⟩)
def sq_bitCount (v : Int32) : Int32 := ((((((((v - (((v.toUInt32 >>> ((1 : Int32).toUInt32 &&& Int32.toUInt32 31)).toInt32) &&& 1431655765)) &&& 858993459) + ((((v - (((v.toUInt32 >>> ((1 : Int32).toUInt32 &&& Int32.toUInt32 31)).toInt32) &&& 1431655765)).toUInt32 >>> ((2 : Int32).toUInt32 &&& Int32.toUInt32 31)).toInt32) &&& 858993459)) + (((((v - (((v.toUInt32 >>> ((1 : Int32).toUInt32 &&& Int32.toUInt32 31)).toInt32) &&& 1431655765)) &&& 858993459) + ((((v - (((v.toUInt32 >>> ((1 : Int32).toUInt32 &&& Int32.toUInt32 31)).toInt32) &&& 1431655765)).toUInt32 >>> ((2 : Int32).toUInt32 &&& Int32.toUInt32 31)).toInt32) &&& 858993459)).toUInt32 >>> ((4 : Int32).toUInt32 &&& Int32.toUInt32 31)).toInt32)) &&& 252645135) + (((((((v - (((v.toUInt32 >>> ((1 : Int32).toUInt32 &&& Int32.toUInt32 31)).toInt32) &&& 1431655765)) &&& 858993459) + ((((v - (((v.toUInt32 >>> ((1 : Int32).toUInt32 &&& Int32.toUInt32 31)).toInt32) &&& 1431655765)).toUInt32 >>> ((2 : Int32).toUInt32 &&& Int32.toUInt32 31)).toInt32) &&& 858993459)) + (((((v - (((v.toUInt32 >>> ((1 : Int32).toUInt32 &&& Int32.toUInt32 31)).toInt32) &&& 1431655765)) &&& 858993459) + ((((v - (((v.toUInt32 >>> ((1 : Int32).toUInt32 &&& Int32.toUInt32 31)).toInt32) &&& 1431655765)).toUInt32 >>> ((2 : Int32).toUInt32 &&& Int32.toUInt32 31)).toInt32) &&& 858993459)).toUInt32 >>> ((4 : Int32).toUInt32 &&& Int32.toUInt32 31)).toInt32)) &&& 252645135).toUInt32 >>> ((8 : Int32).toUInt32 &&& Int32.toUInt32 31)).toInt32)) + ((((((((v - (((v.toUInt32 >>> ((1 : Int32).toUInt32 &&& Int32.toUInt32 31)).toInt32) &&& 1431655765)) &&& 858993459) + ((((v - (((v.toUInt32 >>> ((1 : Int32).toUInt32 &&& Int32.toUInt32 31)).toInt32) &&& 1431655765)).toUInt32 >>> ((2 : Int32).toUInt32 &&& Int32.toUInt32 31)).toInt32) &&& 858993459)) + (((((v - (((v.toUInt32 >>> ((1 : Int32).toUInt32 &&& Int32.toUInt32 31)).toInt32) &&& 1431655765)) &&& 858993459) + ((((v - (((v.toUInt32 >>> ((1 : Int32).toUInt32 &&& Int32.toUInt32 31)).toInt32) &&& 1431655765)).toUInt32 >>> ((2 : Int32).toUInt32 &&& Int32.toUInt32 31)).toInt32) &&& 858993459)).toUInt32 >>> ((4 : Int32).toUInt32 &&& Int32.toUInt32 31)).toInt32)) &&& 252645135) + (((((((v - (((v.toUInt32 >>> ((1 : Int32).toUInt32 &&& Int32.toUInt32 31)).toInt32) &&& 1431655765)) &&& 858993459) + ((((v - (((v.toUInt32 >>> ((1 : Int32).toUInt32 &&& Int32.toUInt32 31)).toInt32) &&& 1431655765)).toUInt32 >>> ((2 : Int32).toUInt32 &&& Int32.toUInt32 31)).toInt32) &&& 858993459)) + (((((v - (((v.toUInt32 >>> ((1 : Int32).toUInt32 &&& Int32.toUInt32 31)).toInt32) &&& 1431655765)) &&& 858993459) + ((((v - (((v.toUInt32 >>> ((1 : Int32).toUInt32 &&& Int32.toUInt32 31)).toInt32) &&& 1431655765)).toUInt32 >>> ((2 : Int32).toUInt32 &&& Int32.toUInt32 31)).toInt32) &&& 858993459)).toUInt32 >>> ((4 : Int32).toUInt32 &&& Int32.toUInt32 31)).toInt32)) &&& 252645135).toUInt32 >>> ((8 : Int32).toUInt32 &&& Int32.toUInt32 31)).toInt32)).toUInt32 >>> ((16 : Int32).toUInt32 &&& Int32.toUInt32 31)).toInt32)) &&& 63)
set_option maxRecDepth 20000 in
set_option maxHeartbeats 2000000 in
theorem r_bitCount {h : List ab_E}  {v : Int32}   : ab_M y_Integer_bitCount { frames := 0, cells := 0, slots := 0, locals := 0 } [.int v] h (ab_A (some (.int (sq_bitCount v))) (fun h1 => h = h1)) := by
  refine ab_of2 (lv := [some (.int v)]) 0 rfl (by decide +kernel) (Nat.le_of_ble_eq_true rfl) ?_
  refine ab_iload_n d_Integer_bitCount_0 rfl rfl ?_
  refine ab_iload_n d_Integer_bitCount_1 rfl rfl ?_
  refine ab_iconst (v := 1) d_Integer_bitCount_2 (by decide) ?_
  refine ab_iushr d_Integer_bitCount_3 ?_
  refine ab_ldcw d_Integer_bitCount_4 (k5 70 rfl rfl) ?_
  refine ab_iand d_Integer_bitCount_7 ?_
  refine ab_isub d_Integer_bitCount_8 ?_
  refine ab_topi (fun x1 ex1 => ?_)
  refine ab_istore_n (lv' := [some (.int x1)]) d_Integer_bitCount_9 rfl (by decide) rfl ?_
  refine ab_iload_n d_Integer_bitCount_10 rfl rfl ?_
  refine ab_ldcw d_Integer_bitCount_11 (k5 71 rfl rfl) ?_
  refine ab_iand d_Integer_bitCount_14 ?_
  refine ab_iload_n d_Integer_bitCount_15 rfl rfl ?_
  refine ab_iconst (v := 2) d_Integer_bitCount_16 (by decide) ?_
  refine ab_iushr d_Integer_bitCount_17 ?_
  refine ab_ldcw d_Integer_bitCount_18 (k5 71 rfl rfl) ?_
  refine ab_iand d_Integer_bitCount_21 ?_
  refine ab_iadd d_Integer_bitCount_22 ?_
  refine ab_topi (fun x2 ex2 => ?_)
  refine ab_istore_n (lv' := [some (.int x2)]) d_Integer_bitCount_23 rfl (by decide) rfl ?_
  refine ab_iload_n d_Integer_bitCount_24 rfl rfl ?_
  refine ab_iload_n d_Integer_bitCount_25 rfl rfl ?_
  refine ab_iconst (v := 4) d_Integer_bitCount_26 (by decide) ?_
  refine ab_iushr d_Integer_bitCount_27 ?_
  refine ab_iadd d_Integer_bitCount_28 ?_
  refine ab_ldcw d_Integer_bitCount_29 (k5 72 rfl rfl) ?_
  refine ab_iand d_Integer_bitCount_32 ?_
  refine ab_topi (fun x3 ex3 => ?_)
  refine ab_istore_n (lv' := [some (.int x3)]) d_Integer_bitCount_33 rfl (by decide) rfl ?_
  refine ab_iload_n d_Integer_bitCount_34 rfl rfl ?_
  refine ab_iload_n d_Integer_bitCount_35 rfl rfl ?_
  refine ab_bipush (v := 8) d_Integer_bitCount_36 (by decide) ?_
  refine ab_iushr d_Integer_bitCount_38 ?_
  refine ab_iadd d_Integer_bitCount_39 ?_
  refine ab_topi (fun x4 ex4 => ?_)
  refine ab_istore_n (lv' := [some (.int x4)]) d_Integer_bitCount_40 rfl (by decide) rfl ?_
  refine ab_iload_n d_Integer_bitCount_41 rfl rfl ?_
  refine ab_iload_n d_Integer_bitCount_42 rfl rfl ?_
  refine ab_bipush (v := 16) d_Integer_bitCount_43 (by decide) ?_
  refine ab_iushr d_Integer_bitCount_45 ?_
  refine ab_iadd d_Integer_bitCount_46 ?_
  refine ab_topi (fun x5 ex5 => ?_)
  refine ab_istore_n (lv' := [some (.int x5)]) d_Integer_bitCount_47 rfl (by decide) rfl ?_
  refine ab_iload_n d_Integer_bitCount_48 rfl rfl ?_
  refine ab_bipush (v := 63) d_Integer_bitCount_49 (by decide) ?_
  refine ab_iand d_Integer_bitCount_51 ?_
  exact ab_iret d_Integer_bitCount_52 rfl (Nat.le_refl _) (Nat.le_refl _) (by subst ex1; subst ex2; subst ex3; subst ex4; subst ex5; unfold sq_bitCount; exact ⟨rfl, rfl⟩)
def sq_W_look (n : Int32) (w : Int32) : Int32 := if n = (0 : Int32) then (0) else if n = (1 : Int32) then (0) else if n = (2 : Int32) then (0) else if n = (3 : Int32) then (0) else if n = (4 : Int32) then (0) else if n = (5 : Int32) then (0) else if n = (6 : Int32) then (0) else if n = (7 : Int32) then (0) else if n = (8 : Int32) then (0) else if n = (9 : Int32) then (0) else if n = (10 : Int32) then (0) else if n = (11 : Int32) then (sq_bitCount (s0_W w 7)) else if n = (12 : Int32) then (0) else if n = (13 : Int32) then (0) else if n = (14 : Int32) then (1) else ((-1))
set_option maxRecDepth 20000 in
set_option maxHeartbeats 2000000 in
theorem f_W_look {h : List ab_E}        {x : Nat} {w n : Int32}        (h0 : at_W0 h x w) : ab_M y_W_look { frames := 1, cells := 0, slots := 0, locals := 40 } [.ref x, .int n] h (ab_A (some (.int (sq_W_look n w))) (fun h1 => ab_fr (in_lo x) h h1)) := by
  obtain ⟨hW, hL, hRd, hB, ⟨hP, hN, hBe, hWs, hTk, hRw⟩, hSt, ⟨hG, hG1, hGc, hG2, hG3, hGe, hG4, hG5⟩, ⟨hH, hH1, hHc, hH2, hH3, hHe, hH4, hH5⟩⟩ := h0
  have hW0 := hW; have gwo := hW
  replace gwo : h[x]? = some (.inr (0, [.ref (x + 1), .ref (x + 8), .ref (x + 11), .ref (x + 131), .ref (x + 133), .ref (x + 325), .int 0, .int (s0_W w 7), .int 0])) := gwo
  have hL0 := hL; obtain ⟨glo, gl0, gl6, gl7, gl8, gl9, gl12⟩ := hL
  replace glo : h[x + 1]? = some (.inr (1, [.ref (x + 1 + 1), .int 0, .int 0, .int 0, .int 0, .int 0, .ref (x + 1 + 2), .ref (x + 1 + 3), .ref (x + 1 + 4), .ref (x + 1 + 5), .int 0, .int 0, .ref (x + 1 + 6)])) := glo
  replace gl0 : h[x + 1 + 1]? = some (.inl (.byte, 6000, .inl (fun _ => 0))) := gl0
  replace gl6 : h[x + 1 + 2]? = some (.inl (.int, 6001, .inl (fun _ => 0))) := gl6
  replace gl7 : h[x + 1 + 3]? = some (.inl (.int, 6001, .inl (fun _ => 0))) := gl7
  replace gl8 : h[x + 1 + 4]? = some (.inl (.int, 6001, .inl (fun _ => 0))) := gl8
  replace gl9 : h[x + 1 + 5]? = some (.inl (.boolean, 6001, .inl (fun _ => 0))) := gl9
  replace gl12 : h[x + 1 + 6]? = some (.inl (.int, 42, .inl (a0_Lexer 12))) := gl12
  have hP0 := hP; obtain ⟨gpo, gp4, gp8, gp9, gp10, gp11, gp12, gp13⟩ := hP
  replace gpo : h[x + 11]? = some (.inr (10, [.ref (x + 11 + 1), .int 0, .int 1, .int 0, .ref (x + 11 + 104), .int 0, .ref (x + 11 + 7), .ref (x + 11 + 105), .ref (x + 11 + 114), .ref (x + 11 + 115), .ref (x + 11 + 116), .ref (x + 11 + 117), .ref (x + 11 + 118), .ref (x + 11 + 119)])) := gpo
  replace gp4 : h[x + 11 + 104]? = some (.inl (.int, 256, .inl (fun _ => 0))) := gp4
  replace gp8 : h[x + 11 + 114]? = some (.inl (.boolean, 256, .inl (fun _ => 0))) := gp8
  replace gp9 : h[x + 11 + 115]? = some (.inl (.int, 256, .inl (fun _ => 0))) := gp9
  replace gp10 : h[x + 11 + 116]? = some (.inl (.int, 4, .inl (fun _ => 0))) := gp10
  replace gp11 : h[x + 11 + 117]? = some (.inl (.int, 16, .inl (fun _ => 0))) := gp11
  replace gp12 : h[x + 11 + 118]? = some (.inl (.int, 64, .inl (fun _ => 0))) := gp12
  replace gp13 : h[x + 11 + 119]? = some (.inl (.int, 4, .inl (fun _ => 0))) := gp13
  have hN0 := hN; obtain ⟨gno, gn7, gn8, gn11, gn12, gn14⟩ := hN
  replace gno : h[x + 11 + 1]? = some (.inr (7, [.int 0, .int 0, .int 0, .int 0, .int 0, .int 0, .int 0, .ref (x + 11 + 1 + 1), .ref (x + 11 + 1 + 2), .int 0, .int 0, .ref (x + 11 + 1 + 3), .ref (x + 11 + 1 + 4), .int 0, .ref (x + 11 + 1 + 5), .int 0])) := gno
  replace gn7 : h[x + 11 + 1 + 1]? = some (.inl (.int, 256, .inl (fun _ => 0))) := gn7
  replace gn8 : h[x + 11 + 1 + 2]? = some (.inl (.int, 256, .inl (a0_World 8))) := gn8
  replace gn11 : h[x + 11 + 1 + 3]? = some (.inl (.int, 12288, .inl (fun _ => 0))) := gn11
  replace gn12 : h[x + 11 + 1 + 4]? = some (.inl (.int, 1792, .inl (fun _ => 0))) := gn12
  replace gn14 : h[x + 11 + 1 + 5]? = some (.inl (.int, 32, .inl (fun _ => 0))) := gn14
  have hSt0 := hSt; obtain ⟨gsto, gst0⟩ := hSt
  replace gsto : h[x + 131]? = some (.inr (11, [.ref (x + 131 + 1), .int 0, .int 0, .int 0, .int 0, .int 0])) := gsto
  replace gst0 : h[x + 131 + 1]? = some (.inl (.byte, 60000, .inl (fun _ => 0))) := gst0
  have hG0 := hG; obtain ⟨ggo, gg5, gg6, gg8, gg9, gg10, gg11, gg12, gg13, gg14, gg16⟩ := hG
  replace ggo : h[x + 133]? = some (.inr (4, [.ref (x + 133 + 1), .int 0, .ref (x + 133 + 70), .ref (x + 133 + 138), .int 0, .ref (x + 133 + 182), .ref (x + 133 + 183), .int 0, .ref (x + 133 + 184), .ref (x + 133 + 185), .ref (x + 133 + 186), .ref (x + 133 + 187), .ref (x + 133 + 188), .ref (x + 133 + 189), .ref (x + 133 + 190), .int 0, .ref (x + 133 + 191), .int 0])) := ggo
  replace gg5 : h[x + 133 + 182]? = some (.inl (.int, 16, .inl (fun _ => 0))) := gg5
  replace gg6 : h[x + 133 + 183]? = some (.inl (.int, 768, .inl (fun _ => 0))) := gg6
  replace gg8 : h[x + 133 + 184]? = some (.inl (.int, 16, .inl (fun _ => 0))) := gg8
  replace gg9 : h[x + 133 + 185]? = some (.inl (.int, 16, .inl (fun _ => 0))) := gg9
  replace gg10 : h[x + 133 + 186]? = some (.inl (.int, 16, .inl (fun _ => 0))) := gg10
  replace gg11 : h[x + 133 + 187]? = some (.inl (.int, 16, .inl (fun _ => 0))) := gg11
  replace gg12 : h[x + 133 + 188]? = some (.inl (.int, 16, .inl (fun _ => 0))) := gg12
  replace gg13 : h[x + 133 + 189]? = some (.inl (.int, 16, .inl (fun _ => 0))) := gg13
  replace gg14 : h[x + 133 + 190]? = some (.inl (.int, 16, .inl (fun _ => 0))) := gg14
  replace gg16 : h[x + 133 + 191]? = some (.inl (.int, 12000, .inl (fun _ => 0))) := gg16
  have hGc0 := hGc; obtain ⟨gco, gc2⟩ := hGc
  replace gco : h[x + 133 + 70]? = some (.inr (3, [.ref (x + 133 + 70 + 1), .ref (x + 133 + 70 + 18), .ref (x + 133 + 70 + 67), .int 0])) := gco
  replace gc2 : h[x + 133 + 70 + 67]? = some (.inl (.int, 17, .inl (fun _ => 0))) := gc2
  refine ab_of2 (lv := [some (.ref x), some (.int n)]) 0 rfl rfl (Nat.le_of_ble_eq_true rfl) ?_
  refine ab_iload_n d_W_look_0 rfl rfl ?_
  by_cases t1 : n = 0
  · refine ab_tableIn (off := 75) (tgt := 76) d_W_look_1 (by rw [t1]; decide) (by rw [t1]; decide) (by rw [t1]; decide) (by decide) ?_
    refine ab_aload_n d_W_look_76 rfl rfl rfl ?_
    refine ab_get (f := 4) d_W_look_77 gwo rfl (by decide) (k3 161 rfl rfl) rfl ?_
    refine ab_get (f := 7) d_W_look_80 ggo rfl (by decide) (k3 82 rfl rfl) rfl ?_
    exact ab_iret d_W_look_83 rfl (Nat.le_refl _) (Nat.le_refl _) (by unfold sq_W_look; rw [if_pos t1]; exact ⟨rfl, (ab_fr_rf _ _)⟩)
  by_cases t2 : n = 1
  · refine ab_tableIn (off := 83) (tgt := 84) d_W_look_1 (by rw [t2]; decide) (by rw [t2]; decide) (by rw [t2]; decide) (by decide) ?_
    refine ab_aload_n d_W_look_84 rfl rfl rfl ?_
    refine ab_get (f := 4) d_W_look_85 gwo rfl (by decide) (k3 161 rfl rfl) rfl ?_
    refine ab_get (f := 2) d_W_look_88 ggo rfl (by decide) (k3 57 rfl rfl) rfl ?_
    refine ab_get (f := 3) d_W_look_91 gco rfl (by decide) (k3 42 rfl rfl) rfl ?_
    exact ab_iret d_W_look_94 rfl (Nat.le_refl _) (Nat.le_refl _) (by unfold sq_W_look; rw [if_neg t1]; rw [if_pos t2]; exact ⟨rfl, (ab_fr_rf _ _)⟩)
  by_cases t3 : n = 2
  · refine ab_tableIn (off := 94) (tgt := 95) d_W_look_1 (by rw [t3]; decide) (by rw [t3]; decide) (by rw [t3]; decide) (by decide) ?_
    refine ab_aload_n d_W_look_95 rfl rfl rfl ?_
    refine ab_get (f := 2) d_W_look_96 gwo rfl (by decide) (k3 159 rfl rfl) rfl ?_
    refine ab_get (f := 0) d_W_look_99 gpo rfl (by decide) (k2 131 rfl rfl) rfl ?_
    refine ab_get (f := 0) d_W_look_102 gno rfl (by decide) (k1 208 rfl rfl) rfl ?_
    exact ab_iret d_W_look_105 rfl (Nat.le_refl _) (Nat.le_refl _) (by unfold sq_W_look; rw [if_neg t1]; rw [if_neg t2]; rw [if_pos t3]; exact ⟨rfl, (ab_fr_rf _ _)⟩)
  by_cases t4 : n = 3
  · refine ab_tableIn (off := 105) (tgt := 106) d_W_look_1 (by rw [t4]; decide) (by rw [t4]; decide) (by rw [t4]; decide) (by decide) ?_
    refine ab_aload_n d_W_look_106 rfl rfl rfl ?_
    refine ab_get (f := 2) d_W_look_107 gwo rfl (by decide) (k3 159 rfl rfl) rfl ?_
    refine ab_get (f := 1) d_W_look_110 gpo rfl (by decide) (k2 133 rfl rfl) rfl ?_
    exact ab_iret d_W_look_113 rfl (Nat.le_refl _) (Nat.le_refl _) (by unfold sq_W_look; rw [if_neg t1]; rw [if_neg t2]; rw [if_neg t3]; rw [if_pos t4]; exact ⟨rfl, (ab_fr_rf _ _)⟩)
  by_cases t5 : n = 4
  · refine ab_tableIn (off := 113) (tgt := 114) d_W_look_1 (by rw [t5]; decide) (by rw [t5]; decide) (by rw [t5]; decide) (by decide) ?_
    refine ab_aload_n d_W_look_114 rfl rfl rfl ?_
    refine ab_get (f := 2) d_W_look_115 gwo rfl (by decide) (k3 159 rfl rfl) rfl ?_
    refine ab_get (f := 0) d_W_look_118 gpo rfl (by decide) (k2 131 rfl rfl) rfl ?_
    refine ab_callV_a (As := []) (rest := []) d_W_look_121 (r_World_entityCount gno) (ab_mkC s_World_entityCount (Nat.le_of_ble_eq_true rfl) (Nat.le_of_ble_eq_true rfl) (by decide) (by decide)) (k7 227 rfl rfl) i_World_entityCount v_World_entityCount gno rfl rfl (Nat.le_of_ble_eq_true rfl) (fun h7 q6 => ?_)
    subst q6
    exact ab_iret d_W_look_124 rfl (Nat.le_refl _) (Nat.le_refl _) (by unfold sq_W_look; rw [if_neg t1]; rw [if_neg t2]; rw [if_neg t3]; rw [if_neg t4]; rw [if_pos t5]; exact ⟨rfl, (ab_fr_rf _ _)⟩)
  by_cases t8 : n = 5
  · refine ab_tableIn (off := 124) (tgt := 125) d_W_look_1 (by rw [t8]; decide) (by rw [t8]; decide) (by rw [t8]; decide) (by decide) ?_
    refine ab_aload_n d_W_look_125 rfl rfl rfl ?_
    refine ab_get (f := 2) d_W_look_126 gwo rfl (by decide) (k3 159 rfl rfl) rfl ?_
    refine ab_get (f := 0) d_W_look_129 gpo rfl (by decide) (k2 131 rfl rfl) rfl ?_
    refine ab_get (f := 13) d_W_look_132 gno rfl (by decide) (k2 7 rfl rfl) rfl ?_
    exact ab_iret d_W_look_135 rfl (Nat.le_refl _) (Nat.le_refl _) (by unfold sq_W_look; rw [if_neg t1]; rw [if_neg t2]; rw [if_neg t3]; rw [if_neg t4]; rw [if_neg t5]; rw [if_pos t8]; exact ⟨rfl, (ab_fr_rf _ _)⟩)
  by_cases t9 : n = 6
  · refine ab_tableIn (off := 135) (tgt := 136) d_W_look_1 (by rw [t9]; decide) (by rw [t9]; decide) (by rw [t9]; decide) (by decide) ?_
    refine ab_aload_n d_W_look_136 rfl rfl rfl ?_
    refine ab_get (f := 2) d_W_look_137 gwo rfl (by decide) (k3 159 rfl rfl) rfl ?_
    refine ab_get (f := 0) d_W_look_140 gpo rfl (by decide) (k2 131 rfl rfl) rfl ?_
    refine ab_get (f := 2) d_W_look_143 gno rfl (by decide) (k1 215 rfl rfl) rfl ?_
    exact ab_iret d_W_look_146 rfl (Nat.le_refl _) (Nat.le_refl _) (by unfold sq_W_look; rw [if_neg t1]; rw [if_neg t2]; rw [if_neg t3]; rw [if_neg t4]; rw [if_neg t5]; rw [if_neg t8]; rw [if_pos t9]; exact ⟨rfl, (ab_fr_rf _ _)⟩)
  by_cases t10 : n = 7
  · refine ab_tableIn (off := 146) (tgt := 147) d_W_look_1 (by rw [t10]; decide) (by rw [t10]; decide) (by rw [t10]; decide) (by decide) ?_
    refine ab_aload_n d_W_look_147 rfl rfl rfl ?_
    refine ab_get (f := 2) d_W_look_148 gwo rfl (by decide) (k3 159 rfl rfl) rfl ?_
    refine ab_get (f := 0) d_W_look_151 gpo rfl (by decide) (k2 131 rfl rfl) rfl ?_
    refine ab_get (f := 3) d_W_look_154 gno rfl (by decide) (k1 219 rfl rfl) rfl ?_
    exact ab_iret d_W_look_157 rfl (Nat.le_refl _) (Nat.le_refl _) (by unfold sq_W_look; rw [if_neg t1]; rw [if_neg t2]; rw [if_neg t3]; rw [if_neg t4]; rw [if_neg t5]; rw [if_neg t8]; rw [if_neg t9]; rw [if_pos t10]; exact ⟨rfl, (ab_fr_rf _ _)⟩)
  by_cases t11 : n = 8
  · refine ab_tableIn (off := 157) (tgt := 158) d_W_look_1 (by rw [t11]; decide) (by rw [t11]; decide) (by rw [t11]; decide) (by decide) ?_
    refine ab_aload_n d_W_look_158 rfl rfl rfl ?_
    refine ab_get (f := 2) d_W_look_159 gwo rfl (by decide) (k3 159 rfl rfl) rfl ?_
    refine ab_get (f := 5) d_W_look_162 gpo rfl (by decide) (k2 141 rfl rfl) rfl ?_
    exact ab_iret d_W_look_165 rfl (Nat.le_refl _) (Nat.le_refl _) (by unfold sq_W_look; rw [if_neg t1]; rw [if_neg t2]; rw [if_neg t3]; rw [if_neg t4]; rw [if_neg t5]; rw [if_neg t8]; rw [if_neg t9]; rw [if_neg t10]; rw [if_pos t11]; exact ⟨rfl, (ab_fr_rf _ _)⟩)
  by_cases t12 : n = 9
  · refine ab_tableIn (off := 165) (tgt := 166) d_W_look_1 (by rw [t12]; decide) (by rw [t12]; decide) (by rw [t12]; decide) (by decide) ?_
    refine ab_aload_n d_W_look_166 rfl rfl rfl ?_
    refine ab_get (f := 3) d_W_look_167 gwo rfl (by decide) (k3 160 rfl rfl) rfl ?_
    refine ab_get (f := 1) d_W_look_170 gsto rfl (by decide) (k2 189 rfl rfl) rfl ?_
    exact ab_iret d_W_look_173 rfl (Nat.le_refl _) (Nat.le_refl _) (by unfold sq_W_look; rw [if_neg t1]; rw [if_neg t2]; rw [if_neg t3]; rw [if_neg t4]; rw [if_neg t5]; rw [if_neg t8]; rw [if_neg t9]; rw [if_neg t10]; rw [if_neg t11]; rw [if_pos t12]; exact ⟨rfl, (ab_fr_rf _ _)⟩)
  by_cases t13 : n = 10
  · refine ab_tableIn (off := 173) (tgt := 174) d_W_look_1 (by rw [t13]; decide) (by rw [t13]; decide) (by rw [t13]; decide) (by decide) ?_
    refine ab_aload_n d_W_look_174 rfl rfl rfl ?_
    refine ab_get (f := 4) d_W_look_175 gwo rfl (by decide) (k3 161 rfl rfl) rfl ?_
    refine ab_get (f := 15) d_W_look_178 ggo rfl (by decide) (k3 109 rfl rfl) rfl ?_
    exact ab_iret d_W_look_181 rfl (Nat.le_refl _) (Nat.le_refl _) (by unfold sq_W_look; rw [if_neg t1]; rw [if_neg t2]; rw [if_neg t3]; rw [if_neg t4]; rw [if_neg t5]; rw [if_neg t8]; rw [if_neg t9]; rw [if_neg t10]; rw [if_neg t11]; rw [if_neg t12]; rw [if_pos t13]; exact ⟨rfl, (ab_fr_rf _ _)⟩)
  by_cases t14 : n = 11
  · refine ab_tableIn (off := 181) (tgt := 182) d_W_look_1 (by rw [t14]; decide) (by rw [t14]; decide) (by rw [t14]; decide) (by decide) ?_
    refine ab_aload_n d_W_look_182 rfl rfl rfl ?_
    refine ab_get (f := 7) d_W_look_183 gwo rfl (by decide) (k3 164 rfl rfl) rfl ?_
    refine ab_callS_a (As := [.int (s0_W w 7)]) (rest := []) d_W_look_186 (r_bitCount) (ab_mkC s_Integer_bitCount (Nat.le_of_ble_eq_true rfl) (Nat.le_of_ble_eq_true rfl) (by decide) (by decide)) (k7 231 rfl rfl) t_Integer_bitCount rfl (Nat.le_of_ble_eq_true rfl) (fun h16 q15 => ?_)
    subst q15
    exact ab_iret d_W_look_189 rfl (Nat.le_refl _) (Nat.le_refl _) (by unfold sq_W_look; rw [if_neg t1]; rw [if_neg t2]; rw [if_neg t3]; rw [if_neg t4]; rw [if_neg t5]; rw [if_neg t8]; rw [if_neg t9]; rw [if_neg t10]; rw [if_neg t11]; rw [if_neg t12]; rw [if_neg t13]; rw [if_pos t14]; exact ⟨rfl, (ab_fr_rf _ _)⟩)
  by_cases t17 : n = 12
  · refine ab_tableIn (off := 189) (tgt := 190) d_W_look_1 (by rw [t17]; decide) (by rw [t17]; decide) (by rw [t17]; decide) (by decide) ?_
    refine ab_aload_n d_W_look_190 rfl rfl rfl ?_
    refine ab_get (f := 2) d_W_look_191 gwo rfl (by decide) (k3 159 rfl rfl) rfl ?_
    refine ab_get (f := 3) d_W_look_194 gpo rfl (by decide) (k2 137 rfl rfl) rfl ?_
    exact ab_iret d_W_look_197 rfl (Nat.le_refl _) (Nat.le_refl _) (by unfold sq_W_look; rw [if_neg t1]; rw [if_neg t2]; rw [if_neg t3]; rw [if_neg t4]; rw [if_neg t5]; rw [if_neg t8]; rw [if_neg t9]; rw [if_neg t10]; rw [if_neg t11]; rw [if_neg t12]; rw [if_neg t13]; rw [if_neg t14]; rw [if_pos t17]; exact ⟨rfl, (ab_fr_rf _ _)⟩)
  by_cases t18 : n = 13
  · refine ab_tableIn (off := 197) (tgt := 198) d_W_look_1 (by rw [t18]; decide) (by rw [t18]; decide) (by rw [t18]; decide) (by decide) ?_
    refine ab_aload_n d_W_look_198 rfl rfl rfl ?_
    refine ab_get (f := 0) d_W_look_199 gwo rfl (by decide) (k3 157 rfl rfl) rfl ?_
    refine ab_get (f := 1) d_W_look_202 glo rfl (by decide) (k1 97 rfl rfl) rfl ?_
    exact ab_iret d_W_look_205 rfl (Nat.le_refl _) (Nat.le_refl _) (by unfold sq_W_look; rw [if_neg t1]; rw [if_neg t2]; rw [if_neg t3]; rw [if_neg t4]; rw [if_neg t5]; rw [if_neg t8]; rw [if_neg t9]; rw [if_neg t10]; rw [if_neg t11]; rw [if_neg t12]; rw [if_neg t13]; rw [if_neg t14]; rw [if_neg t17]; rw [if_pos t18]; exact ⟨rfl, (ab_fr_rf _ _)⟩)
  by_cases t19 : n = 14
  · refine ab_tableIn (off := 205) (tgt := 206) d_W_look_1 (by rw [t19]; decide) (by rw [t19]; decide) (by rw [t19]; decide) (by decide) ?_
    refine ab_aload_n d_W_look_206 rfl rfl rfl ?_
    refine ab_get (f := 2) d_W_look_207 gwo rfl (by decide) (k3 159 rfl rfl) rfl ?_
    refine ab_get (f := 2) d_W_look_210 gpo rfl (by decide) (k2 135 rfl rfl) rfl ?_
    exact ab_iret d_W_look_213 rfl (Nat.le_refl _) (Nat.le_refl _) (by unfold sq_W_look; rw [if_neg t1]; rw [if_neg t2]; rw [if_neg t3]; rw [if_neg t4]; rw [if_neg t5]; rw [if_neg t8]; rw [if_neg t9]; rw [if_neg t10]; rw [if_neg t11]; rw [if_neg t12]; rw [if_neg t13]; rw [if_neg t14]; rw [if_neg t17]; rw [if_neg t18]; rw [if_pos t19]; exact ⟨rfl, (ab_fr_rf _ _)⟩)
  have ut1 : (n).toInt ≠ 0 := fun z => t1 (Int32.toInt_inj.mp (z.trans (by decide)))
  have ut2 : (n).toInt ≠ 1 := fun z => t2 (Int32.toInt_inj.mp (z.trans (by decide)))
  have ut3 : (n).toInt ≠ 2 := fun z => t3 (Int32.toInt_inj.mp (z.trans (by decide)))
  have ut4 : (n).toInt ≠ 3 := fun z => t4 (Int32.toInt_inj.mp (z.trans (by decide)))
  have ut5 : (n).toInt ≠ 4 := fun z => t5 (Int32.toInt_inj.mp (z.trans (by decide)))
  have ut8 : (n).toInt ≠ 5 := fun z => t8 (Int32.toInt_inj.mp (z.trans (by decide)))
  have ut9 : (n).toInt ≠ 6 := fun z => t9 (Int32.toInt_inj.mp (z.trans (by decide)))
  have ut10 : (n).toInt ≠ 7 := fun z => t10 (Int32.toInt_inj.mp (z.trans (by decide)))
  have ut11 : (n).toInt ≠ 8 := fun z => t11 (Int32.toInt_inj.mp (z.trans (by decide)))
  have ut12 : (n).toInt ≠ 9 := fun z => t12 (Int32.toInt_inj.mp (z.trans (by decide)))
  have ut13 : (n).toInt ≠ 10 := fun z => t13 (Int32.toInt_inj.mp (z.trans (by decide)))
  have ut14 : (n).toInt ≠ 11 := fun z => t14 (Int32.toInt_inj.mp (z.trans (by decide)))
  have ut17 : (n).toInt ≠ 12 := fun z => t17 (Int32.toInt_inj.mp (z.trans (by decide)))
  have ut18 : (n).toInt ≠ 13 := fun z => t18 (Int32.toInt_inj.mp (z.trans (by decide)))
  have ut19 : (n).toInt ≠ 14 := fun z => t19 (Int32.toInt_inj.mp (z.trans (by decide)))
  refine ab_tableOut (tgt := 214) d_W_look_1 (by omega) (by decide) ?_
  refine ab_iconst (v := (-1)) d_W_look_214 (by decide) ?_
  exact ab_iret d_W_look_215 rfl (Nat.le_refl _) (Nat.le_refl _) (by unfold sq_W_look; rw [if_neg t1]; rw [if_neg t2]; rw [if_neg t3]; rw [if_neg t4]; rw [if_neg t5]; rw [if_neg t8]; rw [if_neg t9]; rw [if_neg t10]; rw [if_neg t11]; rw [if_neg t12]; rw [if_neg t13]; rw [if_neg t14]; rw [if_neg t17]; rw [if_neg t18]; rw [if_neg t19]; exact ⟨rfl, (ab_fr_rf _ _)⟩)
set_option maxRecDepth 20000 in
set_option maxHeartbeats 2000000 in
theorem r_place_00 {h : List ab_E}  {cf : Nat → Int32} {n1 n2 n3 n4 n5 n6 n7 n8 n9 n10 n11 n12 n13 n14 n15 : Value} {x : Nat}  (qo : h[x + 11]? = some (.inr (10, [.ref (x + 11 + 1), .int 0, .int 1, .int 0, .ref (x + 11 + 104), .int 0, .ref (x + 11 + 7), .ref (x + 11 + 105), .ref (x + 11 + 114), .ref (x + 11 + 115), .ref (x + 11 + 116), .ref (x + 11 + 117), .ref (x + 11 + 118), .ref (x + 11 + 119)]))) (ca : h[x + 11 + 114]? = some (.inl (.boolean, 256, .inl cf))) (no : h[x + 11 + 1]? = some (.inr (7, [.int 0, n1, n2, n3, n4, n5, n6, n7, n8, n9, n10, n11, n12, n13, n14, n15])))  : ab_M y_Play_place { frames := 1, cells := 0, slots := 0, locals := 40 } [.ref (x + 11), .int 0, .int 0] h (ab_A (some (.int (1))) (fun h1 => ab_fr (in_lo x) h h1)) := by
  refine ab_of2 (lv := [some (.ref (x + 11)), some (.int 0), some (.int 0), none]) 1 rfl rfl (Nat.le_of_ble_eq_true rfl) ?_
  refine ab_iload_n d_Play_place_0 rfl rfl ?_
  refine ab_if_lt (tgt := 29) d_Play_place_1 (by decide) (fun q1 => by exact absurd q1 (by decide)) (fun q1 => ?_)
  refine ab_iload_n d_Play_place_4 rfl rfl ?_
  refine ab_iconst (v := 4) d_Play_place_5 (by decide) ?_
  refine ab_icmp_ge (tgt := 29) d_Play_place_6 (by decide) (fun q2 => by exact absurd q2 (by decide)) (fun q2 => ?_)
  refine ab_aload_n d_Play_place_9 rfl rfl rfl ?_
  refine ab_get (f := 2) d_Play_place_10 qo rfl (by decide) (k2 134 rfl rfl) rfl ?_
  refine ab_iload_n d_Play_place_13 rfl rfl ?_
  refine ab_ishr d_Play_place_14 ?_
  refine ab_topi (fun x3 ex3 => ?_)
  obtain rfl : x3 = 1 := ex3.trans (by decide)
  clear ex3
  refine ab_iconst (v := 1) d_Play_place_15 (by decide) ?_
  refine ab_iand d_Play_place_16 ?_
  refine ab_topi (fun x4 ex4 => ?_)
  obtain rfl : x4 = 1 := ex4.trans (by decide)
  clear ex4
  refine ab_iload_n d_Play_place_17 rfl rfl ?_
  refine ab_if_eq (tgt := 25) d_Play_place_18 (by decide) (fun q5 => ?_) (fun q5 => by exact absurd (by decide) q5)
  refine ab_iconst (v := 0) d_Play_place_25 (by decide) ?_
  refine ab_icmp_ne (tgt := 31) d_Play_place_26 (by decide) (fun q6 => ?_) (fun q6 => by exact absurd q6 (by decide))
  refine ab_aload_n d_Play_place_31 rfl rfl rfl ?_
  refine ab_dup d_Play_place_32 rfl ?_
  refine ab_get (f := 2) d_Play_place_33 qo rfl (by decide) (k2 134 rfl rfl) rfl ?_
  refine ab_iconst (v := 1) d_Play_place_36 (by decide) ?_
  refine ab_iload_n d_Play_place_37 rfl rfl ?_
  refine ab_ishl d_Play_place_38 ?_
  refine ab_topi (fun x7 ex7 => ?_)
  obtain rfl : x7 = 1 := ex7.trans (by decide)
  clear ex7
  refine ab_ixor d_Play_place_39 ?_
  refine ab_topi (fun x8 ex8 => ?_)
  obtain rfl : x8 = 0 := ex8.trans (by decide)
  clear ex8
  refine ab_put (f := 2) d_Play_place_40 qo rfl (by decide) (k2 134 rfl rfl) rfl rfl (fun _ => rfl) (fun _ => rfl) (Nat.le_of_ble_eq_true rfl) ?_
  show ab_V _ _ _ _ _ _ _ 43 [some (.ref (x + 11)), some (.int 0), some (.int 0), none] [] (h.set (x+11) (.inr (10, [.ref (x + 11 + 1), .int 0, .int 0, .int 0, .ref (x + 11 + 104), .int 0, .ref (x + 11 + 7), .ref (x + 11 + 105), .ref (x + 11 + 114), .ref (x + 11 + 115), .ref (x + 11 + 116), .ref (x + 11 + 117), .ref (x + 11 + 118), .ref (x + 11 + 119)])))
  refine ab_gen (fun h9 e10 => ?_)
  have c11 : h9[x+11]? = some (.inr (10, [.ref (x + 11 + 1), .int 0, .int 0, .int 0, .ref (x + 11 + 104), .int 0, .ref (x + 11 + 7), .ref (x + 11 + 105), .ref (x + 11 + 114), .ref (x + 11 + 115), .ref (x + 11 + 116), .ref (x + 11 + 117), .ref (x + 11 + 118), .ref (x + 11 + 119)])) := ab_self e10 qo
  have c12 : h9[x+11+114]? = some (.inl (.boolean, 256, .inl cf)) := ab_other e10 (by omega) ca
  have c13 : h9[x+11+1]? = some (.inr (7, [.int 0, n1, n2, n3, n4, n5, n6, n7, n8, n9, n10, n11, n12, n13, n14, n15])) := ab_other e10 (by omega) no
  have fr14 : ab_fr (in_lo x) h h9 := ab_fr_set (ab_fr_rf _ _) e10 (by (show _ < _; omega))
  clear e10
  refine ab_iconst (v := 1) d_Play_place_43 (by decide) ?_
  refine ab_istore_n (lv' := [some (.ref (x + 11)), some (.int 0), some (.int 0), some (.int 1)]) d_Play_place_44 rfl (by decide) rfl ?_
  refine ab_iload_n d_Play_place_45 rfl rfl ?_
  refine ab_bipush (v := 16) d_Play_place_46 (by decide) ?_
  refine ab_icmp_gt (tgt := 80) d_Play_place_48 (by decide) (fun q15 => by exact absurd q15 (by decide)) (fun q15 => ?_)
  refine ab_iload_n d_Play_place_51 rfl rfl ?_
  refine ab_if_ne (tgt := 80) d_Play_place_52 (by decide) (fun q16 => by exact absurd q16 (by decide)) (fun q16 => ?_)
  refine ab_aload_n d_Play_place_55 rfl rfl rfl ?_
  refine ab_get (f := 8) d_Play_place_56 c11 rfl (by decide) (k2 144 rfl rfl) rfl ?_
  refine ab_iload_n d_Play_place_59 rfl rfl ?_
  refine ab_aload_n d_Play_place_60 rfl rfl rfl ?_
  refine ab_get (f := 0) d_Play_place_61 c11 rfl (by decide) (k2 130 rfl rfl) rfl ?_
  refine ab_get (f := 0) d_Play_place_64 c13 rfl (by decide) (k1 205 rfl rfl) rfl ?_
  refine ab_iload_n d_Play_place_67 rfl rfl ?_
  refine ab_iadd d_Play_place_68 ?_
  refine ab_topi (fun x17 ex17 => ?_)
  obtain rfl : x17 = 1 := ex17.trans (by decide)
  clear ex17
  refine ab_callS_a (As := [.int 0, .int 1]) (rest := [.ref (x + 11 + 114)]) d_Play_place_69 (c_Play_slot) (ab_mkC s_Play_slot (Nat.le_of_ble_eq_true rfl) (Nat.le_of_ble_eq_true rfl) (by decide) (by decide)) (k6 181 rfl rfl) t_Play_slot rfl (Nat.le_of_ble_eq_true rfl) (fun h19 q18 => ?_)
  subst q18
  refine ab_topi (fun x20 ex20 => ?_)
  obtain rfl : x20 = 1 := ex20.trans (by decide)
  clear ex20
  refine ab_iconst (v := 0) d_Play_place_72 (by decide) ?_
  refine ab_zast d_Play_place_73 tZ c12 (in_of (by decide) (by decide) (by decide)) ?_
  refine ab_gen (fun h21 e22 => ?_)
  have c23 : h21[x+11]? = some (.inr (10, [.ref (x + 11 + 1), .int 0, .int 0, .int 0, .ref (x + 11 + 104), .int 0, .ref (x + 11 + 7), .ref (x + 11 + 105), .ref (x + 11 + 114), .ref (x + 11 + 115), .ref (x + 11 + 116), .ref (x + 11 + 117), .ref (x + 11 + 118), .ref (x + 11 + 119)])) := ab_other e22 (by omega) c11
  have c24 : h21[x+11+114]? = some (.inl (.boolean, 256, .inl (upd cf (1 : Int32).toNatClampNeg (vp_nar .boolean 0)))) := ab_self e22 c12
  have c25 : h21[x+11+1]? = some (.inr (7, [.int 0, n1, n2, n3, n4, n5, n6, n7, n8, n9, n10, n11, n12, n13, n14, n15])) := ab_other e22 (by omega) c13
  have fr26 : ab_fr (in_lo x) h h21 := ab_fr_set fr14 e22 (by (show _ < _; omega))
  clear c11 c12 c13 fr14 e22
  try clear h9
  obtain ⟨y27, c28⟩ : ∃ f : Nat → Int32, h21[x+11+114]? = some (.inl (.boolean, 256, .inl f)) := ⟨_, c24⟩
  clear c24
  refine ab_iinc (v := 2) (lv' := [some (.ref (x + 11)), some (.int 0), some (.int 0), some (.int 2)]) d_Play_place_74 rfl (by decide) (by decide) rfl ?_
  refine ab_goto (tgt := 45) d_Play_place_77 (by decide) ?_
  refine ab_iload_n d_Play_place_45 rfl rfl ?_
  refine ab_bipush (v := 16) d_Play_place_46 (by decide) ?_
  refine ab_icmp_gt (tgt := 80) d_Play_place_48 (by decide) (fun q29 => by exact absurd q29 (by decide)) (fun q29 => ?_)
  refine ab_iload_n d_Play_place_51 rfl rfl ?_
  refine ab_if_ne (tgt := 80) d_Play_place_52 (by decide) (fun q30 => by exact absurd q30 (by decide)) (fun q30 => ?_)
  refine ab_aload_n d_Play_place_55 rfl rfl rfl ?_
  refine ab_get (f := 8) d_Play_place_56 c23 rfl (by decide) (k2 144 rfl rfl) rfl ?_
  refine ab_iload_n d_Play_place_59 rfl rfl ?_
  refine ab_aload_n d_Play_place_60 rfl rfl rfl ?_
  refine ab_get (f := 0) d_Play_place_61 c23 rfl (by decide) (k2 130 rfl rfl) rfl ?_
  refine ab_get (f := 0) d_Play_place_64 c25 rfl (by decide) (k1 205 rfl rfl) rfl ?_
  refine ab_iload_n d_Play_place_67 rfl rfl ?_
  refine ab_iadd d_Play_place_68 ?_
  refine ab_topi (fun x31 ex31 => ?_)
  obtain rfl : x31 = 2 := ex31.trans (by decide)
  clear ex31
  refine ab_callS_a (As := [.int 0, .int 2]) (rest := [.ref (x + 11 + 114)]) d_Play_place_69 (c_Play_slot) (ab_mkC s_Play_slot (Nat.le_of_ble_eq_true rfl) (Nat.le_of_ble_eq_true rfl) (by decide) (by decide)) (k6 181 rfl rfl) t_Play_slot rfl (Nat.le_of_ble_eq_true rfl) (fun h33 q32 => ?_)
  subst q32
  refine ab_topi (fun x34 ex34 => ?_)
  obtain rfl : x34 = 2 := ex34.trans (by decide)
  clear ex34
  refine ab_iconst (v := 0) d_Play_place_72 (by decide) ?_
  refine ab_zast d_Play_place_73 tZ c28 (in_of (by decide) (by decide) (by decide)) ?_
  refine ab_gen (fun h35 e36 => ?_)
  have c37 : h35[x+11]? = some (.inr (10, [.ref (x + 11 + 1), .int 0, .int 0, .int 0, .ref (x + 11 + 104), .int 0, .ref (x + 11 + 7), .ref (x + 11 + 105), .ref (x + 11 + 114), .ref (x + 11 + 115), .ref (x + 11 + 116), .ref (x + 11 + 117), .ref (x + 11 + 118), .ref (x + 11 + 119)])) := ab_other e36 (by omega) c23
  have c38 : h35[x+11+114]? = some (.inl (.boolean, 256, .inl (upd y27 (2 : Int32).toNatClampNeg (vp_nar .boolean 0)))) := ab_self e36 c28
  have c39 : h35[x+11+1]? = some (.inr (7, [.int 0, n1, n2, n3, n4, n5, n6, n7, n8, n9, n10, n11, n12, n13, n14, n15])) := ab_other e36 (by omega) c25
  have fr40 : ab_fr (in_lo x) h h35 := ab_fr_set fr26 e36 (by (show _ < _; omega))
  clear c23 c28 c25 fr26 e36
  try clear h21
  obtain ⟨y41, c42⟩ : ∃ f : Nat → Int32, h35[x+11+114]? = some (.inl (.boolean, 256, .inl f)) := ⟨_, c38⟩
  clear c38
  refine ab_iinc (v := 3) (lv' := [some (.ref (x + 11)), some (.int 0), some (.int 0), some (.int 3)]) d_Play_place_74 rfl (by decide) (by decide) rfl ?_
  refine ab_goto (tgt := 45) d_Play_place_77 (by decide) ?_
  refine ab_iload_n d_Play_place_45 rfl rfl ?_
  refine ab_bipush (v := 16) d_Play_place_46 (by decide) ?_
  refine ab_icmp_gt (tgt := 80) d_Play_place_48 (by decide) (fun q43 => by exact absurd q43 (by decide)) (fun q43 => ?_)
  refine ab_iload_n d_Play_place_51 rfl rfl ?_
  refine ab_if_ne (tgt := 80) d_Play_place_52 (by decide) (fun q44 => by exact absurd q44 (by decide)) (fun q44 => ?_)
  refine ab_aload_n d_Play_place_55 rfl rfl rfl ?_
  refine ab_get (f := 8) d_Play_place_56 c37 rfl (by decide) (k2 144 rfl rfl) rfl ?_
  refine ab_iload_n d_Play_place_59 rfl rfl ?_
  refine ab_aload_n d_Play_place_60 rfl rfl rfl ?_
  refine ab_get (f := 0) d_Play_place_61 c37 rfl (by decide) (k2 130 rfl rfl) rfl ?_
  refine ab_get (f := 0) d_Play_place_64 c39 rfl (by decide) (k1 205 rfl rfl) rfl ?_
  refine ab_iload_n d_Play_place_67 rfl rfl ?_
  refine ab_iadd d_Play_place_68 ?_
  refine ab_topi (fun x45 ex45 => ?_)
  obtain rfl : x45 = 3 := ex45.trans (by decide)
  clear ex45
  refine ab_callS_a (As := [.int 0, .int 3]) (rest := [.ref (x + 11 + 114)]) d_Play_place_69 (c_Play_slot) (ab_mkC s_Play_slot (Nat.le_of_ble_eq_true rfl) (Nat.le_of_ble_eq_true rfl) (by decide) (by decide)) (k6 181 rfl rfl) t_Play_slot rfl (Nat.le_of_ble_eq_true rfl) (fun h47 q46 => ?_)
  subst q46
  refine ab_topi (fun x48 ex48 => ?_)
  obtain rfl : x48 = 3 := ex48.trans (by decide)
  clear ex48
  refine ab_iconst (v := 0) d_Play_place_72 (by decide) ?_
  refine ab_zast d_Play_place_73 tZ c42 (in_of (by decide) (by decide) (by decide)) ?_
  refine ab_gen (fun h49 e50 => ?_)
  have c51 : h49[x+11]? = some (.inr (10, [.ref (x + 11 + 1), .int 0, .int 0, .int 0, .ref (x + 11 + 104), .int 0, .ref (x + 11 + 7), .ref (x + 11 + 105), .ref (x + 11 + 114), .ref (x + 11 + 115), .ref (x + 11 + 116), .ref (x + 11 + 117), .ref (x + 11 + 118), .ref (x + 11 + 119)])) := ab_other e50 (by omega) c37
  have c52 : h49[x+11+114]? = some (.inl (.boolean, 256, .inl (upd y41 (3 : Int32).toNatClampNeg (vp_nar .boolean 0)))) := ab_self e50 c42
  have c53 : h49[x+11+1]? = some (.inr (7, [.int 0, n1, n2, n3, n4, n5, n6, n7, n8, n9, n10, n11, n12, n13, n14, n15])) := ab_other e50 (by omega) c39
  have fr54 : ab_fr (in_lo x) h h49 := ab_fr_set fr40 e50 (by (show _ < _; omega))
  clear c37 c42 c39 fr40 e50
  try clear h35
  obtain ⟨y55, c56⟩ : ∃ f : Nat → Int32, h49[x+11+114]? = some (.inl (.boolean, 256, .inl f)) := ⟨_, c52⟩
  clear c52
  refine ab_iinc (v := 4) (lv' := [some (.ref (x + 11)), some (.int 0), some (.int 0), some (.int 4)]) d_Play_place_74 rfl (by decide) (by decide) rfl ?_
  refine ab_goto (tgt := 45) d_Play_place_77 (by decide) ?_
  refine ab_iload_n d_Play_place_45 rfl rfl ?_
  refine ab_bipush (v := 16) d_Play_place_46 (by decide) ?_
  refine ab_icmp_gt (tgt := 80) d_Play_place_48 (by decide) (fun q57 => by exact absurd q57 (by decide)) (fun q57 => ?_)
  refine ab_iload_n d_Play_place_51 rfl rfl ?_
  refine ab_if_ne (tgt := 80) d_Play_place_52 (by decide) (fun q58 => by exact absurd q58 (by decide)) (fun q58 => ?_)
  refine ab_aload_n d_Play_place_55 rfl rfl rfl ?_
  refine ab_get (f := 8) d_Play_place_56 c51 rfl (by decide) (k2 144 rfl rfl) rfl ?_
  refine ab_iload_n d_Play_place_59 rfl rfl ?_
  refine ab_aload_n d_Play_place_60 rfl rfl rfl ?_
  refine ab_get (f := 0) d_Play_place_61 c51 rfl (by decide) (k2 130 rfl rfl) rfl ?_
  refine ab_get (f := 0) d_Play_place_64 c53 rfl (by decide) (k1 205 rfl rfl) rfl ?_
  refine ab_iload_n d_Play_place_67 rfl rfl ?_
  refine ab_iadd d_Play_place_68 ?_
  refine ab_topi (fun x59 ex59 => ?_)
  obtain rfl : x59 = 4 := ex59.trans (by decide)
  clear ex59
  refine ab_callS_a (As := [.int 0, .int 4]) (rest := [.ref (x + 11 + 114)]) d_Play_place_69 (c_Play_slot) (ab_mkC s_Play_slot (Nat.le_of_ble_eq_true rfl) (Nat.le_of_ble_eq_true rfl) (by decide) (by decide)) (k6 181 rfl rfl) t_Play_slot rfl (Nat.le_of_ble_eq_true rfl) (fun h61 q60 => ?_)
  subst q60
  refine ab_topi (fun x62 ex62 => ?_)
  obtain rfl : x62 = 4 := ex62.trans (by decide)
  clear ex62
  refine ab_iconst (v := 0) d_Play_place_72 (by decide) ?_
  refine ab_zast d_Play_place_73 tZ c56 (in_of (by decide) (by decide) (by decide)) ?_
  refine ab_gen (fun h63 e64 => ?_)
  have c65 : h63[x+11]? = some (.inr (10, [.ref (x + 11 + 1), .int 0, .int 0, .int 0, .ref (x + 11 + 104), .int 0, .ref (x + 11 + 7), .ref (x + 11 + 105), .ref (x + 11 + 114), .ref (x + 11 + 115), .ref (x + 11 + 116), .ref (x + 11 + 117), .ref (x + 11 + 118), .ref (x + 11 + 119)])) := ab_other e64 (by omega) c51
  have c66 : h63[x+11+114]? = some (.inl (.boolean, 256, .inl (upd y55 (4 : Int32).toNatClampNeg (vp_nar .boolean 0)))) := ab_self e64 c56
  have c67 : h63[x+11+1]? = some (.inr (7, [.int 0, n1, n2, n3, n4, n5, n6, n7, n8, n9, n10, n11, n12, n13, n14, n15])) := ab_other e64 (by omega) c53
  have fr68 : ab_fr (in_lo x) h h63 := ab_fr_set fr54 e64 (by (show _ < _; omega))
  clear c51 c56 c53 fr54 e64
  try clear h49
  obtain ⟨y69, c70⟩ : ∃ f : Nat → Int32, h63[x+11+114]? = some (.inl (.boolean, 256, .inl f)) := ⟨_, c66⟩
  clear c66
  refine ab_iinc (v := 5) (lv' := [some (.ref (x + 11)), some (.int 0), some (.int 0), some (.int 5)]) d_Play_place_74 rfl (by decide) (by decide) rfl ?_
  refine ab_goto (tgt := 45) d_Play_place_77 (by decide) ?_
  refine ab_iload_n d_Play_place_45 rfl rfl ?_
  refine ab_bipush (v := 16) d_Play_place_46 (by decide) ?_
  refine ab_icmp_gt (tgt := 80) d_Play_place_48 (by decide) (fun q71 => by exact absurd q71 (by decide)) (fun q71 => ?_)
  refine ab_iload_n d_Play_place_51 rfl rfl ?_
  refine ab_if_ne (tgt := 80) d_Play_place_52 (by decide) (fun q72 => by exact absurd q72 (by decide)) (fun q72 => ?_)
  refine ab_aload_n d_Play_place_55 rfl rfl rfl ?_
  refine ab_get (f := 8) d_Play_place_56 c65 rfl (by decide) (k2 144 rfl rfl) rfl ?_
  refine ab_iload_n d_Play_place_59 rfl rfl ?_
  refine ab_aload_n d_Play_place_60 rfl rfl rfl ?_
  refine ab_get (f := 0) d_Play_place_61 c65 rfl (by decide) (k2 130 rfl rfl) rfl ?_
  refine ab_get (f := 0) d_Play_place_64 c67 rfl (by decide) (k1 205 rfl rfl) rfl ?_
  refine ab_iload_n d_Play_place_67 rfl rfl ?_
  refine ab_iadd d_Play_place_68 ?_
  refine ab_topi (fun x73 ex73 => ?_)
  obtain rfl : x73 = 5 := ex73.trans (by decide)
  clear ex73
  refine ab_callS_a (As := [.int 0, .int 5]) (rest := [.ref (x + 11 + 114)]) d_Play_place_69 (c_Play_slot) (ab_mkC s_Play_slot (Nat.le_of_ble_eq_true rfl) (Nat.le_of_ble_eq_true rfl) (by decide) (by decide)) (k6 181 rfl rfl) t_Play_slot rfl (Nat.le_of_ble_eq_true rfl) (fun h75 q74 => ?_)
  subst q74
  refine ab_topi (fun x76 ex76 => ?_)
  obtain rfl : x76 = 5 := ex76.trans (by decide)
  clear ex76
  refine ab_iconst (v := 0) d_Play_place_72 (by decide) ?_
  refine ab_zast d_Play_place_73 tZ c70 (in_of (by decide) (by decide) (by decide)) ?_
  refine ab_gen (fun h77 e78 => ?_)
  have c79 : h77[x+11]? = some (.inr (10, [.ref (x + 11 + 1), .int 0, .int 0, .int 0, .ref (x + 11 + 104), .int 0, .ref (x + 11 + 7), .ref (x + 11 + 105), .ref (x + 11 + 114), .ref (x + 11 + 115), .ref (x + 11 + 116), .ref (x + 11 + 117), .ref (x + 11 + 118), .ref (x + 11 + 119)])) := ab_other e78 (by omega) c65
  have c80 : h77[x+11+114]? = some (.inl (.boolean, 256, .inl (upd y69 (5 : Int32).toNatClampNeg (vp_nar .boolean 0)))) := ab_self e78 c70
  have c81 : h77[x+11+1]? = some (.inr (7, [.int 0, n1, n2, n3, n4, n5, n6, n7, n8, n9, n10, n11, n12, n13, n14, n15])) := ab_other e78 (by omega) c67
  have fr82 : ab_fr (in_lo x) h h77 := ab_fr_set fr68 e78 (by (show _ < _; omega))
  clear c65 c70 c67 fr68 e78
  try clear h63
  obtain ⟨y83, c84⟩ : ∃ f : Nat → Int32, h77[x+11+114]? = some (.inl (.boolean, 256, .inl f)) := ⟨_, c80⟩
  clear c80
  refine ab_iinc (v := 6) (lv' := [some (.ref (x + 11)), some (.int 0), some (.int 0), some (.int 6)]) d_Play_place_74 rfl (by decide) (by decide) rfl ?_
  refine ab_goto (tgt := 45) d_Play_place_77 (by decide) ?_
  refine ab_iload_n d_Play_place_45 rfl rfl ?_
  refine ab_bipush (v := 16) d_Play_place_46 (by decide) ?_
  refine ab_icmp_gt (tgt := 80) d_Play_place_48 (by decide) (fun q85 => by exact absurd q85 (by decide)) (fun q85 => ?_)
  refine ab_iload_n d_Play_place_51 rfl rfl ?_
  refine ab_if_ne (tgt := 80) d_Play_place_52 (by decide) (fun q86 => by exact absurd q86 (by decide)) (fun q86 => ?_)
  refine ab_aload_n d_Play_place_55 rfl rfl rfl ?_
  refine ab_get (f := 8) d_Play_place_56 c79 rfl (by decide) (k2 144 rfl rfl) rfl ?_
  refine ab_iload_n d_Play_place_59 rfl rfl ?_
  refine ab_aload_n d_Play_place_60 rfl rfl rfl ?_
  refine ab_get (f := 0) d_Play_place_61 c79 rfl (by decide) (k2 130 rfl rfl) rfl ?_
  refine ab_get (f := 0) d_Play_place_64 c81 rfl (by decide) (k1 205 rfl rfl) rfl ?_
  refine ab_iload_n d_Play_place_67 rfl rfl ?_
  refine ab_iadd d_Play_place_68 ?_
  refine ab_topi (fun x87 ex87 => ?_)
  obtain rfl : x87 = 6 := ex87.trans (by decide)
  clear ex87
  refine ab_callS_a (As := [.int 0, .int 6]) (rest := [.ref (x + 11 + 114)]) d_Play_place_69 (c_Play_slot) (ab_mkC s_Play_slot (Nat.le_of_ble_eq_true rfl) (Nat.le_of_ble_eq_true rfl) (by decide) (by decide)) (k6 181 rfl rfl) t_Play_slot rfl (Nat.le_of_ble_eq_true rfl) (fun h89 q88 => ?_)
  subst q88
  refine ab_topi (fun x90 ex90 => ?_)
  obtain rfl : x90 = 6 := ex90.trans (by decide)
  clear ex90
  refine ab_iconst (v := 0) d_Play_place_72 (by decide) ?_
  refine ab_zast d_Play_place_73 tZ c84 (in_of (by decide) (by decide) (by decide)) ?_
  refine ab_gen (fun h91 e92 => ?_)
  have c93 : h91[x+11]? = some (.inr (10, [.ref (x + 11 + 1), .int 0, .int 0, .int 0, .ref (x + 11 + 104), .int 0, .ref (x + 11 + 7), .ref (x + 11 + 105), .ref (x + 11 + 114), .ref (x + 11 + 115), .ref (x + 11 + 116), .ref (x + 11 + 117), .ref (x + 11 + 118), .ref (x + 11 + 119)])) := ab_other e92 (by omega) c79
  have c94 : h91[x+11+114]? = some (.inl (.boolean, 256, .inl (upd y83 (6 : Int32).toNatClampNeg (vp_nar .boolean 0)))) := ab_self e92 c84
  have c95 : h91[x+11+1]? = some (.inr (7, [.int 0, n1, n2, n3, n4, n5, n6, n7, n8, n9, n10, n11, n12, n13, n14, n15])) := ab_other e92 (by omega) c81
  have fr96 : ab_fr (in_lo x) h h91 := ab_fr_set fr82 e92 (by (show _ < _; omega))
  clear c79 c84 c81 fr82 e92
  try clear h77
  obtain ⟨y97, c98⟩ : ∃ f : Nat → Int32, h91[x+11+114]? = some (.inl (.boolean, 256, .inl f)) := ⟨_, c94⟩
  clear c94
  refine ab_iinc (v := 7) (lv' := [some (.ref (x + 11)), some (.int 0), some (.int 0), some (.int 7)]) d_Play_place_74 rfl (by decide) (by decide) rfl ?_
  refine ab_goto (tgt := 45) d_Play_place_77 (by decide) ?_
  refine ab_iload_n d_Play_place_45 rfl rfl ?_
  refine ab_bipush (v := 16) d_Play_place_46 (by decide) ?_
  refine ab_icmp_gt (tgt := 80) d_Play_place_48 (by decide) (fun q99 => by exact absurd q99 (by decide)) (fun q99 => ?_)
  refine ab_iload_n d_Play_place_51 rfl rfl ?_
  refine ab_if_ne (tgt := 80) d_Play_place_52 (by decide) (fun q100 => by exact absurd q100 (by decide)) (fun q100 => ?_)
  refine ab_aload_n d_Play_place_55 rfl rfl rfl ?_
  refine ab_get (f := 8) d_Play_place_56 c93 rfl (by decide) (k2 144 rfl rfl) rfl ?_
  refine ab_iload_n d_Play_place_59 rfl rfl ?_
  refine ab_aload_n d_Play_place_60 rfl rfl rfl ?_
  refine ab_get (f := 0) d_Play_place_61 c93 rfl (by decide) (k2 130 rfl rfl) rfl ?_
  refine ab_get (f := 0) d_Play_place_64 c95 rfl (by decide) (k1 205 rfl rfl) rfl ?_
  refine ab_iload_n d_Play_place_67 rfl rfl ?_
  refine ab_iadd d_Play_place_68 ?_
  refine ab_topi (fun x101 ex101 => ?_)
  obtain rfl : x101 = 7 := ex101.trans (by decide)
  clear ex101
  refine ab_callS_a (As := [.int 0, .int 7]) (rest := [.ref (x + 11 + 114)]) d_Play_place_69 (c_Play_slot) (ab_mkC s_Play_slot (Nat.le_of_ble_eq_true rfl) (Nat.le_of_ble_eq_true rfl) (by decide) (by decide)) (k6 181 rfl rfl) t_Play_slot rfl (Nat.le_of_ble_eq_true rfl) (fun h103 q102 => ?_)
  subst q102
  refine ab_topi (fun x104 ex104 => ?_)
  obtain rfl : x104 = 7 := ex104.trans (by decide)
  clear ex104
  refine ab_iconst (v := 0) d_Play_place_72 (by decide) ?_
  refine ab_zast d_Play_place_73 tZ c98 (in_of (by decide) (by decide) (by decide)) ?_
  refine ab_gen (fun h105 e106 => ?_)
  have c107 : h105[x+11]? = some (.inr (10, [.ref (x + 11 + 1), .int 0, .int 0, .int 0, .ref (x + 11 + 104), .int 0, .ref (x + 11 + 7), .ref (x + 11 + 105), .ref (x + 11 + 114), .ref (x + 11 + 115), .ref (x + 11 + 116), .ref (x + 11 + 117), .ref (x + 11 + 118), .ref (x + 11 + 119)])) := ab_other e106 (by omega) c93
  have c108 : h105[x+11+114]? = some (.inl (.boolean, 256, .inl (upd y97 (7 : Int32).toNatClampNeg (vp_nar .boolean 0)))) := ab_self e106 c98
  have c109 : h105[x+11+1]? = some (.inr (7, [.int 0, n1, n2, n3, n4, n5, n6, n7, n8, n9, n10, n11, n12, n13, n14, n15])) := ab_other e106 (by omega) c95
  have fr110 : ab_fr (in_lo x) h h105 := ab_fr_set fr96 e106 (by (show _ < _; omega))
  clear c93 c98 c95 fr96 e106
  try clear h91
  obtain ⟨y111, c112⟩ : ∃ f : Nat → Int32, h105[x+11+114]? = some (.inl (.boolean, 256, .inl f)) := ⟨_, c108⟩
  clear c108
  refine ab_iinc (v := 8) (lv' := [some (.ref (x + 11)), some (.int 0), some (.int 0), some (.int 8)]) d_Play_place_74 rfl (by decide) (by decide) rfl ?_
  refine ab_goto (tgt := 45) d_Play_place_77 (by decide) ?_
  refine ab_iload_n d_Play_place_45 rfl rfl ?_
  refine ab_bipush (v := 16) d_Play_place_46 (by decide) ?_
  refine ab_icmp_gt (tgt := 80) d_Play_place_48 (by decide) (fun q113 => by exact absurd q113 (by decide)) (fun q113 => ?_)
  refine ab_iload_n d_Play_place_51 rfl rfl ?_
  refine ab_if_ne (tgt := 80) d_Play_place_52 (by decide) (fun q114 => by exact absurd q114 (by decide)) (fun q114 => ?_)
  refine ab_aload_n d_Play_place_55 rfl rfl rfl ?_
  refine ab_get (f := 8) d_Play_place_56 c107 rfl (by decide) (k2 144 rfl rfl) rfl ?_
  refine ab_iload_n d_Play_place_59 rfl rfl ?_
  refine ab_aload_n d_Play_place_60 rfl rfl rfl ?_
  refine ab_get (f := 0) d_Play_place_61 c107 rfl (by decide) (k2 130 rfl rfl) rfl ?_
  refine ab_get (f := 0) d_Play_place_64 c109 rfl (by decide) (k1 205 rfl rfl) rfl ?_
  refine ab_iload_n d_Play_place_67 rfl rfl ?_
  refine ab_iadd d_Play_place_68 ?_
  refine ab_topi (fun x115 ex115 => ?_)
  obtain rfl : x115 = 8 := ex115.trans (by decide)
  clear ex115
  refine ab_callS_a (As := [.int 0, .int 8]) (rest := [.ref (x + 11 + 114)]) d_Play_place_69 (c_Play_slot) (ab_mkC s_Play_slot (Nat.le_of_ble_eq_true rfl) (Nat.le_of_ble_eq_true rfl) (by decide) (by decide)) (k6 181 rfl rfl) t_Play_slot rfl (Nat.le_of_ble_eq_true rfl) (fun h117 q116 => ?_)
  subst q116
  refine ab_topi (fun x118 ex118 => ?_)
  obtain rfl : x118 = 8 := ex118.trans (by decide)
  clear ex118
  refine ab_iconst (v := 0) d_Play_place_72 (by decide) ?_
  refine ab_zast d_Play_place_73 tZ c112 (in_of (by decide) (by decide) (by decide)) ?_
  refine ab_gen (fun h119 e120 => ?_)
  have c121 : h119[x+11]? = some (.inr (10, [.ref (x + 11 + 1), .int 0, .int 0, .int 0, .ref (x + 11 + 104), .int 0, .ref (x + 11 + 7), .ref (x + 11 + 105), .ref (x + 11 + 114), .ref (x + 11 + 115), .ref (x + 11 + 116), .ref (x + 11 + 117), .ref (x + 11 + 118), .ref (x + 11 + 119)])) := ab_other e120 (by omega) c107
  have c122 : h119[x+11+114]? = some (.inl (.boolean, 256, .inl (upd y111 (8 : Int32).toNatClampNeg (vp_nar .boolean 0)))) := ab_self e120 c112
  have c123 : h119[x+11+1]? = some (.inr (7, [.int 0, n1, n2, n3, n4, n5, n6, n7, n8, n9, n10, n11, n12, n13, n14, n15])) := ab_other e120 (by omega) c109
  have fr124 : ab_fr (in_lo x) h h119 := ab_fr_set fr110 e120 (by (show _ < _; omega))
  clear c107 c112 c109 fr110 e120
  try clear h105
  obtain ⟨y125, c126⟩ : ∃ f : Nat → Int32, h119[x+11+114]? = some (.inl (.boolean, 256, .inl f)) := ⟨_, c122⟩
  clear c122
  refine ab_iinc (v := 9) (lv' := [some (.ref (x + 11)), some (.int 0), some (.int 0), some (.int 9)]) d_Play_place_74 rfl (by decide) (by decide) rfl ?_
  refine ab_goto (tgt := 45) d_Play_place_77 (by decide) ?_
  refine ab_iload_n d_Play_place_45 rfl rfl ?_
  refine ab_bipush (v := 16) d_Play_place_46 (by decide) ?_
  refine ab_icmp_gt (tgt := 80) d_Play_place_48 (by decide) (fun q127 => by exact absurd q127 (by decide)) (fun q127 => ?_)
  refine ab_iload_n d_Play_place_51 rfl rfl ?_
  refine ab_if_ne (tgt := 80) d_Play_place_52 (by decide) (fun q128 => by exact absurd q128 (by decide)) (fun q128 => ?_)
  refine ab_aload_n d_Play_place_55 rfl rfl rfl ?_
  refine ab_get (f := 8) d_Play_place_56 c121 rfl (by decide) (k2 144 rfl rfl) rfl ?_
  refine ab_iload_n d_Play_place_59 rfl rfl ?_
  refine ab_aload_n d_Play_place_60 rfl rfl rfl ?_
  refine ab_get (f := 0) d_Play_place_61 c121 rfl (by decide) (k2 130 rfl rfl) rfl ?_
  refine ab_get (f := 0) d_Play_place_64 c123 rfl (by decide) (k1 205 rfl rfl) rfl ?_
  refine ab_iload_n d_Play_place_67 rfl rfl ?_
  refine ab_iadd d_Play_place_68 ?_
  refine ab_topi (fun x129 ex129 => ?_)
  obtain rfl : x129 = 9 := ex129.trans (by decide)
  clear ex129
  refine ab_callS_a (As := [.int 0, .int 9]) (rest := [.ref (x + 11 + 114)]) d_Play_place_69 (c_Play_slot) (ab_mkC s_Play_slot (Nat.le_of_ble_eq_true rfl) (Nat.le_of_ble_eq_true rfl) (by decide) (by decide)) (k6 181 rfl rfl) t_Play_slot rfl (Nat.le_of_ble_eq_true rfl) (fun h131 q130 => ?_)
  subst q130
  refine ab_topi (fun x132 ex132 => ?_)
  obtain rfl : x132 = 9 := ex132.trans (by decide)
  clear ex132
  refine ab_iconst (v := 0) d_Play_place_72 (by decide) ?_
  refine ab_zast d_Play_place_73 tZ c126 (in_of (by decide) (by decide) (by decide)) ?_
  refine ab_gen (fun h133 e134 => ?_)
  have c135 : h133[x+11]? = some (.inr (10, [.ref (x + 11 + 1), .int 0, .int 0, .int 0, .ref (x + 11 + 104), .int 0, .ref (x + 11 + 7), .ref (x + 11 + 105), .ref (x + 11 + 114), .ref (x + 11 + 115), .ref (x + 11 + 116), .ref (x + 11 + 117), .ref (x + 11 + 118), .ref (x + 11 + 119)])) := ab_other e134 (by omega) c121
  have c136 : h133[x+11+114]? = some (.inl (.boolean, 256, .inl (upd y125 (9 : Int32).toNatClampNeg (vp_nar .boolean 0)))) := ab_self e134 c126
  have c137 : h133[x+11+1]? = some (.inr (7, [.int 0, n1, n2, n3, n4, n5, n6, n7, n8, n9, n10, n11, n12, n13, n14, n15])) := ab_other e134 (by omega) c123
  have fr138 : ab_fr (in_lo x) h h133 := ab_fr_set fr124 e134 (by (show _ < _; omega))
  clear c121 c126 c123 fr124 e134
  try clear h119
  obtain ⟨y139, c140⟩ : ∃ f : Nat → Int32, h133[x+11+114]? = some (.inl (.boolean, 256, .inl f)) := ⟨_, c136⟩
  clear c136
  refine ab_iinc (v := 10) (lv' := [some (.ref (x + 11)), some (.int 0), some (.int 0), some (.int 10)]) d_Play_place_74 rfl (by decide) (by decide) rfl ?_
  refine ab_goto (tgt := 45) d_Play_place_77 (by decide) ?_
  refine ab_iload_n d_Play_place_45 rfl rfl ?_
  refine ab_bipush (v := 16) d_Play_place_46 (by decide) ?_
  refine ab_icmp_gt (tgt := 80) d_Play_place_48 (by decide) (fun q141 => by exact absurd q141 (by decide)) (fun q141 => ?_)
  refine ab_iload_n d_Play_place_51 rfl rfl ?_
  refine ab_if_ne (tgt := 80) d_Play_place_52 (by decide) (fun q142 => by exact absurd q142 (by decide)) (fun q142 => ?_)
  refine ab_aload_n d_Play_place_55 rfl rfl rfl ?_
  refine ab_get (f := 8) d_Play_place_56 c135 rfl (by decide) (k2 144 rfl rfl) rfl ?_
  refine ab_iload_n d_Play_place_59 rfl rfl ?_
  refine ab_aload_n d_Play_place_60 rfl rfl rfl ?_
  refine ab_get (f := 0) d_Play_place_61 c135 rfl (by decide) (k2 130 rfl rfl) rfl ?_
  refine ab_get (f := 0) d_Play_place_64 c137 rfl (by decide) (k1 205 rfl rfl) rfl ?_
  refine ab_iload_n d_Play_place_67 rfl rfl ?_
  refine ab_iadd d_Play_place_68 ?_
  refine ab_topi (fun x143 ex143 => ?_)
  obtain rfl : x143 = 10 := ex143.trans (by decide)
  clear ex143
  refine ab_callS_a (As := [.int 0, .int 10]) (rest := [.ref (x + 11 + 114)]) d_Play_place_69 (c_Play_slot) (ab_mkC s_Play_slot (Nat.le_of_ble_eq_true rfl) (Nat.le_of_ble_eq_true rfl) (by decide) (by decide)) (k6 181 rfl rfl) t_Play_slot rfl (Nat.le_of_ble_eq_true rfl) (fun h145 q144 => ?_)
  subst q144
  refine ab_topi (fun x146 ex146 => ?_)
  obtain rfl : x146 = 10 := ex146.trans (by decide)
  clear ex146
  refine ab_iconst (v := 0) d_Play_place_72 (by decide) ?_
  refine ab_zast d_Play_place_73 tZ c140 (in_of (by decide) (by decide) (by decide)) ?_
  refine ab_gen (fun h147 e148 => ?_)
  have c149 : h147[x+11]? = some (.inr (10, [.ref (x + 11 + 1), .int 0, .int 0, .int 0, .ref (x + 11 + 104), .int 0, .ref (x + 11 + 7), .ref (x + 11 + 105), .ref (x + 11 + 114), .ref (x + 11 + 115), .ref (x + 11 + 116), .ref (x + 11 + 117), .ref (x + 11 + 118), .ref (x + 11 + 119)])) := ab_other e148 (by omega) c135
  have c150 : h147[x+11+114]? = some (.inl (.boolean, 256, .inl (upd y139 (10 : Int32).toNatClampNeg (vp_nar .boolean 0)))) := ab_self e148 c140
  have c151 : h147[x+11+1]? = some (.inr (7, [.int 0, n1, n2, n3, n4, n5, n6, n7, n8, n9, n10, n11, n12, n13, n14, n15])) := ab_other e148 (by omega) c137
  have fr152 : ab_fr (in_lo x) h h147 := ab_fr_set fr138 e148 (by (show _ < _; omega))
  clear c135 c140 c137 fr138 e148
  try clear h133
  obtain ⟨y153, c154⟩ : ∃ f : Nat → Int32, h147[x+11+114]? = some (.inl (.boolean, 256, .inl f)) := ⟨_, c150⟩
  clear c150
  refine ab_iinc (v := 11) (lv' := [some (.ref (x + 11)), some (.int 0), some (.int 0), some (.int 11)]) d_Play_place_74 rfl (by decide) (by decide) rfl ?_
  refine ab_goto (tgt := 45) d_Play_place_77 (by decide) ?_
  refine ab_iload_n d_Play_place_45 rfl rfl ?_
  refine ab_bipush (v := 16) d_Play_place_46 (by decide) ?_
  refine ab_icmp_gt (tgt := 80) d_Play_place_48 (by decide) (fun q155 => by exact absurd q155 (by decide)) (fun q155 => ?_)
  refine ab_iload_n d_Play_place_51 rfl rfl ?_
  refine ab_if_ne (tgt := 80) d_Play_place_52 (by decide) (fun q156 => by exact absurd q156 (by decide)) (fun q156 => ?_)
  refine ab_aload_n d_Play_place_55 rfl rfl rfl ?_
  refine ab_get (f := 8) d_Play_place_56 c149 rfl (by decide) (k2 144 rfl rfl) rfl ?_
  refine ab_iload_n d_Play_place_59 rfl rfl ?_
  refine ab_aload_n d_Play_place_60 rfl rfl rfl ?_
  refine ab_get (f := 0) d_Play_place_61 c149 rfl (by decide) (k2 130 rfl rfl) rfl ?_
  refine ab_get (f := 0) d_Play_place_64 c151 rfl (by decide) (k1 205 rfl rfl) rfl ?_
  refine ab_iload_n d_Play_place_67 rfl rfl ?_
  refine ab_iadd d_Play_place_68 ?_
  refine ab_topi (fun x157 ex157 => ?_)
  obtain rfl : x157 = 11 := ex157.trans (by decide)
  clear ex157
  refine ab_callS_a (As := [.int 0, .int 11]) (rest := [.ref (x + 11 + 114)]) d_Play_place_69 (c_Play_slot) (ab_mkC s_Play_slot (Nat.le_of_ble_eq_true rfl) (Nat.le_of_ble_eq_true rfl) (by decide) (by decide)) (k6 181 rfl rfl) t_Play_slot rfl (Nat.le_of_ble_eq_true rfl) (fun h159 q158 => ?_)
  subst q158
  refine ab_topi (fun x160 ex160 => ?_)
  obtain rfl : x160 = 11 := ex160.trans (by decide)
  clear ex160
  refine ab_iconst (v := 0) d_Play_place_72 (by decide) ?_
  refine ab_zast d_Play_place_73 tZ c154 (in_of (by decide) (by decide) (by decide)) ?_
  refine ab_gen (fun h161 e162 => ?_)
  have c163 : h161[x+11]? = some (.inr (10, [.ref (x + 11 + 1), .int 0, .int 0, .int 0, .ref (x + 11 + 104), .int 0, .ref (x + 11 + 7), .ref (x + 11 + 105), .ref (x + 11 + 114), .ref (x + 11 + 115), .ref (x + 11 + 116), .ref (x + 11 + 117), .ref (x + 11 + 118), .ref (x + 11 + 119)])) := ab_other e162 (by omega) c149
  have c164 : h161[x+11+114]? = some (.inl (.boolean, 256, .inl (upd y153 (11 : Int32).toNatClampNeg (vp_nar .boolean 0)))) := ab_self e162 c154
  have c165 : h161[x+11+1]? = some (.inr (7, [.int 0, n1, n2, n3, n4, n5, n6, n7, n8, n9, n10, n11, n12, n13, n14, n15])) := ab_other e162 (by omega) c151
  have fr166 : ab_fr (in_lo x) h h161 := ab_fr_set fr152 e162 (by (show _ < _; omega))
  clear c149 c154 c151 fr152 e162
  try clear h147
  obtain ⟨y167, c168⟩ : ∃ f : Nat → Int32, h161[x+11+114]? = some (.inl (.boolean, 256, .inl f)) := ⟨_, c164⟩
  clear c164
  refine ab_iinc (v := 12) (lv' := [some (.ref (x + 11)), some (.int 0), some (.int 0), some (.int 12)]) d_Play_place_74 rfl (by decide) (by decide) rfl ?_
  refine ab_goto (tgt := 45) d_Play_place_77 (by decide) ?_
  refine ab_iload_n d_Play_place_45 rfl rfl ?_
  refine ab_bipush (v := 16) d_Play_place_46 (by decide) ?_
  refine ab_icmp_gt (tgt := 80) d_Play_place_48 (by decide) (fun q169 => by exact absurd q169 (by decide)) (fun q169 => ?_)
  refine ab_iload_n d_Play_place_51 rfl rfl ?_
  refine ab_if_ne (tgt := 80) d_Play_place_52 (by decide) (fun q170 => by exact absurd q170 (by decide)) (fun q170 => ?_)
  refine ab_aload_n d_Play_place_55 rfl rfl rfl ?_
  refine ab_get (f := 8) d_Play_place_56 c163 rfl (by decide) (k2 144 rfl rfl) rfl ?_
  refine ab_iload_n d_Play_place_59 rfl rfl ?_
  refine ab_aload_n d_Play_place_60 rfl rfl rfl ?_
  refine ab_get (f := 0) d_Play_place_61 c163 rfl (by decide) (k2 130 rfl rfl) rfl ?_
  refine ab_get (f := 0) d_Play_place_64 c165 rfl (by decide) (k1 205 rfl rfl) rfl ?_
  refine ab_iload_n d_Play_place_67 rfl rfl ?_
  refine ab_iadd d_Play_place_68 ?_
  refine ab_topi (fun x171 ex171 => ?_)
  obtain rfl : x171 = 12 := ex171.trans (by decide)
  clear ex171
  refine ab_callS_a (As := [.int 0, .int 12]) (rest := [.ref (x + 11 + 114)]) d_Play_place_69 (c_Play_slot) (ab_mkC s_Play_slot (Nat.le_of_ble_eq_true rfl) (Nat.le_of_ble_eq_true rfl) (by decide) (by decide)) (k6 181 rfl rfl) t_Play_slot rfl (Nat.le_of_ble_eq_true rfl) (fun h173 q172 => ?_)
  subst q172
  refine ab_topi (fun x174 ex174 => ?_)
  obtain rfl : x174 = 12 := ex174.trans (by decide)
  clear ex174
  refine ab_iconst (v := 0) d_Play_place_72 (by decide) ?_
  refine ab_zast d_Play_place_73 tZ c168 (in_of (by decide) (by decide) (by decide)) ?_
  refine ab_gen (fun h175 e176 => ?_)
  have c177 : h175[x+11]? = some (.inr (10, [.ref (x + 11 + 1), .int 0, .int 0, .int 0, .ref (x + 11 + 104), .int 0, .ref (x + 11 + 7), .ref (x + 11 + 105), .ref (x + 11 + 114), .ref (x + 11 + 115), .ref (x + 11 + 116), .ref (x + 11 + 117), .ref (x + 11 + 118), .ref (x + 11 + 119)])) := ab_other e176 (by omega) c163
  have c178 : h175[x+11+114]? = some (.inl (.boolean, 256, .inl (upd y167 (12 : Int32).toNatClampNeg (vp_nar .boolean 0)))) := ab_self e176 c168
  have c179 : h175[x+11+1]? = some (.inr (7, [.int 0, n1, n2, n3, n4, n5, n6, n7, n8, n9, n10, n11, n12, n13, n14, n15])) := ab_other e176 (by omega) c165
  have fr180 : ab_fr (in_lo x) h h175 := ab_fr_set fr166 e176 (by (show _ < _; omega))
  clear c163 c168 c165 fr166 e176
  try clear h161
  obtain ⟨y181, c182⟩ : ∃ f : Nat → Int32, h175[x+11+114]? = some (.inl (.boolean, 256, .inl f)) := ⟨_, c178⟩
  clear c178
  refine ab_iinc (v := 13) (lv' := [some (.ref (x + 11)), some (.int 0), some (.int 0), some (.int 13)]) d_Play_place_74 rfl (by decide) (by decide) rfl ?_
  refine ab_goto (tgt := 45) d_Play_place_77 (by decide) ?_
  refine ab_iload_n d_Play_place_45 rfl rfl ?_
  refine ab_bipush (v := 16) d_Play_place_46 (by decide) ?_
  refine ab_icmp_gt (tgt := 80) d_Play_place_48 (by decide) (fun q183 => by exact absurd q183 (by decide)) (fun q183 => ?_)
  refine ab_iload_n d_Play_place_51 rfl rfl ?_
  refine ab_if_ne (tgt := 80) d_Play_place_52 (by decide) (fun q184 => by exact absurd q184 (by decide)) (fun q184 => ?_)
  refine ab_aload_n d_Play_place_55 rfl rfl rfl ?_
  refine ab_get (f := 8) d_Play_place_56 c177 rfl (by decide) (k2 144 rfl rfl) rfl ?_
  refine ab_iload_n d_Play_place_59 rfl rfl ?_
  refine ab_aload_n d_Play_place_60 rfl rfl rfl ?_
  refine ab_get (f := 0) d_Play_place_61 c177 rfl (by decide) (k2 130 rfl rfl) rfl ?_
  refine ab_get (f := 0) d_Play_place_64 c179 rfl (by decide) (k1 205 rfl rfl) rfl ?_
  refine ab_iload_n d_Play_place_67 rfl rfl ?_
  refine ab_iadd d_Play_place_68 ?_
  refine ab_topi (fun x185 ex185 => ?_)
  obtain rfl : x185 = 13 := ex185.trans (by decide)
  clear ex185
  refine ab_callS_a (As := [.int 0, .int 13]) (rest := [.ref (x + 11 + 114)]) d_Play_place_69 (c_Play_slot) (ab_mkC s_Play_slot (Nat.le_of_ble_eq_true rfl) (Nat.le_of_ble_eq_true rfl) (by decide) (by decide)) (k6 181 rfl rfl) t_Play_slot rfl (Nat.le_of_ble_eq_true rfl) (fun h187 q186 => ?_)
  subst q186
  refine ab_topi (fun x188 ex188 => ?_)
  obtain rfl : x188 = 13 := ex188.trans (by decide)
  clear ex188
  refine ab_iconst (v := 0) d_Play_place_72 (by decide) ?_
  refine ab_zast d_Play_place_73 tZ c182 (in_of (by decide) (by decide) (by decide)) ?_
  refine ab_gen (fun h189 e190 => ?_)
  have c191 : h189[x+11]? = some (.inr (10, [.ref (x + 11 + 1), .int 0, .int 0, .int 0, .ref (x + 11 + 104), .int 0, .ref (x + 11 + 7), .ref (x + 11 + 105), .ref (x + 11 + 114), .ref (x + 11 + 115), .ref (x + 11 + 116), .ref (x + 11 + 117), .ref (x + 11 + 118), .ref (x + 11 + 119)])) := ab_other e190 (by omega) c177
  have c192 : h189[x+11+114]? = some (.inl (.boolean, 256, .inl (upd y181 (13 : Int32).toNatClampNeg (vp_nar .boolean 0)))) := ab_self e190 c182
  have c193 : h189[x+11+1]? = some (.inr (7, [.int 0, n1, n2, n3, n4, n5, n6, n7, n8, n9, n10, n11, n12, n13, n14, n15])) := ab_other e190 (by omega) c179
  have fr194 : ab_fr (in_lo x) h h189 := ab_fr_set fr180 e190 (by (show _ < _; omega))
  clear c177 c182 c179 fr180 e190
  try clear h175
  obtain ⟨y195, c196⟩ : ∃ f : Nat → Int32, h189[x+11+114]? = some (.inl (.boolean, 256, .inl f)) := ⟨_, c192⟩
  clear c192
  refine ab_iinc (v := 14) (lv' := [some (.ref (x + 11)), some (.int 0), some (.int 0), some (.int 14)]) d_Play_place_74 rfl (by decide) (by decide) rfl ?_
  refine ab_goto (tgt := 45) d_Play_place_77 (by decide) ?_
  refine ab_iload_n d_Play_place_45 rfl rfl ?_
  refine ab_bipush (v := 16) d_Play_place_46 (by decide) ?_
  refine ab_icmp_gt (tgt := 80) d_Play_place_48 (by decide) (fun q197 => by exact absurd q197 (by decide)) (fun q197 => ?_)
  refine ab_iload_n d_Play_place_51 rfl rfl ?_
  refine ab_if_ne (tgt := 80) d_Play_place_52 (by decide) (fun q198 => by exact absurd q198 (by decide)) (fun q198 => ?_)
  refine ab_aload_n d_Play_place_55 rfl rfl rfl ?_
  refine ab_get (f := 8) d_Play_place_56 c191 rfl (by decide) (k2 144 rfl rfl) rfl ?_
  refine ab_iload_n d_Play_place_59 rfl rfl ?_
  refine ab_aload_n d_Play_place_60 rfl rfl rfl ?_
  refine ab_get (f := 0) d_Play_place_61 c191 rfl (by decide) (k2 130 rfl rfl) rfl ?_
  refine ab_get (f := 0) d_Play_place_64 c193 rfl (by decide) (k1 205 rfl rfl) rfl ?_
  refine ab_iload_n d_Play_place_67 rfl rfl ?_
  refine ab_iadd d_Play_place_68 ?_
  refine ab_topi (fun x199 ex199 => ?_)
  obtain rfl : x199 = 14 := ex199.trans (by decide)
  clear ex199
  refine ab_callS_a (As := [.int 0, .int 14]) (rest := [.ref (x + 11 + 114)]) d_Play_place_69 (c_Play_slot) (ab_mkC s_Play_slot (Nat.le_of_ble_eq_true rfl) (Nat.le_of_ble_eq_true rfl) (by decide) (by decide)) (k6 181 rfl rfl) t_Play_slot rfl (Nat.le_of_ble_eq_true rfl) (fun h201 q200 => ?_)
  subst q200
  refine ab_topi (fun x202 ex202 => ?_)
  obtain rfl : x202 = 14 := ex202.trans (by decide)
  clear ex202
  refine ab_iconst (v := 0) d_Play_place_72 (by decide) ?_
  refine ab_zast d_Play_place_73 tZ c196 (in_of (by decide) (by decide) (by decide)) ?_
  refine ab_gen (fun h203 e204 => ?_)
  have c205 : h203[x+11]? = some (.inr (10, [.ref (x + 11 + 1), .int 0, .int 0, .int 0, .ref (x + 11 + 104), .int 0, .ref (x + 11 + 7), .ref (x + 11 + 105), .ref (x + 11 + 114), .ref (x + 11 + 115), .ref (x + 11 + 116), .ref (x + 11 + 117), .ref (x + 11 + 118), .ref (x + 11 + 119)])) := ab_other e204 (by omega) c191
  have c206 : h203[x+11+114]? = some (.inl (.boolean, 256, .inl (upd y195 (14 : Int32).toNatClampNeg (vp_nar .boolean 0)))) := ab_self e204 c196
  have c207 : h203[x+11+1]? = some (.inr (7, [.int 0, n1, n2, n3, n4, n5, n6, n7, n8, n9, n10, n11, n12, n13, n14, n15])) := ab_other e204 (by omega) c193
  have fr208 : ab_fr (in_lo x) h h203 := ab_fr_set fr194 e204 (by (show _ < _; omega))
  clear c191 c196 c193 fr194 e204
  try clear h189
  obtain ⟨y209, c210⟩ : ∃ f : Nat → Int32, h203[x+11+114]? = some (.inl (.boolean, 256, .inl f)) := ⟨_, c206⟩
  clear c206
  refine ab_iinc (v := 15) (lv' := [some (.ref (x + 11)), some (.int 0), some (.int 0), some (.int 15)]) d_Play_place_74 rfl (by decide) (by decide) rfl ?_
  refine ab_goto (tgt := 45) d_Play_place_77 (by decide) ?_
  refine ab_iload_n d_Play_place_45 rfl rfl ?_
  refine ab_bipush (v := 16) d_Play_place_46 (by decide) ?_
  refine ab_icmp_gt (tgt := 80) d_Play_place_48 (by decide) (fun q211 => by exact absurd q211 (by decide)) (fun q211 => ?_)
  refine ab_iload_n d_Play_place_51 rfl rfl ?_
  refine ab_if_ne (tgt := 80) d_Play_place_52 (by decide) (fun q212 => by exact absurd q212 (by decide)) (fun q212 => ?_)
  refine ab_aload_n d_Play_place_55 rfl rfl rfl ?_
  refine ab_get (f := 8) d_Play_place_56 c205 rfl (by decide) (k2 144 rfl rfl) rfl ?_
  refine ab_iload_n d_Play_place_59 rfl rfl ?_
  refine ab_aload_n d_Play_place_60 rfl rfl rfl ?_
  refine ab_get (f := 0) d_Play_place_61 c205 rfl (by decide) (k2 130 rfl rfl) rfl ?_
  refine ab_get (f := 0) d_Play_place_64 c207 rfl (by decide) (k1 205 rfl rfl) rfl ?_
  refine ab_iload_n d_Play_place_67 rfl rfl ?_
  refine ab_iadd d_Play_place_68 ?_
  refine ab_topi (fun x213 ex213 => ?_)
  obtain rfl : x213 = 15 := ex213.trans (by decide)
  clear ex213
  refine ab_callS_a (As := [.int 0, .int 15]) (rest := [.ref (x + 11 + 114)]) d_Play_place_69 (c_Play_slot) (ab_mkC s_Play_slot (Nat.le_of_ble_eq_true rfl) (Nat.le_of_ble_eq_true rfl) (by decide) (by decide)) (k6 181 rfl rfl) t_Play_slot rfl (Nat.le_of_ble_eq_true rfl) (fun h215 q214 => ?_)
  subst q214
  refine ab_topi (fun x216 ex216 => ?_)
  obtain rfl : x216 = 15 := ex216.trans (by decide)
  clear ex216
  refine ab_iconst (v := 0) d_Play_place_72 (by decide) ?_
  refine ab_zast d_Play_place_73 tZ c210 (in_of (by decide) (by decide) (by decide)) ?_
  refine ab_gen (fun h217 e218 => ?_)
  have c219 : h217[x+11]? = some (.inr (10, [.ref (x + 11 + 1), .int 0, .int 0, .int 0, .ref (x + 11 + 104), .int 0, .ref (x + 11 + 7), .ref (x + 11 + 105), .ref (x + 11 + 114), .ref (x + 11 + 115), .ref (x + 11 + 116), .ref (x + 11 + 117), .ref (x + 11 + 118), .ref (x + 11 + 119)])) := ab_other e218 (by omega) c205
  have c220 : h217[x+11+114]? = some (.inl (.boolean, 256, .inl (upd y209 (15 : Int32).toNatClampNeg (vp_nar .boolean 0)))) := ab_self e218 c210
  have c221 : h217[x+11+1]? = some (.inr (7, [.int 0, n1, n2, n3, n4, n5, n6, n7, n8, n9, n10, n11, n12, n13, n14, n15])) := ab_other e218 (by omega) c207
  have fr222 : ab_fr (in_lo x) h h217 := ab_fr_set fr208 e218 (by (show _ < _; omega))
  clear c205 c210 c207 fr208 e218
  try clear h203
  obtain ⟨y223, c224⟩ : ∃ f : Nat → Int32, h217[x+11+114]? = some (.inl (.boolean, 256, .inl f)) := ⟨_, c220⟩
  clear c220
  refine ab_iinc (v := 16) (lv' := [some (.ref (x + 11)), some (.int 0), some (.int 0), some (.int 16)]) d_Play_place_74 rfl (by decide) (by decide) rfl ?_
  refine ab_goto (tgt := 45) d_Play_place_77 (by decide) ?_
  refine ab_iload_n d_Play_place_45 rfl rfl ?_
  refine ab_bipush (v := 16) d_Play_place_46 (by decide) ?_
  refine ab_icmp_gt (tgt := 80) d_Play_place_48 (by decide) (fun q225 => by exact absurd q225 (by decide)) (fun q225 => ?_)
  refine ab_iload_n d_Play_place_51 rfl rfl ?_
  refine ab_if_ne (tgt := 80) d_Play_place_52 (by decide) (fun q226 => by exact absurd q226 (by decide)) (fun q226 => ?_)
  refine ab_aload_n d_Play_place_55 rfl rfl rfl ?_
  refine ab_get (f := 8) d_Play_place_56 c219 rfl (by decide) (k2 144 rfl rfl) rfl ?_
  refine ab_iload_n d_Play_place_59 rfl rfl ?_
  refine ab_aload_n d_Play_place_60 rfl rfl rfl ?_
  refine ab_get (f := 0) d_Play_place_61 c219 rfl (by decide) (k2 130 rfl rfl) rfl ?_
  refine ab_get (f := 0) d_Play_place_64 c221 rfl (by decide) (k1 205 rfl rfl) rfl ?_
  refine ab_iload_n d_Play_place_67 rfl rfl ?_
  refine ab_iadd d_Play_place_68 ?_
  refine ab_topi (fun x227 ex227 => ?_)
  obtain rfl : x227 = 16 := ex227.trans (by decide)
  clear ex227
  refine ab_callS_a (As := [.int 0, .int 16]) (rest := [.ref (x + 11 + 114)]) d_Play_place_69 (c_Play_slot) (ab_mkC s_Play_slot (Nat.le_of_ble_eq_true rfl) (Nat.le_of_ble_eq_true rfl) (by decide) (by decide)) (k6 181 rfl rfl) t_Play_slot rfl (Nat.le_of_ble_eq_true rfl) (fun h229 q228 => ?_)
  subst q228
  refine ab_topi (fun x230 ex230 => ?_)
  obtain rfl : x230 = 16 := ex230.trans (by decide)
  clear ex230
  refine ab_iconst (v := 0) d_Play_place_72 (by decide) ?_
  refine ab_zast d_Play_place_73 tZ c224 (in_of (by decide) (by decide) (by decide)) ?_
  refine ab_gen (fun h231 e232 => ?_)
  have c233 : h231[x+11]? = some (.inr (10, [.ref (x + 11 + 1), .int 0, .int 0, .int 0, .ref (x + 11 + 104), .int 0, .ref (x + 11 + 7), .ref (x + 11 + 105), .ref (x + 11 + 114), .ref (x + 11 + 115), .ref (x + 11 + 116), .ref (x + 11 + 117), .ref (x + 11 + 118), .ref (x + 11 + 119)])) := ab_other e232 (by omega) c219
  have c234 : h231[x+11+114]? = some (.inl (.boolean, 256, .inl (upd y223 (16 : Int32).toNatClampNeg (vp_nar .boolean 0)))) := ab_self e232 c224
  have c235 : h231[x+11+1]? = some (.inr (7, [.int 0, n1, n2, n3, n4, n5, n6, n7, n8, n9, n10, n11, n12, n13, n14, n15])) := ab_other e232 (by omega) c221
  have fr236 : ab_fr (in_lo x) h h231 := ab_fr_set fr222 e232 (by (show _ < _; omega))
  clear c219 c224 c221 fr222 e232
  try clear h217
  obtain ⟨y237, c238⟩ : ∃ f : Nat → Int32, h231[x+11+114]? = some (.inl (.boolean, 256, .inl f)) := ⟨_, c234⟩
  clear c234
  refine ab_iinc (v := 17) (lv' := [some (.ref (x + 11)), some (.int 0), some (.int 0), some (.int 17)]) d_Play_place_74 rfl (by decide) (by decide) rfl ?_
  refine ab_goto (tgt := 45) d_Play_place_77 (by decide) ?_
  refine ab_iload_n d_Play_place_45 rfl rfl ?_
  refine ab_bipush (v := 16) d_Play_place_46 (by decide) ?_
  refine ab_icmp_gt (tgt := 80) d_Play_place_48 (by decide) (fun q239 => ?_) (fun q239 => by exact absurd (by decide) q239)
  refine ab_iconst (v := 1) d_Play_place_80 (by decide) ?_
  exact ab_zret d_Play_place_81 rfl rfl (Nat.le_refl _) (Nat.le_refl _) (by exact ⟨rfl, fr236⟩)
def sq_W_seat_00  : Int32 := (1)
set_option maxRecDepth 20000 in
set_option maxHeartbeats 2000000 in
theorem f_W_seat_00 {h : List ab_E}    {x : Nat} {w : Int32}    (h0 : at_W0 h x w) : ab_M y_W_seat { frames := 2, cells := 0, slots := 0, locals := 80 } [.ref x, .int 0, .int 0] h (ab_A (some (.int (sq_W_seat_00 ))) (fun h1 => ab_fr (in_lo x) h h1)) := by
  obtain ⟨hW, hL, hRd, hB, ⟨hP, hN, hBe, hWs, hTk, hRw⟩, hSt, ⟨hG, hG1, hGc, hG2, hG3, hGe, hG4, hG5⟩, ⟨hH, hH1, hHc, hH2, hH3, hHe, hH4, hH5⟩⟩ := h0
  have hW0 := hW; have gwo := hW
  replace gwo : h[x]? = some (.inr (0, [.ref (x + 1), .ref (x + 8), .ref (x + 11), .ref (x + 131), .ref (x + 133), .ref (x + 325), .int 0, .int (s0_W w 7), .int 0])) := gwo
  have hP0 := hP; obtain ⟨gpo, gp4, gp8, gp9, gp10, gp11, gp12, gp13⟩ := hP
  replace gpo : h[x + 11]? = some (.inr (10, [.ref (x + 11 + 1), .int 0, .int 1, .int 0, .ref (x + 11 + 104), .int 0, .ref (x + 11 + 7), .ref (x + 11 + 105), .ref (x + 11 + 114), .ref (x + 11 + 115), .ref (x + 11 + 116), .ref (x + 11 + 117), .ref (x + 11 + 118), .ref (x + 11 + 119)])) := gpo
  replace gp4 : h[x + 11 + 104]? = some (.inl (.int, 256, .inl (fun _ => 0))) := gp4
  replace gp8 : h[x + 11 + 114]? = some (.inl (.boolean, 256, .inl (fun _ => 0))) := gp8
  replace gp9 : h[x + 11 + 115]? = some (.inl (.int, 256, .inl (fun _ => 0))) := gp9
  replace gp10 : h[x + 11 + 116]? = some (.inl (.int, 4, .inl (fun _ => 0))) := gp10
  replace gp11 : h[x + 11 + 117]? = some (.inl (.int, 16, .inl (fun _ => 0))) := gp11
  replace gp12 : h[x + 11 + 118]? = some (.inl (.int, 64, .inl (fun _ => 0))) := gp12
  replace gp13 : h[x + 11 + 119]? = some (.inl (.int, 4, .inl (fun _ => 0))) := gp13
  have hN0 := hN; obtain ⟨gno, gn7, gn8, gn11, gn12, gn14⟩ := hN
  replace gno : h[x + 11 + 1]? = some (.inr (7, [.int 0, .int 0, .int 0, .int 0, .int 0, .int 0, .int 0, .ref (x + 11 + 1 + 1), .ref (x + 11 + 1 + 2), .int 0, .int 0, .ref (x + 11 + 1 + 3), .ref (x + 11 + 1 + 4), .int 0, .ref (x + 11 + 1 + 5), .int 0])) := gno
  replace gn7 : h[x + 11 + 1 + 1]? = some (.inl (.int, 256, .inl (fun _ => 0))) := gn7
  replace gn8 : h[x + 11 + 1 + 2]? = some (.inl (.int, 256, .inl (a0_World 8))) := gn8
  replace gn11 : h[x + 11 + 1 + 3]? = some (.inl (.int, 12288, .inl (fun _ => 0))) := gn11
  replace gn12 : h[x + 11 + 1 + 4]? = some (.inl (.int, 1792, .inl (fun _ => 0))) := gn12
  replace gn14 : h[x + 11 + 1 + 5]? = some (.inl (.int, 32, .inl (fun _ => 0))) := gn14
  refine ab_of2 (lv := [some (.ref x), some (.int 0), some (.int 0)]) 0 rfl rfl (Nat.le_of_ble_eq_true rfl) ?_
  refine ab_aload_n d_W_seat_0 rfl rfl rfl ?_
  refine ab_get (f := 2) d_W_seat_1 gwo rfl (by decide) (k3 159 rfl rfl) rfl ?_
  refine ab_iload_n d_W_seat_4 rfl rfl ?_
  refine ab_iload_n d_W_seat_5 rfl rfl ?_
  refine ab_callV_a (As := [.int 0, .int 0]) (rest := []) d_W_seat_6 (r_place_00 gpo gp8 gno) (ab_mkC s_Play_place (Nat.le_of_ble_eq_true rfl) (Nat.le_of_ble_eq_true rfl) (by decide) (by decide)) (k7 163 rfl rfl) i_Play_place v_Play_place gpo rfl rfl (Nat.le_of_ble_eq_true rfl) (fun h1 q2 => ?_)
  have f3 := q2
  have fr4 : ab_fr (in_lo x) h h1 := ab_fr_tr (ab_fr_rf _ _) f3
  clear f3
  exact ab_zret d_W_seat_9 rfl rfl (Nat.le_refl _) (Nat.le_refl _) (by unfold sq_W_seat_00; exact ⟨rfl, fr4⟩)
set_option maxRecDepth 20000 in
set_option maxHeartbeats 2000000 in
theorem r_place_01 {h : List ab_E}  {cf : Nat → Int32} {n1 n2 n3 n4 n5 n6 n7 n8 n9 n10 n11 n12 n13 n14 n15 : Value} {x : Nat}  (qo : h[x + 11]? = some (.inr (10, [.ref (x + 11 + 1), .int 0, .int 1, .int 0, .ref (x + 11 + 104), .int 0, .ref (x + 11 + 7), .ref (x + 11 + 105), .ref (x + 11 + 114), .ref (x + 11 + 115), .ref (x + 11 + 116), .ref (x + 11 + 117), .ref (x + 11 + 118), .ref (x + 11 + 119)]))) (ca : h[x + 11 + 114]? = some (.inl (.boolean, 256, .inl cf))) (no : h[x + 11 + 1]? = some (.inr (7, [.int 0, n1, n2, n3, n4, n5, n6, n7, n8, n9, n10, n11, n12, n13, n14, n15])))  : ab_M y_Play_place { frames := 1, cells := 0, slots := 0, locals := 40 } [.ref (x + 11), .int 0, .int 1] h (ab_A (some (.int (0))) (fun h1 => ab_fr (in_lo x) h h1)) := by
  refine ab_of2 (lv := [some (.ref (x + 11)), some (.int 0), some (.int 1), none]) 1 rfl rfl (Nat.le_of_ble_eq_true rfl) ?_
  refine ab_iload_n d_Play_place_0 rfl rfl ?_
  refine ab_if_lt (tgt := 29) d_Play_place_1 (by decide) (fun q1 => by exact absurd q1 (by decide)) (fun q1 => ?_)
  refine ab_iload_n d_Play_place_4 rfl rfl ?_
  refine ab_iconst (v := 4) d_Play_place_5 (by decide) ?_
  refine ab_icmp_ge (tgt := 29) d_Play_place_6 (by decide) (fun q2 => by exact absurd q2 (by decide)) (fun q2 => ?_)
  refine ab_aload_n d_Play_place_9 rfl rfl rfl ?_
  refine ab_get (f := 2) d_Play_place_10 qo rfl (by decide) (k2 134 rfl rfl) rfl ?_
  refine ab_iload_n d_Play_place_13 rfl rfl ?_
  refine ab_ishr d_Play_place_14 ?_
  refine ab_topi (fun x3 ex3 => ?_)
  obtain rfl : x3 = 1 := ex3.trans (by decide)
  clear ex3
  refine ab_iconst (v := 1) d_Play_place_15 (by decide) ?_
  refine ab_iand d_Play_place_16 ?_
  refine ab_topi (fun x4 ex4 => ?_)
  obtain rfl : x4 = 1 := ex4.trans (by decide)
  clear ex4
  refine ab_iload_n d_Play_place_17 rfl rfl ?_
  refine ab_if_eq (tgt := 25) d_Play_place_18 (by decide) (fun q5 => by exact absurd q5 (by decide)) (fun q5 => ?_)
  refine ab_iconst (v := 1) d_Play_place_21 (by decide) ?_
  refine ab_goto (tgt := 26) d_Play_place_22 (by decide) ?_
  refine ab_icmp_ne (tgt := 31) d_Play_place_26 (by decide) (fun q6 => by exact absurd q6 (by decide)) (fun q6 => ?_)
  refine ab_iconst (v := 0) d_Play_place_29 (by decide) ?_
  exact ab_zret d_Play_place_30 rfl rfl (Nat.le_refl _) (Nat.le_refl _) (by exact ⟨rfl, (ab_fr_rf _ _)⟩)
def sq_W_seat_01  : Int32 := (0)
set_option maxRecDepth 20000 in
set_option maxHeartbeats 2000000 in
theorem f_W_seat_01 {h : List ab_E}    {x : Nat} {w : Int32}    (h0 : at_W0 h x w) : ab_M y_W_seat { frames := 2, cells := 0, slots := 0, locals := 80 } [.ref x, .int 0, .int 1] h (ab_A (some (.int (sq_W_seat_01 ))) (fun h1 => ab_fr (in_lo x) h h1)) := by
  obtain ⟨hW, hL, hRd, hB, ⟨hP, hN, hBe, hWs, hTk, hRw⟩, hSt, ⟨hG, hG1, hGc, hG2, hG3, hGe, hG4, hG5⟩, ⟨hH, hH1, hHc, hH2, hH3, hHe, hH4, hH5⟩⟩ := h0
  have hW0 := hW; have gwo := hW
  replace gwo : h[x]? = some (.inr (0, [.ref (x + 1), .ref (x + 8), .ref (x + 11), .ref (x + 131), .ref (x + 133), .ref (x + 325), .int 0, .int (s0_W w 7), .int 0])) := gwo
  have hP0 := hP; obtain ⟨gpo, gp4, gp8, gp9, gp10, gp11, gp12, gp13⟩ := hP
  replace gpo : h[x + 11]? = some (.inr (10, [.ref (x + 11 + 1), .int 0, .int 1, .int 0, .ref (x + 11 + 104), .int 0, .ref (x + 11 + 7), .ref (x + 11 + 105), .ref (x + 11 + 114), .ref (x + 11 + 115), .ref (x + 11 + 116), .ref (x + 11 + 117), .ref (x + 11 + 118), .ref (x + 11 + 119)])) := gpo
  replace gp4 : h[x + 11 + 104]? = some (.inl (.int, 256, .inl (fun _ => 0))) := gp4
  replace gp8 : h[x + 11 + 114]? = some (.inl (.boolean, 256, .inl (fun _ => 0))) := gp8
  replace gp9 : h[x + 11 + 115]? = some (.inl (.int, 256, .inl (fun _ => 0))) := gp9
  replace gp10 : h[x + 11 + 116]? = some (.inl (.int, 4, .inl (fun _ => 0))) := gp10
  replace gp11 : h[x + 11 + 117]? = some (.inl (.int, 16, .inl (fun _ => 0))) := gp11
  replace gp12 : h[x + 11 + 118]? = some (.inl (.int, 64, .inl (fun _ => 0))) := gp12
  replace gp13 : h[x + 11 + 119]? = some (.inl (.int, 4, .inl (fun _ => 0))) := gp13
  have hN0 := hN; obtain ⟨gno, gn7, gn8, gn11, gn12, gn14⟩ := hN
  replace gno : h[x + 11 + 1]? = some (.inr (7, [.int 0, .int 0, .int 0, .int 0, .int 0, .int 0, .int 0, .ref (x + 11 + 1 + 1), .ref (x + 11 + 1 + 2), .int 0, .int 0, .ref (x + 11 + 1 + 3), .ref (x + 11 + 1 + 4), .int 0, .ref (x + 11 + 1 + 5), .int 0])) := gno
  replace gn7 : h[x + 11 + 1 + 1]? = some (.inl (.int, 256, .inl (fun _ => 0))) := gn7
  replace gn8 : h[x + 11 + 1 + 2]? = some (.inl (.int, 256, .inl (a0_World 8))) := gn8
  replace gn11 : h[x + 11 + 1 + 3]? = some (.inl (.int, 12288, .inl (fun _ => 0))) := gn11
  replace gn12 : h[x + 11 + 1 + 4]? = some (.inl (.int, 1792, .inl (fun _ => 0))) := gn12
  replace gn14 : h[x + 11 + 1 + 5]? = some (.inl (.int, 32, .inl (fun _ => 0))) := gn14
  refine ab_of2 (lv := [some (.ref x), some (.int 0), some (.int 1)]) 0 rfl rfl (Nat.le_of_ble_eq_true rfl) ?_
  refine ab_aload_n d_W_seat_0 rfl rfl rfl ?_
  refine ab_get (f := 2) d_W_seat_1 gwo rfl (by decide) (k3 159 rfl rfl) rfl ?_
  refine ab_iload_n d_W_seat_4 rfl rfl ?_
  refine ab_iload_n d_W_seat_5 rfl rfl ?_
  refine ab_callV_a (As := [.int 0, .int 1]) (rest := []) d_W_seat_6 (r_place_01 gpo gp8 gno) (ab_mkC s_Play_place (Nat.le_of_ble_eq_true rfl) (Nat.le_of_ble_eq_true rfl) (by decide) (by decide)) (k7 163 rfl rfl) i_Play_place v_Play_place gpo rfl rfl (Nat.le_of_ble_eq_true rfl) (fun h1 q2 => ?_)
  have f3 := q2
  have fr4 : ab_fr (in_lo x) h h1 := ab_fr_tr (ab_fr_rf _ _) f3
  clear f3
  exact ab_zret d_W_seat_9 rfl rfl (Nat.le_refl _) (Nat.le_refl _) (by unfold sq_W_seat_01; exact ⟨rfl, fr4⟩)
set_option maxRecDepth 20000 in
set_option maxHeartbeats 2000000 in
theorem r_place_10 {h : List ab_E}  {cf : Nat → Int32} {n1 n2 n3 n4 n5 n6 n7 n8 n9 n10 n11 n12 n13 n14 n15 : Value} {x : Nat}  (qo : h[x + 11]? = some (.inr (10, [.ref (x + 11 + 1), .int 0, .int 1, .int 0, .ref (x + 11 + 104), .int 0, .ref (x + 11 + 7), .ref (x + 11 + 105), .ref (x + 11 + 114), .ref (x + 11 + 115), .ref (x + 11 + 116), .ref (x + 11 + 117), .ref (x + 11 + 118), .ref (x + 11 + 119)]))) (ca : h[x + 11 + 114]? = some (.inl (.boolean, 256, .inl cf))) (no : h[x + 11 + 1]? = some (.inr (7, [.int 0, n1, n2, n3, n4, n5, n6, n7, n8, n9, n10, n11, n12, n13, n14, n15])))  : ab_M y_Play_place { frames := 1, cells := 0, slots := 0, locals := 40 } [.ref (x + 11), .int 1, .int 0] h (ab_A (some (.int (0))) (fun h1 => ab_fr (in_lo x) h h1)) := by
  refine ab_of2 (lv := [some (.ref (x + 11)), some (.int 1), some (.int 0), none]) 1 rfl rfl (Nat.le_of_ble_eq_true rfl) ?_
  refine ab_iload_n d_Play_place_0 rfl rfl ?_
  refine ab_if_lt (tgt := 29) d_Play_place_1 (by decide) (fun q1 => by exact absurd q1 (by decide)) (fun q1 => ?_)
  refine ab_iload_n d_Play_place_4 rfl rfl ?_
  refine ab_iconst (v := 4) d_Play_place_5 (by decide) ?_
  refine ab_icmp_ge (tgt := 29) d_Play_place_6 (by decide) (fun q2 => by exact absurd q2 (by decide)) (fun q2 => ?_)
  refine ab_aload_n d_Play_place_9 rfl rfl rfl ?_
  refine ab_get (f := 2) d_Play_place_10 qo rfl (by decide) (k2 134 rfl rfl) rfl ?_
  refine ab_iload_n d_Play_place_13 rfl rfl ?_
  refine ab_ishr d_Play_place_14 ?_
  refine ab_topi (fun x3 ex3 => ?_)
  obtain rfl : x3 = 0 := ex3.trans (by decide)
  clear ex3
  refine ab_iconst (v := 1) d_Play_place_15 (by decide) ?_
  refine ab_iand d_Play_place_16 ?_
  refine ab_topi (fun x4 ex4 => ?_)
  obtain rfl : x4 = 0 := ex4.trans (by decide)
  clear ex4
  refine ab_iload_n d_Play_place_17 rfl rfl ?_
  refine ab_if_eq (tgt := 25) d_Play_place_18 (by decide) (fun q5 => ?_) (fun q5 => by exact absurd (by decide) q5)
  refine ab_iconst (v := 0) d_Play_place_25 (by decide) ?_
  refine ab_icmp_ne (tgt := 31) d_Play_place_26 (by decide) (fun q6 => by exact absurd q6 (by decide)) (fun q6 => ?_)
  refine ab_iconst (v := 0) d_Play_place_29 (by decide) ?_
  exact ab_zret d_Play_place_30 rfl rfl (Nat.le_refl _) (Nat.le_refl _) (by exact ⟨rfl, (ab_fr_rf _ _)⟩)
def sq_W_seat_10  : Int32 := (0)
set_option maxRecDepth 20000 in
set_option maxHeartbeats 2000000 in
theorem f_W_seat_10 {h : List ab_E}    {x : Nat} {w : Int32}    (h0 : at_W0 h x w) : ab_M y_W_seat { frames := 2, cells := 0, slots := 0, locals := 80 } [.ref x, .int 1, .int 0] h (ab_A (some (.int (sq_W_seat_10 ))) (fun h1 => ab_fr (in_lo x) h h1)) := by
  obtain ⟨hW, hL, hRd, hB, ⟨hP, hN, hBe, hWs, hTk, hRw⟩, hSt, ⟨hG, hG1, hGc, hG2, hG3, hGe, hG4, hG5⟩, ⟨hH, hH1, hHc, hH2, hH3, hHe, hH4, hH5⟩⟩ := h0
  have hW0 := hW; have gwo := hW
  replace gwo : h[x]? = some (.inr (0, [.ref (x + 1), .ref (x + 8), .ref (x + 11), .ref (x + 131), .ref (x + 133), .ref (x + 325), .int 0, .int (s0_W w 7), .int 0])) := gwo
  have hP0 := hP; obtain ⟨gpo, gp4, gp8, gp9, gp10, gp11, gp12, gp13⟩ := hP
  replace gpo : h[x + 11]? = some (.inr (10, [.ref (x + 11 + 1), .int 0, .int 1, .int 0, .ref (x + 11 + 104), .int 0, .ref (x + 11 + 7), .ref (x + 11 + 105), .ref (x + 11 + 114), .ref (x + 11 + 115), .ref (x + 11 + 116), .ref (x + 11 + 117), .ref (x + 11 + 118), .ref (x + 11 + 119)])) := gpo
  replace gp4 : h[x + 11 + 104]? = some (.inl (.int, 256, .inl (fun _ => 0))) := gp4
  replace gp8 : h[x + 11 + 114]? = some (.inl (.boolean, 256, .inl (fun _ => 0))) := gp8
  replace gp9 : h[x + 11 + 115]? = some (.inl (.int, 256, .inl (fun _ => 0))) := gp9
  replace gp10 : h[x + 11 + 116]? = some (.inl (.int, 4, .inl (fun _ => 0))) := gp10
  replace gp11 : h[x + 11 + 117]? = some (.inl (.int, 16, .inl (fun _ => 0))) := gp11
  replace gp12 : h[x + 11 + 118]? = some (.inl (.int, 64, .inl (fun _ => 0))) := gp12
  replace gp13 : h[x + 11 + 119]? = some (.inl (.int, 4, .inl (fun _ => 0))) := gp13
  have hN0 := hN; obtain ⟨gno, gn7, gn8, gn11, gn12, gn14⟩ := hN
  replace gno : h[x + 11 + 1]? = some (.inr (7, [.int 0, .int 0, .int 0, .int 0, .int 0, .int 0, .int 0, .ref (x + 11 + 1 + 1), .ref (x + 11 + 1 + 2), .int 0, .int 0, .ref (x + 11 + 1 + 3), .ref (x + 11 + 1 + 4), .int 0, .ref (x + 11 + 1 + 5), .int 0])) := gno
  replace gn7 : h[x + 11 + 1 + 1]? = some (.inl (.int, 256, .inl (fun _ => 0))) := gn7
  replace gn8 : h[x + 11 + 1 + 2]? = some (.inl (.int, 256, .inl (a0_World 8))) := gn8
  replace gn11 : h[x + 11 + 1 + 3]? = some (.inl (.int, 12288, .inl (fun _ => 0))) := gn11
  replace gn12 : h[x + 11 + 1 + 4]? = some (.inl (.int, 1792, .inl (fun _ => 0))) := gn12
  replace gn14 : h[x + 11 + 1 + 5]? = some (.inl (.int, 32, .inl (fun _ => 0))) := gn14
  refine ab_of2 (lv := [some (.ref x), some (.int 1), some (.int 0)]) 0 rfl rfl (Nat.le_of_ble_eq_true rfl) ?_
  refine ab_aload_n d_W_seat_0 rfl rfl rfl ?_
  refine ab_get (f := 2) d_W_seat_1 gwo rfl (by decide) (k3 159 rfl rfl) rfl ?_
  refine ab_iload_n d_W_seat_4 rfl rfl ?_
  refine ab_iload_n d_W_seat_5 rfl rfl ?_
  refine ab_callV_a (As := [.int 1, .int 0]) (rest := []) d_W_seat_6 (r_place_10 gpo gp8 gno) (ab_mkC s_Play_place (Nat.le_of_ble_eq_true rfl) (Nat.le_of_ble_eq_true rfl) (by decide) (by decide)) (k7 163 rfl rfl) i_Play_place v_Play_place gpo rfl rfl (Nat.le_of_ble_eq_true rfl) (fun h1 q2 => ?_)
  have f3 := q2
  have fr4 : ab_fr (in_lo x) h h1 := ab_fr_tr (ab_fr_rf _ _) f3
  clear f3
  exact ab_zret d_W_seat_9 rfl rfl (Nat.le_refl _) (Nat.le_refl _) (by unfold sq_W_seat_10; exact ⟨rfl, fr4⟩)
set_option maxRecDepth 20000 in
set_option maxHeartbeats 2000000 in
theorem r_place_11 {h : List ab_E}  {cf : Nat → Int32} {n1 n2 n3 n4 n5 n6 n7 n8 n9 n10 n11 n12 n13 n14 n15 : Value} {x : Nat}  (qo : h[x + 11]? = some (.inr (10, [.ref (x + 11 + 1), .int 0, .int 1, .int 0, .ref (x + 11 + 104), .int 0, .ref (x + 11 + 7), .ref (x + 11 + 105), .ref (x + 11 + 114), .ref (x + 11 + 115), .ref (x + 11 + 116), .ref (x + 11 + 117), .ref (x + 11 + 118), .ref (x + 11 + 119)]))) (ca : h[x + 11 + 114]? = some (.inl (.boolean, 256, .inl cf))) (no : h[x + 11 + 1]? = some (.inr (7, [.int 0, n1, n2, n3, n4, n5, n6, n7, n8, n9, n10, n11, n12, n13, n14, n15])))  : ab_M y_Play_place { frames := 1, cells := 0, slots := 0, locals := 40 } [.ref (x + 11), .int 1, .int 1] h (ab_A (some (.int (1))) (fun h1 => ab_fr (in_lo x) h h1)) := by
  refine ab_of2 (lv := [some (.ref (x + 11)), some (.int 1), some (.int 1), none]) 1 rfl rfl (Nat.le_of_ble_eq_true rfl) ?_
  refine ab_iload_n d_Play_place_0 rfl rfl ?_
  refine ab_if_lt (tgt := 29) d_Play_place_1 (by decide) (fun q1 => by exact absurd q1 (by decide)) (fun q1 => ?_)
  refine ab_iload_n d_Play_place_4 rfl rfl ?_
  refine ab_iconst (v := 4) d_Play_place_5 (by decide) ?_
  refine ab_icmp_ge (tgt := 29) d_Play_place_6 (by decide) (fun q2 => by exact absurd q2 (by decide)) (fun q2 => ?_)
  refine ab_aload_n d_Play_place_9 rfl rfl rfl ?_
  refine ab_get (f := 2) d_Play_place_10 qo rfl (by decide) (k2 134 rfl rfl) rfl ?_
  refine ab_iload_n d_Play_place_13 rfl rfl ?_
  refine ab_ishr d_Play_place_14 ?_
  refine ab_topi (fun x3 ex3 => ?_)
  obtain rfl : x3 = 0 := ex3.trans (by decide)
  clear ex3
  refine ab_iconst (v := 1) d_Play_place_15 (by decide) ?_
  refine ab_iand d_Play_place_16 ?_
  refine ab_topi (fun x4 ex4 => ?_)
  obtain rfl : x4 = 0 := ex4.trans (by decide)
  clear ex4
  refine ab_iload_n d_Play_place_17 rfl rfl ?_
  refine ab_if_eq (tgt := 25) d_Play_place_18 (by decide) (fun q5 => by exact absurd q5 (by decide)) (fun q5 => ?_)
  refine ab_iconst (v := 1) d_Play_place_21 (by decide) ?_
  refine ab_goto (tgt := 26) d_Play_place_22 (by decide) ?_
  refine ab_icmp_ne (tgt := 31) d_Play_place_26 (by decide) (fun q6 => ?_) (fun q6 => by exact absurd q6 (by decide))
  refine ab_aload_n d_Play_place_31 rfl rfl rfl ?_
  refine ab_dup d_Play_place_32 rfl ?_
  refine ab_get (f := 2) d_Play_place_33 qo rfl (by decide) (k2 134 rfl rfl) rfl ?_
  refine ab_iconst (v := 1) d_Play_place_36 (by decide) ?_
  refine ab_iload_n d_Play_place_37 rfl rfl ?_
  refine ab_ishl d_Play_place_38 ?_
  refine ab_topi (fun x7 ex7 => ?_)
  obtain rfl : x7 = 2 := ex7.trans (by decide)
  clear ex7
  refine ab_ixor d_Play_place_39 ?_
  refine ab_topi (fun x8 ex8 => ?_)
  obtain rfl : x8 = 3 := ex8.trans (by decide)
  clear ex8
  refine ab_put (f := 2) d_Play_place_40 qo rfl (by decide) (k2 134 rfl rfl) rfl rfl (fun _ => rfl) (fun _ => rfl) (Nat.le_of_ble_eq_true rfl) ?_
  show ab_V _ _ _ _ _ _ _ 43 [some (.ref (x + 11)), some (.int 1), some (.int 1), none] [] (h.set (x+11) (.inr (10, [.ref (x + 11 + 1), .int 0, .int 3, .int 0, .ref (x + 11 + 104), .int 0, .ref (x + 11 + 7), .ref (x + 11 + 105), .ref (x + 11 + 114), .ref (x + 11 + 115), .ref (x + 11 + 116), .ref (x + 11 + 117), .ref (x + 11 + 118), .ref (x + 11 + 119)])))
  refine ab_gen (fun h9 e10 => ?_)
  have c11 : h9[x+11]? = some (.inr (10, [.ref (x + 11 + 1), .int 0, .int 3, .int 0, .ref (x + 11 + 104), .int 0, .ref (x + 11 + 7), .ref (x + 11 + 105), .ref (x + 11 + 114), .ref (x + 11 + 115), .ref (x + 11 + 116), .ref (x + 11 + 117), .ref (x + 11 + 118), .ref (x + 11 + 119)])) := ab_self e10 qo
  have c12 : h9[x+11+114]? = some (.inl (.boolean, 256, .inl cf)) := ab_other e10 (by omega) ca
  have c13 : h9[x+11+1]? = some (.inr (7, [.int 0, n1, n2, n3, n4, n5, n6, n7, n8, n9, n10, n11, n12, n13, n14, n15])) := ab_other e10 (by omega) no
  have fr14 : ab_fr (in_lo x) h h9 := ab_fr_set (ab_fr_rf _ _) e10 (by (show _ < _; omega))
  clear e10
  refine ab_iconst (v := 1) d_Play_place_43 (by decide) ?_
  refine ab_istore_n (lv' := [some (.ref (x + 11)), some (.int 1), some (.int 1), some (.int 1)]) d_Play_place_44 rfl (by decide) rfl ?_
  refine ab_iload_n d_Play_place_45 rfl rfl ?_
  refine ab_bipush (v := 16) d_Play_place_46 (by decide) ?_
  refine ab_icmp_gt (tgt := 80) d_Play_place_48 (by decide) (fun q15 => by exact absurd q15 (by decide)) (fun q15 => ?_)
  refine ab_iload_n d_Play_place_51 rfl rfl ?_
  refine ab_if_ne (tgt := 80) d_Play_place_52 (by decide) (fun q16 => ?_) (fun q16 => by exact absurd q16 (by decide))
  refine ab_iconst (v := 1) d_Play_place_80 (by decide) ?_
  exact ab_zret d_Play_place_81 rfl rfl (Nat.le_refl _) (Nat.le_refl _) (by exact ⟨rfl, fr14⟩)
def sq_W_seat_11  : Int32 := (1)
set_option maxRecDepth 20000 in
set_option maxHeartbeats 2000000 in
theorem f_W_seat_11 {h : List ab_E}    {x : Nat} {w : Int32}    (h0 : at_W0 h x w) : ab_M y_W_seat { frames := 2, cells := 0, slots := 0, locals := 80 } [.ref x, .int 1, .int 1] h (ab_A (some (.int (sq_W_seat_11 ))) (fun h1 => ab_fr (in_lo x) h h1)) := by
  obtain ⟨hW, hL, hRd, hB, ⟨hP, hN, hBe, hWs, hTk, hRw⟩, hSt, ⟨hG, hG1, hGc, hG2, hG3, hGe, hG4, hG5⟩, ⟨hH, hH1, hHc, hH2, hH3, hHe, hH4, hH5⟩⟩ := h0
  have hW0 := hW; have gwo := hW
  replace gwo : h[x]? = some (.inr (0, [.ref (x + 1), .ref (x + 8), .ref (x + 11), .ref (x + 131), .ref (x + 133), .ref (x + 325), .int 0, .int (s0_W w 7), .int 0])) := gwo
  have hP0 := hP; obtain ⟨gpo, gp4, gp8, gp9, gp10, gp11, gp12, gp13⟩ := hP
  replace gpo : h[x + 11]? = some (.inr (10, [.ref (x + 11 + 1), .int 0, .int 1, .int 0, .ref (x + 11 + 104), .int 0, .ref (x + 11 + 7), .ref (x + 11 + 105), .ref (x + 11 + 114), .ref (x + 11 + 115), .ref (x + 11 + 116), .ref (x + 11 + 117), .ref (x + 11 + 118), .ref (x + 11 + 119)])) := gpo
  replace gp4 : h[x + 11 + 104]? = some (.inl (.int, 256, .inl (fun _ => 0))) := gp4
  replace gp8 : h[x + 11 + 114]? = some (.inl (.boolean, 256, .inl (fun _ => 0))) := gp8
  replace gp9 : h[x + 11 + 115]? = some (.inl (.int, 256, .inl (fun _ => 0))) := gp9
  replace gp10 : h[x + 11 + 116]? = some (.inl (.int, 4, .inl (fun _ => 0))) := gp10
  replace gp11 : h[x + 11 + 117]? = some (.inl (.int, 16, .inl (fun _ => 0))) := gp11
  replace gp12 : h[x + 11 + 118]? = some (.inl (.int, 64, .inl (fun _ => 0))) := gp12
  replace gp13 : h[x + 11 + 119]? = some (.inl (.int, 4, .inl (fun _ => 0))) := gp13
  have hN0 := hN; obtain ⟨gno, gn7, gn8, gn11, gn12, gn14⟩ := hN
  replace gno : h[x + 11 + 1]? = some (.inr (7, [.int 0, .int 0, .int 0, .int 0, .int 0, .int 0, .int 0, .ref (x + 11 + 1 + 1), .ref (x + 11 + 1 + 2), .int 0, .int 0, .ref (x + 11 + 1 + 3), .ref (x + 11 + 1 + 4), .int 0, .ref (x + 11 + 1 + 5), .int 0])) := gno
  replace gn7 : h[x + 11 + 1 + 1]? = some (.inl (.int, 256, .inl (fun _ => 0))) := gn7
  replace gn8 : h[x + 11 + 1 + 2]? = some (.inl (.int, 256, .inl (a0_World 8))) := gn8
  replace gn11 : h[x + 11 + 1 + 3]? = some (.inl (.int, 12288, .inl (fun _ => 0))) := gn11
  replace gn12 : h[x + 11 + 1 + 4]? = some (.inl (.int, 1792, .inl (fun _ => 0))) := gn12
  replace gn14 : h[x + 11 + 1 + 5]? = some (.inl (.int, 32, .inl (fun _ => 0))) := gn14
  refine ab_of2 (lv := [some (.ref x), some (.int 1), some (.int 1)]) 0 rfl rfl (Nat.le_of_ble_eq_true rfl) ?_
  refine ab_aload_n d_W_seat_0 rfl rfl rfl ?_
  refine ab_get (f := 2) d_W_seat_1 gwo rfl (by decide) (k3 159 rfl rfl) rfl ?_
  refine ab_iload_n d_W_seat_4 rfl rfl ?_
  refine ab_iload_n d_W_seat_5 rfl rfl ?_
  refine ab_callV_a (As := [.int 1, .int 1]) (rest := []) d_W_seat_6 (r_place_11 gpo gp8 gno) (ab_mkC s_Play_place (Nat.le_of_ble_eq_true rfl) (Nat.le_of_ble_eq_true rfl) (by decide) (by decide)) (k7 163 rfl rfl) i_Play_place v_Play_place gpo rfl rfl (Nat.le_of_ble_eq_true rfl) (fun h1 q2 => ?_)
  have f3 := q2
  have fr4 : ab_fr (in_lo x) h h1 := ab_fr_tr (ab_fr_rf _ _) f3
  clear f3
  exact ab_zret d_W_seat_9 rfl rfl (Nat.le_refl _) (Nat.le_refl _) (by unfold sq_W_seat_11; exact ⟨rfl, fr4⟩)
set_option maxRecDepth 20000 in
set_option maxHeartbeats 2000000 in
theorem r_place_20 {h : List ab_E}  {cf : Nat → Int32} {n1 n2 n3 n4 n5 n6 n7 n8 n9 n10 n11 n12 n13 n14 n15 : Value} {x : Nat}  (qo : h[x + 11]? = some (.inr (10, [.ref (x + 11 + 1), .int 0, .int 1, .int 0, .ref (x + 11 + 104), .int 0, .ref (x + 11 + 7), .ref (x + 11 + 105), .ref (x + 11 + 114), .ref (x + 11 + 115), .ref (x + 11 + 116), .ref (x + 11 + 117), .ref (x + 11 + 118), .ref (x + 11 + 119)]))) (ca : h[x + 11 + 114]? = some (.inl (.boolean, 256, .inl cf))) (no : h[x + 11 + 1]? = some (.inr (7, [.int 0, n1, n2, n3, n4, n5, n6, n7, n8, n9, n10, n11, n12, n13, n14, n15])))  : ab_M y_Play_place { frames := 1, cells := 0, slots := 0, locals := 40 } [.ref (x + 11), .int 2, .int 0] h (ab_A (some (.int (0))) (fun h1 => ab_fr (in_lo x) h h1)) := by
  refine ab_of2 (lv := [some (.ref (x + 11)), some (.int 2), some (.int 0), none]) 1 rfl rfl (Nat.le_of_ble_eq_true rfl) ?_
  refine ab_iload_n d_Play_place_0 rfl rfl ?_
  refine ab_if_lt (tgt := 29) d_Play_place_1 (by decide) (fun q1 => by exact absurd q1 (by decide)) (fun q1 => ?_)
  refine ab_iload_n d_Play_place_4 rfl rfl ?_
  refine ab_iconst (v := 4) d_Play_place_5 (by decide) ?_
  refine ab_icmp_ge (tgt := 29) d_Play_place_6 (by decide) (fun q2 => by exact absurd q2 (by decide)) (fun q2 => ?_)
  refine ab_aload_n d_Play_place_9 rfl rfl rfl ?_
  refine ab_get (f := 2) d_Play_place_10 qo rfl (by decide) (k2 134 rfl rfl) rfl ?_
  refine ab_iload_n d_Play_place_13 rfl rfl ?_
  refine ab_ishr d_Play_place_14 ?_
  refine ab_topi (fun x3 ex3 => ?_)
  obtain rfl : x3 = 0 := ex3.trans (by decide)
  clear ex3
  refine ab_iconst (v := 1) d_Play_place_15 (by decide) ?_
  refine ab_iand d_Play_place_16 ?_
  refine ab_topi (fun x4 ex4 => ?_)
  obtain rfl : x4 = 0 := ex4.trans (by decide)
  clear ex4
  refine ab_iload_n d_Play_place_17 rfl rfl ?_
  refine ab_if_eq (tgt := 25) d_Play_place_18 (by decide) (fun q5 => ?_) (fun q5 => by exact absurd (by decide) q5)
  refine ab_iconst (v := 0) d_Play_place_25 (by decide) ?_
  refine ab_icmp_ne (tgt := 31) d_Play_place_26 (by decide) (fun q6 => by exact absurd q6 (by decide)) (fun q6 => ?_)
  refine ab_iconst (v := 0) d_Play_place_29 (by decide) ?_
  exact ab_zret d_Play_place_30 rfl rfl (Nat.le_refl _) (Nat.le_refl _) (by exact ⟨rfl, (ab_fr_rf _ _)⟩)
def sq_W_seat_20  : Int32 := (0)
set_option maxRecDepth 20000 in
set_option maxHeartbeats 2000000 in
theorem f_W_seat_20 {h : List ab_E}    {x : Nat} {w : Int32}    (h0 : at_W0 h x w) : ab_M y_W_seat { frames := 2, cells := 0, slots := 0, locals := 80 } [.ref x, .int 2, .int 0] h (ab_A (some (.int (sq_W_seat_20 ))) (fun h1 => ab_fr (in_lo x) h h1)) := by
  obtain ⟨hW, hL, hRd, hB, ⟨hP, hN, hBe, hWs, hTk, hRw⟩, hSt, ⟨hG, hG1, hGc, hG2, hG3, hGe, hG4, hG5⟩, ⟨hH, hH1, hHc, hH2, hH3, hHe, hH4, hH5⟩⟩ := h0
  have hW0 := hW; have gwo := hW
  replace gwo : h[x]? = some (.inr (0, [.ref (x + 1), .ref (x + 8), .ref (x + 11), .ref (x + 131), .ref (x + 133), .ref (x + 325), .int 0, .int (s0_W w 7), .int 0])) := gwo
  have hP0 := hP; obtain ⟨gpo, gp4, gp8, gp9, gp10, gp11, gp12, gp13⟩ := hP
  replace gpo : h[x + 11]? = some (.inr (10, [.ref (x + 11 + 1), .int 0, .int 1, .int 0, .ref (x + 11 + 104), .int 0, .ref (x + 11 + 7), .ref (x + 11 + 105), .ref (x + 11 + 114), .ref (x + 11 + 115), .ref (x + 11 + 116), .ref (x + 11 + 117), .ref (x + 11 + 118), .ref (x + 11 + 119)])) := gpo
  replace gp4 : h[x + 11 + 104]? = some (.inl (.int, 256, .inl (fun _ => 0))) := gp4
  replace gp8 : h[x + 11 + 114]? = some (.inl (.boolean, 256, .inl (fun _ => 0))) := gp8
  replace gp9 : h[x + 11 + 115]? = some (.inl (.int, 256, .inl (fun _ => 0))) := gp9
  replace gp10 : h[x + 11 + 116]? = some (.inl (.int, 4, .inl (fun _ => 0))) := gp10
  replace gp11 : h[x + 11 + 117]? = some (.inl (.int, 16, .inl (fun _ => 0))) := gp11
  replace gp12 : h[x + 11 + 118]? = some (.inl (.int, 64, .inl (fun _ => 0))) := gp12
  replace gp13 : h[x + 11 + 119]? = some (.inl (.int, 4, .inl (fun _ => 0))) := gp13
  have hN0 := hN; obtain ⟨gno, gn7, gn8, gn11, gn12, gn14⟩ := hN
  replace gno : h[x + 11 + 1]? = some (.inr (7, [.int 0, .int 0, .int 0, .int 0, .int 0, .int 0, .int 0, .ref (x + 11 + 1 + 1), .ref (x + 11 + 1 + 2), .int 0, .int 0, .ref (x + 11 + 1 + 3), .ref (x + 11 + 1 + 4), .int 0, .ref (x + 11 + 1 + 5), .int 0])) := gno
  replace gn7 : h[x + 11 + 1 + 1]? = some (.inl (.int, 256, .inl (fun _ => 0))) := gn7
  replace gn8 : h[x + 11 + 1 + 2]? = some (.inl (.int, 256, .inl (a0_World 8))) := gn8
  replace gn11 : h[x + 11 + 1 + 3]? = some (.inl (.int, 12288, .inl (fun _ => 0))) := gn11
  replace gn12 : h[x + 11 + 1 + 4]? = some (.inl (.int, 1792, .inl (fun _ => 0))) := gn12
  replace gn14 : h[x + 11 + 1 + 5]? = some (.inl (.int, 32, .inl (fun _ => 0))) := gn14
  refine ab_of2 (lv := [some (.ref x), some (.int 2), some (.int 0)]) 0 rfl rfl (Nat.le_of_ble_eq_true rfl) ?_
  refine ab_aload_n d_W_seat_0 rfl rfl rfl ?_
  refine ab_get (f := 2) d_W_seat_1 gwo rfl (by decide) (k3 159 rfl rfl) rfl ?_
  refine ab_iload_n d_W_seat_4 rfl rfl ?_
  refine ab_iload_n d_W_seat_5 rfl rfl ?_
  refine ab_callV_a (As := [.int 2, .int 0]) (rest := []) d_W_seat_6 (r_place_20 gpo gp8 gno) (ab_mkC s_Play_place (Nat.le_of_ble_eq_true rfl) (Nat.le_of_ble_eq_true rfl) (by decide) (by decide)) (k7 163 rfl rfl) i_Play_place v_Play_place gpo rfl rfl (Nat.le_of_ble_eq_true rfl) (fun h1 q2 => ?_)
  have f3 := q2
  have fr4 : ab_fr (in_lo x) h h1 := ab_fr_tr (ab_fr_rf _ _) f3
  clear f3
  exact ab_zret d_W_seat_9 rfl rfl (Nat.le_refl _) (Nat.le_refl _) (by unfold sq_W_seat_20; exact ⟨rfl, fr4⟩)
set_option maxRecDepth 20000 in
set_option maxHeartbeats 2000000 in
theorem r_place_21 {h : List ab_E}  {cf : Nat → Int32} {n1 n2 n3 n4 n5 n6 n7 n8 n9 n10 n11 n12 n13 n14 n15 : Value} {x : Nat}  (qo : h[x + 11]? = some (.inr (10, [.ref (x + 11 + 1), .int 0, .int 1, .int 0, .ref (x + 11 + 104), .int 0, .ref (x + 11 + 7), .ref (x + 11 + 105), .ref (x + 11 + 114), .ref (x + 11 + 115), .ref (x + 11 + 116), .ref (x + 11 + 117), .ref (x + 11 + 118), .ref (x + 11 + 119)]))) (ca : h[x + 11 + 114]? = some (.inl (.boolean, 256, .inl cf))) (no : h[x + 11 + 1]? = some (.inr (7, [.int 0, n1, n2, n3, n4, n5, n6, n7, n8, n9, n10, n11, n12, n13, n14, n15])))  : ab_M y_Play_place { frames := 1, cells := 0, slots := 0, locals := 40 } [.ref (x + 11), .int 2, .int 1] h (ab_A (some (.int (1))) (fun h1 => ab_fr (in_lo x) h h1)) := by
  refine ab_of2 (lv := [some (.ref (x + 11)), some (.int 2), some (.int 1), none]) 1 rfl rfl (Nat.le_of_ble_eq_true rfl) ?_
  refine ab_iload_n d_Play_place_0 rfl rfl ?_
  refine ab_if_lt (tgt := 29) d_Play_place_1 (by decide) (fun q1 => by exact absurd q1 (by decide)) (fun q1 => ?_)
  refine ab_iload_n d_Play_place_4 rfl rfl ?_
  refine ab_iconst (v := 4) d_Play_place_5 (by decide) ?_
  refine ab_icmp_ge (tgt := 29) d_Play_place_6 (by decide) (fun q2 => by exact absurd q2 (by decide)) (fun q2 => ?_)
  refine ab_aload_n d_Play_place_9 rfl rfl rfl ?_
  refine ab_get (f := 2) d_Play_place_10 qo rfl (by decide) (k2 134 rfl rfl) rfl ?_
  refine ab_iload_n d_Play_place_13 rfl rfl ?_
  refine ab_ishr d_Play_place_14 ?_
  refine ab_topi (fun x3 ex3 => ?_)
  obtain rfl : x3 = 0 := ex3.trans (by decide)
  clear ex3
  refine ab_iconst (v := 1) d_Play_place_15 (by decide) ?_
  refine ab_iand d_Play_place_16 ?_
  refine ab_topi (fun x4 ex4 => ?_)
  obtain rfl : x4 = 0 := ex4.trans (by decide)
  clear ex4
  refine ab_iload_n d_Play_place_17 rfl rfl ?_
  refine ab_if_eq (tgt := 25) d_Play_place_18 (by decide) (fun q5 => by exact absurd q5 (by decide)) (fun q5 => ?_)
  refine ab_iconst (v := 1) d_Play_place_21 (by decide) ?_
  refine ab_goto (tgt := 26) d_Play_place_22 (by decide) ?_
  refine ab_icmp_ne (tgt := 31) d_Play_place_26 (by decide) (fun q6 => ?_) (fun q6 => by exact absurd q6 (by decide))
  refine ab_aload_n d_Play_place_31 rfl rfl rfl ?_
  refine ab_dup d_Play_place_32 rfl ?_
  refine ab_get (f := 2) d_Play_place_33 qo rfl (by decide) (k2 134 rfl rfl) rfl ?_
  refine ab_iconst (v := 1) d_Play_place_36 (by decide) ?_
  refine ab_iload_n d_Play_place_37 rfl rfl ?_
  refine ab_ishl d_Play_place_38 ?_
  refine ab_topi (fun x7 ex7 => ?_)
  obtain rfl : x7 = 4 := ex7.trans (by decide)
  clear ex7
  refine ab_ixor d_Play_place_39 ?_
  refine ab_topi (fun x8 ex8 => ?_)
  obtain rfl : x8 = 5 := ex8.trans (by decide)
  clear ex8
  refine ab_put (f := 2) d_Play_place_40 qo rfl (by decide) (k2 134 rfl rfl) rfl rfl (fun _ => rfl) (fun _ => rfl) (Nat.le_of_ble_eq_true rfl) ?_
  show ab_V _ _ _ _ _ _ _ 43 [some (.ref (x + 11)), some (.int 2), some (.int 1), none] [] (h.set (x+11) (.inr (10, [.ref (x + 11 + 1), .int 0, .int 5, .int 0, .ref (x + 11 + 104), .int 0, .ref (x + 11 + 7), .ref (x + 11 + 105), .ref (x + 11 + 114), .ref (x + 11 + 115), .ref (x + 11 + 116), .ref (x + 11 + 117), .ref (x + 11 + 118), .ref (x + 11 + 119)])))
  refine ab_gen (fun h9 e10 => ?_)
  have c11 : h9[x+11]? = some (.inr (10, [.ref (x + 11 + 1), .int 0, .int 5, .int 0, .ref (x + 11 + 104), .int 0, .ref (x + 11 + 7), .ref (x + 11 + 105), .ref (x + 11 + 114), .ref (x + 11 + 115), .ref (x + 11 + 116), .ref (x + 11 + 117), .ref (x + 11 + 118), .ref (x + 11 + 119)])) := ab_self e10 qo
  have c12 : h9[x+11+114]? = some (.inl (.boolean, 256, .inl cf)) := ab_other e10 (by omega) ca
  have c13 : h9[x+11+1]? = some (.inr (7, [.int 0, n1, n2, n3, n4, n5, n6, n7, n8, n9, n10, n11, n12, n13, n14, n15])) := ab_other e10 (by omega) no
  have fr14 : ab_fr (in_lo x) h h9 := ab_fr_set (ab_fr_rf _ _) e10 (by (show _ < _; omega))
  clear e10
  refine ab_iconst (v := 1) d_Play_place_43 (by decide) ?_
  refine ab_istore_n (lv' := [some (.ref (x + 11)), some (.int 2), some (.int 1), some (.int 1)]) d_Play_place_44 rfl (by decide) rfl ?_
  refine ab_iload_n d_Play_place_45 rfl rfl ?_
  refine ab_bipush (v := 16) d_Play_place_46 (by decide) ?_
  refine ab_icmp_gt (tgt := 80) d_Play_place_48 (by decide) (fun q15 => by exact absurd q15 (by decide)) (fun q15 => ?_)
  refine ab_iload_n d_Play_place_51 rfl rfl ?_
  refine ab_if_ne (tgt := 80) d_Play_place_52 (by decide) (fun q16 => ?_) (fun q16 => by exact absurd q16 (by decide))
  refine ab_iconst (v := 1) d_Play_place_80 (by decide) ?_
  exact ab_zret d_Play_place_81 rfl rfl (Nat.le_refl _) (Nat.le_refl _) (by exact ⟨rfl, fr14⟩)
def sq_W_seat_21  : Int32 := (1)
set_option maxRecDepth 20000 in
set_option maxHeartbeats 2000000 in
theorem f_W_seat_21 {h : List ab_E}    {x : Nat} {w : Int32}    (h0 : at_W0 h x w) : ab_M y_W_seat { frames := 2, cells := 0, slots := 0, locals := 80 } [.ref x, .int 2, .int 1] h (ab_A (some (.int (sq_W_seat_21 ))) (fun h1 => ab_fr (in_lo x) h h1)) := by
  obtain ⟨hW, hL, hRd, hB, ⟨hP, hN, hBe, hWs, hTk, hRw⟩, hSt, ⟨hG, hG1, hGc, hG2, hG3, hGe, hG4, hG5⟩, ⟨hH, hH1, hHc, hH2, hH3, hHe, hH4, hH5⟩⟩ := h0
  have hW0 := hW; have gwo := hW
  replace gwo : h[x]? = some (.inr (0, [.ref (x + 1), .ref (x + 8), .ref (x + 11), .ref (x + 131), .ref (x + 133), .ref (x + 325), .int 0, .int (s0_W w 7), .int 0])) := gwo
  have hP0 := hP; obtain ⟨gpo, gp4, gp8, gp9, gp10, gp11, gp12, gp13⟩ := hP
  replace gpo : h[x + 11]? = some (.inr (10, [.ref (x + 11 + 1), .int 0, .int 1, .int 0, .ref (x + 11 + 104), .int 0, .ref (x + 11 + 7), .ref (x + 11 + 105), .ref (x + 11 + 114), .ref (x + 11 + 115), .ref (x + 11 + 116), .ref (x + 11 + 117), .ref (x + 11 + 118), .ref (x + 11 + 119)])) := gpo
  replace gp4 : h[x + 11 + 104]? = some (.inl (.int, 256, .inl (fun _ => 0))) := gp4
  replace gp8 : h[x + 11 + 114]? = some (.inl (.boolean, 256, .inl (fun _ => 0))) := gp8
  replace gp9 : h[x + 11 + 115]? = some (.inl (.int, 256, .inl (fun _ => 0))) := gp9
  replace gp10 : h[x + 11 + 116]? = some (.inl (.int, 4, .inl (fun _ => 0))) := gp10
  replace gp11 : h[x + 11 + 117]? = some (.inl (.int, 16, .inl (fun _ => 0))) := gp11
  replace gp12 : h[x + 11 + 118]? = some (.inl (.int, 64, .inl (fun _ => 0))) := gp12
  replace gp13 : h[x + 11 + 119]? = some (.inl (.int, 4, .inl (fun _ => 0))) := gp13
  have hN0 := hN; obtain ⟨gno, gn7, gn8, gn11, gn12, gn14⟩ := hN
  replace gno : h[x + 11 + 1]? = some (.inr (7, [.int 0, .int 0, .int 0, .int 0, .int 0, .int 0, .int 0, .ref (x + 11 + 1 + 1), .ref (x + 11 + 1 + 2), .int 0, .int 0, .ref (x + 11 + 1 + 3), .ref (x + 11 + 1 + 4), .int 0, .ref (x + 11 + 1 + 5), .int 0])) := gno
  replace gn7 : h[x + 11 + 1 + 1]? = some (.inl (.int, 256, .inl (fun _ => 0))) := gn7
  replace gn8 : h[x + 11 + 1 + 2]? = some (.inl (.int, 256, .inl (a0_World 8))) := gn8
  replace gn11 : h[x + 11 + 1 + 3]? = some (.inl (.int, 12288, .inl (fun _ => 0))) := gn11
  replace gn12 : h[x + 11 + 1 + 4]? = some (.inl (.int, 1792, .inl (fun _ => 0))) := gn12
  replace gn14 : h[x + 11 + 1 + 5]? = some (.inl (.int, 32, .inl (fun _ => 0))) := gn14
  refine ab_of2 (lv := [some (.ref x), some (.int 2), some (.int 1)]) 0 rfl rfl (Nat.le_of_ble_eq_true rfl) ?_
  refine ab_aload_n d_W_seat_0 rfl rfl rfl ?_
  refine ab_get (f := 2) d_W_seat_1 gwo rfl (by decide) (k3 159 rfl rfl) rfl ?_
  refine ab_iload_n d_W_seat_4 rfl rfl ?_
  refine ab_iload_n d_W_seat_5 rfl rfl ?_
  refine ab_callV_a (As := [.int 2, .int 1]) (rest := []) d_W_seat_6 (r_place_21 gpo gp8 gno) (ab_mkC s_Play_place (Nat.le_of_ble_eq_true rfl) (Nat.le_of_ble_eq_true rfl) (by decide) (by decide)) (k7 163 rfl rfl) i_Play_place v_Play_place gpo rfl rfl (Nat.le_of_ble_eq_true rfl) (fun h1 q2 => ?_)
  have f3 := q2
  have fr4 : ab_fr (in_lo x) h h1 := ab_fr_tr (ab_fr_rf _ _) f3
  clear f3
  exact ab_zret d_W_seat_9 rfl rfl (Nat.le_refl _) (Nat.le_refl _) (by unfold sq_W_seat_21; exact ⟨rfl, fr4⟩)
set_option maxRecDepth 20000 in
set_option maxHeartbeats 2000000 in
theorem r_place_30 {h : List ab_E}  {cf : Nat → Int32} {n1 n2 n3 n4 n5 n6 n7 n8 n9 n10 n11 n12 n13 n14 n15 : Value} {x : Nat}  (qo : h[x + 11]? = some (.inr (10, [.ref (x + 11 + 1), .int 0, .int 1, .int 0, .ref (x + 11 + 104), .int 0, .ref (x + 11 + 7), .ref (x + 11 + 105), .ref (x + 11 + 114), .ref (x + 11 + 115), .ref (x + 11 + 116), .ref (x + 11 + 117), .ref (x + 11 + 118), .ref (x + 11 + 119)]))) (ca : h[x + 11 + 114]? = some (.inl (.boolean, 256, .inl cf))) (no : h[x + 11 + 1]? = some (.inr (7, [.int 0, n1, n2, n3, n4, n5, n6, n7, n8, n9, n10, n11, n12, n13, n14, n15])))  : ab_M y_Play_place { frames := 1, cells := 0, slots := 0, locals := 40 } [.ref (x + 11), .int 3, .int 0] h (ab_A (some (.int (0))) (fun h1 => ab_fr (in_lo x) h h1)) := by
  refine ab_of2 (lv := [some (.ref (x + 11)), some (.int 3), some (.int 0), none]) 1 rfl rfl (Nat.le_of_ble_eq_true rfl) ?_
  refine ab_iload_n d_Play_place_0 rfl rfl ?_
  refine ab_if_lt (tgt := 29) d_Play_place_1 (by decide) (fun q1 => by exact absurd q1 (by decide)) (fun q1 => ?_)
  refine ab_iload_n d_Play_place_4 rfl rfl ?_
  refine ab_iconst (v := 4) d_Play_place_5 (by decide) ?_
  refine ab_icmp_ge (tgt := 29) d_Play_place_6 (by decide) (fun q2 => by exact absurd q2 (by decide)) (fun q2 => ?_)
  refine ab_aload_n d_Play_place_9 rfl rfl rfl ?_
  refine ab_get (f := 2) d_Play_place_10 qo rfl (by decide) (k2 134 rfl rfl) rfl ?_
  refine ab_iload_n d_Play_place_13 rfl rfl ?_
  refine ab_ishr d_Play_place_14 ?_
  refine ab_topi (fun x3 ex3 => ?_)
  obtain rfl : x3 = 0 := ex3.trans (by decide)
  clear ex3
  refine ab_iconst (v := 1) d_Play_place_15 (by decide) ?_
  refine ab_iand d_Play_place_16 ?_
  refine ab_topi (fun x4 ex4 => ?_)
  obtain rfl : x4 = 0 := ex4.trans (by decide)
  clear ex4
  refine ab_iload_n d_Play_place_17 rfl rfl ?_
  refine ab_if_eq (tgt := 25) d_Play_place_18 (by decide) (fun q5 => ?_) (fun q5 => by exact absurd (by decide) q5)
  refine ab_iconst (v := 0) d_Play_place_25 (by decide) ?_
  refine ab_icmp_ne (tgt := 31) d_Play_place_26 (by decide) (fun q6 => by exact absurd q6 (by decide)) (fun q6 => ?_)
  refine ab_iconst (v := 0) d_Play_place_29 (by decide) ?_
  exact ab_zret d_Play_place_30 rfl rfl (Nat.le_refl _) (Nat.le_refl _) (by exact ⟨rfl, (ab_fr_rf _ _)⟩)
def sq_W_seat_30  : Int32 := (0)
set_option maxRecDepth 20000 in
set_option maxHeartbeats 2000000 in
theorem f_W_seat_30 {h : List ab_E}    {x : Nat} {w : Int32}    (h0 : at_W0 h x w) : ab_M y_W_seat { frames := 2, cells := 0, slots := 0, locals := 80 } [.ref x, .int 3, .int 0] h (ab_A (some (.int (sq_W_seat_30 ))) (fun h1 => ab_fr (in_lo x) h h1)) := by
  obtain ⟨hW, hL, hRd, hB, ⟨hP, hN, hBe, hWs, hTk, hRw⟩, hSt, ⟨hG, hG1, hGc, hG2, hG3, hGe, hG4, hG5⟩, ⟨hH, hH1, hHc, hH2, hH3, hHe, hH4, hH5⟩⟩ := h0
  have hW0 := hW; have gwo := hW
  replace gwo : h[x]? = some (.inr (0, [.ref (x + 1), .ref (x + 8), .ref (x + 11), .ref (x + 131), .ref (x + 133), .ref (x + 325), .int 0, .int (s0_W w 7), .int 0])) := gwo
  have hP0 := hP; obtain ⟨gpo, gp4, gp8, gp9, gp10, gp11, gp12, gp13⟩ := hP
  replace gpo : h[x + 11]? = some (.inr (10, [.ref (x + 11 + 1), .int 0, .int 1, .int 0, .ref (x + 11 + 104), .int 0, .ref (x + 11 + 7), .ref (x + 11 + 105), .ref (x + 11 + 114), .ref (x + 11 + 115), .ref (x + 11 + 116), .ref (x + 11 + 117), .ref (x + 11 + 118), .ref (x + 11 + 119)])) := gpo
  replace gp4 : h[x + 11 + 104]? = some (.inl (.int, 256, .inl (fun _ => 0))) := gp4
  replace gp8 : h[x + 11 + 114]? = some (.inl (.boolean, 256, .inl (fun _ => 0))) := gp8
  replace gp9 : h[x + 11 + 115]? = some (.inl (.int, 256, .inl (fun _ => 0))) := gp9
  replace gp10 : h[x + 11 + 116]? = some (.inl (.int, 4, .inl (fun _ => 0))) := gp10
  replace gp11 : h[x + 11 + 117]? = some (.inl (.int, 16, .inl (fun _ => 0))) := gp11
  replace gp12 : h[x + 11 + 118]? = some (.inl (.int, 64, .inl (fun _ => 0))) := gp12
  replace gp13 : h[x + 11 + 119]? = some (.inl (.int, 4, .inl (fun _ => 0))) := gp13
  have hN0 := hN; obtain ⟨gno, gn7, gn8, gn11, gn12, gn14⟩ := hN
  replace gno : h[x + 11 + 1]? = some (.inr (7, [.int 0, .int 0, .int 0, .int 0, .int 0, .int 0, .int 0, .ref (x + 11 + 1 + 1), .ref (x + 11 + 1 + 2), .int 0, .int 0, .ref (x + 11 + 1 + 3), .ref (x + 11 + 1 + 4), .int 0, .ref (x + 11 + 1 + 5), .int 0])) := gno
  replace gn7 : h[x + 11 + 1 + 1]? = some (.inl (.int, 256, .inl (fun _ => 0))) := gn7
  replace gn8 : h[x + 11 + 1 + 2]? = some (.inl (.int, 256, .inl (a0_World 8))) := gn8
  replace gn11 : h[x + 11 + 1 + 3]? = some (.inl (.int, 12288, .inl (fun _ => 0))) := gn11
  replace gn12 : h[x + 11 + 1 + 4]? = some (.inl (.int, 1792, .inl (fun _ => 0))) := gn12
  replace gn14 : h[x + 11 + 1 + 5]? = some (.inl (.int, 32, .inl (fun _ => 0))) := gn14
  refine ab_of2 (lv := [some (.ref x), some (.int 3), some (.int 0)]) 0 rfl rfl (Nat.le_of_ble_eq_true rfl) ?_
  refine ab_aload_n d_W_seat_0 rfl rfl rfl ?_
  refine ab_get (f := 2) d_W_seat_1 gwo rfl (by decide) (k3 159 rfl rfl) rfl ?_
  refine ab_iload_n d_W_seat_4 rfl rfl ?_
  refine ab_iload_n d_W_seat_5 rfl rfl ?_
  refine ab_callV_a (As := [.int 3, .int 0]) (rest := []) d_W_seat_6 (r_place_30 gpo gp8 gno) (ab_mkC s_Play_place (Nat.le_of_ble_eq_true rfl) (Nat.le_of_ble_eq_true rfl) (by decide) (by decide)) (k7 163 rfl rfl) i_Play_place v_Play_place gpo rfl rfl (Nat.le_of_ble_eq_true rfl) (fun h1 q2 => ?_)
  have f3 := q2
  have fr4 : ab_fr (in_lo x) h h1 := ab_fr_tr (ab_fr_rf _ _) f3
  clear f3
  exact ab_zret d_W_seat_9 rfl rfl (Nat.le_refl _) (Nat.le_refl _) (by unfold sq_W_seat_30; exact ⟨rfl, fr4⟩)
set_option maxRecDepth 20000 in
set_option maxHeartbeats 2000000 in
theorem r_place_31 {h : List ab_E}  {cf : Nat → Int32} {n1 n2 n3 n4 n5 n6 n7 n8 n9 n10 n11 n12 n13 n14 n15 : Value} {x : Nat}  (qo : h[x + 11]? = some (.inr (10, [.ref (x + 11 + 1), .int 0, .int 1, .int 0, .ref (x + 11 + 104), .int 0, .ref (x + 11 + 7), .ref (x + 11 + 105), .ref (x + 11 + 114), .ref (x + 11 + 115), .ref (x + 11 + 116), .ref (x + 11 + 117), .ref (x + 11 + 118), .ref (x + 11 + 119)]))) (ca : h[x + 11 + 114]? = some (.inl (.boolean, 256, .inl cf))) (no : h[x + 11 + 1]? = some (.inr (7, [.int 0, n1, n2, n3, n4, n5, n6, n7, n8, n9, n10, n11, n12, n13, n14, n15])))  : ab_M y_Play_place { frames := 1, cells := 0, slots := 0, locals := 40 } [.ref (x + 11), .int 3, .int 1] h (ab_A (some (.int (1))) (fun h1 => ab_fr (in_lo x) h h1)) := by
  refine ab_of2 (lv := [some (.ref (x + 11)), some (.int 3), some (.int 1), none]) 1 rfl rfl (Nat.le_of_ble_eq_true rfl) ?_
  refine ab_iload_n d_Play_place_0 rfl rfl ?_
  refine ab_if_lt (tgt := 29) d_Play_place_1 (by decide) (fun q1 => by exact absurd q1 (by decide)) (fun q1 => ?_)
  refine ab_iload_n d_Play_place_4 rfl rfl ?_
  refine ab_iconst (v := 4) d_Play_place_5 (by decide) ?_
  refine ab_icmp_ge (tgt := 29) d_Play_place_6 (by decide) (fun q2 => by exact absurd q2 (by decide)) (fun q2 => ?_)
  refine ab_aload_n d_Play_place_9 rfl rfl rfl ?_
  refine ab_get (f := 2) d_Play_place_10 qo rfl (by decide) (k2 134 rfl rfl) rfl ?_
  refine ab_iload_n d_Play_place_13 rfl rfl ?_
  refine ab_ishr d_Play_place_14 ?_
  refine ab_topi (fun x3 ex3 => ?_)
  obtain rfl : x3 = 0 := ex3.trans (by decide)
  clear ex3
  refine ab_iconst (v := 1) d_Play_place_15 (by decide) ?_
  refine ab_iand d_Play_place_16 ?_
  refine ab_topi (fun x4 ex4 => ?_)
  obtain rfl : x4 = 0 := ex4.trans (by decide)
  clear ex4
  refine ab_iload_n d_Play_place_17 rfl rfl ?_
  refine ab_if_eq (tgt := 25) d_Play_place_18 (by decide) (fun q5 => by exact absurd q5 (by decide)) (fun q5 => ?_)
  refine ab_iconst (v := 1) d_Play_place_21 (by decide) ?_
  refine ab_goto (tgt := 26) d_Play_place_22 (by decide) ?_
  refine ab_icmp_ne (tgt := 31) d_Play_place_26 (by decide) (fun q6 => ?_) (fun q6 => by exact absurd q6 (by decide))
  refine ab_aload_n d_Play_place_31 rfl rfl rfl ?_
  refine ab_dup d_Play_place_32 rfl ?_
  refine ab_get (f := 2) d_Play_place_33 qo rfl (by decide) (k2 134 rfl rfl) rfl ?_
  refine ab_iconst (v := 1) d_Play_place_36 (by decide) ?_
  refine ab_iload_n d_Play_place_37 rfl rfl ?_
  refine ab_ishl d_Play_place_38 ?_
  refine ab_topi (fun x7 ex7 => ?_)
  obtain rfl : x7 = 8 := ex7.trans (by decide)
  clear ex7
  refine ab_ixor d_Play_place_39 ?_
  refine ab_topi (fun x8 ex8 => ?_)
  obtain rfl : x8 = 9 := ex8.trans (by decide)
  clear ex8
  refine ab_put (f := 2) d_Play_place_40 qo rfl (by decide) (k2 134 rfl rfl) rfl rfl (fun _ => rfl) (fun _ => rfl) (Nat.le_of_ble_eq_true rfl) ?_
  show ab_V _ _ _ _ _ _ _ 43 [some (.ref (x + 11)), some (.int 3), some (.int 1), none] [] (h.set (x+11) (.inr (10, [.ref (x + 11 + 1), .int 0, .int 9, .int 0, .ref (x + 11 + 104), .int 0, .ref (x + 11 + 7), .ref (x + 11 + 105), .ref (x + 11 + 114), .ref (x + 11 + 115), .ref (x + 11 + 116), .ref (x + 11 + 117), .ref (x + 11 + 118), .ref (x + 11 + 119)])))
  refine ab_gen (fun h9 e10 => ?_)
  have c11 : h9[x+11]? = some (.inr (10, [.ref (x + 11 + 1), .int 0, .int 9, .int 0, .ref (x + 11 + 104), .int 0, .ref (x + 11 + 7), .ref (x + 11 + 105), .ref (x + 11 + 114), .ref (x + 11 + 115), .ref (x + 11 + 116), .ref (x + 11 + 117), .ref (x + 11 + 118), .ref (x + 11 + 119)])) := ab_self e10 qo
  have c12 : h9[x+11+114]? = some (.inl (.boolean, 256, .inl cf)) := ab_other e10 (by omega) ca
  have c13 : h9[x+11+1]? = some (.inr (7, [.int 0, n1, n2, n3, n4, n5, n6, n7, n8, n9, n10, n11, n12, n13, n14, n15])) := ab_other e10 (by omega) no
  have fr14 : ab_fr (in_lo x) h h9 := ab_fr_set (ab_fr_rf _ _) e10 (by (show _ < _; omega))
  clear e10
  refine ab_iconst (v := 1) d_Play_place_43 (by decide) ?_
  refine ab_istore_n (lv' := [some (.ref (x + 11)), some (.int 3), some (.int 1), some (.int 1)]) d_Play_place_44 rfl (by decide) rfl ?_
  refine ab_iload_n d_Play_place_45 rfl rfl ?_
  refine ab_bipush (v := 16) d_Play_place_46 (by decide) ?_
  refine ab_icmp_gt (tgt := 80) d_Play_place_48 (by decide) (fun q15 => by exact absurd q15 (by decide)) (fun q15 => ?_)
  refine ab_iload_n d_Play_place_51 rfl rfl ?_
  refine ab_if_ne (tgt := 80) d_Play_place_52 (by decide) (fun q16 => ?_) (fun q16 => by exact absurd q16 (by decide))
  refine ab_iconst (v := 1) d_Play_place_80 (by decide) ?_
  exact ab_zret d_Play_place_81 rfl rfl (Nat.le_refl _) (Nat.le_refl _) (by exact ⟨rfl, fr14⟩)
def sq_W_seat_31  : Int32 := (1)
set_option maxRecDepth 20000 in
set_option maxHeartbeats 2000000 in
theorem f_W_seat_31 {h : List ab_E}    {x : Nat} {w : Int32}    (h0 : at_W0 h x w) : ab_M y_W_seat { frames := 2, cells := 0, slots := 0, locals := 80 } [.ref x, .int 3, .int 1] h (ab_A (some (.int (sq_W_seat_31 ))) (fun h1 => ab_fr (in_lo x) h h1)) := by
  obtain ⟨hW, hL, hRd, hB, ⟨hP, hN, hBe, hWs, hTk, hRw⟩, hSt, ⟨hG, hG1, hGc, hG2, hG3, hGe, hG4, hG5⟩, ⟨hH, hH1, hHc, hH2, hH3, hHe, hH4, hH5⟩⟩ := h0
  have hW0 := hW; have gwo := hW
  replace gwo : h[x]? = some (.inr (0, [.ref (x + 1), .ref (x + 8), .ref (x + 11), .ref (x + 131), .ref (x + 133), .ref (x + 325), .int 0, .int (s0_W w 7), .int 0])) := gwo
  have hP0 := hP; obtain ⟨gpo, gp4, gp8, gp9, gp10, gp11, gp12, gp13⟩ := hP
  replace gpo : h[x + 11]? = some (.inr (10, [.ref (x + 11 + 1), .int 0, .int 1, .int 0, .ref (x + 11 + 104), .int 0, .ref (x + 11 + 7), .ref (x + 11 + 105), .ref (x + 11 + 114), .ref (x + 11 + 115), .ref (x + 11 + 116), .ref (x + 11 + 117), .ref (x + 11 + 118), .ref (x + 11 + 119)])) := gpo
  replace gp4 : h[x + 11 + 104]? = some (.inl (.int, 256, .inl (fun _ => 0))) := gp4
  replace gp8 : h[x + 11 + 114]? = some (.inl (.boolean, 256, .inl (fun _ => 0))) := gp8
  replace gp9 : h[x + 11 + 115]? = some (.inl (.int, 256, .inl (fun _ => 0))) := gp9
  replace gp10 : h[x + 11 + 116]? = some (.inl (.int, 4, .inl (fun _ => 0))) := gp10
  replace gp11 : h[x + 11 + 117]? = some (.inl (.int, 16, .inl (fun _ => 0))) := gp11
  replace gp12 : h[x + 11 + 118]? = some (.inl (.int, 64, .inl (fun _ => 0))) := gp12
  replace gp13 : h[x + 11 + 119]? = some (.inl (.int, 4, .inl (fun _ => 0))) := gp13
  have hN0 := hN; obtain ⟨gno, gn7, gn8, gn11, gn12, gn14⟩ := hN
  replace gno : h[x + 11 + 1]? = some (.inr (7, [.int 0, .int 0, .int 0, .int 0, .int 0, .int 0, .int 0, .ref (x + 11 + 1 + 1), .ref (x + 11 + 1 + 2), .int 0, .int 0, .ref (x + 11 + 1 + 3), .ref (x + 11 + 1 + 4), .int 0, .ref (x + 11 + 1 + 5), .int 0])) := gno
  replace gn7 : h[x + 11 + 1 + 1]? = some (.inl (.int, 256, .inl (fun _ => 0))) := gn7
  replace gn8 : h[x + 11 + 1 + 2]? = some (.inl (.int, 256, .inl (a0_World 8))) := gn8
  replace gn11 : h[x + 11 + 1 + 3]? = some (.inl (.int, 12288, .inl (fun _ => 0))) := gn11
  replace gn12 : h[x + 11 + 1 + 4]? = some (.inl (.int, 1792, .inl (fun _ => 0))) := gn12
  replace gn14 : h[x + 11 + 1 + 5]? = some (.inl (.int, 32, .inl (fun _ => 0))) := gn14
  refine ab_of2 (lv := [some (.ref x), some (.int 3), some (.int 1)]) 0 rfl rfl (Nat.le_of_ble_eq_true rfl) ?_
  refine ab_aload_n d_W_seat_0 rfl rfl rfl ?_
  refine ab_get (f := 2) d_W_seat_1 gwo rfl (by decide) (k3 159 rfl rfl) rfl ?_
  refine ab_iload_n d_W_seat_4 rfl rfl ?_
  refine ab_iload_n d_W_seat_5 rfl rfl ?_
  refine ab_callV_a (As := [.int 3, .int 1]) (rest := []) d_W_seat_6 (r_place_31 gpo gp8 gno) (ab_mkC s_Play_place (Nat.le_of_ble_eq_true rfl) (Nat.le_of_ble_eq_true rfl) (by decide) (by decide)) (k7 163 rfl rfl) i_Play_place v_Play_place gpo rfl rfl (Nat.le_of_ble_eq_true rfl) (fun h1 q2 => ?_)
  have f3 := q2
  have fr4 : ab_fr (in_lo x) h h1 := ab_fr_tr (ab_fr_rf _ _) f3
  clear f3
  exact ab_zret d_W_seat_9 rfl rfl (Nat.le_refl _) (Nat.le_refl _) (by unfold sq_W_seat_31; exact ⟨rfl, fr4⟩)
