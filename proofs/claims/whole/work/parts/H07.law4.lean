/-! ===== the cases of the law (gen_law.py) ===== -/
section Par
variable {p : Program} {l : Launch} {e : Env} {s : State} {m : MethodId} {args : Array Value} {below : List Frame} {meth : Method} {c : Code} {G : ab_G} {sL : Nat} {sxs : Nat → Int32} {s0 i k : Nat} {H : Hp}
set_option maxRecDepth 20000 in
set_option maxHeartbeats 4000000 in
theorem lc_22 (hX : ab_X y_Law p l s m args meth c) (hK : pw_K G sL sxs s) (hi : i + 5 < sL) (hL : sL < 2 ^ 31) (hk : k ≤ 511) (hs0 : s0 ≤ 1000000) (hR : RR 2000000 s0 k H H) (next : ∀ H2, RR 2000000 s0 (k + 1) H2 H2 → pw_V p l e s m args below meth c G y_Law room_1 (fun o _ => o = .returned (some (.int 1))) room_1.cells room_1.slots H2.sh.length H2.sl 1137 (lvL i) [] (hpw H2)) : pw_V p l e s m args below meth c G y_Law room_1 (fun o _ => o = .returned (some (.int 1))) room_1.cells room_1.slots H.sh.length H.sl 964 (lvL i) [] (hpw H) := by
  have hG := hR.gr.1
  have b0 := hR.room
  obtain ⟨r, A2, B2, e1, e2, hR2, g1, g2⟩ := oc_bend (N := 2000000) (s0 := s0) (k := k) (x1 := sxs (i + 1)) (x2 := sxs (i + 2)) H hR
  have e1 : F_W_bend 2000000 0 (sxs (i + 1)) (sxs (i + 2)) H = some (r, A2) := e1
  have e2 : F_M_bend 2000000 517 (sxs (i + 1)) (sxs (i + 2)) A2 = some (r, B2) := e2
  have mo : Mo H A2 := (m_W_bend e1).mo
  have mo2 : Sa A2 B2 := m_M_bend e2
  have l1 := mo.len
  have l2 := mo.2
  have b2 := hR2.room
  have c1 : B2.sh.length = A2.sh.length := by rw [mo2.1]
  have c2 : B2.sl = A2.sl := mo2.2
  refine pw_aload_n hX d_Law_964 rfl rfl rfl ?_
  refine pw_arg hX hK (k := 1) d_Law_965 d_Law_966 d_Law_968 d_Law_969 d_Law_970 rfl rfl (by decide) (by omega) hL ?_
  refine pw_arg hX hK (k := 2) d_Law_971 d_Law_972 d_Law_974 d_Law_975 d_Law_976 rfl rfl (by decide) (by omega) hL ?_
  refine hw_callV_a hX (v := .int r) (H1 := A2) (As := [.int (sxs (i + 1)), .int (sxs (i + 2))]) (rest := []) d_Law_977 hK (k_W_bend e1) (ab_mkC s_W_bend (Nat.le_of_ble_eq_true rfl) (Nat.le_of_ble_eq_true rfl) (by show H.sh.length + 0 ≤ 601024; omega) (by show H.sl + 0 ≤ 7292999; omega)) (k8 27 rfl rfl) i_W_bend v_W_bend (rS_0 hG) (by decide) rfl rfl (Nat.le_of_ble_eq_true rfl) ?_
  refine pw_aload_n hX d_Law_980 rfl rfl rfl ?_
  refine pw_arg hX hK (k := 1) d_Law_981 d_Law_982 d_Law_984 d_Law_985 d_Law_986 rfl rfl (by decide) (by omega) hL ?_
  refine pw_arg hX hK (k := 2) d_Law_987 d_Law_988 d_Law_990 d_Law_991 d_Law_992 rfl rfl (by decide) (by omega) hL ?_
  refine hw_callV_a hX (v := .int r) (H1 := B2) (As := [.int (sxs (i + 1)), .int (sxs (i + 2))]) (rest := [.int r]) d_Law_993 hK (k_M_bend e2) (ab_mkC s_M_bend (Nat.le_of_ble_eq_true rfl) (Nat.le_of_ble_eq_true rfl) (by show H.sh.length + 0 + 0 ≤ 601024; omega) (by show H.sl + 0 + 0 ≤ 7292999; omega)) (k13 40 rfl rfl) i_M_bend v_M_bend (mo.get (rS_517 hG)) (by decide) rfl rfl (Nat.le_of_ble_eq_true rfl) ?_
  refine pw_icmp_eq hX (tgt := 1137) d_Law_996 (by decide) (fun _ => ?_) (fun q => absurd rfl q)
  exact pw_widen hX (cells' := B2.sh.length) (slots' := B2.sl) (by show H.sh.length + 0 + 0 ≤ _; omega) (by show H.sl + 0 + 0 ≤ _; omega) (next B2 hR2)
set_option maxRecDepth 20000 in
set_option maxHeartbeats 4000000 in
theorem lc_23 (hX : ab_X y_Law p l s m args meth c) (hK : pw_K G sL sxs s) (hi : i + 5 < sL) (hL : sL < 2 ^ 31) (hk : k ≤ 511) (hs0 : s0 ≤ 1000000) (hR : RR 2000000 s0 k H H) (next : ∀ H2, RR 2000000 s0 (k + 1) H2 H2 → pw_V p l e s m args below meth c G y_Law room_1 (fun o _ => o = .returned (some (.int 1))) room_1.cells room_1.slots H2.sh.length H2.sl 1137 (lvL i) [] (hpw H2)) : pw_V p l e s m args below meth c G y_Law room_1 (fun o _ => o = .returned (some (.int 1))) room_1.cells room_1.slots H.sh.length H.sl 1001 (lvL i) [] (hpw H) := by
  have hG := hR.gr.1
  have b0 := hR.room
  obtain ⟨r, A2, B2, e1, e2, hR2, g1, g2⟩ := oc_cut (N := 2000000) (s0 := s0) (k := k) (x1 := sxs (i + 1)) H hR
  have e1 : F_W_cut 2000000 0 (sxs (i + 1)) H = some (r, A2) := e1
  have e2 : F_M_cut 2000000 517 (sxs (i + 1)) A2 = some (r, B2) := e2
  have mo : Mo H A2 := (m_W_cut e1).mo
  have mo2 : Sa A2 B2 := m_M_cut e2
  have l1 := mo.len
  have l2 := mo.2
  have b2 := hR2.room
  have c1 : B2.sh.length = A2.sh.length := by rw [mo2.1]
  have c2 : B2.sl = A2.sl := mo2.2
  refine pw_aload_n hX d_Law_1001 rfl rfl rfl ?_
  refine pw_arg hX hK (k := 1) d_Law_1002 d_Law_1003 d_Law_1005 d_Law_1006 d_Law_1007 rfl rfl (by decide) (by omega) hL ?_
  refine hw_callV_a hX (v := .int r) (H1 := A2) (As := [.int (sxs (i + 1))]) (rest := []) d_Law_1008 hK (k_W_cut e1) (ab_mkC s_W_cut (Nat.le_of_ble_eq_true rfl) (Nat.le_of_ble_eq_true rfl) (by show H.sh.length + 0 ≤ 601024; omega) (by show H.sl + 0 ≤ 7292999; omega)) (k8 31 rfl rfl) i_W_cut v_W_cut (rS_0 hG) (by decide) rfl rfl (Nat.le_of_ble_eq_true rfl) ?_
  refine pw_aload_n hX d_Law_1011 rfl rfl rfl ?_
  refine pw_arg hX hK (k := 1) d_Law_1012 d_Law_1013 d_Law_1015 d_Law_1016 d_Law_1017 rfl rfl (by decide) (by omega) hL ?_
  refine hw_callV_a hX (v := .int r) (H1 := B2) (As := [.int (sxs (i + 1))]) (rest := [.int r]) d_Law_1018 hK (k_M_cut e2) (ab_mkC s_M_cut (Nat.le_of_ble_eq_true rfl) (Nat.le_of_ble_eq_true rfl) (by show H.sh.length + 0 + 0 ≤ 601024; omega) (by show H.sl + 0 + 0 ≤ 7292999; omega)) (k13 44 rfl rfl) i_M_cut v_M_cut (mo.get (rS_517 hG)) (by decide) rfl rfl (Nat.le_of_ble_eq_true rfl) ?_
  refine pw_icmp_eq hX (tgt := 1137) d_Law_1021 (by decide) (fun _ => ?_) (fun q => absurd rfl q)
  exact pw_widen hX (cells' := B2.sh.length) (slots' := B2.sl) (by show H.sh.length + 0 + 0 ≤ _; omega) (by show H.sl + 0 + 0 ≤ _; omega) (next B2 hR2)
set_option maxRecDepth 20000 in
set_option maxHeartbeats 4000000 in
theorem lc_24 (hX : ab_X y_Law p l s m args meth c) (hK : pw_K G sL sxs s) (hi : i + 5 < sL) (hL : sL < 2 ^ 31) (hk : k ≤ 511) (hs0 : s0 ≤ 1000000) (hR : RR 2000000 s0 k H H) (next : ∀ H2, RR 2000000 s0 (k + 1) H2 H2 → pw_V p l e s m args below meth c G y_Law room_1 (fun o _ => o = .returned (some (.int 1))) room_1.cells room_1.slots H2.sh.length H2.sl 1137 (lvL i) [] (hpw H2)) : pw_V p l e s m args below meth c G y_Law room_1 (fun o _ => o = .returned (some (.int 1))) room_1.cells room_1.slots H.sh.length H.sl 1026 (lvL i) [] (hpw H) := by
  have hG := hR.gr.1
  have b0 := hR.room
  obtain ⟨r, A2, B2, e1, e2, hR2, g1, g2⟩ := oc_byteOut (N := 2000000) (s0 := s0) (k := k) (x1 := sxs (i + 1)) H hR
  have e1 : F_W_byteOut 2000000 0 (sxs (i + 1)) H = some (r, A2) := e1
  have e2 : F_M_byteOut 2000000 517 (sxs (i + 1)) A2 = some (r, B2) := e2
  have mo : Mo H A2 := (m_W_byteOut e1).mo
  have mo2 : Sa A2 B2 := m_M_byteOut e2
  have l1 := mo.len
  have l2 := mo.2
  have b2 := hR2.room
  have c1 : B2.sh.length = A2.sh.length := by rw [mo2.1]
  have c2 : B2.sl = A2.sl := mo2.2
  refine pw_aload_n hX d_Law_1026 rfl rfl rfl ?_
  refine pw_arg hX hK (k := 1) d_Law_1027 d_Law_1028 d_Law_1030 d_Law_1031 d_Law_1032 rfl rfl (by decide) (by omega) hL ?_
  refine hw_callV_a hX (v := .int r) (H1 := A2) (As := [.int (sxs (i + 1))]) (rest := []) d_Law_1033 hK (k_W_byteOut e1) (ab_mkC s_W_byteOut (Nat.le_of_ble_eq_true rfl) (Nat.le_of_ble_eq_true rfl) (by show H.sh.length + 0 ≤ 601024; omega) (by show H.sl + 0 ≤ 7292999; omega)) (k8 35 rfl rfl) i_W_byteOut v_W_byteOut (rS_0 hG) (by decide) rfl rfl (Nat.le_of_ble_eq_true rfl) ?_
  refine pw_aload_n hX d_Law_1036 rfl rfl rfl ?_
  refine pw_arg hX hK (k := 1) d_Law_1037 d_Law_1038 d_Law_1040 d_Law_1041 d_Law_1042 rfl rfl (by decide) (by omega) hL ?_
  refine hw_callV_a hX (v := .int r) (H1 := B2) (As := [.int (sxs (i + 1))]) (rest := [.int r]) d_Law_1043 hK (k_M_byteOut e2) (ab_mkC s_M_byteOut (Nat.le_of_ble_eq_true rfl) (Nat.le_of_ble_eq_true rfl) (by show H.sh.length + 0 + 0 ≤ 601024; omega) (by show H.sl + 0 + 0 ≤ 7292999; omega)) (k13 48 rfl rfl) i_M_byteOut v_M_byteOut (mo.get (rS_517 hG)) (by decide) rfl rfl (Nat.le_of_ble_eq_true rfl) ?_
  refine pw_icmp_eq hX (tgt := 1137) d_Law_1046 (by decide) (fun _ => ?_) (fun q => absurd rfl q)
  exact pw_widen hX (cells' := B2.sh.length) (slots' := B2.sl) (by show H.sh.length + 0 + 0 ≤ _; omega) (by show H.sl + 0 + 0 ≤ _; omega) (next B2 hR2)
set_option maxRecDepth 20000 in
set_option maxHeartbeats 4000000 in
theorem lc_25 (hX : ab_X y_Law p l s m args meth c) (hK : pw_K G sL sxs s) (hi : i + 5 < sL) (hL : sL < 2 ^ 31) (hk : k ≤ 511) (hs0 : s0 ≤ 1000000) (hR : RR 2000000 s0 k H H) (next : ∀ H2, RR 2000000 s0 (k + 1) H2 H2 → pw_V p l e s m args below meth c G y_Law room_1 (fun o _ => o = .returned (some (.int 1))) room_1.cells room_1.slots H2.sh.length H2.sl 1137 (lvL i) [] (hpw H2)) : pw_V p l e s m args below meth c G y_Law room_1 (fun o _ => o = .returned (some (.int 1))) room_1.cells room_1.slots H.sh.length H.sl 1051 (lvL i) [] (hpw H) := by
  have hG := hR.gr.1
  have b0 := hR.room
  obtain ⟨r, A2, B2, e1, e2, hR2, g1, g2, -, -⟩ := (jc_load (N := 2000000) (s0 := s0) (k := k)  (Nat.le_refl _) (by omega)).one H hR
  have e1 : F_W_load 2000000 0  H = some (r, A2) := e1
  have e2 : F_M_load 2000000 517  A2 = some (r, B2) := e2
  have mo : Mo H A2 := m_W_load e1
  have mo2 : Sa A2 B2 := m_M_load e2
  have l1 := mo.len
  have l2 := mo.2
  have b2 := hR2.room
  have c1 : B2.sh.length = A2.sh.length := by rw [mo2.1]
  have c2 : B2.sl = A2.sl := mo2.2
  refine pw_aload_n hX d_Law_1051 rfl rfl rfl ?_
  refine hw_callV_a hX (v := .int r) (H1 := A2) (As := []) (rest := []) d_Law_1052 hK (k_W_load (C := (A2.sh.length - H.sh.length)) (Sl := (A2.sl - H.sl)) e1 (by show A2.sh.length ≤ H.sh.length + _; omega) (by show A2.sl ≤ H.sl + _; omega)) (ab_mkC s_W_load (Nat.le_of_ble_eq_true rfl) (Nat.le_of_ble_eq_true rfl) (by show H.sh.length + (A2.sh.length - H.sh.length) ≤ 601024; omega) (by show H.sl + (A2.sl - H.sl) ≤ 7292999; omega)) (k8 39 rfl rfl) i_W_load v_W_load (rS_0 hG) (by decide) rfl rfl (Nat.le_of_ble_eq_true rfl) ?_
  refine pw_aload_n hX d_Law_1055 rfl rfl rfl ?_
  refine hw_callV_a hX (v := .int r) (H1 := B2) (As := []) (rest := [.int r]) d_Law_1056 hK (k_M_load e2) (ab_mkC s_M_load (Nat.le_of_ble_eq_true rfl) (Nat.le_of_ble_eq_true rfl) (by show H.sh.length + (A2.sh.length - H.sh.length) + 0 ≤ 601024; omega) (by show H.sl + (A2.sl - H.sl) + 0 ≤ 7292999; omega)) (k13 52 rfl rfl) i_M_load v_M_load (mo.get (rS_517 hG)) (by decide) rfl rfl (Nat.le_of_ble_eq_true rfl) ?_
  refine pw_icmp_eq hX (tgt := 1137) d_Law_1059 (by decide) (fun _ => ?_) (fun q => absurd rfl q)
  exact pw_widen hX (cells' := B2.sh.length) (slots' := B2.sl) (by show H.sh.length + (A2.sh.length - H.sh.length) + 0 ≤ _; omega) (by show H.sl + (A2.sl - H.sl) + 0 ≤ _; omega) (next B2 hR2)
set_option maxRecDepth 20000 in
set_option maxHeartbeats 4000000 in
theorem lc_26 (hX : ab_X y_Law p l s m args meth c) (hK : pw_K G sL sxs s) (hi : i + 5 < sL) (hL : sL < 2 ^ 31) (hk : k ≤ 511) (hs0 : s0 ≤ 1000000) (hR : RR 2000000 s0 k H H) (next : ∀ H2, RR 2000000 s0 (k + 1) H2 H2 → pw_V p l e s m args below meth c G y_Law room_1 (fun o _ => o = .returned (some (.int 1))) room_1.cells room_1.slots H2.sh.length H2.sl 1137 (lvL i) [] (hpw H2)) : pw_V p l e s m args below meth c G y_Law room_1 (fun o _ => o = .returned (some (.int 1))) room_1.cells room_1.slots H.sh.length H.sl 1064 (lvL i) [] (hpw H) := by
  have hG := hR.gr.1
  have b0 := hR.room
  obtain ⟨r, A2, B2, e1, e2, hR2, g1, g2, -, -⟩ := (jc_fall (N := 2000000) (s0 := s0) (k := k) (x1 := sxs (i + 1)) (Nat.le_refl _) (by omega)).one H hR
  have e1 : F_W_fall 2000000 0 (sxs (i + 1)) H = some (r, A2) := e1
  have e2 : F_M_fall 2000000 517 (sxs (i + 1)) A2 = some (r, B2) := e2
  have mo : Mo H A2 := (m_W_fall e1).mo
  have mo2 : Sa A2 B2 := m_M_fall e2
  have l1 := mo.len
  have l2 := mo.2
  have b2 := hR2.room
  have c1 : B2.sh.length = A2.sh.length := by rw [mo2.1]
  have c2 : B2.sl = A2.sl := mo2.2
  refine pw_aload_n hX d_Law_1064 rfl rfl rfl ?_
  refine pw_arg hX hK (k := 1) d_Law_1065 d_Law_1066 d_Law_1068 d_Law_1069 d_Law_1070 rfl rfl (by decide) (by omega) hL ?_
  refine hw_callV_a hX (v := .int r) (H1 := A2) (As := [.int (sxs (i + 1))]) (rest := []) d_Law_1071 hK (k_W_fall e1) (ab_mkC s_W_fall (Nat.le_of_ble_eq_true rfl) (Nat.le_of_ble_eq_true rfl) (by show H.sh.length + 0 ≤ 601024; omega) (by show H.sl + 0 ≤ 7292999; omega)) (k8 95 rfl rfl) i_W_fall v_W_fall (rS_0 hG) (by decide) rfl rfl (Nat.le_of_ble_eq_true rfl) ?_
  refine pw_aload_n hX d_Law_1074 rfl rfl rfl ?_
  refine pw_arg hX hK (k := 1) d_Law_1075 d_Law_1076 d_Law_1078 d_Law_1079 d_Law_1080 rfl rfl (by decide) (by omega) hL ?_
  refine hw_callV_a hX (v := .int r) (H1 := B2) (As := [.int (sxs (i + 1))]) (rest := [.int r]) d_Law_1081 hK (k_M_fall e2) (ab_mkC s_M_fall (Nat.le_of_ble_eq_true rfl) (Nat.le_of_ble_eq_true rfl) (by show H.sh.length + 0 + 0 ≤ 601024; omega) (by show H.sl + 0 + 0 ≤ 7292999; omega)) (k13 11 rfl rfl) i_M_fall v_M_fall (mo.get (rS_517 hG)) (by decide) rfl rfl (Nat.le_of_ble_eq_true rfl) ?_
  refine pw_icmp_eq hX (tgt := 1137) d_Law_1084 (by decide) (fun _ => ?_) (fun q => absurd rfl q)
  exact pw_widen hX (cells' := B2.sh.length) (slots' := B2.sl) (by show H.sh.length + 0 + 0 ≤ _; omega) (by show H.sl + 0 + 0 ≤ _; omega) (next B2 hR2)
set_option maxRecDepth 20000 in
set_option maxHeartbeats 4000000 in
theorem lc_27 (hX : ab_X y_Law p l s m args meth c) (hK : pw_K G sL sxs s) (hi : i + 5 < sL) (hL : sL < 2 ^ 31) (hk : k ≤ 511) (hs0 : s0 ≤ 1000000) (hR : RR 2000000 s0 k H H) (next : ∀ H2, RR 2000000 s0 (k + 1) H2 H2 → pw_V p l e s m args below meth c G y_Law room_1 (fun o _ => o = .returned (some (.int 1))) room_1.cells room_1.slots H2.sh.length H2.sl 1137 (lvL i) [] (hpw H2)) : pw_V p l e s m args below meth c G y_Law room_1 (fun o _ => o = .returned (some (.int 1))) room_1.cells room_1.slots H.sh.length H.sl 1089 (lvL i) [] (hpw H) := by
  have hG := hR.gr.1
  have b0 := hR.room
  obtain ⟨r, A2, B2, e1, e2, hR2, g1, g2, -, -⟩ := (jc_stand (N := 2000000) (s0 := s0) (k := k) (x1 := sxs (i + 1)) (Nat.le_refl _) (by omega)).one H hR
  have e1 : F_W_stand 2000000 0 (sxs (i + 1)) H = some (r, A2) := e1
  have e2 : F_M_stand 2000000 517 (sxs (i + 1)) A2 = some (r, B2) := e2
  have mo : Mo H A2 := (m_W_stand e1).mo
  have mo2 : Sa A2 B2 := m_M_stand e2
  have l1 := mo.len
  have l2 := mo.2
  have b2 := hR2.room
  have c1 : B2.sh.length = A2.sh.length := by rw [mo2.1]
  have c2 : B2.sl = A2.sl := mo2.2
  refine pw_aload_n hX d_Law_1089 rfl rfl rfl ?_
  refine pw_arg hX hK (k := 1) d_Law_1090 d_Law_1091 d_Law_1093 d_Law_1094 d_Law_1095 rfl rfl (by decide) (by omega) hL ?_
  refine hw_callV_a hX (v := .int r) (H1 := A2) (As := [.int (sxs (i + 1))]) (rest := []) d_Law_1096 hK (k_W_stand e1) (ab_mkC s_W_stand (Nat.le_of_ble_eq_true rfl) (Nat.le_of_ble_eq_true rfl) (by show H.sh.length + 0 ≤ 601024; omega) (by show H.sl + 0 ≤ 7292999; omega)) (k8 103 rfl rfl) i_W_stand v_W_stand (rS_0 hG) (by decide) rfl rfl (Nat.le_of_ble_eq_true rfl) ?_
  refine pw_aload_n hX d_Law_1099 rfl rfl rfl ?_
  refine pw_arg hX hK (k := 1) d_Law_1100 d_Law_1101 d_Law_1103 d_Law_1104 d_Law_1105 rfl rfl (by decide) (by omega) hL ?_
  refine hw_callV_a hX (v := .int r) (H1 := B2) (As := [.int (sxs (i + 1))]) (rest := [.int r]) d_Law_1106 hK (k_M_stand e2) (ab_mkC s_M_stand (Nat.le_of_ble_eq_true rfl) (Nat.le_of_ble_eq_true rfl) (by show H.sh.length + 0 + 0 ≤ 601024; omega) (by show H.sl + 0 + 0 ≤ 7292999; omega)) (k13 16 rfl rfl) i_M_stand v_M_stand (mo.get (rS_517 hG)) (by decide) rfl rfl (Nat.le_of_ble_eq_true rfl) ?_
  refine pw_icmp_eq hX (tgt := 1137) d_Law_1109 (by decide) (fun _ => ?_) (fun q => absurd rfl q)
  exact pw_widen hX (cells' := B2.sh.length) (slots' := B2.sl) (by show H.sh.length + 0 + 0 ≤ _; omega) (by show H.sl + 0 + 0 ≤ _; omega) (next B2 hR2)
set_option maxRecDepth 20000 in
set_option maxHeartbeats 4000000 in
theorem lc_28 (hX : ab_X y_Law p l s m args meth c) (hK : pw_K G sL sxs s) (hi : i + 5 < sL) (hL : sL < 2 ^ 31) (hk : k ≤ 511) (hs0 : s0 ≤ 1000000) (hR : RR 2000000 s0 k H H) (next : ∀ H2, RR 2000000 s0 (k + 1) H2 H2 → pw_V p l e s m args below meth c G y_Law room_1 (fun o _ => o = .returned (some (.int 1))) room_1.cells room_1.slots H2.sh.length H2.sl 1137 (lvL i) [] (hpw H2)) : pw_V p l e s m args below meth c G y_Law room_1 (fun o _ => o = .returned (some (.int 1))) room_1.cells room_1.slots H.sh.length H.sl 1114 (lvL i) [] (hpw H) := by
  have hG := hR.gr.1
  have b0 := hR.room
  obtain ⟨r, A2, B2, e1, e2, hR2, g1, g2, -, -⟩ := (jc_pace (N := 2000000) (s0 := s0) (k := k) (x1 := sxs (i + 1)) (Nat.le_refl _) (by omega)).one H hR
  have e1 : F_W_pace 2000000 0 (sxs (i + 1)) H = some (r, A2) := e1
  have e2 : F_M_pace 2000000 517 (sxs (i + 1)) A2 = some (r, B2) := e2
  have mo : Mo H A2 := (m_W_pace e1).mo
  have mo2 : Sa A2 B2 := m_M_pace e2
  have l1 := mo.len
  have l2 := mo.2
  have b2 := hR2.room
  have c1 : B2.sh.length = A2.sh.length := by rw [mo2.1]
  have c2 : B2.sl = A2.sl := mo2.2
  refine pw_aload_n hX d_Law_1114 rfl rfl rfl ?_
  refine pw_arg hX hK (k := 1) d_Law_1115 d_Law_1116 d_Law_1118 d_Law_1119 d_Law_1120 rfl rfl (by decide) (by omega) hL ?_
  refine hw_callV_v hX (H1 := A2) (As := [.int (sxs (i + 1))]) (rest := []) d_Law_1121 hK (k_W_pace e1) (ab_mkC s_W_pace (Nat.le_of_ble_eq_true rfl) (Nat.le_of_ble_eq_true rfl) (by show H.sh.length + 0 ≤ 601024; omega) (by show H.sl + 0 ≤ 7292999; omega)) (k8 107 rfl rfl) i_W_pace v_W_pace (rS_0 hG) (by decide) rfl rfl (Nat.le_of_ble_eq_true rfl) ?_
  refine pw_aload_n hX d_Law_1124 rfl rfl rfl ?_
  refine pw_arg hX hK (k := 1) d_Law_1125 d_Law_1126 d_Law_1128 d_Law_1129 d_Law_1130 rfl rfl (by decide) (by omega) hL ?_
  refine hw_callV_v hX (H1 := B2) (As := [.int (sxs (i + 1))]) (rest := []) d_Law_1131 hK (k_M_pace e2) (ab_mkC s_M_pace (Nat.le_of_ble_eq_true rfl) (Nat.le_of_ble_eq_true rfl) (by show H.sh.length + 0 + 0 ≤ 601024; omega) (by show H.sl + 0 + 0 ≤ 7292999; omega)) (k13 20 rfl rfl) i_M_pace v_M_pace (mo.get (rS_517 hG)) (by decide) rfl rfl (Nat.le_of_ble_eq_true rfl) ?_
  refine pw_goto hX (tgt := 1137) d_Law_1134 (by decide) ?_
  exact pw_widen hX (cells' := B2.sh.length) (slots' := B2.sl) (by show H.sh.length + 0 + 0 ≤ _; omega) (by show H.sl + 0 + 0 ≤ _; omega) (next B2 hR2)
end Par
