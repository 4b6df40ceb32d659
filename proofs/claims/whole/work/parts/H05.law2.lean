/-! ===== the cases of the law (gen_law.py) ===== -/
section Par
variable {p : Program} {l : Launch} {e : Env} {s : State} {m : MethodId} {args : Array Value} {below : List Frame} {meth : Method} {c : Code} {G : ab_G} {sL : Nat} {sxs : Nat → Int32} {s0 i k : Nat} {H : Hp}
set_option maxRecDepth 20000 in
set_option maxHeartbeats 4000000 in
theorem lc_8 (hX : ab_X y_Law p l s m args meth c) (hK : pw_K G sL sxs s) (hi : i + 5 < sL) (hL : sL < 2 ^ 31) (hk : k ≤ 511) (hs0 : s0 ≤ 1000000) (hR : RR 2000000 s0 k H H) (next : ∀ H2, RR 2000000 s0 (k + 1) H2 H2 → pw_V p l e s m args below meth c G y_Law room_1 (fun o _ => o = .returned (some (.int 1))) room_1.cells room_1.slots H2.sh.length H2.sl 1137 (lvL i) [] (hpw H2)) : pw_V p l e s m args below meth c G y_Law room_1 (fun o _ => o = .returned (some (.int 1))) room_1.cells room_1.slots H.sh.length H.sl 456 (lvL i) [] (hpw H) := by
  have hG := hR.gr.1
  have b0 := hR.room
  obtain ⟨r, A2, B2, e1, e2, hR2, g1, g2, -, -⟩ := (jc_make (N := 2000000) (s0 := s0) (k := k) (x1 := sxs (i + 1)) (Nat.le_refl _) (by omega)).one H hR
  have e1 : F_W_make 2000000 0 (sxs (i + 1)) H = some (r, A2) := e1
  have e2 : F_M_make 2000000 517 (sxs (i + 1)) A2 = some (r, B2) := e2
  have mo : Mo H A2 := (m_W_make e1).mo
  have mo2 : Sa A2 B2 := m_M_make e2
  have l1 := mo.len
  have l2 := mo.2
  have b2 := hR2.room
  have c1 : B2.sh.length = A2.sh.length := by rw [mo2.1]
  have c2 : B2.sl = A2.sl := mo2.2
  refine pw_aload_n hX d_Law_456 rfl rfl rfl ?_
  refine pw_arg hX hK (k := 1) d_Law_457 d_Law_458 d_Law_460 d_Law_461 d_Law_462 rfl rfl (by decide) (by omega) hL ?_
  refine hw_callV_a hX (v := .int r) (H1 := A2) (As := [.int (sxs (i + 1))]) (rest := []) d_Law_463 hK (k_W_make e1) (ab_mkC s_W_make (Nat.le_of_ble_eq_true rfl) (Nat.le_of_ble_eq_true rfl) (by show H.sh.length + 0 ≤ 601024; omega) (by show H.sl + 0 ≤ 7292999; omega)) (k7 167 rfl rfl) i_W_make v_W_make (rS_0 hG) (by decide) rfl rfl (Nat.le_of_ble_eq_true rfl) ?_
  refine pw_aload_n hX d_Law_466 rfl rfl rfl ?_
  refine pw_arg hX hK (k := 1) d_Law_467 d_Law_468 d_Law_470 d_Law_471 d_Law_472 rfl rfl (by decide) (by omega) hL ?_
  refine hw_callV_a hX (v := .int r) (H1 := B2) (As := [.int (sxs (i + 1))]) (rest := [.int r]) d_Law_473 hK (k_M_make e2) (ab_mkC s_M_make (Nat.le_of_ble_eq_true rfl) (Nat.le_of_ble_eq_true rfl) (by show H.sh.length + 0 + 0 ≤ 601024; omega) (by show H.sl + 0 + 0 ≤ 7292999; omega)) (k12 178 rfl rfl) i_M_make v_M_make (mo.get (rS_517 hG)) (by decide) rfl rfl (Nat.le_of_ble_eq_true rfl) ?_
  refine pw_icmp_eq hX (tgt := 1137) d_Law_476 (by decide) (fun _ => ?_) (fun q => absurd rfl q)
  exact pw_widen hX (cells' := B2.sh.length) (slots' := B2.sl) (by show H.sh.length + 0 + 0 ≤ _; omega) (by show H.sl + 0 + 0 ≤ _; omega) (next B2 hR2)
set_option maxRecDepth 20000 in
set_option maxHeartbeats 4000000 in
theorem lc_9 (hX : ab_X y_Law p l s m args meth c) (hK : pw_K G sL sxs s) (hi : i + 5 < sL) (hL : sL < 2 ^ 31) (hk : k ≤ 511) (hs0 : s0 ≤ 1000000) (hR : RR 2000000 s0 k H H) (next : ∀ H2, RR 2000000 s0 (k + 1) H2 H2 → pw_V p l e s m args below meth c G y_Law room_1 (fun o _ => o = .returned (some (.int 1))) room_1.cells room_1.slots H2.sh.length H2.sl 1137 (lvL i) [] (hpw H2)) : pw_V p l e s m args below meth c G y_Law room_1 (fun o _ => o = .returned (some (.int 1))) room_1.cells room_1.slots H.sh.length H.sl 481 (lvL i) [] (hpw H) := by
  have hG := hR.gr.1
  have b0 := hR.room
  obtain ⟨r, A2, B2, e1, e2, hR2, g1, g2, -, -⟩ := (jc_change (N := 2000000) (s0 := s0) (k := k) (x1 := sxs (i + 1)) (x2 := sxs (i + 2)) (x3 := sxs (i + 3)) (Nat.le_refl _) (by omega)).one H hR
  have e1 : F_W_change 2000000 0 (sxs (i + 1)) (sxs (i + 2)) (sxs (i + 3)) H = some (r, A2) := e1
  have e2 : F_M_change 2000000 517 (sxs (i + 1)) (sxs (i + 2)) (sxs (i + 3)) A2 = some (r, B2) := e2
  have mo : Mo H A2 := (m_W_change e1).mo
  have mo2 : Sa A2 B2 := m_M_change e2
  have l1 := mo.len
  have l2 := mo.2
  have b2 := hR2.room
  have c1 : B2.sh.length = A2.sh.length := by rw [mo2.1]
  have c2 : B2.sl = A2.sl := mo2.2
  refine pw_aload_n hX d_Law_481 rfl rfl rfl ?_
  refine pw_arg hX hK (k := 1) d_Law_482 d_Law_483 d_Law_485 d_Law_486 d_Law_487 rfl rfl (by decide) (by omega) hL ?_
  refine pw_arg hX hK (k := 2) d_Law_488 d_Law_489 d_Law_491 d_Law_492 d_Law_493 rfl rfl (by decide) (by omega) hL ?_
  refine pw_arg hX hK (k := 3) d_Law_494 d_Law_495 d_Law_497 d_Law_498 d_Law_499 rfl rfl (by decide) (by omega) hL ?_
  refine hw_callV_a hX (v := .int r) (H1 := A2) (As := [.int (sxs (i + 1)), .int (sxs (i + 2)), .int (sxs (i + 3))]) (rest := []) d_Law_500 hK (k_W_change e1) (ab_mkC s_W_change (Nat.le_of_ble_eq_true rfl) (Nat.le_of_ble_eq_true rfl) (by show H.sh.length + 0 ≤ 601024; omega) (by show H.sl + 0 ≤ 7292999; omega)) (k7 173 rfl rfl) i_W_change v_W_change (rS_0 hG) (by decide) rfl rfl (Nat.le_of_ble_eq_true rfl) ?_
  refine pw_aload_n hX d_Law_503 rfl rfl rfl ?_
  refine pw_arg hX hK (k := 1) d_Law_504 d_Law_505 d_Law_507 d_Law_508 d_Law_509 rfl rfl (by decide) (by omega) hL ?_
  refine pw_arg hX hK (k := 2) d_Law_510 d_Law_511 d_Law_513 d_Law_514 d_Law_515 rfl rfl (by decide) (by omega) hL ?_
  refine pw_arg hX hK (k := 3) d_Law_516 d_Law_517 d_Law_519 d_Law_520 d_Law_521 rfl rfl (by decide) (by omega) hL ?_
  refine hw_callV_a hX (v := .int r) (H1 := B2) (As := [.int (sxs (i + 1)), .int (sxs (i + 2)), .int (sxs (i + 3))]) (rest := [.int r]) d_Law_522 hK (k_M_change e2) (ab_mkC s_M_change (Nat.le_of_ble_eq_true rfl) (Nat.le_of_ble_eq_true rfl) (by show H.sh.length + 0 + 0 ≤ 601024; omega) (by show H.sl + 0 + 0 ≤ 7292999; omega)) (k12 184 rfl rfl) i_M_change v_M_change (mo.get (rS_517 hG)) (by decide) rfl rfl (Nat.le_of_ble_eq_true rfl) ?_
  refine pw_icmp_eq hX (tgt := 1137) d_Law_525 (by decide) (fun _ => ?_) (fun q => absurd rfl q)
  exact pw_widen hX (cells' := B2.sh.length) (slots' := B2.sl) (by show H.sh.length + 0 + 0 ≤ _; omega) (by show H.sl + 0 + 0 ≤ _; omega) (next B2 hR2)
set_option maxRecDepth 20000 in
set_option maxHeartbeats 4000000 in
theorem lc_10 (hX : ab_X y_Law p l s m args meth c) (hK : pw_K G sL sxs s) (hi : i + 5 < sL) (hL : sL < 2 ^ 31) (hk : k ≤ 511) (hs0 : s0 ≤ 1000000) (hR : RR 2000000 s0 k H H) (next : ∀ H2, RR 2000000 s0 (k + 1) H2 H2 → pw_V p l e s m args below meth c G y_Law room_1 (fun o _ => o = .returned (some (.int 1))) room_1.cells room_1.slots H2.sh.length H2.sl 1137 (lvL i) [] (hpw H2)) : pw_V p l e s m args below meth c G y_Law room_1 (fun o _ => o = .returned (some (.int 1))) room_1.cells room_1.slots H.sh.length H.sl 530 (lvL i) [] (hpw H) := by
  have hG := hR.gr.1
  have b0 := hR.room
  obtain ⟨r, A2, B2, e1, e2, hR2, g1, g2, -, -⟩ := (jc_set (N := 2000000) (s0 := s0) (k := k) (x1 := sxs (i + 1)) (x2 := sxs (i + 2)) (x3 := sxs (i + 3)) (x4 := sxs (i + 4)) (Nat.le_refl _) (by omega)).one H hR
  have e1 : F_W_set 2000000 0 (sxs (i + 1)) (sxs (i + 2)) (sxs (i + 3)) (sxs (i + 4)) H = some (r, A2) := e1
  have e2 : F_M_set 2000000 517 (sxs (i + 1)) (sxs (i + 2)) (sxs (i + 3)) (sxs (i + 4)) A2 = some (r, B2) := e2
  have mo : Mo H A2 := (m_W_set e1).mo
  have mo2 : Sa A2 B2 := m_M_set e2
  have l1 := mo.len
  have l2 := mo.2
  have b2 := hR2.room
  have c1 : B2.sh.length = A2.sh.length := by rw [mo2.1]
  have c2 : B2.sl = A2.sl := mo2.2
  refine pw_aload_n hX d_Law_530 rfl rfl rfl ?_
  refine pw_arg hX hK (k := 1) d_Law_531 d_Law_532 d_Law_534 d_Law_535 d_Law_536 rfl rfl (by decide) (by omega) hL ?_
  refine pw_arg hX hK (k := 2) d_Law_537 d_Law_538 d_Law_540 d_Law_541 d_Law_542 rfl rfl (by decide) (by omega) hL ?_
  refine pw_arg hX hK (k := 3) d_Law_543 d_Law_544 d_Law_546 d_Law_547 d_Law_548 rfl rfl (by decide) (by omega) hL ?_
  refine pw_arg hX hK (k := 4) d_Law_549 d_Law_550 d_Law_552 d_Law_553 d_Law_554 rfl rfl (by decide) (by omega) hL ?_
  refine hw_callV_a hX (v := .int r) (H1 := A2) (As := [.int (sxs (i + 1)), .int (sxs (i + 2)), .int (sxs (i + 3)), .int (sxs (i + 4))]) (rest := []) d_Law_555 hK (k_W_set e1) (ab_mkC s_W_set (Nat.le_of_ble_eq_true rfl) (Nat.le_of_ble_eq_true rfl) (by show H.sh.length + 0 ≤ 601024; omega) (by show H.sl + 0 ≤ 7292999; omega)) (k7 182 rfl rfl) i_W_set v_W_set (rS_0 hG) (by decide) rfl rfl (Nat.le_of_ble_eq_true rfl) ?_
  refine pw_aload_n hX d_Law_558 rfl rfl rfl ?_
  refine pw_arg hX hK (k := 1) d_Law_559 d_Law_560 d_Law_562 d_Law_563 d_Law_564 rfl rfl (by decide) (by omega) hL ?_
  refine pw_arg hX hK (k := 2) d_Law_565 d_Law_566 d_Law_568 d_Law_569 d_Law_570 rfl rfl (by decide) (by omega) hL ?_
  refine pw_arg hX hK (k := 3) d_Law_571 d_Law_572 d_Law_574 d_Law_575 d_Law_576 rfl rfl (by decide) (by omega) hL ?_
  refine pw_arg hX hK (k := 4) d_Law_577 d_Law_578 d_Law_580 d_Law_581 d_Law_582 rfl rfl (by decide) (by omega) hL ?_
  refine hw_callV_a hX (v := .int r) (H1 := B2) (As := [.int (sxs (i + 1)), .int (sxs (i + 2)), .int (sxs (i + 3)), .int (sxs (i + 4))]) (rest := [.int r]) d_Law_583 hK (k_M_set e2) (ab_mkC s_M_set (Nat.le_of_ble_eq_true rfl) (Nat.le_of_ble_eq_true rfl) (by show H.sh.length + 0 + 0 ≤ 601024; omega) (by show H.sl + 0 + 0 ≤ 7292999; omega)) (k12 197 rfl rfl) i_M_set v_M_set (mo.get (rS_517 hG)) (by decide) rfl rfl (Nat.le_of_ble_eq_true rfl) ?_
  refine pw_icmp_eq hX (tgt := 1137) d_Law_586 (by decide) (fun _ => ?_) (fun q => absurd rfl q)
  exact pw_widen hX (cells' := B2.sh.length) (slots' := B2.sl) (by show H.sh.length + 0 + 0 ≤ _; omega) (by show H.sl + 0 + 0 ≤ _; omega) (next B2 hR2)
set_option maxRecDepth 20000 in
set_option maxHeartbeats 4000000 in
theorem lc_11 (hX : ab_X y_Law p l s m args meth c) (hK : pw_K G sL sxs s) (hi : i + 5 < sL) (hL : sL < 2 ^ 31) (hk : k ≤ 511) (hs0 : s0 ≤ 1000000) (hR : RR 2000000 s0 k H H) (next : ∀ H2, RR 2000000 s0 (k + 1) H2 H2 → pw_V p l e s m args below meth c G y_Law room_1 (fun o _ => o = .returned (some (.int 1))) room_1.cells room_1.slots H2.sh.length H2.sl 1137 (lvL i) [] (hpw H2)) : pw_V p l e s m args below meth c G y_Law room_1 (fun o _ => o = .returned (some (.int 1))) room_1.cells room_1.slots H.sh.length H.sl 591 (lvL i) [] (hpw H) := by
  have hG := hR.gr.1
  have b0 := hR.room
  have s625 : H.sh[625]? = some (104, 1) := hG.s (by decide +kernel)
  obtain ⟨A2, hor⟩ := (jg_get (N := 2000000) (s0 := s0) (k := k) (x1 := sxs (i + 1)) (x2 := sxs (i + 2)) (x3 := sxs (i + 3))).two H hR
  rcases hor with ⟨r, e1, hall⟩ | ⟨e1, hx18, B2, e2, d0, hR2, g1, g2⟩
  · have e1 : F_W_get 2000000 0 (sxs (i + 1)) (sxs (i + 2)) (sxs (i + 3)) H = some (.inl r, A2) := e1
    have mo1 : Mo H A2 := m_W_get e1
    have eL := F_lawget hG e1 (mo1.get s625)
    have hKe : eqL (A2.sL 625 0 r.toInt64) A2 := ⟨rfl, rfl, rfl, rfl⟩
    have kL : (A2.sL 625 0 r.toInt64).L 625 0 = r.toInt64 := by show up2 A2.L 625 0 r.toInt64 625 0 = _; rw [up2_eq]
    have mo : Mo H (A2.sL 625 0 r.toInt64) := mo1
    obtain ⟨B2, e2, d0, hR2, g1, g2, g3⟩ := hall (A2.sL 625 0 r.toInt64) hKe
    generalize A2.sL 625 0 r.toInt64 = K2 at *
    have e2 : F_M_get 2000000 517 (sxs (i + 1)) (sxs (i + 2)) (sxs (i + 3)) K2 = some (r, B2) := e2
    have l1 := mo.len
    have l2 := mo.2
    have b2 := hR2.room
    have c1 : B2.sh.length = K2.sh.length := by rw [g1]
    have c2 : B2.sl = K2.sl := g2
    have eT : F_M_thrown 2000000 517 B2 = some (0, B2) := by
      unfold F_M_thrown
      rw [ck_t (rS_517 hR2.gr.1), bnd_t, d0]
    have s625b : B2.sh[625]? = some (104, 1) := hR2.gr.1.s (by decide +kernel)
    refine pw_aload_n hX d_Law_591 rfl rfl rfl ?_
    refine pw_arg hX hK (k := 1) d_Law_592 d_Law_593 d_Law_595 d_Law_596 d_Law_597 rfl rfl (by decide) (by omega) hL ?_
    refine pw_arg hX hK (k := 2) d_Law_598 d_Law_599 d_Law_601 d_Law_602 d_Law_603 rfl rfl (by decide) (by omega) hL ?_
    refine pw_arg hX hK (k := 3) d_Law_604 d_Law_605 d_Law_607 d_Law_608 d_Law_609 rfl rfl (by decide) (by omega) hL ?_
    refine pw_aload_n hX d_Law_610 rfl rfl rfl ?_
    refine hw_callS_a hX (v := .int 0) (H1 := K2) (As := [.ref 0, .int (sxs (i + 1)), .int (sxs (i + 2)), .int (sxs (i + 3)), .ref 625]) (rest := []) d_Law_611 hK (k_Law_get (C := (K2.sh.length - H.sh.length)) (Sl := (K2.sl - H.sl)) eL (by show K2.sh.length ≤ H.sh.length + _; omega) (by show K2.sl ≤ H.sl + _; omega)) (ab_mkC s_Law_get (Nat.le_of_ble_eq_true rfl) (Nat.le_of_ble_eq_true rfl) (by show H.sh.length + (K2.sh.length - H.sh.length) ≤ 601024; omega) (by show H.sl + (K2.sl - H.sl) ≤ 7292999; omega)) (k8 114 rfl rfl) t_Law_get rfl (Nat.le_of_ble_eq_true rfl) ?_
    refine pw_istore hX (lv' := [some (.float 300), some (.ref 0), some (.ref 517), some (.ref 625), some (.int (nI i)), some (.int 0), none]) d_Law_614 (by decide) rfl ?_
    refine pw_aload_n hX d_Law_616 rfl rfl rfl ?_
    refine pw_arg hX hK (k := 1) d_Law_617 d_Law_618 d_Law_620 d_Law_621 d_Law_622 rfl rfl (by decide) (by omega) hL ?_
    refine pw_arg hX hK (k := 2) d_Law_623 d_Law_624 d_Law_626 d_Law_627 d_Law_628 rfl rfl (by decide) (by omega) hL ?_
    refine pw_arg hX hK (k := 3) d_Law_629 d_Law_630 d_Law_632 d_Law_633 d_Law_634 rfl rfl (by decide) (by omega) hL ?_
    refine hw_callV_a hX (v := .int r) (H1 := B2) (As := [.int (sxs (i + 1)), .int (sxs (i + 2)), .int (sxs (i + 3))]) (rest := []) d_Law_635 hK (k_M_get e2) (ab_mkC s_M_get (Nat.le_of_ble_eq_true rfl) (Nat.le_of_ble_eq_true rfl) (by show H.sh.length + (K2.sh.length - H.sh.length) + 0 ≤ 601024; omega) (by show H.sl + (K2.sl - H.sl) + 0 ≤ 7292999; omega)) (k12 206 rfl rfl) i_M_get v_M_get (mo.get (rS_517 hG)) (by decide) rfl rfl (Nat.le_of_ble_eq_true rfl) ?_
    refine pw_istore hX (lv' := [some (.float 300), some (.ref 0), some (.ref 517), some (.ref 625), some (.int (nI i)), some (.int 0), some (.int r)]) d_Law_638 (by decide) rfl ?_
    refine pw_aload_n hX d_Law_640 rfl rfl rfl ?_
    refine hw_callV_a hX (v := .int 0) (H1 := B2) (As := []) (rest := []) d_Law_641 hK (k_M_thrown eT) (ab_mkC s_M_thrown (Nat.le_of_ble_eq_true rfl) (Nat.le_of_ble_eq_true rfl) (by show H.sh.length + (K2.sh.length - H.sh.length) + 0 + 0 ≤ 601024; omega) (by show H.sl + (K2.sl - H.sl) + 0 + 0 ≤ 7292999; omega)) (k10 81 rfl rfl) i_M_thrown v_M_thrown (rS_517 hR2.gr.1) (by decide) rfl rfl (Nat.le_of_ble_eq_true rfl) ?_
    refine pw_iload hX d_Law_644 rfl ?_
    refine pw_icmp_eq hX (tgt := 651) d_Law_646 (by decide) (fun _ => ?_) (fun q => absurd rfl q)
    refine pw_iload hX d_Law_651 rfl ?_
    refine pw_if_ne hX (tgt := 668) d_Law_653 (by decide) (fun q => absurd rfl q) (fun _ => ?_)
    refine pw_aload_n hX d_Law_656 rfl rfl rfl ?_
    refine pw_iconst hX (v := 0) d_Law_657 (by decide) ?_
    refine pw_lald hX (n := 1) (f := B2.L 625) d_Law_658 tJ (by rw [hpw_get s625b, hp_cell_lar]) (vp_in_nI (show 0 < 1 by decide) (by decide)) ?_
    refine pw_iload hX d_Law_659 rfl ?_
    refine pw_i2l hX d_Law_661 ?_
    refine pw_lcmp hX d_Law_662 ?_
    refine pw_if_eq hX (tgt := 668) d_Law_663 (by decide) (fun _ => ?_) (fun q => absurd (by rw [show B2.L 625 ((0 : Int32)).toNatClampNeg = r.toInt64 by rw [g3]; exact kL]; exact lg_self) q)
    refine pw_goto hX (tgt := 1137) d_Law_668 (by decide) ?_
    refine pw_sub hX (lv' := lvL i) (fun j v hv => ?_) (pw_widen hX (cells' := B2.sh.length) (slots' := B2.sl) (by show H.sh.length + (K2.sh.length - H.sh.length) + 0 + 0 ≤ _; omega) (by show H.sl + (K2.sl - H.sl) + 0 + 0 ≤ _; omega) (next B2 hR2))
    match j, hv with
    | 0, hv => exact hv
    | 1, hv => exact hv
    | 2, hv => exact hv
    | 3, hv => exact hv
    | 4, hv => exact hv
    | 5, hv => exact nomatch (show some (none : Option Value) = some (some v) from hv)
    | 6, hv => exact nomatch (show some (none : Option Value) = some (some v) from hv)
    | j + 7, hv => exact nomatch (show (none : Option (Option Value)) = some (some v) from hv)
  · have e1 : F_W_get 2000000 0 (sxs (i + 1)) (sxs (i + 2)) (sxs (i + 3)) H = some (.inr H.sh.length, A2) := e1
    have mo : Mo H A2 := m_W_get e1
    have eL := F_lawgetx hG e1 hx18
    have e2 : F_M_get 2000000 517 (sxs (i + 1)) (sxs (i + 2)) (sxs (i + 3)) A2 = some (0, B2) := e2
    have l1 := mo.len
    have l2 := mo.2
    have b2 := hR2.room
    have c1 : B2.sh.length = A2.sh.length := by rw [g1]
    have c2 : B2.sl = A2.sl := g2
    have eT : F_M_thrown 2000000 517 B2 = some (1, B2) := by
      unfold F_M_thrown
      rw [ck_t (rS_517 hR2.gr.1), bnd_t, d0]
    refine pw_aload_n hX d_Law_591 rfl rfl rfl ?_
    refine pw_arg hX hK (k := 1) d_Law_592 d_Law_593 d_Law_595 d_Law_596 d_Law_597 rfl rfl (by decide) (by omega) hL ?_
    refine pw_arg hX hK (k := 2) d_Law_598 d_Law_599 d_Law_601 d_Law_602 d_Law_603 rfl rfl (by decide) (by omega) hL ?_
    refine pw_arg hX hK (k := 3) d_Law_604 d_Law_605 d_Law_607 d_Law_608 d_Law_609 rfl rfl (by decide) (by omega) hL ?_
    refine pw_aload_n hX d_Law_610 rfl rfl rfl ?_
    refine hw_callS_a hX (v := .int 1) (H1 := A2) (As := [.ref 0, .int (sxs (i + 1)), .int (sxs (i + 2)), .int (sxs (i + 3)), .ref 625]) (rest := []) d_Law_611 hK (k_Law_get (C := (A2.sh.length - H.sh.length)) (Sl := (A2.sl - H.sl)) eL (by show A2.sh.length ≤ H.sh.length + _; omega) (by show A2.sl ≤ H.sl + _; omega)) (ab_mkC s_Law_get (Nat.le_of_ble_eq_true rfl) (Nat.le_of_ble_eq_true rfl) (by show H.sh.length + (A2.sh.length - H.sh.length) ≤ 601024; omega) (by show H.sl + (A2.sl - H.sl) ≤ 7292999; omega)) (k8 114 rfl rfl) t_Law_get rfl (Nat.le_of_ble_eq_true rfl) ?_
    refine pw_istore hX (lv' := [some (.float 300), some (.ref 0), some (.ref 517), some (.ref 625), some (.int (nI i)), some (.int 1), none]) d_Law_614 (by decide) rfl ?_
    refine pw_aload_n hX d_Law_616 rfl rfl rfl ?_
    refine pw_arg hX hK (k := 1) d_Law_617 d_Law_618 d_Law_620 d_Law_621 d_Law_622 rfl rfl (by decide) (by omega) hL ?_
    refine pw_arg hX hK (k := 2) d_Law_623 d_Law_624 d_Law_626 d_Law_627 d_Law_628 rfl rfl (by decide) (by omega) hL ?_
    refine pw_arg hX hK (k := 3) d_Law_629 d_Law_630 d_Law_632 d_Law_633 d_Law_634 rfl rfl (by decide) (by omega) hL ?_
    refine hw_callV_a hX (v := .int 0) (H1 := B2) (As := [.int (sxs (i + 1)), .int (sxs (i + 2)), .int (sxs (i + 3))]) (rest := []) d_Law_635 hK (k_M_get e2) (ab_mkC s_M_get (Nat.le_of_ble_eq_true rfl) (Nat.le_of_ble_eq_true rfl) (by show H.sh.length + (A2.sh.length - H.sh.length) + 0 ≤ 601024; omega) (by show H.sl + (A2.sl - H.sl) + 0 ≤ 7292999; omega)) (k12 206 rfl rfl) i_M_get v_M_get (mo.get (rS_517 hG)) (by decide) rfl rfl (Nat.le_of_ble_eq_true rfl) ?_
    refine pw_istore hX (lv' := [some (.float 300), some (.ref 0), some (.ref 517), some (.ref 625), some (.int (nI i)), some (.int 1), some (.int 0)]) d_Law_638 (by decide) rfl ?_
    refine pw_aload_n hX d_Law_640 rfl rfl rfl ?_
    refine hw_callV_a hX (v := .int 1) (H1 := B2) (As := []) (rest := []) d_Law_641 hK (k_M_thrown eT) (ab_mkC s_M_thrown (Nat.le_of_ble_eq_true rfl) (Nat.le_of_ble_eq_true rfl) (by show H.sh.length + (A2.sh.length - H.sh.length) + 0 + 0 ≤ 601024; omega) (by show H.sl + (A2.sl - H.sl) + 0 + 0 ≤ 7292999; omega)) (k10 81 rfl rfl) i_M_thrown v_M_thrown (rS_517 hR2.gr.1) (by decide) rfl rfl (Nat.le_of_ble_eq_true rfl) ?_
    refine pw_iload hX d_Law_644 rfl ?_
    refine pw_icmp_eq hX (tgt := 651) d_Law_646 (by decide) (fun _ => ?_) (fun q => absurd rfl q)
    refine pw_iload hX d_Law_651 rfl ?_
    refine pw_if_ne hX (tgt := 668) d_Law_653 (by decide) (fun _ => ?_) (fun q => absurd q (show ¬ (1 : Int32) = 0 by decide))
    refine pw_goto hX (tgt := 1137) d_Law_668 (by decide) ?_
    refine pw_sub hX (lv' := lvL i) (fun j v hv => ?_) (pw_widen hX (cells' := B2.sh.length) (slots' := B2.sl) (by show H.sh.length + (A2.sh.length - H.sh.length) + 0 + 0 ≤ _; omega) (by show H.sl + (A2.sl - H.sl) + 0 + 0 ≤ _; omega) (next B2 hR2))
    match j, hv with
    | 0, hv => exact hv
    | 1, hv => exact hv
    | 2, hv => exact hv
    | 3, hv => exact hv
    | 4, hv => exact hv
    | 5, hv => exact nomatch (show some (none : Option Value) = some (some v) from hv)
    | 6, hv => exact nomatch (show some (none : Option Value) = some (some v) from hv)
    | j + 7, hv => exact nomatch (show (none : Option (Option Value)) = some (some v) from hv)
set_option maxRecDepth 20000 in
set_option maxHeartbeats 4000000 in
theorem lc_12 (hX : ab_X y_Law p l s m args meth c) (hK : pw_K G sL sxs s) (hi : i + 5 < sL) (hL : sL < 2 ^ 31) (hk : k ≤ 511) (hs0 : s0 ≤ 1000000) (hR : RR 2000000 s0 k H H) (next : ∀ H2, RR 2000000 s0 (k + 1) H2 H2 → pw_V p l e s m args below meth c G y_Law room_1 (fun o _ => o = .returned (some (.int 1))) room_1.cells room_1.slots H2.sh.length H2.sl 1137 (lvL i) [] (hpw H2)) : pw_V p l e s m args below meth c G y_Law room_1 (fun o _ => o = .returned (some (.int 1))) room_1.cells room_1.slots H.sh.length H.sl 671 (lvL i) [] (hpw H) := by
  have hG := hR.gr.1
  have b0 := hR.room
  obtain ⟨r, A2, B2, e1, e2, hR2, g1, g2, -, -⟩ := (jc_has (N := 2000000) (s0 := s0) (k := k) (x1 := sxs (i + 1)) (x2 := sxs (i + 2)) (Nat.le_refl _) (by omega)).one H hR
  have e1 : F_W_has 2000000 0 (sxs (i + 1)) (sxs (i + 2)) H = some (r, A2) := e1
  have e2 : F_M_has 2000000 517 (sxs (i + 1)) (sxs (i + 2)) A2 = some (r, B2) := e2
  have mo : Mo H A2 := (m_W_has e1).mo
  have mo2 : Sa A2 B2 := m_M_has e2
  have l1 := mo.len
  have l2 := mo.2
  have b2 := hR2.room
  have c1 : B2.sh.length = A2.sh.length := by rw [mo2.1]
  have c2 : B2.sl = A2.sl := mo2.2
  refine pw_aload_n hX d_Law_671 rfl rfl rfl ?_
  refine pw_arg hX hK (k := 1) d_Law_672 d_Law_673 d_Law_675 d_Law_676 d_Law_677 rfl rfl (by decide) (by omega) hL ?_
  refine pw_arg hX hK (k := 2) d_Law_678 d_Law_679 d_Law_681 d_Law_682 d_Law_683 rfl rfl (by decide) (by omega) hL ?_
  refine hw_callV_a hX (v := .int r) (H1 := A2) (As := [.int (sxs (i + 1)), .int (sxs (i + 2))]) (rest := []) d_Law_684 hK (k_W_has e1) (ab_mkC s_W_has (Nat.le_of_ble_eq_true rfl) (Nat.le_of_ble_eq_true rfl) (by show H.sh.length + 0 ≤ 601024; omega) (by show H.sl + 0 ≤ 7292999; omega)) (k7 196 rfl rfl) i_W_has v_W_has (rS_0 hG) (by decide) rfl rfl (Nat.le_of_ble_eq_true rfl) ?_
  refine pw_aload_n hX d_Law_687 rfl rfl rfl ?_
  refine pw_arg hX hK (k := 1) d_Law_688 d_Law_689 d_Law_691 d_Law_692 d_Law_693 rfl rfl (by decide) (by omega) hL ?_
  refine pw_arg hX hK (k := 2) d_Law_694 d_Law_695 d_Law_697 d_Law_698 d_Law_699 rfl rfl (by decide) (by omega) hL ?_
  refine hw_callV_a hX (v := .int r) (H1 := B2) (As := [.int (sxs (i + 1)), .int (sxs (i + 2))]) (rest := [.int r]) d_Law_700 hK (k_M_has e2) (ab_mkC s_M_has (Nat.le_of_ble_eq_true rfl) (Nat.le_of_ble_eq_true rfl) (by show H.sh.length + 0 + 0 ≤ 601024; omega) (by show H.sl + 0 + 0 ≤ 7292999; omega)) (k12 210 rfl rfl) i_M_has v_M_has (mo.get (rS_517 hG)) (by decide) rfl rfl (Nat.le_of_ble_eq_true rfl) ?_
  refine pw_icmp_eq hX (tgt := 1137) d_Law_703 (by decide) (fun _ => ?_) (fun q => absurd rfl q)
  exact pw_widen hX (cells' := B2.sh.length) (slots' := B2.sl) (by show H.sh.length + 0 + 0 ≤ _; omega) (by show H.sl + 0 + 0 ≤ _; omega) (next B2 hR2)
set_option maxRecDepth 20000 in
set_option maxHeartbeats 4000000 in
theorem lc_13 (hX : ab_X y_Law p l s m args meth c) (hK : pw_K G sL sxs s) (hi : i + 5 < sL) (hL : sL < 2 ^ 31) (hk : k ≤ 511) (hs0 : s0 ≤ 1000000) (hR : RR 2000000 s0 k H H) (next : ∀ H2, RR 2000000 s0 (k + 1) H2 H2 → pw_V p l e s m args below meth c G y_Law room_1 (fun o _ => o = .returned (some (.int 1))) room_1.cells room_1.slots H2.sh.length H2.sl 1137 (lvL i) [] (hpw H2)) : pw_V p l e s m args below meth c G y_Law room_1 (fun o _ => o = .returned (some (.int 1))) room_1.cells room_1.slots H.sh.length H.sl 708 (lvL i) [] (hpw H) := by
  have hG := hR.gr.1
  have b0 := hR.room
  obtain ⟨r, A2, B2, e1, e2, hR2, g1, g2, -, -⟩ := (jc_entity (N := 2000000) (s0 := s0) (k := k) (x1 := sxs (i + 1)) (Nat.le_refl _) (by omega)).one H hR
  have e1 : F_W_entity 2000000 0 (sxs (i + 1)) H = some (r, A2) := e1
  have e2 : F_M_entity 2000000 517 (sxs (i + 1)) A2 = some (r, B2) := e2
  have mo : Mo H A2 := (m_W_entity e1).mo
  have mo2 : Sa A2 B2 := m_M_entity e2
  have l1 := mo.len
  have l2 := mo.2
  have b2 := hR2.room
  have c1 : B2.sh.length = A2.sh.length := by rw [mo2.1]
  have c2 : B2.sl = A2.sl := mo2.2
  refine pw_aload_n hX d_Law_708 rfl rfl rfl ?_
  refine pw_arg hX hK (k := 1) d_Law_709 d_Law_710 d_Law_712 d_Law_713 d_Law_714 rfl rfl (by decide) (by omega) hL ?_
  refine hw_callV_a hX (v := .int r) (H1 := A2) (As := [.int (sxs (i + 1))]) (rest := []) d_Law_715 hK (k_W_entity e1) (ab_mkC s_W_entity (Nat.le_of_ble_eq_true rfl) (Nat.le_of_ble_eq_true rfl) (by show H.sh.length + 0 ≤ 601024; omega) (by show H.sl + 0 ≤ 7292999; omega)) (k7 197 rfl rfl) i_W_entity v_W_entity (rS_0 hG) (by decide) rfl rfl (Nat.le_of_ble_eq_true rfl) ?_
  refine pw_aload_n hX d_Law_718 rfl rfl rfl ?_
  refine pw_arg hX hK (k := 1) d_Law_719 d_Law_720 d_Law_722 d_Law_723 d_Law_724 rfl rfl (by decide) (by omega) hL ?_
  refine hw_callV_a hX (v := .int r) (H1 := B2) (As := [.int (sxs (i + 1))]) (rest := [.int r]) d_Law_725 hK (k_M_entity e2) (ab_mkC s_M_entity (Nat.le_of_ble_eq_true rfl) (Nat.le_of_ble_eq_true rfl) (by show H.sh.length + 0 + 0 ≤ 601024; omega) (by show H.sl + 0 + 0 ≤ 7292999; omega)) (k12 214 rfl rfl) i_M_entity v_M_entity (mo.get (rS_517 hG)) (by decide) rfl rfl (Nat.le_of_ble_eq_true rfl) ?_
  refine pw_icmp_eq hX (tgt := 1137) d_Law_728 (by decide) (fun _ => ?_) (fun q => absurd rfl q)
  exact pw_widen hX (cells' := B2.sh.length) (slots' := B2.sl) (by show H.sh.length + 0 + 0 ≤ _; omega) (by show H.sl + 0 + 0 ≤ _; omega) (next B2 hR2)
set_option maxRecDepth 20000 in
set_option maxHeartbeats 4000000 in
theorem lc_14 (hX : ab_X y_Law p l s m args meth c) (hK : pw_K G sL sxs s) (hi : i + 5 < sL) (hL : sL < 2 ^ 31) (hk : k ≤ 511) (hs0 : s0 ≤ 1000000) (hR : RR 2000000 s0 k H H) (next : ∀ H2, RR 2000000 s0 (k + 1) H2 H2 → pw_V p l e s m args below meth c G y_Law room_1 (fun o _ => o = .returned (some (.int 1))) room_1.cells room_1.slots H2.sh.length H2.sl 1137 (lvL i) [] (hpw H2)) : pw_V p l e s m args below meth c G y_Law room_1 (fun o _ => o = .returned (some (.int 1))) room_1.cells room_1.slots H.sh.length H.sl 733 (lvL i) [] (hpw H) := by
  have hG := hR.gr.1
  have b0 := hR.room
  obtain ⟨r, A2, B2, e1, e2, hR2, g1, g2, -, -⟩ := (jc_row (N := 2000000) (s0 := s0) (k := k) (x1 := sxs (i + 1)) (x2 := sxs (i + 2)) (Nat.le_refl _) (by omega)).one H hR
  have e1 : F_W_row 2000000 0 (sxs (i + 1)) (sxs (i + 2)) H = some (r, A2) := e1
  have e2 : F_M_row 2000000 517 (sxs (i + 1)) (sxs (i + 2)) A2 = some (r, B2) := e2
  have mo : Mo H A2 := (m_W_row e1).mo
  have mo2 : Sa A2 B2 := m_M_row e2
  have l1 := mo.len
  have l2 := mo.2
  have b2 := hR2.room
  have c1 : B2.sh.length = A2.sh.length := by rw [mo2.1]
  have c2 : B2.sl = A2.sl := mo2.2
  refine pw_aload_n hX d_Law_733 rfl rfl rfl ?_
  refine pw_arg hX hK (k := 1) d_Law_734 d_Law_735 d_Law_737 d_Law_738 d_Law_739 rfl rfl (by decide) (by omega) hL ?_
  refine pw_arg hX hK (k := 2) d_Law_740 d_Law_741 d_Law_743 d_Law_744 d_Law_745 rfl rfl (by decide) (by omega) hL ?_
  refine hw_callV_a hX (v := .int r) (H1 := A2) (As := [.int (sxs (i + 1)), .int (sxs (i + 2))]) (rest := []) d_Law_746 hK (k_W_row e1) (ab_mkC s_W_row (Nat.le_of_ble_eq_true rfl) (Nat.le_of_ble_eq_true rfl) (by show H.sh.length + 0 ≤ 601024; omega) (by show H.sl + 0 ≤ 7292999; omega)) (k7 207 rfl rfl) i_W_row v_W_row (rS_0 hG) (by decide) rfl rfl (Nat.le_of_ble_eq_true rfl) ?_
  refine pw_aload_n hX d_Law_749 rfl rfl rfl ?_
  refine pw_arg hX hK (k := 1) d_Law_750 d_Law_751 d_Law_753 d_Law_754 d_Law_755 rfl rfl (by decide) (by omega) hL ?_
  refine pw_arg hX hK (k := 2) d_Law_756 d_Law_757 d_Law_759 d_Law_760 d_Law_761 rfl rfl (by decide) (by omega) hL ?_
  refine hw_callV_a hX (v := .int r) (H1 := B2) (As := [.int (sxs (i + 1)), .int (sxs (i + 2))]) (rest := [.int r]) d_Law_762 hK (k_M_row e2) (ab_mkC s_M_row (Nat.le_of_ble_eq_true rfl) (Nat.le_of_ble_eq_true rfl) (by show H.sh.length + 0 + 0 ≤ 601024; omega) (by show H.sl + 0 + 0 ≤ 7292999; omega)) (k12 218 rfl rfl) i_M_row v_M_row (mo.get (rS_517 hG)) (by decide) rfl rfl (Nat.le_of_ble_eq_true rfl) ?_
  refine pw_icmp_eq hX (tgt := 1137) d_Law_765 (by decide) (fun _ => ?_) (fun q => absurd rfl q)
  exact pw_widen hX (cells' := B2.sh.length) (slots' := B2.sl) (by show H.sh.length + 0 + 0 ≤ _; omega) (by show H.sl + 0 + 0 ≤ _; omega) (next B2 hR2)
end Par
