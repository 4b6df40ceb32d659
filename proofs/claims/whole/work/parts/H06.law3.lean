/-! ===== the cases of the law (gen_law.py) ===== -/
section Par
variable {p : Program} {l : Launch} {e : Env} {s : State} {m : MethodId} {args : Array Value} {below : List Frame} {meth : Method} {c : Code} {G : ab_G} {sL : Nat} {sxs : Nat → Int32} {s0 i k : Nat} {H : Hp}
set_option maxRecDepth 20000 in
set_option maxHeartbeats 4000000 in
theorem lc_15 (hX : ab_X y_Law p l s m args meth c) (hK : pw_K G sL sxs s) (hi : i + 5 < sL) (hL : sL < 2 ^ 31) (hk : k ≤ 511) (hs0 : s0 ≤ 1000000) (hR : RR 2000000 s0 k H H) (next : ∀ H2, RR 2000000 s0 (k + 1) H2 H2 → pw_V p l e s m args below meth c G y_Law room_1 (fun o _ => o = .returned (some (.int 1))) room_1.cells room_1.slots H2.sh.length H2.sl 1137 (lvL i) [] (hpw H2)) : pw_V p l e s m args below meth c G y_Law room_1 (fun o _ => o = .returned (some (.int 1))) room_1.cells room_1.slots H.sh.length H.sl 770 (lvL i) [] (hpw H) := by
  have hG := hR.gr.1
  have b0 := hR.room
  obtain ⟨r, A2, B2, e1, e2, hR2, g1, g2, -, -⟩ := (jc_group (N := 2000000) (s0 := s0) (k := k) (x1 := sxs (i + 1)) (Nat.le_refl _) (by omega)).one H hR
  have e1 : F_W_group 2000000 0 (sxs (i + 1)) H = some (r, A2) := e1
  have e2 : F_M_group 2000000 517 (sxs (i + 1)) A2 = some (r, B2) := e2
  have mo : Mo H A2 := (m_W_group e1).mo
  have mo2 : Sa A2 B2 := m_M_group e2
  have l1 := mo.len
  have l2 := mo.2
  have b2 := hR2.room
  have c1 : B2.sh.length = A2.sh.length := by rw [mo2.1]
  have c2 : B2.sl = A2.sl := mo2.2
  refine pw_aload_n hX d_Law_770 rfl rfl rfl ?_
  refine pw_arg hX hK (k := 1) d_Law_771 d_Law_772 d_Law_774 d_Law_775 d_Law_776 rfl rfl (by decide) (by omega) hL ?_
  refine hw_callV_a hX (v := .int r) (H1 := A2) (As := [.int (sxs (i + 1))]) (rest := []) d_Law_777 hK (k_W_group e1) (ab_mkC s_W_group (Nat.le_of_ble_eq_true rfl) (Nat.le_of_ble_eq_true rfl) (by show H.sh.length + 0 ≤ 601024; omega) (by show H.sl + 0 ≤ 7292999; omega)) (k7 211 rfl rfl) i_W_group v_W_group (rS_0 hG) (by decide) rfl rfl (Nat.le_of_ble_eq_true rfl) ?_
  refine pw_aload_n hX d_Law_780 rfl rfl rfl ?_
  refine pw_arg hX hK (k := 1) d_Law_781 d_Law_782 d_Law_784 d_Law_785 d_Law_786 rfl rfl (by decide) (by omega) hL ?_
  refine hw_callV_a hX (v := .int r) (H1 := B2) (As := [.int (sxs (i + 1))]) (rest := [.int r]) d_Law_787 hK (k_M_group e2) (ab_mkC s_M_group (Nat.le_of_ble_eq_true rfl) (Nat.le_of_ble_eq_true rfl) (by show H.sh.length + 0 + 0 ≤ 601024; omega) (by show H.sl + 0 + 0 ≤ 7292999; omega)) (k12 223 rfl rfl) i_M_group v_M_group (mo.get (rS_517 hG)) (by decide) rfl rfl (Nat.le_of_ble_eq_true rfl) ?_
  refine pw_icmp_eq hX (tgt := 1137) d_Law_790 (by decide) (fun _ => ?_) (fun q => absurd rfl q)
  exact pw_widen hX (cells' := B2.sh.length) (slots' := B2.sl) (by show H.sh.length + 0 + 0 ≤ _; omega) (by show H.sl + 0 + 0 ≤ _; omega) (next B2 hR2)
set_option maxRecDepth 20000 in
set_option maxHeartbeats 4000000 in
theorem lc_16 (hX : ab_X y_Law p l s m args meth c) (hK : pw_K G sL sxs s) (hi : i + 5 < sL) (hL : sL < 2 ^ 31) (hk : k ≤ 511) (hs0 : s0 ≤ 1000000) (hR : RR 2000000 s0 k H H) (next : ∀ H2, RR 2000000 s0 (k + 1) H2 H2 → pw_V p l e s m args below meth c G y_Law room_1 (fun o _ => o = .returned (some (.int 1))) room_1.cells room_1.slots H2.sh.length H2.sl 1137 (lvL i) [] (hpw H2)) : pw_V p l e s m args below meth c G y_Law room_1 (fun o _ => o = .returned (some (.int 1))) room_1.cells room_1.slots H.sh.length H.sl 795 (lvL i) [] (hpw H) := by
  have hG := hR.gr.1
  have b0 := hR.room
  have s625 : H.sh[625]? = some (104, 1) := hG.s (by decide +kernel)
  obtain ⟨A2, hor⟩ := (jg_shown (N := 2000000) (s0 := s0) (k := k) (x1 := sxs (i + 1)) (by omega)).two H hR
  rcases hor with ⟨r, e1, hall⟩ | ⟨e1, hx18, B2, e2, d0, hR2, g1, g2⟩
  · have e1 : F_W_shown 2000000 0 (sxs (i + 1)) H = some (.inl r, A2) := e1
    have mo1 : Mo H A2 := m_W_shown e1
    have eL := F_lawshown hG e1 (mo1.get s625)
    have hKe : eqL (A2.sL 625 0 r.toInt64) A2 := ⟨rfl, rfl, rfl, rfl⟩
    have kL : (A2.sL 625 0 r.toInt64).L 625 0 = r.toInt64 := by show up2 A2.L 625 0 r.toInt64 625 0 = _; rw [up2_eq]
    have mo : Mo H (A2.sL 625 0 r.toInt64) := mo1
    obtain ⟨B2, e2, d0, hR2, g1, g2, g3⟩ := hall (A2.sL 625 0 r.toInt64) hKe
    generalize A2.sL 625 0 r.toInt64 = K2 at *
    have e2 : F_M_shown 2000000 517 (sxs (i + 1)) K2 = some (r, B2) := e2
    have l1 := mo.len
    have l2 := mo.2
    have b2 := hR2.room
    have c1 : B2.sh.length = K2.sh.length := by rw [g1]
    have c2 : B2.sl = K2.sl := g2
    have eT : F_M_thrown 2000000 517 B2 = some (0, B2) := by
      unfold F_M_thrown
      rw [ck_t (rS_517 hR2.gr.1), bnd_t, d0]
    have s625b : B2.sh[625]? = some (104, 1) := hR2.gr.1.s (by decide +kernel)
    refine pw_aload_n hX d_Law_795 rfl rfl rfl ?_
    refine pw_arg hX hK (k := 1) d_Law_796 d_Law_797 d_Law_799 d_Law_800 d_Law_801 rfl rfl (by decide) (by omega) hL ?_
    refine pw_aload_n hX d_Law_802 rfl rfl rfl ?_
    refine hw_callS_a hX (v := .int 0) (H1 := K2) (As := [.ref 0, .int (sxs (i + 1)), .ref 625]) (rest := []) d_Law_803 hK (k_Law_shown (C := (K2.sh.length - H.sh.length)) (Sl := (K2.sl - H.sl)) eL (by show K2.sh.length ≤ H.sh.length + _; omega) (by show K2.sl ≤ H.sl + _; omega)) (ab_mkC s_Law_shown (Nat.le_of_ble_eq_true rfl) (Nat.le_of_ble_eq_true rfl) (by show H.sh.length + (K2.sh.length - H.sh.length) ≤ 601024; omega) (by show H.sl + (K2.sl - H.sl) ≤ 7292999; omega)) (k8 139 rfl rfl) t_Law_shown rfl (Nat.le_of_ble_eq_true rfl) ?_
    refine pw_istore hX (lv' := [some (.float 300), some (.ref 0), some (.ref 517), some (.ref 625), some (.int (nI i)), some (.int 0), none]) d_Law_806 (by decide) rfl ?_
    refine pw_aload_n hX d_Law_808 rfl rfl rfl ?_
    refine pw_arg hX hK (k := 1) d_Law_809 d_Law_810 d_Law_812 d_Law_813 d_Law_814 rfl rfl (by decide) (by omega) hL ?_
    refine hw_callV_a hX (v := .int r) (H1 := B2) (As := [.int (sxs (i + 1))]) (rest := []) d_Law_815 hK (k_M_shown e2) (ab_mkC s_M_shown (Nat.le_of_ble_eq_true rfl) (Nat.le_of_ble_eq_true rfl) (by show H.sh.length + (K2.sh.length - H.sh.length) + 0 ≤ 601024; omega) (by show H.sl + (K2.sl - H.sl) + 0 ≤ 7292999; omega)) (k12 227 rfl rfl) i_M_shown v_M_shown (mo.get (rS_517 hG)) (by decide) rfl rfl (Nat.le_of_ble_eq_true rfl) ?_
    refine pw_istore hX (lv' := [some (.float 300), some (.ref 0), some (.ref 517), some (.ref 625), some (.int (nI i)), some (.int 0), some (.int r)]) d_Law_818 (by decide) rfl ?_
    refine pw_aload_n hX d_Law_820 rfl rfl rfl ?_
    refine hw_callV_a hX (v := .int 0) (H1 := B2) (As := []) (rest := []) d_Law_821 hK (k_M_thrown eT) (ab_mkC s_M_thrown (Nat.le_of_ble_eq_true rfl) (Nat.le_of_ble_eq_true rfl) (by show H.sh.length + (K2.sh.length - H.sh.length) + 0 + 0 ≤ 601024; omega) (by show H.sl + (K2.sl - H.sl) + 0 + 0 ≤ 7292999; omega)) (k10 81 rfl rfl) i_M_thrown v_M_thrown (rS_517 hR2.gr.1) (by decide) rfl rfl (Nat.le_of_ble_eq_true rfl) ?_
    refine pw_iload hX d_Law_824 rfl ?_
    refine pw_icmp_eq hX (tgt := 831) d_Law_826 (by decide) (fun _ => ?_) (fun q => absurd rfl q)
    refine pw_iload hX d_Law_831 rfl ?_
    refine pw_if_ne hX (tgt := 848) d_Law_833 (by decide) (fun q => absurd rfl q) (fun _ => ?_)
    refine pw_aload_n hX d_Law_836 rfl rfl rfl ?_
    refine pw_iconst hX (v := 0) d_Law_837 (by decide) ?_
    refine pw_lald hX (n := 1) (f := B2.L 625) d_Law_838 tJ (by rw [hpw_get s625b, hp_cell_lar]) (vp_in_nI (show 0 < 1 by decide) (by decide)) ?_
    refine pw_iload hX d_Law_839 rfl ?_
    refine pw_i2l hX d_Law_841 ?_
    refine pw_lcmp hX d_Law_842 ?_
    refine pw_if_eq hX (tgt := 848) d_Law_843 (by decide) (fun _ => ?_) (fun q => absurd (by rw [show B2.L 625 ((0 : Int32)).toNatClampNeg = r.toInt64 by rw [g3]; exact kL]; exact lg_self) q)
    refine pw_goto hX (tgt := 1137) d_Law_848 (by decide) ?_
    refine pw_sub hX (lv' := lvL i) (fun j v hv => ?_) (pw_widen hX (cells' := B2.sh.length) (slots' := B2.sl) (by show H.sh.length + (K2.sh.length - H.sh.length) + 0 + 0 ≤ _; omega) (by show H.sl + (K2.sl - H.sl) + 0 + 0 ≤ _; omega) (next B2 hR2))
    match j, hv with
    | 0, hv => exact hv
    | 1, hv => exact hv
    | 2, hv => exact hv
    | 3, hv => exact hv
    | 4, hv => exact hv
    | 5, hv => exact nomatch (show some (none : Option Value) = some (some v) from hv)
    | 6, hv => exact nomatch (show some (none : Option Value) = some (some v) from hv)
    | j + 7, hv => exact nomatch (show (none : Option (Option Value)) = some (some v) from hv)
  · have e1 : F_W_shown 2000000 0 (sxs (i + 1)) H = some (.inr H.sh.length, A2) := e1
    have mo : Mo H A2 := m_W_shown e1
    have eL := F_lawshownx hG e1 hx18
    have e2 : F_M_shown 2000000 517 (sxs (i + 1)) A2 = some (0, B2) := e2
    have l1 := mo.len
    have l2 := mo.2
    have b2 := hR2.room
    have c1 : B2.sh.length = A2.sh.length := by rw [g1]
    have c2 : B2.sl = A2.sl := g2
    have eT : F_M_thrown 2000000 517 B2 = some (1, B2) := by
      unfold F_M_thrown
      rw [ck_t (rS_517 hR2.gr.1), bnd_t, d0]
    refine pw_aload_n hX d_Law_795 rfl rfl rfl ?_
    refine pw_arg hX hK (k := 1) d_Law_796 d_Law_797 d_Law_799 d_Law_800 d_Law_801 rfl rfl (by decide) (by omega) hL ?_
    refine pw_aload_n hX d_Law_802 rfl rfl rfl ?_
    refine hw_callS_a hX (v := .int 1) (H1 := A2) (As := [.ref 0, .int (sxs (i + 1)), .ref 625]) (rest := []) d_Law_803 hK (k_Law_shown (C := (A2.sh.length - H.sh.length)) (Sl := (A2.sl - H.sl)) eL (by show A2.sh.length ≤ H.sh.length + _; omega) (by show A2.sl ≤ H.sl + _; omega)) (ab_mkC s_Law_shown (Nat.le_of_ble_eq_true rfl) (Nat.le_of_ble_eq_true rfl) (by show H.sh.length + (A2.sh.length - H.sh.length) ≤ 601024; omega) (by show H.sl + (A2.sl - H.sl) ≤ 7292999; omega)) (k8 139 rfl rfl) t_Law_shown rfl (Nat.le_of_ble_eq_true rfl) ?_
    refine pw_istore hX (lv' := [some (.float 300), some (.ref 0), some (.ref 517), some (.ref 625), some (.int (nI i)), some (.int 1), none]) d_Law_806 (by decide) rfl ?_
    refine pw_aload_n hX d_Law_808 rfl rfl rfl ?_
    refine pw_arg hX hK (k := 1) d_Law_809 d_Law_810 d_Law_812 d_Law_813 d_Law_814 rfl rfl (by decide) (by omega) hL ?_
    refine hw_callV_a hX (v := .int 0) (H1 := B2) (As := [.int (sxs (i + 1))]) (rest := []) d_Law_815 hK (k_M_shown e2) (ab_mkC s_M_shown (Nat.le_of_ble_eq_true rfl) (Nat.le_of_ble_eq_true rfl) (by show H.sh.length + (A2.sh.length - H.sh.length) + 0 ≤ 601024; omega) (by show H.sl + (A2.sl - H.sl) + 0 ≤ 7292999; omega)) (k12 227 rfl rfl) i_M_shown v_M_shown (mo.get (rS_517 hG)) (by decide) rfl rfl (Nat.le_of_ble_eq_true rfl) ?_
    refine pw_istore hX (lv' := [some (.float 300), some (.ref 0), some (.ref 517), some (.ref 625), some (.int (nI i)), some (.int 1), some (.int 0)]) d_Law_818 (by decide) rfl ?_
    refine pw_aload_n hX d_Law_820 rfl rfl rfl ?_
    refine hw_callV_a hX (v := .int 1) (H1 := B2) (As := []) (rest := []) d_Law_821 hK (k_M_thrown eT) (ab_mkC s_M_thrown (Nat.le_of_ble_eq_true rfl) (Nat.le_of_ble_eq_true rfl) (by show H.sh.length + (A2.sh.length - H.sh.length) + 0 + 0 ≤ 601024; omega) (by show H.sl + (A2.sl - H.sl) + 0 + 0 ≤ 7292999; omega)) (k10 81 rfl rfl) i_M_thrown v_M_thrown (rS_517 hR2.gr.1) (by decide) rfl rfl (Nat.le_of_ble_eq_true rfl) ?_
    refine pw_iload hX d_Law_824 rfl ?_
    refine pw_icmp_eq hX (tgt := 831) d_Law_826 (by decide) (fun _ => ?_) (fun q => absurd rfl q)
    refine pw_iload hX d_Law_831 rfl ?_
    refine pw_if_ne hX (tgt := 848) d_Law_833 (by decide) (fun _ => ?_) (fun q => absurd q (show ¬ (1 : Int32) = 0 by decide))
    refine pw_goto hX (tgt := 1137) d_Law_848 (by decide) ?_
    refine pw_sub hX (lv' := lvL i) (fun j v hv => ?_) (pw_widen hX (cells' := B2.sh.length) (slots' := B2.sl) (by show H.sh.length + (A2.sh.length - H.sh.length) + 0 + 0 ≤ _; omega) (by show H.sl + (A2.sl - H.sl) + 0 + 0 ≤ _; omega) (next B2 hR2))
    match j, hv with
    | 0, hv => exact hv
    | 1, hv => exact hv
    | 2, hv => exact hv
    | 3, hv => exact hv
    | 4, hv => exact hv
    | 5, hv => exact nomatch (show some (none : Option Value) = some (some v) from hv)
    | 6, hv => exact nomatch (show some (none : Option Value) = some (some v) from hv)
    | j + 7, hv => exact nomatch (show (none : Option (Option Value)) = some (some v) from hv)
set_option maxRecDepth 20000 in
set_option maxHeartbeats 4000000 in
theorem lc_17 (hX : ab_X y_Law p l s m args meth c) (hK : pw_K G sL sxs s) (hi : i + 5 < sL) (hL : sL < 2 ^ 31) (hk : k ≤ 511) (hs0 : s0 ≤ 1000000) (hR : RR 2000000 s0 k H H) (next : ∀ H2, RR 2000000 s0 (k + 1) H2 H2 → pw_V p l e s m args below meth c G y_Law room_1 (fun o _ => o = .returned (some (.int 1))) room_1.cells room_1.slots H2.sh.length H2.sl 1137 (lvL i) [] (hpw H2)) : pw_V p l e s m args below meth c G y_Law room_1 (fun o _ => o = .returned (some (.int 1))) room_1.cells room_1.slots H.sh.length H.sl 851 (lvL i) [] (hpw H) := by
  have hG := hR.gr.1
  have b0 := hR.room
  obtain ⟨r, A2, B2, e1, e2, hR2, g1, g2, -, -⟩ := (jc_failure (N := 2000000) (s0 := s0) (k := k) (x1 := sxs (i + 1)) (Nat.le_refl _) (by omega)).one H hR
  have e1 : F_W_failure 2000000 0 (sxs (i + 1)) H = some (r, A2) := e1
  have e2 : F_M_failure 2000000 517 (sxs (i + 1)) A2 = some (r, B2) := e2
  have mo : Mo H A2 := (m_W_failure e1).mo
  have mo2 : Sa A2 B2 := m_M_failure e2
  have l1 := mo.len
  have l2 := mo.2
  have b2 := hR2.room
  have c1 : B2.sh.length = A2.sh.length := by rw [mo2.1]
  have c2 : B2.sl = A2.sl := mo2.2
  refine pw_aload_n hX d_Law_851 rfl rfl rfl ?_
  refine pw_arg hX hK (k := 1) d_Law_852 d_Law_853 d_Law_855 d_Law_856 d_Law_857 rfl rfl (by decide) (by omega) hL ?_
  refine hw_callV_a hX (v := .int r) (H1 := A2) (As := [.int (sxs (i + 1))]) (rest := []) d_Law_858 hK (k_W_failure e1) (ab_mkC s_W_failure (Nat.le_of_ble_eq_true rfl) (Nat.le_of_ble_eq_true rfl) (by show H.sh.length + 0 ≤ 601024; omega) (by show H.sl + 0 ≤ 7292999; omega)) (k7 215 rfl rfl) i_W_failure v_W_failure (rS_0 hG) (by decide) rfl rfl (Nat.le_of_ble_eq_true rfl) ?_
  refine pw_aload_n hX d_Law_861 rfl rfl rfl ?_
  refine pw_arg hX hK (k := 1) d_Law_862 d_Law_863 d_Law_865 d_Law_866 d_Law_867 rfl rfl (by decide) (by omega) hL ?_
  refine hw_callV_a hX (v := .int r) (H1 := B2) (As := [.int (sxs (i + 1))]) (rest := [.int r]) d_Law_868 hK (k_M_failure e2) (ab_mkC s_M_failure (Nat.le_of_ble_eq_true rfl) (Nat.le_of_ble_eq_true rfl) (by show H.sh.length + 0 + 0 ≤ 601024; omega) (by show H.sl + 0 + 0 ≤ 7292999; omega)) (k12 231 rfl rfl) i_M_failure v_M_failure (mo.get (rS_517 hG)) (by decide) rfl rfl (Nat.le_of_ble_eq_true rfl) ?_
  refine pw_icmp_eq hX (tgt := 1137) d_Law_871 (by decide) (fun _ => ?_) (fun q => absurd rfl q)
  exact pw_widen hX (cells' := B2.sh.length) (slots' := B2.sl) (by show H.sh.length + 0 + 0 ≤ _; omega) (by show H.sl + 0 + 0 ≤ _; omega) (next B2 hR2)
set_option maxRecDepth 20000 in
set_option maxHeartbeats 4000000 in
theorem lc_18 (hX : ab_X y_Law p l s m args meth c) (hK : pw_K G sL sxs s) (hi : i + 5 < sL) (hL : sL < 2 ^ 31) (hk : k ≤ 511) (hs0 : s0 ≤ 1000000) (hR : RR 2000000 s0 k H H) (next : ∀ H2, RR 2000000 s0 (k + 1) H2 H2 → pw_V p l e s m args below meth c G y_Law room_1 (fun o _ => o = .returned (some (.int 1))) room_1.cells room_1.slots H2.sh.length H2.sl 1137 (lvL i) [] (hpw H2)) : pw_V p l e s m args below meth c G y_Law room_1 (fun o _ => o = .returned (some (.int 1))) room_1.cells room_1.slots H.sh.length H.sl 876 (lvL i) [] (hpw H) := by
  have hG := hR.gr.1
  have b0 := hR.room
  obtain ⟨r, A2, B2, e1, e2, hR2, g1, g2, -, -⟩ := (jc_pending (N := 2000000) (s0 := s0) (k := k) (x1 := sxs (i + 1)) (x2 := sxs (i + 2)) (Nat.le_refl _) (by omega)).one H hR
  have e1 : F_W_pending 2000000 0 (sxs (i + 1)) (sxs (i + 2)) H = some (r, A2) := e1
  have e2 : F_M_pending 2000000 517 (sxs (i + 1)) (sxs (i + 2)) A2 = some (r, B2) := e2
  have mo : Mo H A2 := (m_W_pending e1).mo
  have mo2 : Sa A2 B2 := m_M_pending e2
  have l1 := mo.len
  have l2 := mo.2
  have b2 := hR2.room
  have c1 : B2.sh.length = A2.sh.length := by rw [mo2.1]
  have c2 : B2.sl = A2.sl := mo2.2
  refine pw_aload_n hX d_Law_876 rfl rfl rfl ?_
  refine pw_arg hX hK (k := 1) d_Law_877 d_Law_878 d_Law_880 d_Law_881 d_Law_882 rfl rfl (by decide) (by omega) hL ?_
  refine pw_arg hX hK (k := 2) d_Law_883 d_Law_884 d_Law_886 d_Law_887 d_Law_888 rfl rfl (by decide) (by omega) hL ?_
  refine hw_callV_a hX (v := .int r) (H1 := A2) (As := [.int (sxs (i + 1)), .int (sxs (i + 2))]) (rest := []) d_Law_889 hK (k_W_pending e1) (ab_mkC s_W_pending (Nat.le_of_ble_eq_true rfl) (Nat.le_of_ble_eq_true rfl) (by show H.sh.length + 0 ≤ 601024; omega) (by show H.sl + 0 ≤ 7292999; omega)) (k7 219 rfl rfl) i_W_pending v_W_pending (rS_0 hG) (by decide) rfl rfl (Nat.le_of_ble_eq_true rfl) ?_
  refine pw_aload_n hX d_Law_892 rfl rfl rfl ?_
  refine pw_arg hX hK (k := 1) d_Law_893 d_Law_894 d_Law_896 d_Law_897 d_Law_898 rfl rfl (by decide) (by omega) hL ?_
  refine pw_arg hX hK (k := 2) d_Law_899 d_Law_900 d_Law_902 d_Law_903 d_Law_904 rfl rfl (by decide) (by omega) hL ?_
  refine hw_callV_a hX (v := .int r) (H1 := B2) (As := [.int (sxs (i + 1)), .int (sxs (i + 2))]) (rest := [.int r]) d_Law_905 hK (k_M_pending e2) (ab_mkC s_M_pending (Nat.le_of_ble_eq_true rfl) (Nat.le_of_ble_eq_true rfl) (by show H.sh.length + 0 + 0 ≤ 601024; omega) (by show H.sl + 0 + 0 ≤ 7292999; omega)) (k12 235 rfl rfl) i_M_pending v_M_pending (mo.get (rS_517 hG)) (by decide) rfl rfl (Nat.le_of_ble_eq_true rfl) ?_
  refine pw_icmp_eq hX (tgt := 1137) d_Law_908 (by decide) (fun _ => ?_) (fun q => absurd rfl q)
  exact pw_widen hX (cells' := B2.sh.length) (slots' := B2.sl) (by show H.sh.length + 0 + 0 ≤ _; omega) (by show H.sl + 0 + 0 ≤ _; omega) (next B2 hR2)
set_option maxRecDepth 20000 in
set_option maxHeartbeats 4000000 in
theorem lc_19 (hX : ab_X y_Law p l s m args meth c) (hK : pw_K G sL sxs s) (hi : i + 5 < sL) (hL : sL < 2 ^ 31) (hk : k ≤ 511) (hs0 : s0 ≤ 1000000) (hR : RR 2000000 s0 k H H) (next : ∀ H2, RR 2000000 s0 (k + 1) H2 H2 → pw_V p l e s m args below meth c G y_Law room_1 (fun o _ => o = .returned (some (.int 1))) room_1.cells room_1.slots H2.sh.length H2.sl 1137 (lvL i) [] (hpw H2)) : pw_V p l e s m args below meth c G y_Law room_1 (fun o _ => o = .returned (some (.int 1))) room_1.cells room_1.slots H.sh.length H.sl 913 (lvL i) [] (hpw H) := by
  have hG := hR.gr.1
  have b0 := hR.room
  obtain ⟨r, A2, B2, e1, e2, hR2, g1, g2, -, -⟩ := (jc_look (N := 2000000) (s0 := s0) (k := k) (x1 := sxs (i + 1)) (Nat.le_refl _) (by omega)).one H hR
  have e1 : F_W_look 2000000 0 (sxs (i + 1)) H = some (r, A2) := e1
  have e2 : F_M_look 2000000 517 (sxs (i + 1)) A2 = some (r, B2) := e2
  have mo : Mo H A2 := (m_W_look e1).mo
  have mo2 : Sa A2 B2 := m_M_look e2
  have l1 := mo.len
  have l2 := mo.2
  have b2 := hR2.room
  have c1 : B2.sh.length = A2.sh.length := by rw [mo2.1]
  have c2 : B2.sl = A2.sl := mo2.2
  refine pw_aload_n hX d_Law_913 rfl rfl rfl ?_
  refine pw_arg hX hK (k := 1) d_Law_914 d_Law_915 d_Law_917 d_Law_918 d_Law_919 rfl rfl (by decide) (by omega) hL ?_
  refine hw_callV_a hX (v := .int r) (H1 := A2) (As := [.int (sxs (i + 1))]) (rest := []) d_Law_920 hK (k_W_look e1) (ab_mkC s_W_look (Nat.le_of_ble_eq_true rfl) (Nat.le_of_ble_eq_true rfl) (by show H.sh.length + 0 ≤ 601024; omega) (by show H.sl + 0 ≤ 7292999; omega)) (k7 223 rfl rfl) i_W_look v_W_look (rS_0 hG) (by decide) rfl rfl (Nat.le_of_ble_eq_true rfl) ?_
  refine pw_aload_n hX d_Law_923 rfl rfl rfl ?_
  refine pw_arg hX hK (k := 1) d_Law_924 d_Law_925 d_Law_927 d_Law_928 d_Law_929 rfl rfl (by decide) (by omega) hL ?_
  refine hw_callV_a hX (v := .int r) (H1 := B2) (As := [.int (sxs (i + 1))]) (rest := [.int r]) d_Law_930 hK (k_M_look e2) (ab_mkC s_M_look (Nat.le_of_ble_eq_true rfl) (Nat.le_of_ble_eq_true rfl) (by show H.sh.length + 0 + 0 ≤ 601024; omega) (by show H.sl + 0 + 0 ≤ 7292999; omega)) (k12 239 rfl rfl) i_M_look v_M_look (mo.get (rS_517 hG)) (by decide) rfl rfl (Nat.le_of_ble_eq_true rfl) ?_
  refine pw_icmp_eq hX (tgt := 1137) d_Law_933 (by decide) (fun _ => ?_) (fun q => absurd rfl q)
  exact pw_widen hX (cells' := B2.sh.length) (slots' := B2.sl) (by show H.sh.length + 0 + 0 ≤ _; omega) (by show H.sl + 0 + 0 ≤ _; omega) (next B2 hR2)
set_option maxRecDepth 20000 in
set_option maxHeartbeats 4000000 in
theorem lc_20 (hX : ab_X y_Law p l s m args meth c) (hK : pw_K G sL sxs s) (hi : i + 5 < sL) (hL : sL < 2 ^ 31) (hk : k ≤ 511) (hs0 : s0 ≤ 1000000) (hR : RR 2000000 s0 k H H) (next : ∀ H2, RR 2000000 s0 (k + 1) H2 H2 → pw_V p l e s m args below meth c G y_Law room_1 (fun o _ => o = .returned (some (.int 1))) room_1.cells room_1.slots H2.sh.length H2.sl 1137 (lvL i) [] (hpw H2)) : pw_V p l e s m args below meth c G y_Law room_1 (fun o _ => o = .returned (some (.int 1))) room_1.cells room_1.slots H.sh.length H.sl 938 (lvL i) [] (hpw H) := by
  have hG := hR.gr.1
  have b0 := hR.room
  obtain ⟨r, A2, B2, e1, e2, hR2, g1, g2, -, -⟩ := (jc_sum (N := 2000000) (s0 := s0) (k := k)  (Nat.le_refl _) (by omega)).one H hR
  have e1 : F_W_sum 2000000 0  H = some (r, A2) := e1
  have e2 : F_M_sum 2000000 517  A2 = some (r, B2) := e2
  have mo : Mo H A2 := (m_W_sum e1).mo
  have mo2 : Sa A2 B2 := m_M_sum e2
  have l1 := mo.len
  have l2 := mo.2
  have b2 := hR2.room
  have c1 : B2.sh.length = A2.sh.length := by rw [mo2.1]
  have c2 : B2.sl = A2.sl := mo2.2
  refine pw_aload_n hX d_Law_938 rfl rfl rfl ?_
  refine hw_callV_a hX (v := .int r) (H1 := A2) (As := []) (rest := []) d_Law_939 hK (k_W_sum e1) (ab_mkC s_W_sum (Nat.le_of_ble_eq_true rfl) (Nat.le_of_ble_eq_true rfl) (by show H.sh.length + 0 ≤ 601024; omega) (by show H.sl + 0 ≤ 7292999; omega)) (k7 232 rfl rfl) i_W_sum v_W_sum (rS_0 hG) (by decide) rfl rfl (Nat.le_of_ble_eq_true rfl) ?_
  refine pw_aload_n hX d_Law_942 rfl rfl rfl ?_
  refine hw_callV_a hX (v := .int r) (H1 := B2) (As := []) (rest := [.int r]) d_Law_943 hK (k_M_sum e2) (ab_mkC s_M_sum (Nat.le_of_ble_eq_true rfl) (Nat.le_of_ble_eq_true rfl) (by show H.sh.length + 0 + 0 ≤ 601024; omega) (by show H.sl + 0 + 0 ≤ 7292999; omega)) (k13 24 rfl rfl) i_M_sum v_M_sum (mo.get (rS_517 hG)) (by decide) rfl rfl (Nat.le_of_ble_eq_true rfl) ?_
  refine pw_icmp_eq hX (tgt := 1137) d_Law_946 (by decide) (fun _ => ?_) (fun q => absurd rfl q)
  exact pw_widen hX (cells' := B2.sh.length) (slots' := B2.sl) (by show H.sh.length + 0 + 0 ≤ _; omega) (by show H.sl + 0 + 0 ≤ _; omega) (next B2 hR2)
set_option maxRecDepth 20000 in
set_option maxHeartbeats 4000000 in
theorem lc_21 (hX : ab_X y_Law p l s m args meth c) (hK : pw_K G sL sxs s) (hi : i + 5 < sL) (hL : sL < 2 ^ 31) (hk : k ≤ 511) (hs0 : s0 ≤ 1000000) (hR : RR 2000000 s0 k H H) (next : ∀ H2, RR 2000000 s0 (k + 1) H2 H2 → pw_V p l e s m args below meth c G y_Law room_1 (fun o _ => o = .returned (some (.int 1))) room_1.cells room_1.slots H2.sh.length H2.sl 1137 (lvL i) [] (hpw H2)) : pw_V p l e s m args below meth c G y_Law room_1 (fun o _ => o = .returned (some (.int 1))) room_1.cells room_1.slots H.sh.length H.sl 951 (lvL i) [] (hpw H) := by
  have hG := hR.gr.1
  have b0 := hR.room
  obtain ⟨r, A2, B2, e1, e2, hR2, g1, g2, -, -⟩ := (jc_save (N := 2000000) (s0 := s0) (k := k)  (Nat.le_refl _) (by omega)).one H hR
  have e1 : F_W_save 2000000 0  H = some (r, A2) := e1
  have e2 : F_M_save 2000000 517  A2 = some (r, B2) := e2
  have mo : Mo H A2 := (m_W_save e1).mo
  have mo2 : Sa A2 B2 := m_M_save e2
  have l1 := mo.len
  have l2 := mo.2
  have b2 := hR2.room
  have c1 : B2.sh.length = A2.sh.length := by rw [mo2.1]
  have c2 : B2.sl = A2.sl := mo2.2
  refine pw_aload_n hX d_Law_951 rfl rfl rfl ?_
  refine hw_callV_a hX (v := .int r) (H1 := A2) (As := []) (rest := []) d_Law_952 hK (k_W_save e1) (ab_mkC s_W_save (Nat.le_of_ble_eq_true rfl) (Nat.le_of_ble_eq_true rfl) (by show H.sh.length + 0 ≤ 601024; omega) (by show H.sl + 0 ≤ 7292999; omega)) (k8 23 rfl rfl) i_W_save v_W_save (rS_0 hG) (by decide) rfl rfl (Nat.le_of_ble_eq_true rfl) ?_
  refine pw_aload_n hX d_Law_955 rfl rfl rfl ?_
  refine hw_callV_a hX (v := .int r) (H1 := B2) (As := []) (rest := [.int r]) d_Law_956 hK (k_M_save e2) (ab_mkC s_M_save (Nat.le_of_ble_eq_true rfl) (Nat.le_of_ble_eq_true rfl) (by show H.sh.length + 0 + 0 ≤ 601024; omega) (by show H.sl + 0 + 0 ≤ 7292999; omega)) (k13 36 rfl rfl) i_M_save v_M_save (mo.get (rS_517 hG)) (by decide) rfl rfl (Nat.le_of_ble_eq_true rfl) ?_
  refine pw_icmp_eq hX (tgt := 1137) d_Law_959 (by decide) (fun _ => ?_) (fun q => absurd rfl q)
  exact pw_widen hX (cells' := B2.sh.length) (slots' := B2.sl) (by show H.sh.length + 0 + 0 ≤ _; omega) (by show H.sl + 0 + 0 ≤ _; omega) (next B2 hR2)
end Par
