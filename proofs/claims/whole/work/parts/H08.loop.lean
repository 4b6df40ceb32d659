/-! ===== the law's loop ===== -/
theorem lp_le {sL i : Nat} (hL : sL ≤ 3073) (hi : i < 10000) (h : ¬ nI sL - 6 < nI i) : i + 5 < sL := by
  by_cases y : sL < 6
  · exfalso
    apply h
    have h0 : (0 : Int32) ≤ nI i := nI_le (a := 0) (by omega) (by omega)
    have : sL = 0 ∨ sL = 1 ∨ sL = 2 ∨ sL = 3 ∨ sL = 4 ∨ sL = 5 := by omega
    have h1 : nI sL - 6 < (0 : Int32) := by rcases this with rfl | rfl | rfl | rfl | rfl | rfl <;> decide
    exact Int32.lt_of_lt_of_le h1 h0
  · have e : nI sL - 6 = nI (sL - 6) := pk_sub (a := sL) (b := 6) (by omega)
    rw [e] at h
    by_cases z : i + 5 < sL
    · exact z
    · exact absurd (nI_lt (by omega) (by omega)) h
theorem RR.skip {N s0 k : Nat} {A B : Hp} (h : RR N s0 k A B) : RR N s0 (k + 1) A B := by
  obtain ⟨p, p2, cs, w, w2, M, ty, mn, nu, cd, E, Nm, Pv, S, nb, b, t0, la, z, us, un, um, c, n, kT, U, F, h1, h2, h3, h4, h5, h6⟩ := h
  exact ⟨p, p2, cs, w, w2, M, ty, mn, nu, cd, E, Nm, Pv, S, nb, b, t0, la, z, us, un, um, c, n, kT, U, F, h1, h2, h3, h4, ⟨by omega, h5.2.1, h5.2.2.1, by omega⟩, h6.up⟩
section Par
variable {p : Program} {l : Launch} {e : Env} {s : State} {m : MethodId} {args : Array Value} {below : List Frame} {meth : Method} {c : Code} {G : ab_G} {sL : Nat} {sxs : Nat → Int32} {s0 i k : Nat} {H : Hp}
set_option maxRecDepth 20000 in
set_option maxHeartbeats 4000000 in
theorem law_sw (hX : ab_X y_Law p l s m args meth c) (hK : pw_K G sL sxs s) (hi : i + 5 < sL) (hL : sL < 2 ^ 31) (hk : k ≤ 511) (hs0 : s0 ≤ 1000000) (hR : RR 2000000 s0 k H H) (next : ∀ H2, RR 2000000 s0 (k + 1) H2 H2 → pw_V p l e s m args below meth c G y_Law room_1 (fun o _ => o = .returned (some (.int 1))) room_1.cells room_1.slots H2.sh.length H2.sl 1137 (lvL i) [] (hpw H2)) : pw_V p l e s m args below meth c G y_Law room_1 (fun o _ => o = .returned (some (.int 1))) room_1.cells room_1.slots H.sh.length H.sl 43 (lvL i) [] (hpw H) := by
  refine pw_aload_n hX d_Law_43 rfl rfl rfl ?_
  refine pw_iload hX (x := nI i) d_Law_44 rfl ?_
  refine pw_sld hX hK d_Law_46 (in_of hL (nI_nlt (b := 0) (by omega) (by omega)) (nI_ge (by omega) (by omega))) ?_
  rw [cN (by omega)]
  refine pw_bipush hX (v := 31) d_Law_47 (by decide) ?_
  refine pw_iand hX d_Law_49 ?_
  generalize sxs i &&& 31 = t
  by_cases t0 : t = 0
  · exact pw_tableIn hX (off := 130) (tgt := 180) d_Law_50 (by rw [t0]; decide) (by rw [t0]; decide) (by rw [t0]; decide) (by decide) (lc_0 hX hK hi hL hk hs0 hR next)
  by_cases t1 : t = 1
  · exact pw_tableIn hX (off := 203) (tgt := 253) d_Law_50 (by rw [t1]; decide) (by rw [t1]; decide) (by rw [t1]; decide) (by decide) (lc_1 hX hK hi hL hk hs0 hR next)
  by_cases t2 : t = 2
  · exact pw_tableIn hX (off := 228) (tgt := 278) d_Law_50 (by rw [t2]; decide) (by rw [t2]; decide) (by rw [t2]; decide) (by decide) (lc_2 hX hK hi hL hk hs0 hR next)
  by_cases t3 : t = 3
  · exact pw_tableIn hX (off := 253) (tgt := 303) d_Law_50 (by rw [t3]; decide) (by rw [t3]; decide) (by rw [t3]; decide) (by decide) (lc_3 hX hK hi hL hk hs0 hR next)
  by_cases t4 : t = 4
  · exact pw_tableIn hX (off := 278) (tgt := 328) d_Law_50 (by rw [t4]; decide) (by rw [t4]; decide) (by rw [t4]; decide) (by decide) (lc_4 hX hK hi hL hk hs0 hR next)
  by_cases t5 : t = 5
  · exact pw_tableIn hX (off := 291) (tgt := 341) d_Law_50 (by rw [t5]; decide) (by rw [t5]; decide) (by rw [t5]; decide) (by decide) (lc_5 hX hK hi hL hk hs0 hR next)
  by_cases t6 : t = 6
  · exact pw_tableIn hX (off := 304) (tgt := 354) d_Law_50 (by rw [t6]; decide) (by rw [t6]; decide) (by rw [t6]; decide) (by decide) (lc_6 hX hK hi hL hk hs0 hR next)
  by_cases t7 : t = 7
  · exact pw_tableIn hX (off := 353) (tgt := 403) d_Law_50 (by rw [t7]; decide) (by rw [t7]; decide) (by rw [t7]; decide) (by decide) (lc_7 hX hK hi hL hk hs0 hR next)
  by_cases t8 : t = 8
  · exact pw_tableIn hX (off := 406) (tgt := 456) d_Law_50 (by rw [t8]; decide) (by rw [t8]; decide) (by rw [t8]; decide) (by decide) (lc_8 hX hK hi hL hk hs0 hR next)
  by_cases t9 : t = 9
  · exact pw_tableIn hX (off := 431) (tgt := 481) d_Law_50 (by rw [t9]; decide) (by rw [t9]; decide) (by rw [t9]; decide) (by decide) (lc_9 hX hK hi hL hk hs0 hR next)
  by_cases t10 : t = 10
  · exact pw_tableIn hX (off := 480) (tgt := 530) d_Law_50 (by rw [t10]; decide) (by rw [t10]; decide) (by rw [t10]; decide) (by decide) (lc_10 hX hK hi hL hk hs0 hR next)
  by_cases t11 : t = 11
  · exact pw_tableIn hX (off := 541) (tgt := 591) d_Law_50 (by rw [t11]; decide) (by rw [t11]; decide) (by rw [t11]; decide) (by decide) (lc_11 hX hK hi hL hk hs0 hR next)
  by_cases t12 : t = 12
  · exact pw_tableIn hX (off := 621) (tgt := 671) d_Law_50 (by rw [t12]; decide) (by rw [t12]; decide) (by rw [t12]; decide) (by decide) (lc_12 hX hK hi hL hk hs0 hR next)
  by_cases t13 : t = 13
  · exact pw_tableIn hX (off := 658) (tgt := 708) d_Law_50 (by rw [t13]; decide) (by rw [t13]; decide) (by rw [t13]; decide) (by decide) (lc_13 hX hK hi hL hk hs0 hR next)
  by_cases t14 : t = 14
  · exact pw_tableIn hX (off := 683) (tgt := 733) d_Law_50 (by rw [t14]; decide) (by rw [t14]; decide) (by rw [t14]; decide) (by decide) (lc_14 hX hK hi hL hk hs0 hR next)
  by_cases t15 : t = 15
  · exact pw_tableIn hX (off := 720) (tgt := 770) d_Law_50 (by rw [t15]; decide) (by rw [t15]; decide) (by rw [t15]; decide) (by decide) (lc_15 hX hK hi hL hk hs0 hR next)
  by_cases t16 : t = 16
  · exact pw_tableIn hX (off := 745) (tgt := 795) d_Law_50 (by rw [t16]; decide) (by rw [t16]; decide) (by rw [t16]; decide) (by decide) (lc_16 hX hK hi hL hk hs0 hR next)
  by_cases t17 : t = 17
  · exact pw_tableIn hX (off := 801) (tgt := 851) d_Law_50 (by rw [t17]; decide) (by rw [t17]; decide) (by rw [t17]; decide) (by decide) (lc_17 hX hK hi hL hk hs0 hR next)
  by_cases t18 : t = 18
  · exact pw_tableIn hX (off := 826) (tgt := 876) d_Law_50 (by rw [t18]; decide) (by rw [t18]; decide) (by rw [t18]; decide) (by decide) (lc_18 hX hK hi hL hk hs0 hR next)
  by_cases t19 : t = 19
  · exact pw_tableIn hX (off := 863) (tgt := 913) d_Law_50 (by rw [t19]; decide) (by rw [t19]; decide) (by rw [t19]; decide) (by decide) (lc_19 hX hK hi hL hk hs0 hR next)
  by_cases t20 : t = 20
  · exact pw_tableIn hX (off := 888) (tgt := 938) d_Law_50 (by rw [t20]; decide) (by rw [t20]; decide) (by rw [t20]; decide) (by decide) (lc_20 hX hK hi hL hk hs0 hR next)
  by_cases t21 : t = 21
  · exact pw_tableIn hX (off := 901) (tgt := 951) d_Law_50 (by rw [t21]; decide) (by rw [t21]; decide) (by rw [t21]; decide) (by decide) (lc_21 hX hK hi hL hk hs0 hR next)
  by_cases t22 : t = 22
  · exact pw_tableIn hX (off := 914) (tgt := 964) d_Law_50 (by rw [t22]; decide) (by rw [t22]; decide) (by rw [t22]; decide) (by decide) (lc_22 hX hK hi hL hk hs0 hR next)
  by_cases t23 : t = 23
  · exact pw_tableIn hX (off := 951) (tgt := 1001) d_Law_50 (by rw [t23]; decide) (by rw [t23]; decide) (by rw [t23]; decide) (by decide) (lc_23 hX hK hi hL hk hs0 hR next)
  by_cases t24 : t = 24
  · exact pw_tableIn hX (off := 976) (tgt := 1026) d_Law_50 (by rw [t24]; decide) (by rw [t24]; decide) (by rw [t24]; decide) (by decide) (lc_24 hX hK hi hL hk hs0 hR next)
  by_cases t25 : t = 25
  · exact pw_tableIn hX (off := 1001) (tgt := 1051) d_Law_50 (by rw [t25]; decide) (by rw [t25]; decide) (by rw [t25]; decide) (by decide) (lc_25 hX hK hi hL hk hs0 hR next)
  by_cases t26 : t = 26
  · exact pw_tableIn hX (off := 1014) (tgt := 1064) d_Law_50 (by rw [t26]; decide) (by rw [t26]; decide) (by rw [t26]; decide) (by decide) (lc_26 hX hK hi hL hk hs0 hR next)
  by_cases t27 : t = 27
  · exact pw_tableIn hX (off := 1039) (tgt := 1089) d_Law_50 (by rw [t27]; decide) (by rw [t27]; decide) (by rw [t27]; decide) (by decide) (lc_27 hX hK hi hL hk hs0 hR next)
  by_cases t28 : t = 28
  · exact pw_tableIn hX (off := 1064) (tgt := 1114) d_Law_50 (by rw [t28]; decide) (by rw [t28]; decide) (by rw [t28]; decide) (by decide) (lc_28 hX hK hi hL hk hs0 hR next)
  have u0 : t.toInt ≠ 0 := fun z => t0 (Int32.toInt_inj.mp (z.trans (by decide)))
  have u1 : t.toInt ≠ 1 := fun z => t1 (Int32.toInt_inj.mp (z.trans (by decide)))
  have u2 : t.toInt ≠ 2 := fun z => t2 (Int32.toInt_inj.mp (z.trans (by decide)))
  have u3 : t.toInt ≠ 3 := fun z => t3 (Int32.toInt_inj.mp (z.trans (by decide)))
  have u4 : t.toInt ≠ 4 := fun z => t4 (Int32.toInt_inj.mp (z.trans (by decide)))
  have u5 : t.toInt ≠ 5 := fun z => t5 (Int32.toInt_inj.mp (z.trans (by decide)))
  have u6 : t.toInt ≠ 6 := fun z => t6 (Int32.toInt_inj.mp (z.trans (by decide)))
  have u7 : t.toInt ≠ 7 := fun z => t7 (Int32.toInt_inj.mp (z.trans (by decide)))
  have u8 : t.toInt ≠ 8 := fun z => t8 (Int32.toInt_inj.mp (z.trans (by decide)))
  have u9 : t.toInt ≠ 9 := fun z => t9 (Int32.toInt_inj.mp (z.trans (by decide)))
  have u10 : t.toInt ≠ 10 := fun z => t10 (Int32.toInt_inj.mp (z.trans (by decide)))
  have u11 : t.toInt ≠ 11 := fun z => t11 (Int32.toInt_inj.mp (z.trans (by decide)))
  have u12 : t.toInt ≠ 12 := fun z => t12 (Int32.toInt_inj.mp (z.trans (by decide)))
  have u13 : t.toInt ≠ 13 := fun z => t13 (Int32.toInt_inj.mp (z.trans (by decide)))
  have u14 : t.toInt ≠ 14 := fun z => t14 (Int32.toInt_inj.mp (z.trans (by decide)))
  have u15 : t.toInt ≠ 15 := fun z => t15 (Int32.toInt_inj.mp (z.trans (by decide)))
  have u16 : t.toInt ≠ 16 := fun z => t16 (Int32.toInt_inj.mp (z.trans (by decide)))
  have u17 : t.toInt ≠ 17 := fun z => t17 (Int32.toInt_inj.mp (z.trans (by decide)))
  have u18 : t.toInt ≠ 18 := fun z => t18 (Int32.toInt_inj.mp (z.trans (by decide)))
  have u19 : t.toInt ≠ 19 := fun z => t19 (Int32.toInt_inj.mp (z.trans (by decide)))
  have u20 : t.toInt ≠ 20 := fun z => t20 (Int32.toInt_inj.mp (z.trans (by decide)))
  have u21 : t.toInt ≠ 21 := fun z => t21 (Int32.toInt_inj.mp (z.trans (by decide)))
  have u22 : t.toInt ≠ 22 := fun z => t22 (Int32.toInt_inj.mp (z.trans (by decide)))
  have u23 : t.toInt ≠ 23 := fun z => t23 (Int32.toInt_inj.mp (z.trans (by decide)))
  have u24 : t.toInt ≠ 24 := fun z => t24 (Int32.toInt_inj.mp (z.trans (by decide)))
  have u25 : t.toInt ≠ 25 := fun z => t25 (Int32.toInt_inj.mp (z.trans (by decide)))
  have u26 : t.toInt ≠ 26 := fun z => t26 (Int32.toInt_inj.mp (z.trans (by decide)))
  have u27 : t.toInt ≠ 27 := fun z => t27 (Int32.toInt_inj.mp (z.trans (by decide)))
  have u28 : t.toInt ≠ 28 := fun z => t28 (Int32.toInt_inj.mp (z.trans (by decide)))
  refine pw_tableOut hX (tgt := 1137) d_Law_50 (by omega) (by decide) ?_
  exact next H (RR.skip hR)
set_option maxRecDepth 20000 in
theorem law_loop (hX : ab_X y_Law p l s m args meth c) (hK : pw_K G sL sxs s) (hL : sL ≤ 3073) (hs0 : s0 ≤ 1000000) : ∀ j k H, sL ≤ 6 * k + 6 * j + 6 → k ≤ 512 → RR 2000000 s0 k H H → pw_V p l e s m args below meth c G y_Law room_1 (fun o _ => o = .returned (some (.int 1))) room_1.cells room_1.slots H.sh.length H.sl 33 (lvL (6 * k + 1)) [] (hpw H) := by
  intro j
  induction j with
  | zero =>
    intro k H hj hk hR
    have b0 := hR.room
    refine pw_iload hX (x := nI (6 * k + 1)) d_Law_33 rfl ?_
    refine pw_aload_n hX d_Law_35 rfl rfl rfl ?_
    refine pw_slen hX hK d_Law_36 ?_
    refine pw_bipush hX (v := 6) d_Law_37 (by decide) ?_
    refine pw_isub hX d_Law_39 ?_
    refine pw_icmp_gt hX (tgt := 1143) d_Law_40 (by decide) (fun q => ?_) (fun q => ?_)
    · refine pw_iconst hX (v := 1) d_Law_1143 (by decide) ?_
      exact pw_zret hX d_Law_1144 rfl rfl (by show _ ≤ 601024; omega) (by show _ ≤ 7292999; omega) rfl
    · have := lp_le hL (by omega) q
      omega
  | succ j ih =>
    intro k H hj hk hR
    have b0 := hR.room
    refine pw_iload hX (x := nI (6 * k + 1)) d_Law_33 rfl ?_
    refine pw_aload_n hX d_Law_35 rfl rfl rfl ?_
    refine pw_slen hX hK d_Law_36 ?_
    refine pw_bipush hX (v := 6) d_Law_37 (by decide) ?_
    refine pw_isub hX d_Law_39 ?_
    refine pw_icmp_gt hX (tgt := 1143) d_Law_40 (by decide) (fun q => ?_) (fun q => ?_)
    · refine pw_iconst hX (v := 1) d_Law_1143 (by decide) ?_
      exact pw_zret hX d_Law_1144 rfl rfl (by show _ ≤ 601024; omega) (by show _ ≤ 7292999; omega) rfl
    · have hi := lp_le hL (by omega) q
      refine law_sw hX hK hi (by omega) (by omega) hs0 hR (fun H2 hR2 => ?_)
      refine pw_iinc hX (x := nI (6 * k + 1)) (v := nI (6 * (k + 1) + 1)) (lv' := lvL (6 * (k + 1) + 1)) d_Law_1137 rfl (by show nI (6 * k + 1) + nI 6 = _; rw [nI_ad, show 6 * k + 1 + 6 = 6 * (k + 1) + 1 by omega]) (by decide) rfl ?_
      refine pw_goto hX (tgt := 33) d_Law_1140 (by decide) ?_
      exact ih (k + 1) H2 (by omega) (by omega) hR2
end Par
