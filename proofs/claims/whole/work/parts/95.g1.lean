theorem in_ne {v lo hi : Int32} {a b : Int64} (ha : a = lo.toInt64) (hb : b = hi.toInt64) (h : ¬ sp_M_in v.toInt64 a b = 0) : ¬ v < lo ∧ ¬ hi < v :=
  ⟨fun z => h (in_1 ha hb z), fun z => h (in_2 ha hb z)⟩
theorem in_nI {v : Int32} {a b : Int64} {n : Nat} (hn : n < 2 ^ 31) (ha : a = (0 : Int32).toInt64) (hb : b = (nI n - 1).toInt64) (h : ¬ sp_M_in v.toInt64 a b = 0) : vp_in v n := by
  obtain ⟨h1, h2⟩ := in_ne ha hb h
  rcases Nat.eq_zero_or_pos n with z | z
  · subst z
    exfalso
    apply h1
    rw [Int32.lt_iff_toInt_lt] at h2 ⊢
    have e0 : (0 : Int32).toInt = 0 := by decide
    have e1 : (nI 0 - 1 : Int32).toInt = -1 := by decide
    omega
  · refine in_of hn h1 (fun q => h2 ?_)
    have e : nI n - 1 = nI (n - 1) := by
      have : nI (n - 1) + 1 = nI n := by rw [nI_1, show n - 1 + 1 = n by omega]
      rw [← this]
      exact Int32.add_sub_cancel _ _
    rw [e]
    refine Int32.lt_of_lt_of_le (nI_lt (by omega) (by omega)) q
def sp_M_end (s : Nat → Int32) (a : Nat → Nat → Int32) (n : Int32) : Int32 × (Nat → Int32) × (Nat → Nat → Int32) := if ¬ (sp_M_in ((n : Int32).toInt64) 0 (((s 2) : Int32).toInt64)) = (0 : Int32) then (1, upd (upd s 0 (0)) 2 (n), a) else (0, upd s 0 (0), a)
set_option maxRecDepth 20000 in
set_option maxHeartbeats 2000000 in
theorem c_M_end {h : List ab_E} {m tx ot su nw ma : Nat} {s : Nat → Int32} {a : Nat → Nat → Int32} {n : Int32} (hm : at_M h m tx ot su nw ma s a)  : ab_M y_M_end { frames := 1, cells := 0, slots := 0, locals := 40 } [.ref m, .int n] h (ab_A (some (.int (sp_M_end s a n).1)) (fun h1 => at_M h1 m tx ot su nw ma (sp_M_end s a n).2.1 (sp_M_end s a n).2.2 ∧ ab_fr (in_M m) h h1)) := by
  have hm0 := hm; obtain ⟨go, g1, g14, g15, g16, g17, g18, g19, g21, g25, g26⟩ := hm
  refine ab_of2 (lv := [some (.ref m), some (.int n)]) 0 rfl rfl (Nat.le_of_ble_eq_true rfl) ?_
  refine ab_aload_n d_M_end_0 rfl rfl rfl ?_
  refine ab_iconst (v := 0) d_M_end_1 (by decide) ?_
  refine ab_put (f := 0) d_M_end_2 go rfl (by decide) (k9 233 rfl rfl) rfl rfl (fun _ => rfl) (fun _ => rfl) (Nat.le_of_ble_eq_true rfl) ?_
  show ab_V _ _ _ _ _ _ _ 5 [some (.ref m), some (.int n)] [] (h.set m (.inr (12, [.int 0, .ref (m + 1), .int (s 2), .ref tx, .ref ot, .int (s 5), .int (s 6), .int (s 7), .ref su, .ref nw, .ref ma, .ref (m + 94), .int (s 12), .int (s 13), .ref (m + 99), .ref (m + 100), .ref (m + 101), .ref (m + 102), .ref (m + 103), .ref (m + 104), .int (s 20), .ref (m + 105), .int (s 22), .int (s 23), .int (s 24), .ref (m + 106), .ref (m + 107), .int (s 27), .int (s 28)])))
  refine ab_gen (fun h1 e2 => ?_)
  have c3 : h1[m]? = some (.inr (12, [.int 0, .ref (m + 1), .int (s 2), .ref tx, .ref ot, .int (s 5), .int (s 6), .int (s 7), .ref su, .ref nw, .ref ma, .ref (m + 94), .int (s 12), .int (s 13), .ref (m + 99), .ref (m + 100), .ref (m + 101), .ref (m + 102), .ref (m + 103), .ref (m + 104), .int (s 20), .ref (m + 105), .int (s 22), .int (s 23), .int (s 24), .ref (m + 106), .ref (m + 107), .int (s 27), .int (s 28)])) := ab_self e2 go
  have c4 : h1[m+1]? = some (.inl (.byte, 6000, .inl (a 1))) := ab_other e2 (by omega) g1
  have c5 : h1[m+99]? = some (.inl (.int, 256, .inl (a 14))) := ab_other e2 (by omega) g14
  have c6 : h1[m+100]? = some (.inl (.boolean, 256, .inl (a 15))) := ab_other e2 (by omega) g15
  have c7 : h1[m+101]? = some (.inl (.int, 64, .inl (a 16))) := ab_other e2 (by omega) g16
  have c8 : h1[m+102]? = some (.inl (.int, 4, .inl (a 17))) := ab_other e2 (by omega) g17
  have c9 : h1[m+103]? = some (.inl (.int, 4, .inl (a 18))) := ab_other e2 (by omega) g18
  have c10 : h1[m+104]? = some (.inl (.int, 256, .inl (a 19))) := ab_other e2 (by omega) g19
  have c11 : h1[m+105]? = some (.inl (.byte, 58000, .inl (a 21))) := ab_other e2 (by omega) g21
  have c12 : h1[m+106]? = some (.inl (.boolean, 8, .inl (a 25))) := ab_other e2 (by omega) g25
  have c13 : h1[m+107]? = some (.inl (.boolean, 8, .inl (a 26))) := ab_other e2 (by omega) g26
  refine ab_iload_n d_M_end_5 rfl rfl ?_
  refine ab_i2l d_M_end_6 ?_
  refine ab_lconst (v := 0) d_M_end_7 (by decide) ?_
  refine ab_aload_n d_M_end_8 rfl rfl rfl ?_
  refine ab_get (f := 2) d_M_end_9 c3 rfl (by decide) (k9 235 rfl rfl) rfl ?_
  refine ab_i2l d_M_end_12 ?_
  refine ab_callS_a (As := [.long ((n : Int32).toInt64), .long 0, .long (((s 2) : Int32).toInt64)]) (rest := []) d_M_end_13 (c_M_in) (ab_mkC s_M_in (Nat.le_of_ble_eq_true rfl) (Nat.le_of_ble_eq_true rfl) (by decide) (by decide)) (k10 93 rfl rfl) t_M_in rfl (Nat.le_of_ble_eq_true rfl) (fun h15 q14 => ?_)
  subst q14
  refine ab_if_ne (tgt := 21) d_M_end_16 (by decide) (fun q16 => ?_) (fun q16 => ?_)
  · refine ab_aload_n d_M_end_21 rfl rfl rfl ?_
    refine ab_iload_n d_M_end_22 rfl rfl ?_
    refine ab_put (f := 2) d_M_end_23 c3 rfl (by decide) (k9 235 rfl rfl) rfl rfl (fun _ => rfl) (fun _ => rfl) (Nat.le_of_ble_eq_true rfl) ?_
    show ab_V _ _ _ _ _ _ _ 26 [some (.ref m), some (.int n)] [] (h1.set m (.inr (12, [.int 0, .ref (m + 1), .int n, .ref tx, .ref ot, .int (s 5), .int (s 6), .int (s 7), .ref su, .ref nw, .ref ma, .ref (m + 94), .int (s 12), .int (s 13), .ref (m + 99), .ref (m + 100), .ref (m + 101), .ref (m + 102), .ref (m + 103), .ref (m + 104), .int (s 20), .ref (m + 105), .int (s 22), .int (s 23), .int (s 24), .ref (m + 106), .ref (m + 107), .int (s 27), .int (s 28)])))
    refine ab_gen (fun h17 e18 => ?_)
    have c19 : h17[m]? = some (.inr (12, [.int 0, .ref (m + 1), .int n, .ref tx, .ref ot, .int (s 5), .int (s 6), .int (s 7), .ref su, .ref nw, .ref ma, .ref (m + 94), .int (s 12), .int (s 13), .ref (m + 99), .ref (m + 100), .ref (m + 101), .ref (m + 102), .ref (m + 103), .ref (m + 104), .int (s 20), .ref (m + 105), .int (s 22), .int (s 23), .int (s 24), .ref (m + 106), .ref (m + 107), .int (s 27), .int (s 28)])) := ab_self e18 c3
    have c20 : h17[m+1]? = some (.inl (.byte, 6000, .inl (a 1))) := ab_other e18 (by omega) c4
    have c21 : h17[m+99]? = some (.inl (.int, 256, .inl (a 14))) := ab_other e18 (by omega) c5
    have c22 : h17[m+100]? = some (.inl (.boolean, 256, .inl (a 15))) := ab_other e18 (by omega) c6
    have c23 : h17[m+101]? = some (.inl (.int, 64, .inl (a 16))) := ab_other e18 (by omega) c7
    have c24 : h17[m+102]? = some (.inl (.int, 4, .inl (a 17))) := ab_other e18 (by omega) c8
    have c25 : h17[m+103]? = some (.inl (.int, 4, .inl (a 18))) := ab_other e18 (by omega) c9
    have c26 : h17[m+104]? = some (.inl (.int, 256, .inl (a 19))) := ab_other e18 (by omega) c10
    have c27 : h17[m+105]? = some (.inl (.byte, 58000, .inl (a 21))) := ab_other e18 (by omega) c11
    have c28 : h17[m+106]? = some (.inl (.boolean, 8, .inl (a 25))) := ab_other e18 (by omega) c12
    have c29 : h17[m+107]? = some (.inl (.boolean, 8, .inl (a 26))) := ab_other e18 (by omega) c13
    refine ab_iconst (v := 1) d_M_end_26 (by decide) ?_
    exact ab_zret d_M_end_27 rfl rfl (Nat.le_refl _) (Nat.le_refl _) (by unfold sp_M_end; rw [if_pos q16]; exact ⟨rfl, ⟨c19, c20, c21, c22, c23, c24, c25, c26, c27, c28, c29⟩, (ab_fr_set (ab_fr_set (ab_fr_rf _ _) e2 (by first | (show _ ∧ _; omega) | (show _ ∨ _; omega) | (show _ = _; omega) | (show _ ≤ _; omega))) e18 (by first | (show _ ∧ _; omega) | (show _ ∨ _; omega) | (show _ = _; omega) | (show _ ≤ _; omega)))⟩)
  · refine ab_iconst (v := 0) d_M_end_19 (by decide) ?_
    exact ab_zret d_M_end_20 rfl rfl (Nat.le_refl _) (Nat.le_refl _) (by unfold sp_M_end; rw [if_neg (fun z => z q16)]; exact ⟨rfl, ⟨c3, c4, c5, c6, c7, c8, c9, c10, c11, c12, c13⟩, (ab_fr_set (ab_fr_rf _ _) e2 (by first | (show _ ∧ _; omega) | (show _ ∨ _; omega) | (show _ = _; omega) | (show _ ≤ _; omega)))⟩)
def sp_M_fault (s : Nat → Int32) (a : Nat → Nat → Int32) (n : Int32) : Int32 × (Nat → Int32) × (Nat → Nat → Int32) := if ¬ n = (0 : Int32) then if ¬ n = (1 : Int32) then ((-1), upd s 0 (0), a) else (s 6, upd s 0 (0), a) else (s 7, upd s 0 (0), a)
set_option maxRecDepth 20000 in
set_option maxHeartbeats 2000000 in
theorem c_M_fault {h : List ab_E} {m tx ot su nw ma : Nat} {s : Nat → Int32} {a : Nat → Nat → Int32} {n : Int32} (hm : at_M h m tx ot su nw ma s a)  : ab_M y_M_fault { frames := 1, cells := 0, slots := 0, locals := 40 } [.ref m, .int n] h (ab_A (some (.int (sp_M_fault s a n).1)) (fun h1 => at_M h1 m tx ot su nw ma (sp_M_fault s a n).2.1 (sp_M_fault s a n).2.2 ∧ ab_fr (in_M m) h h1)) := by
  have hm0 := hm; obtain ⟨go, g1, g14, g15, g16, g17, g18, g19, g21, g25, g26⟩ := hm
  refine ab_of2 (lv := [some (.ref m), some (.int n)]) 0 rfl rfl (Nat.le_of_ble_eq_true rfl) ?_
  refine ab_aload_n d_M_fault_0 rfl rfl rfl ?_
  refine ab_iconst (v := 0) d_M_fault_1 (by decide) ?_
  refine ab_put (f := 0) d_M_fault_2 go rfl (by decide) (k9 233 rfl rfl) rfl rfl (fun _ => rfl) (fun _ => rfl) (Nat.le_of_ble_eq_true rfl) ?_
  show ab_V _ _ _ _ _ _ _ 5 [some (.ref m), some (.int n)] [] (h.set m (.inr (12, [.int 0, .ref (m + 1), .int (s 2), .ref tx, .ref ot, .int (s 5), .int (s 6), .int (s 7), .ref su, .ref nw, .ref ma, .ref (m + 94), .int (s 12), .int (s 13), .ref (m + 99), .ref (m + 100), .ref (m + 101), .ref (m + 102), .ref (m + 103), .ref (m + 104), .int (s 20), .ref (m + 105), .int (s 22), .int (s 23), .int (s 24), .ref (m + 106), .ref (m + 107), .int (s 27), .int (s 28)])))
  refine ab_gen (fun h1 e2 => ?_)
  have c3 : h1[m]? = some (.inr (12, [.int 0, .ref (m + 1), .int (s 2), .ref tx, .ref ot, .int (s 5), .int (s 6), .int (s 7), .ref su, .ref nw, .ref ma, .ref (m + 94), .int (s 12), .int (s 13), .ref (m + 99), .ref (m + 100), .ref (m + 101), .ref (m + 102), .ref (m + 103), .ref (m + 104), .int (s 20), .ref (m + 105), .int (s 22), .int (s 23), .int (s 24), .ref (m + 106), .ref (m + 107), .int (s 27), .int (s 28)])) := ab_self e2 go
  have c4 : h1[m+1]? = some (.inl (.byte, 6000, .inl (a 1))) := ab_other e2 (by omega) g1
  have c5 : h1[m+99]? = some (.inl (.int, 256, .inl (a 14))) := ab_other e2 (by omega) g14
  have c6 : h1[m+100]? = some (.inl (.boolean, 256, .inl (a 15))) := ab_other e2 (by omega) g15
  have c7 : h1[m+101]? = some (.inl (.int, 64, .inl (a 16))) := ab_other e2 (by omega) g16
  have c8 : h1[m+102]? = some (.inl (.int, 4, .inl (a 17))) := ab_other e2 (by omega) g17
  have c9 : h1[m+103]? = some (.inl (.int, 4, .inl (a 18))) := ab_other e2 (by omega) g18
  have c10 : h1[m+104]? = some (.inl (.int, 256, .inl (a 19))) := ab_other e2 (by omega) g19
  have c11 : h1[m+105]? = some (.inl (.byte, 58000, .inl (a 21))) := ab_other e2 (by omega) g21
  have c12 : h1[m+106]? = some (.inl (.boolean, 8, .inl (a 25))) := ab_other e2 (by omega) g25
  have c13 : h1[m+107]? = some (.inl (.boolean, 8, .inl (a 26))) := ab_other e2 (by omega) g26
  refine ab_iload_n d_M_fault_5 rfl rfl ?_
  refine ab_if_ne (tgt := 16) d_M_fault_6 (by decide) (fun q14 => ?_) (fun q14 => ?_)
  · refine ab_iload_n d_M_fault_16 rfl rfl ?_
    refine ab_iconst (v := 1) d_M_fault_17 (by decide) ?_
    refine ab_icmp_ne (tgt := 28) d_M_fault_18 (by decide) (fun q15 => ?_) (fun q15 => ?_)
    · refine ab_iconst (v := (-1)) d_M_fault_28 (by decide) ?_
      exact ab_iret d_M_fault_29 rfl (Nat.le_refl _) (Nat.le_refl _) (by unfold sp_M_fault; rw [if_pos q14]; rw [if_pos q15]; exact ⟨rfl, ⟨c3, c4, c5, c6, c7, c8, c9, c10, c11, c12, c13⟩, (ab_fr_set (ab_fr_rf _ _) e2 (by first | (show _ ∧ _; omega) | (show _ ∨ _; omega) | (show _ = _; omega) | (show _ ≤ _; omega)))⟩)
    · refine ab_aload_n d_M_fault_21 rfl rfl rfl ?_
      refine ab_get (f := 6) d_M_fault_22 c3 rfl (by decide) (k9 239 rfl rfl) rfl ?_
      refine ab_goto (tgt := 29) d_M_fault_25 (by decide) ?_
      exact ab_iret d_M_fault_29 rfl (Nat.le_refl _) (Nat.le_refl _) (by unfold sp_M_fault; rw [if_pos q14]; rw [if_neg (fun z => z q15)]; exact ⟨rfl, ⟨c3, c4, c5, c6, c7, c8, c9, c10, c11, c12, c13⟩, (ab_fr_set (ab_fr_rf _ _) e2 (by first | (show _ ∧ _; omega) | (show _ ∨ _; omega) | (show _ = _; omega) | (show _ ≤ _; omega)))⟩)
  · refine ab_aload_n d_M_fault_9 rfl rfl rfl ?_
    refine ab_get (f := 7) d_M_fault_10 c3 rfl (by decide) (k10 0 rfl rfl) rfl ?_
    refine ab_goto (tgt := 29) d_M_fault_13 (by decide) ?_
    exact ab_iret d_M_fault_29 rfl (Nat.le_refl _) (Nat.le_refl _) (by unfold sp_M_fault; rw [if_neg (fun z => z q14)]; exact ⟨rfl, ⟨c3, c4, c5, c6, c7, c8, c9, c10, c11, c12, c13⟩, (ab_fr_set (ab_fr_rf _ _) e2 (by first | (show _ ∧ _; omega) | (show _ ∨ _; omega) | (show _ = _; omega) | (show _ ≤ _; omega)))⟩)
def sp_M_pace (s : Nat → Int32) (a : Nat → Nat → Int32) (n : Int32) : (Nat → Int32) × (Nat → Nat → Int32) := (upd s 0 (0), a)
set_option maxRecDepth 20000 in
set_option maxHeartbeats 2000000 in
theorem c_M_pace {h : List ab_E} {m tx ot su nw ma : Nat} {s : Nat → Int32} {a : Nat → Nat → Int32} {n : Int32} (hm : at_M h m tx ot su nw ma s a)  : ab_M y_M_pace { frames := 1, cells := 0, slots := 0, locals := 40 } [.ref m, .int n] h (ab_A none (fun h1 => at_M h1 m tx ot su nw ma (sp_M_pace s a n).1 (sp_M_pace s a n).2 ∧ ab_fr (in_M m) h h1)) := by
  have hm0 := hm; obtain ⟨go, g1, g14, g15, g16, g17, g18, g19, g21, g25, g26⟩ := hm
  refine ab_of2 (lv := [some (.ref m), some (.int n)]) 0 rfl rfl (Nat.le_of_ble_eq_true rfl) ?_
  refine ab_aload_n d_M_pace_0 rfl rfl rfl ?_
  refine ab_iconst (v := 0) d_M_pace_1 (by decide) ?_
  refine ab_put (f := 0) d_M_pace_2 go rfl (by decide) (k9 233 rfl rfl) rfl rfl (fun _ => rfl) (fun _ => rfl) (Nat.le_of_ble_eq_true rfl) ?_
  show ab_V _ _ _ _ _ _ _ 5 [some (.ref m), some (.int n)] [] (h.set m (.inr (12, [.int 0, .ref (m + 1), .int (s 2), .ref tx, .ref ot, .int (s 5), .int (s 6), .int (s 7), .ref su, .ref nw, .ref ma, .ref (m + 94), .int (s 12), .int (s 13), .ref (m + 99), .ref (m + 100), .ref (m + 101), .ref (m + 102), .ref (m + 103), .ref (m + 104), .int (s 20), .ref (m + 105), .int (s 22), .int (s 23), .int (s 24), .ref (m + 106), .ref (m + 107), .int (s 27), .int (s 28)])))
  refine ab_gen (fun h1 e2 => ?_)
  have c3 : h1[m]? = some (.inr (12, [.int 0, .ref (m + 1), .int (s 2), .ref tx, .ref ot, .int (s 5), .int (s 6), .int (s 7), .ref su, .ref nw, .ref ma, .ref (m + 94), .int (s 12), .int (s 13), .ref (m + 99), .ref (m + 100), .ref (m + 101), .ref (m + 102), .ref (m + 103), .ref (m + 104), .int (s 20), .ref (m + 105), .int (s 22), .int (s 23), .int (s 24), .ref (m + 106), .ref (m + 107), .int (s 27), .int (s 28)])) := ab_self e2 go
  have c4 : h1[m+1]? = some (.inl (.byte, 6000, .inl (a 1))) := ab_other e2 (by omega) g1
  have c5 : h1[m+99]? = some (.inl (.int, 256, .inl (a 14))) := ab_other e2 (by omega) g14
  have c6 : h1[m+100]? = some (.inl (.boolean, 256, .inl (a 15))) := ab_other e2 (by omega) g15
  have c7 : h1[m+101]? = some (.inl (.int, 64, .inl (a 16))) := ab_other e2 (by omega) g16
  have c8 : h1[m+102]? = some (.inl (.int, 4, .inl (a 17))) := ab_other e2 (by omega) g17
  have c9 : h1[m+103]? = some (.inl (.int, 4, .inl (a 18))) := ab_other e2 (by omega) g18
  have c10 : h1[m+104]? = some (.inl (.int, 256, .inl (a 19))) := ab_other e2 (by omega) g19
  have c11 : h1[m+105]? = some (.inl (.byte, 58000, .inl (a 21))) := ab_other e2 (by omega) g21
  have c12 : h1[m+106]? = some (.inl (.boolean, 8, .inl (a 25))) := ab_other e2 (by omega) g25
  have c13 : h1[m+107]? = some (.inl (.boolean, 8, .inl (a 26))) := ab_other e2 (by omega) g26
  exact ab_vret d_M_pace_5 rfl (Nat.le_refl _) (Nat.le_refl _) (by unfold sp_M_pace; exact ⟨rfl, ⟨c3, c4, c5, c6, c7, c8, c9, c10, c11, c12, c13⟩, (ab_fr_set (ab_fr_rf _ _) e2 (by first | (show _ ∧ _; omega) | (show _ ∨ _; omega) | (show _ = _; omega) | (show _ ≤ _; omega)))⟩)
def sp_M_fall (s : Nat → Int32) (a : Nat → Nat → Int32) (n : Int32) : Int32 × (Nat → Int32) × (Nat → Nat → Int32) := if (sp_M_in ((n : Int32).toInt64) 0 7) = (0 : Int32) then (0, upd s 0 (0), a) else if ((a 25) (n).toNatClampNeg) = (0 : Int32) then (0, upd s 0 (0), a) else if ((a 26) (n).toNatClampNeg) = (0 : Int32) then (1, upd s 0 (0), upa a 26 (upd (a 26) (n).toNatClampNeg (vp_nar .boolean 1))) else (0, upd s 0 (0), a)
set_option maxRecDepth 20000 in
set_option maxHeartbeats 2000000 in
theorem c_M_fall {h : List ab_E} {m tx ot su nw ma : Nat} {s : Nat → Int32} {a : Nat → Nat → Int32} {n : Int32} (hm : at_M h m tx ot su nw ma s a)  : ab_M y_M_fall { frames := 1, cells := 0, slots := 0, locals := 40 } [.ref m, .int n] h (ab_A (some (.int (sp_M_fall s a n).1)) (fun h1 => at_M h1 m tx ot su nw ma (sp_M_fall s a n).2.1 (sp_M_fall s a n).2.2 ∧ ab_fr (in_M m) h h1)) := by
  have hm0 := hm; obtain ⟨go, g1, g14, g15, g16, g17, g18, g19, g21, g25, g26⟩ := hm
  refine ab_of2 (lv := [some (.ref m), some (.int n)]) 0 rfl rfl (Nat.le_of_ble_eq_true rfl) ?_
  refine ab_aload_n d_M_fall_0 rfl rfl rfl ?_
  refine ab_iconst (v := 0) d_M_fall_1 (by decide) ?_
  refine ab_put (f := 0) d_M_fall_2 go rfl (by decide) (k9 233 rfl rfl) rfl rfl (fun _ => rfl) (fun _ => rfl) (Nat.le_of_ble_eq_true rfl) ?_
  show ab_V _ _ _ _ _ _ _ 5 [some (.ref m), some (.int n)] [] (h.set m (.inr (12, [.int 0, .ref (m + 1), .int (s 2), .ref tx, .ref ot, .int (s 5), .int (s 6), .int (s 7), .ref su, .ref nw, .ref ma, .ref (m + 94), .int (s 12), .int (s 13), .ref (m + 99), .ref (m + 100), .ref (m + 101), .ref (m + 102), .ref (m + 103), .ref (m + 104), .int (s 20), .ref (m + 105), .int (s 22), .int (s 23), .int (s 24), .ref (m + 106), .ref (m + 107), .int (s 27), .int (s 28)])))
  refine ab_gen (fun h1 e2 => ?_)
  have c3 : h1[m]? = some (.inr (12, [.int 0, .ref (m + 1), .int (s 2), .ref tx, .ref ot, .int (s 5), .int (s 6), .int (s 7), .ref su, .ref nw, .ref ma, .ref (m + 94), .int (s 12), .int (s 13), .ref (m + 99), .ref (m + 100), .ref (m + 101), .ref (m + 102), .ref (m + 103), .ref (m + 104), .int (s 20), .ref (m + 105), .int (s 22), .int (s 23), .int (s 24), .ref (m + 106), .ref (m + 107), .int (s 27), .int (s 28)])) := ab_self e2 go
  have c4 : h1[m+1]? = some (.inl (.byte, 6000, .inl (a 1))) := ab_other e2 (by omega) g1
  have c5 : h1[m+99]? = some (.inl (.int, 256, .inl (a 14))) := ab_other e2 (by omega) g14
  have c6 : h1[m+100]? = some (.inl (.boolean, 256, .inl (a 15))) := ab_other e2 (by omega) g15
  have c7 : h1[m+101]? = some (.inl (.int, 64, .inl (a 16))) := ab_other e2 (by omega) g16
  have c8 : h1[m+102]? = some (.inl (.int, 4, .inl (a 17))) := ab_other e2 (by omega) g17
  have c9 : h1[m+103]? = some (.inl (.int, 4, .inl (a 18))) := ab_other e2 (by omega) g18
  have c10 : h1[m+104]? = some (.inl (.int, 256, .inl (a 19))) := ab_other e2 (by omega) g19
  have c11 : h1[m+105]? = some (.inl (.byte, 58000, .inl (a 21))) := ab_other e2 (by omega) g21
  have c12 : h1[m+106]? = some (.inl (.boolean, 8, .inl (a 25))) := ab_other e2 (by omega) g25
  have c13 : h1[m+107]? = some (.inl (.boolean, 8, .inl (a 26))) := ab_other e2 (by omega) g26
  refine ab_iload_n d_M_fall_5 rfl rfl ?_
  refine ab_i2l d_M_fall_6 ?_
  refine ab_lconst (v := 0) d_M_fall_7 (by decide) ?_
  refine ab_ldc2 d_M_fall_8 (k13 15 rfl rfl) ?_
  refine ab_callS_a (As := [.long ((n : Int32).toInt64), .long 0, .long 7]) (rest := []) d_M_fall_11 (c_M_in) (ab_mkC s_M_in (Nat.le_of_ble_eq_true rfl) (Nat.le_of_ble_eq_true rfl) (by decide) (by decide)) (k10 93 rfl rfl) t_M_in rfl (Nat.le_of_ble_eq_true rfl) (fun h15 q14 => ?_)
  subst q14
  refine ab_if_eq (tgt := 35) d_M_fall_14 (by decide) (fun q16 => ?_) (fun q16 => ?_)
  · refine ab_iconst (v := 0) d_M_fall_35 (by decide) ?_
    exact ab_zret d_M_fall_36 rfl rfl (Nat.le_refl _) (Nat.le_refl _) (by unfold sp_M_fall; rw [if_pos q16]; exact ⟨rfl, ⟨c3, c4, c5, c6, c7, c8, c9, c10, c11, c12, c13⟩, (ab_fr_set (ab_fr_rf _ _) e2 (by first | (show _ ∧ _; omega) | (show _ ∨ _; omega) | (show _ = _; omega) | (show _ ≤ _; omega)))⟩)
  · refine ab_aload_n d_M_fall_17 rfl rfl rfl ?_
    refine ab_get (f := 25) d_M_fall_18 c3 rfl (by decide) (k10 18 rfl rfl) rfl ?_
    refine ab_iload_n d_M_fall_21 rfl rfl ?_
    refine ab_zald d_M_fall_22 tZ c12 (in_nI (n := 8) (by decide) rfl rfl q16) ?_
    refine ab_if_eq (tgt := 35) d_M_fall_23 (by decide) (fun q17 => ?_) (fun q17 => ?_)
    · refine ab_iconst (v := 0) d_M_fall_35 (by decide) ?_
      exact ab_zret d_M_fall_36 rfl rfl (Nat.le_refl _) (Nat.le_refl _) (by unfold sp_M_fall; rw [if_neg q16]; rw [if_pos q17]; exact ⟨rfl, ⟨c3, c4, c5, c6, c7, c8, c9, c10, c11, c12, c13⟩, (ab_fr_set (ab_fr_rf _ _) e2 (by first | (show _ ∧ _; omega) | (show _ ∨ _; omega) | (show _ = _; omega) | (show _ ≤ _; omega)))⟩)
    · refine ab_aload_n d_M_fall_26 rfl rfl rfl ?_
      refine ab_get (f := 26) d_M_fall_27 c3 rfl (by decide) (k10 19 rfl rfl) rfl ?_
      refine ab_iload_n d_M_fall_30 rfl rfl ?_
      refine ab_zald d_M_fall_31 tZ c13 (in_nI (n := 8) (by decide) rfl rfl q16) ?_
      refine ab_if_eq (tgt := 37) d_M_fall_32 (by decide) (fun q18 => ?_) (fun q18 => ?_)
      · refine ab_aload_n d_M_fall_37 rfl rfl rfl ?_
        refine ab_get (f := 26) d_M_fall_38 c3 rfl (by decide) (k10 19 rfl rfl) rfl ?_
        refine ab_iload_n d_M_fall_41 rfl rfl ?_
        refine ab_iconst (v := 1) d_M_fall_42 (by decide) ?_
        refine ab_zast d_M_fall_43 tZ c13 (in_nI (n := 8) (by decide) rfl rfl q16) ?_
        refine ab_gen (fun h19 e20 => ?_)
        have c21 : h19[m]? = some (.inr (12, [.int 0, .ref (m + 1), .int (s 2), .ref tx, .ref ot, .int (s 5), .int (s 6), .int (s 7), .ref su, .ref nw, .ref ma, .ref (m + 94), .int (s 12), .int (s 13), .ref (m + 99), .ref (m + 100), .ref (m + 101), .ref (m + 102), .ref (m + 103), .ref (m + 104), .int (s 20), .ref (m + 105), .int (s 22), .int (s 23), .int (s 24), .ref (m + 106), .ref (m + 107), .int (s 27), .int (s 28)])) := ab_other e20 (by omega) c3
        have c22 : h19[m+1]? = some (.inl (.byte, 6000, .inl (a 1))) := ab_other e20 (by omega) c4
        have c23 : h19[m+99]? = some (.inl (.int, 256, .inl (a 14))) := ab_other e20 (by omega) c5
        have c24 : h19[m+100]? = some (.inl (.boolean, 256, .inl (a 15))) := ab_other e20 (by omega) c6
        have c25 : h19[m+101]? = some (.inl (.int, 64, .inl (a 16))) := ab_other e20 (by omega) c7
        have c26 : h19[m+102]? = some (.inl (.int, 4, .inl (a 17))) := ab_other e20 (by omega) c8
        have c27 : h19[m+103]? = some (.inl (.int, 4, .inl (a 18))) := ab_other e20 (by omega) c9
        have c28 : h19[m+104]? = some (.inl (.int, 256, .inl (a 19))) := ab_other e20 (by omega) c10
        have c29 : h19[m+105]? = some (.inl (.byte, 58000, .inl (a 21))) := ab_other e20 (by omega) c11
        have c30 : h19[m+106]? = some (.inl (.boolean, 8, .inl (a 25))) := ab_other e20 (by omega) c12
        have c31 : h19[m+107]? = some (.inl (.boolean, 8, .inl (upd (a 26) (n).toNatClampNeg (vp_nar .boolean 1)))) := ab_self e20 c13
        refine ab_iconst (v := 1) d_M_fall_44 (by decide) ?_
        exact ab_zret d_M_fall_45 rfl rfl (Nat.le_refl _) (Nat.le_refl _) (by unfold sp_M_fall; rw [if_neg q16]; rw [if_neg q17]; rw [if_pos q18]; exact ⟨rfl, ⟨c21, c22, c23, c24, c25, c26, c27, c28, c29, c30, c31⟩, (ab_fr_set (ab_fr_set (ab_fr_rf _ _) e2 (by first | (show _ ∧ _; omega) | (show _ ∨ _; omega) | (show _ = _; omega) | (show _ ≤ _; omega))) e20 (by first | (show _ ∧ _; omega) | (show _ ∨ _; omega) | (show _ = _; omega) | (show _ ≤ _; omega)))⟩)
      · refine ab_iconst (v := 0) d_M_fall_35 (by decide) ?_
        exact ab_zret d_M_fall_36 rfl rfl (Nat.le_refl _) (Nat.le_refl _) (by unfold sp_M_fall; rw [if_neg q16]; rw [if_neg q17]; rw [if_neg q18]; exact ⟨rfl, ⟨c3, c4, c5, c6, c7, c8, c9, c10, c11, c12, c13⟩, (ab_fr_set (ab_fr_rf _ _) e2 (by first | (show _ ∧ _; omega) | (show _ ∨ _; omega) | (show _ = _; omega) | (show _ ≤ _; omega)))⟩)
def sp_M_stand (s : Nat → Int32) (a : Nat → Nat → Int32) (n : Int32) : Int32 × (Nat → Int32) × (Nat → Nat → Int32) := if (sp_M_in ((n : Int32).toInt64) 0 7) = (0 : Int32) then (0, upd s 0 (0), a) else if ((a 25) (n).toNatClampNeg) = (0 : Int32) then (1, upd s 0 (0), upa (upa a 25 (upd (a 25) (n).toNatClampNeg (vp_nar .boolean 1))) 26 (upd (a 26) (n).toNatClampNeg (vp_nar .boolean 0))) else if ¬ ((a 26) (n).toNatClampNeg) = (0 : Int32) then (1, upd s 0 (0), upa (upa a 25 (upd (a 25) (n).toNatClampNeg (vp_nar .boolean 1))) 26 (upd (a 26) (n).toNatClampNeg (vp_nar .boolean 0))) else (0, upd s 0 (0), a)
set_option maxRecDepth 20000 in
set_option maxHeartbeats 2000000 in
theorem c_M_stand {h : List ab_E} {m tx ot su nw ma : Nat} {s : Nat → Int32} {a : Nat → Nat → Int32} {n : Int32} (hm : at_M h m tx ot su nw ma s a)  : ab_M y_M_stand { frames := 1, cells := 0, slots := 0, locals := 40 } [.ref m, .int n] h (ab_A (some (.int (sp_M_stand s a n).1)) (fun h1 => at_M h1 m tx ot su nw ma (sp_M_stand s a n).2.1 (sp_M_stand s a n).2.2 ∧ ab_fr (in_M m) h h1)) := by
  have hm0 := hm; obtain ⟨go, g1, g14, g15, g16, g17, g18, g19, g21, g25, g26⟩ := hm
  refine ab_of2 (lv := [some (.ref m), some (.int n)]) 0 rfl rfl (Nat.le_of_ble_eq_true rfl) ?_
  refine ab_aload_n d_M_stand_0 rfl rfl rfl ?_
  refine ab_iconst (v := 0) d_M_stand_1 (by decide) ?_
  refine ab_put (f := 0) d_M_stand_2 go rfl (by decide) (k9 233 rfl rfl) rfl rfl (fun _ => rfl) (fun _ => rfl) (Nat.le_of_ble_eq_true rfl) ?_
  show ab_V _ _ _ _ _ _ _ 5 [some (.ref m), some (.int n)] [] (h.set m (.inr (12, [.int 0, .ref (m + 1), .int (s 2), .ref tx, .ref ot, .int (s 5), .int (s 6), .int (s 7), .ref su, .ref nw, .ref ma, .ref (m + 94), .int (s 12), .int (s 13), .ref (m + 99), .ref (m + 100), .ref (m + 101), .ref (m + 102), .ref (m + 103), .ref (m + 104), .int (s 20), .ref (m + 105), .int (s 22), .int (s 23), .int (s 24), .ref (m + 106), .ref (m + 107), .int (s 27), .int (s 28)])))
  refine ab_gen (fun h1 e2 => ?_)
  have c3 : h1[m]? = some (.inr (12, [.int 0, .ref (m + 1), .int (s 2), .ref tx, .ref ot, .int (s 5), .int (s 6), .int (s 7), .ref su, .ref nw, .ref ma, .ref (m + 94), .int (s 12), .int (s 13), .ref (m + 99), .ref (m + 100), .ref (m + 101), .ref (m + 102), .ref (m + 103), .ref (m + 104), .int (s 20), .ref (m + 105), .int (s 22), .int (s 23), .int (s 24), .ref (m + 106), .ref (m + 107), .int (s 27), .int (s 28)])) := ab_self e2 go
  have c4 : h1[m+1]? = some (.inl (.byte, 6000, .inl (a 1))) := ab_other e2 (by omega) g1
  have c5 : h1[m+99]? = some (.inl (.int, 256, .inl (a 14))) := ab_other e2 (by omega) g14
  have c6 : h1[m+100]? = some (.inl (.boolean, 256, .inl (a 15))) := ab_other e2 (by omega) g15
  have c7 : h1[m+101]? = some (.inl (.int, 64, .inl (a 16))) := ab_other e2 (by omega) g16
  have c8 : h1[m+102]? = some (.inl (.int, 4, .inl (a 17))) := ab_other e2 (by omega) g17
  have c9 : h1[m+103]? = some (.inl (.int, 4, .inl (a 18))) := ab_other e2 (by omega) g18
  have c10 : h1[m+104]? = some (.inl (.int, 256, .inl (a 19))) := ab_other e2 (by omega) g19
  have c11 : h1[m+105]? = some (.inl (.byte, 58000, .inl (a 21))) := ab_other e2 (by omega) g21
  have c12 : h1[m+106]? = some (.inl (.boolean, 8, .inl (a 25))) := ab_other e2 (by omega) g25
  have c13 : h1[m+107]? = some (.inl (.boolean, 8, .inl (a 26))) := ab_other e2 (by omega) g26
  refine ab_iload_n d_M_stand_5 rfl rfl ?_
  refine ab_i2l d_M_stand_6 ?_
  refine ab_lconst (v := 0) d_M_stand_7 (by decide) ?_
  refine ab_ldc2 d_M_stand_8 (k13 15 rfl rfl) ?_
  refine ab_callS_a (As := [.long ((n : Int32).toInt64), .long 0, .long 7]) (rest := []) d_M_stand_11 (c_M_in) (ab_mkC s_M_in (Nat.le_of_ble_eq_true rfl) (Nat.le_of_ble_eq_true rfl) (by decide) (by decide)) (k10 93 rfl rfl) t_M_in rfl (Nat.le_of_ble_eq_true rfl) (fun h15 q14 => ?_)
  subst q14
  refine ab_if_eq (tgt := 35) d_M_stand_14 (by decide) (fun q16 => ?_) (fun q16 => ?_)
  · refine ab_iconst (v := 0) d_M_stand_35 (by decide) ?_
    exact ab_zret d_M_stand_36 rfl rfl (Nat.le_refl _) (Nat.le_refl _) (by unfold sp_M_stand; rw [if_pos q16]; exact ⟨rfl, ⟨c3, c4, c5, c6, c7, c8, c9, c10, c11, c12, c13⟩, (ab_fr_set (ab_fr_rf _ _) e2 (by first | (show _ ∧ _; omega) | (show _ ∨ _; omega) | (show _ = _; omega) | (show _ ≤ _; omega)))⟩)
  · refine ab_aload_n d_M_stand_17 rfl rfl rfl ?_
    refine ab_get (f := 25) d_M_stand_18 c3 rfl (by decide) (k10 18 rfl rfl) rfl ?_
    refine ab_iload_n d_M_stand_21 rfl rfl ?_
    refine ab_zald d_M_stand_22 tZ c12 (in_nI (n := 8) (by decide) rfl rfl q16) ?_
    refine ab_if_eq (tgt := 37) d_M_stand_23 (by decide) (fun q17 => ?_) (fun q17 => ?_)
    · refine ab_aload_n d_M_stand_37 rfl rfl rfl ?_
      refine ab_get (f := 25) d_M_stand_38 c3 rfl (by decide) (k10 18 rfl rfl) rfl ?_
      refine ab_iload_n d_M_stand_41 rfl rfl ?_
      refine ab_iconst (v := 1) d_M_stand_42 (by decide) ?_
      refine ab_zast d_M_stand_43 tZ c12 (in_nI (n := 8) (by decide) rfl rfl q16) ?_
      refine ab_gen (fun h18 e19 => ?_)
      have c20 : h18[m]? = some (.inr (12, [.int 0, .ref (m + 1), .int (s 2), .ref tx, .ref ot, .int (s 5), .int (s 6), .int (s 7), .ref su, .ref nw, .ref ma, .ref (m + 94), .int (s 12), .int (s 13), .ref (m + 99), .ref (m + 100), .ref (m + 101), .ref (m + 102), .ref (m + 103), .ref (m + 104), .int (s 20), .ref (m + 105), .int (s 22), .int (s 23), .int (s 24), .ref (m + 106), .ref (m + 107), .int (s 27), .int (s 28)])) := ab_other e19 (by omega) c3
      have c21 : h18[m+1]? = some (.inl (.byte, 6000, .inl (a 1))) := ab_other e19 (by omega) c4
      have c22 : h18[m+99]? = some (.inl (.int, 256, .inl (a 14))) := ab_other e19 (by omega) c5
      have c23 : h18[m+100]? = some (.inl (.boolean, 256, .inl (a 15))) := ab_other e19 (by omega) c6
      have c24 : h18[m+101]? = some (.inl (.int, 64, .inl (a 16))) := ab_other e19 (by omega) c7
      have c25 : h18[m+102]? = some (.inl (.int, 4, .inl (a 17))) := ab_other e19 (by omega) c8
      have c26 : h18[m+103]? = some (.inl (.int, 4, .inl (a 18))) := ab_other e19 (by omega) c9
      have c27 : h18[m+104]? = some (.inl (.int, 256, .inl (a 19))) := ab_other e19 (by omega) c10
      have c28 : h18[m+105]? = some (.inl (.byte, 58000, .inl (a 21))) := ab_other e19 (by omega) c11
      have c29 : h18[m+106]? = some (.inl (.boolean, 8, .inl (upd (a 25) (n).toNatClampNeg (vp_nar .boolean 1)))) := ab_self e19 c12
      have c30 : h18[m+107]? = some (.inl (.boolean, 8, .inl (a 26))) := ab_other e19 (by omega) c13
      refine ab_aload_n d_M_stand_44 rfl rfl rfl ?_
      refine ab_get (f := 26) d_M_stand_45 c20 rfl (by decide) (k10 19 rfl rfl) rfl ?_
      refine ab_iload_n d_M_stand_48 rfl rfl ?_
      refine ab_iconst (v := 0) d_M_stand_49 (by decide) ?_
      refine ab_zast d_M_stand_50 tZ c30 (in_nI (n := 8) (by decide) rfl rfl q16) ?_
      refine ab_gen (fun h31 e32 => ?_)
      have c33 : h31[m]? = some (.inr (12, [.int 0, .ref (m + 1), .int (s 2), .ref tx, .ref ot, .int (s 5), .int (s 6), .int (s 7), .ref su, .ref nw, .ref ma, .ref (m + 94), .int (s 12), .int (s 13), .ref (m + 99), .ref (m + 100), .ref (m + 101), .ref (m + 102), .ref (m + 103), .ref (m + 104), .int (s 20), .ref (m + 105), .int (s 22), .int (s 23), .int (s 24), .ref (m + 106), .ref (m + 107), .int (s 27), .int (s 28)])) := ab_other e32 (by omega) c20
      have c34 : h31[m+1]? = some (.inl (.byte, 6000, .inl (a 1))) := ab_other e32 (by omega) c21
      have c35 : h31[m+99]? = some (.inl (.int, 256, .inl (a 14))) := ab_other e32 (by omega) c22
      have c36 : h31[m+100]? = some (.inl (.boolean, 256, .inl (a 15))) := ab_other e32 (by omega) c23
      have c37 : h31[m+101]? = some (.inl (.int, 64, .inl (a 16))) := ab_other e32 (by omega) c24
      have c38 : h31[m+102]? = some (.inl (.int, 4, .inl (a 17))) := ab_other e32 (by omega) c25
      have c39 : h31[m+103]? = some (.inl (.int, 4, .inl (a 18))) := ab_other e32 (by omega) c26
      have c40 : h31[m+104]? = some (.inl (.int, 256, .inl (a 19))) := ab_other e32 (by omega) c27
      have c41 : h31[m+105]? = some (.inl (.byte, 58000, .inl (a 21))) := ab_other e32 (by omega) c28
      have c42 : h31[m+106]? = some (.inl (.boolean, 8, .inl (upd (a 25) (n).toNatClampNeg (vp_nar .boolean 1)))) := ab_other e32 (by omega) c29
      have c43 : h31[m+107]? = some (.inl (.boolean, 8, .inl (upd (a 26) (n).toNatClampNeg (vp_nar .boolean 0)))) := ab_self e32 c30
      refine ab_iconst (v := 1) d_M_stand_51 (by decide) ?_
      exact ab_zret d_M_stand_52 rfl rfl (Nat.le_refl _) (Nat.le_refl _) (by unfold sp_M_stand; rw [if_neg q16]; rw [if_pos q17]; exact ⟨rfl, ⟨c33, c34, c35, c36, c37, c38, c39, c40, c41, c42, c43⟩, (ab_fr_set (ab_fr_set (ab_fr_set (ab_fr_rf _ _) e2 (by first | (show _ ∧ _; omega) | (show _ ∨ _; omega) | (show _ = _; omega) | (show _ ≤ _; omega))) e19 (by first | (show _ ∧ _; omega) | (show _ ∨ _; omega) | (show _ = _; omega) | (show _ ≤ _; omega))) e32 (by first | (show _ ∧ _; omega) | (show _ ∨ _; omega) | (show _ = _; omega) | (show _ ≤ _; omega)))⟩)
    · refine ab_aload_n d_M_stand_26 rfl rfl rfl ?_
      refine ab_get (f := 26) d_M_stand_27 c3 rfl (by decide) (k10 19 rfl rfl) rfl ?_
      refine ab_iload_n d_M_stand_30 rfl rfl ?_
      refine ab_zald d_M_stand_31 tZ c13 (in_nI (n := 8) (by decide) rfl rfl q16) ?_
      refine ab_if_ne (tgt := 37) d_M_stand_32 (by decide) (fun q44 => ?_) (fun q44 => ?_)
      · refine ab_aload_n d_M_stand_37 rfl rfl rfl ?_
        refine ab_get (f := 25) d_M_stand_38 c3 rfl (by decide) (k10 18 rfl rfl) rfl ?_
        refine ab_iload_n d_M_stand_41 rfl rfl ?_
        refine ab_iconst (v := 1) d_M_stand_42 (by decide) ?_
        refine ab_zast d_M_stand_43 tZ c12 (in_nI (n := 8) (by decide) rfl rfl q16) ?_
        refine ab_gen (fun h45 e46 => ?_)
        have c47 : h45[m]? = some (.inr (12, [.int 0, .ref (m + 1), .int (s 2), .ref tx, .ref ot, .int (s 5), .int (s 6), .int (s 7), .ref su, .ref nw, .ref ma, .ref (m + 94), .int (s 12), .int (s 13), .ref (m + 99), .ref (m + 100), .ref (m + 101), .ref (m + 102), .ref (m + 103), .ref (m + 104), .int (s 20), .ref (m + 105), .int (s 22), .int (s 23), .int (s 24), .ref (m + 106), .ref (m + 107), .int (s 27), .int (s 28)])) := ab_other e46 (by omega) c3
        have c48 : h45[m+1]? = some (.inl (.byte, 6000, .inl (a 1))) := ab_other e46 (by omega) c4
        have c49 : h45[m+99]? = some (.inl (.int, 256, .inl (a 14))) := ab_other e46 (by omega) c5
        have c50 : h45[m+100]? = some (.inl (.boolean, 256, .inl (a 15))) := ab_other e46 (by omega) c6
        have c51 : h45[m+101]? = some (.inl (.int, 64, .inl (a 16))) := ab_other e46 (by omega) c7
        have c52 : h45[m+102]? = some (.inl (.int, 4, .inl (a 17))) := ab_other e46 (by omega) c8
        have c53 : h45[m+103]? = some (.inl (.int, 4, .inl (a 18))) := ab_other e46 (by omega) c9
        have c54 : h45[m+104]? = some (.inl (.int, 256, .inl (a 19))) := ab_other e46 (by omega) c10
        have c55 : h45[m+105]? = some (.inl (.byte, 58000, .inl (a 21))) := ab_other e46 (by omega) c11
        have c56 : h45[m+106]? = some (.inl (.boolean, 8, .inl (upd (a 25) (n).toNatClampNeg (vp_nar .boolean 1)))) := ab_self e46 c12
        have c57 : h45[m+107]? = some (.inl (.boolean, 8, .inl (a 26))) := ab_other e46 (by omega) c13
        refine ab_aload_n d_M_stand_44 rfl rfl rfl ?_
        refine ab_get (f := 26) d_M_stand_45 c47 rfl (by decide) (k10 19 rfl rfl) rfl ?_
        refine ab_iload_n d_M_stand_48 rfl rfl ?_
        refine ab_iconst (v := 0) d_M_stand_49 (by decide) ?_
        refine ab_zast d_M_stand_50 tZ c57 (in_nI (n := 8) (by decide) rfl rfl q16) ?_
        refine ab_gen (fun h58 e59 => ?_)
        have c60 : h58[m]? = some (.inr (12, [.int 0, .ref (m + 1), .int (s 2), .ref tx, .ref ot, .int (s 5), .int (s 6), .int (s 7), .ref su, .ref nw, .ref ma, .ref (m + 94), .int (s 12), .int (s 13), .ref (m + 99), .ref (m + 100), .ref (m + 101), .ref (m + 102), .ref (m + 103), .ref (m + 104), .int (s 20), .ref (m + 105), .int (s 22), .int (s 23), .int (s 24), .ref (m + 106), .ref (m + 107), .int (s 27), .int (s 28)])) := ab_other e59 (by omega) c47
        have c61 : h58[m+1]? = some (.inl (.byte, 6000, .inl (a 1))) := ab_other e59 (by omega) c48
        have c62 : h58[m+99]? = some (.inl (.int, 256, .inl (a 14))) := ab_other e59 (by omega) c49
        have c63 : h58[m+100]? = some (.inl (.boolean, 256, .inl (a 15))) := ab_other e59 (by omega) c50
        have c64 : h58[m+101]? = some (.inl (.int, 64, .inl (a 16))) := ab_other e59 (by omega) c51
        have c65 : h58[m+102]? = some (.inl (.int, 4, .inl (a 17))) := ab_other e59 (by omega) c52
        have c66 : h58[m+103]? = some (.inl (.int, 4, .inl (a 18))) := ab_other e59 (by omega) c53
        have c67 : h58[m+104]? = some (.inl (.int, 256, .inl (a 19))) := ab_other e59 (by omega) c54
        have c68 : h58[m+105]? = some (.inl (.byte, 58000, .inl (a 21))) := ab_other e59 (by omega) c55
        have c69 : h58[m+106]? = some (.inl (.boolean, 8, .inl (upd (a 25) (n).toNatClampNeg (vp_nar .boolean 1)))) := ab_other e59 (by omega) c56
        have c70 : h58[m+107]? = some (.inl (.boolean, 8, .inl (upd (a 26) (n).toNatClampNeg (vp_nar .boolean 0)))) := ab_self e59 c57
        refine ab_iconst (v := 1) d_M_stand_51 (by decide) ?_
        exact ab_zret d_M_stand_52 rfl rfl (Nat.le_refl _) (Nat.le_refl _) (by unfold sp_M_stand; rw [if_neg q16]; rw [if_neg q17]; rw [if_pos q44]; exact ⟨rfl, ⟨c60, c61, c62, c63, c64, c65, c66, c67, c68, c69, c70⟩, (ab_fr_set (ab_fr_set (ab_fr_set (ab_fr_rf _ _) e2 (by first | (show _ ∧ _; omega) | (show _ ∨ _; omega) | (show _ = _; omega) | (show _ ≤ _; omega))) e46 (by first | (show _ ∧ _; omega) | (show _ ∨ _; omega) | (show _ = _; omega) | (show _ ≤ _; omega))) e59 (by first | (show _ ∧ _; omega) | (show _ ∨ _; omega) | (show _ = _; omega) | (show _ ≤ _; omega)))⟩)
      · refine ab_iconst (v := 0) d_M_stand_35 (by decide) ?_
        exact ab_zret d_M_stand_36 rfl rfl (Nat.le_refl _) (Nat.le_refl _) (by unfold sp_M_stand; rw [if_neg q16]; rw [if_neg q17]; rw [if_neg (fun z => z q44)]; exact ⟨rfl, ⟨c3, c4, c5, c6, c7, c8, c9, c10, c11, c12, c13⟩, (ab_fr_set (ab_fr_rf _ _) e2 (by first | (show _ ∧ _; omega) | (show _ ∨ _; omega) | (show _ = _; omega) | (show _ ≤ _; omega)))⟩)
def sp_M_cut (s : Nat → Int32) (a : Nat → Nat → Int32) (n : Int32) : Int32 × (Nat → Int32) × (Nat → Nat → Int32) := if ¬ (sp_M_in ((n : Int32).toInt64) 0 (((s 22) : Int32).toInt64)) = (0 : Int32) then (1, upd (upd s 0 (0)) 22 (n), a) else (0, upd s 0 (0), a)
set_option maxRecDepth 20000 in
set_option maxHeartbeats 2000000 in
theorem c_M_cut {h : List ab_E} {m tx ot su nw ma : Nat} {s : Nat → Int32} {a : Nat → Nat → Int32} {n : Int32} (hm : at_M h m tx ot su nw ma s a)  : ab_M y_M_cut { frames := 1, cells := 0, slots := 0, locals := 40 } [.ref m, .int n] h (ab_A (some (.int (sp_M_cut s a n).1)) (fun h1 => at_M h1 m tx ot su nw ma (sp_M_cut s a n).2.1 (sp_M_cut s a n).2.2 ∧ ab_fr (in_M m) h h1)) := by
  have hm0 := hm; obtain ⟨go, g1, g14, g15, g16, g17, g18, g19, g21, g25, g26⟩ := hm
  refine ab_of2 (lv := [some (.ref m), some (.int n)]) 0 rfl rfl (Nat.le_of_ble_eq_true rfl) ?_
  refine ab_aload_n d_M_cut_0 rfl rfl rfl ?_
  refine ab_iconst (v := 0) d_M_cut_1 (by decide) ?_
  refine ab_put (f := 0) d_M_cut_2 go rfl (by decide) (k9 233 rfl rfl) rfl rfl (fun _ => rfl) (fun _ => rfl) (Nat.le_of_ble_eq_true rfl) ?_
  show ab_V _ _ _ _ _ _ _ 5 [some (.ref m), some (.int n)] [] (h.set m (.inr (12, [.int 0, .ref (m + 1), .int (s 2), .ref tx, .ref ot, .int (s 5), .int (s 6), .int (s 7), .ref su, .ref nw, .ref ma, .ref (m + 94), .int (s 12), .int (s 13), .ref (m + 99), .ref (m + 100), .ref (m + 101), .ref (m + 102), .ref (m + 103), .ref (m + 104), .int (s 20), .ref (m + 105), .int (s 22), .int (s 23), .int (s 24), .ref (m + 106), .ref (m + 107), .int (s 27), .int (s 28)])))
  refine ab_gen (fun h1 e2 => ?_)
  have c3 : h1[m]? = some (.inr (12, [.int 0, .ref (m + 1), .int (s 2), .ref tx, .ref ot, .int (s 5), .int (s 6), .int (s 7), .ref su, .ref nw, .ref ma, .ref (m + 94), .int (s 12), .int (s 13), .ref (m + 99), .ref (m + 100), .ref (m + 101), .ref (m + 102), .ref (m + 103), .ref (m + 104), .int (s 20), .ref (m + 105), .int (s 22), .int (s 23), .int (s 24), .ref (m + 106), .ref (m + 107), .int (s 27), .int (s 28)])) := ab_self e2 go
  have c4 : h1[m+1]? = some (.inl (.byte, 6000, .inl (a 1))) := ab_other e2 (by omega) g1
  have c5 : h1[m+99]? = some (.inl (.int, 256, .inl (a 14))) := ab_other e2 (by omega) g14
  have c6 : h1[m+100]? = some (.inl (.boolean, 256, .inl (a 15))) := ab_other e2 (by omega) g15
  have c7 : h1[m+101]? = some (.inl (.int, 64, .inl (a 16))) := ab_other e2 (by omega) g16
  have c8 : h1[m+102]? = some (.inl (.int, 4, .inl (a 17))) := ab_other e2 (by omega) g17
  have c9 : h1[m+103]? = some (.inl (.int, 4, .inl (a 18))) := ab_other e2 (by omega) g18
  have c10 : h1[m+104]? = some (.inl (.int, 256, .inl (a 19))) := ab_other e2 (by omega) g19
  have c11 : h1[m+105]? = some (.inl (.byte, 58000, .inl (a 21))) := ab_other e2 (by omega) g21
  have c12 : h1[m+106]? = some (.inl (.boolean, 8, .inl (a 25))) := ab_other e2 (by omega) g25
  have c13 : h1[m+107]? = some (.inl (.boolean, 8, .inl (a 26))) := ab_other e2 (by omega) g26
  refine ab_iload_n d_M_cut_5 rfl rfl ?_
  refine ab_i2l d_M_cut_6 ?_
  refine ab_lconst (v := 0) d_M_cut_7 (by decide) ?_
  refine ab_aload_n d_M_cut_8 rfl rfl rfl ?_
  refine ab_get (f := 22) d_M_cut_9 c3 rfl (by decide) (k10 15 rfl rfl) rfl ?_
  refine ab_i2l d_M_cut_12 ?_
  refine ab_callS_a (As := [.long ((n : Int32).toInt64), .long 0, .long (((s 22) : Int32).toInt64)]) (rest := []) d_M_cut_13 (c_M_in) (ab_mkC s_M_in (Nat.le_of_ble_eq_true rfl) (Nat.le_of_ble_eq_true rfl) (by decide) (by decide)) (k10 93 rfl rfl) t_M_in rfl (Nat.le_of_ble_eq_true rfl) (fun h15 q14 => ?_)
  subst q14
  refine ab_if_ne (tgt := 21) d_M_cut_16 (by decide) (fun q16 => ?_) (fun q16 => ?_)
  · refine ab_aload_n d_M_cut_21 rfl rfl rfl ?_
    refine ab_iload_n d_M_cut_22 rfl rfl ?_
    refine ab_put (f := 22) d_M_cut_23 c3 rfl (by decide) (k10 15 rfl rfl) rfl rfl (fun _ => rfl) (fun _ => rfl) (Nat.le_of_ble_eq_true rfl) ?_
    show ab_V _ _ _ _ _ _ _ 26 [some (.ref m), some (.int n)] [] (h1.set m (.inr (12, [.int 0, .ref (m + 1), .int (s 2), .ref tx, .ref ot, .int (s 5), .int (s 6), .int (s 7), .ref su, .ref nw, .ref ma, .ref (m + 94), .int (s 12), .int (s 13), .ref (m + 99), .ref (m + 100), .ref (m + 101), .ref (m + 102), .ref (m + 103), .ref (m + 104), .int (s 20), .ref (m + 105), .int n, .int (s 23), .int (s 24), .ref (m + 106), .ref (m + 107), .int (s 27), .int (s 28)])))
    refine ab_gen (fun h17 e18 => ?_)
    have c19 : h17[m]? = some (.inr (12, [.int 0, .ref (m + 1), .int (s 2), .ref tx, .ref ot, .int (s 5), .int (s 6), .int (s 7), .ref su, .ref nw, .ref ma, .ref (m + 94), .int (s 12), .int (s 13), .ref (m + 99), .ref (m + 100), .ref (m + 101), .ref (m + 102), .ref (m + 103), .ref (m + 104), .int (s 20), .ref (m + 105), .int n, .int (s 23), .int (s 24), .ref (m + 106), .ref (m + 107), .int (s 27), .int (s 28)])) := ab_self e18 c3
    have c20 : h17[m+1]? = some (.inl (.byte, 6000, .inl (a 1))) := ab_other e18 (by omega) c4
    have c21 : h17[m+99]? = some (.inl (.int, 256, .inl (a 14))) := ab_other e18 (by omega) c5
    have c22 : h17[m+100]? = some (.inl (.boolean, 256, .inl (a 15))) := ab_other e18 (by omega) c6
    have c23 : h17[m+101]? = some (.inl (.int, 64, .inl (a 16))) := ab_other e18 (by omega) c7
    have c24 : h17[m+102]? = some (.inl (.int, 4, .inl (a 17))) := ab_other e18 (by omega) c8
    have c25 : h17[m+103]? = some (.inl (.int, 4, .inl (a 18))) := ab_other e18 (by omega) c9
    have c26 : h17[m+104]? = some (.inl (.int, 256, .inl (a 19))) := ab_other e18 (by omega) c10
    have c27 : h17[m+105]? = some (.inl (.byte, 58000, .inl (a 21))) := ab_other e18 (by omega) c11
    have c28 : h17[m+106]? = some (.inl (.boolean, 8, .inl (a 25))) := ab_other e18 (by omega) c12
    have c29 : h17[m+107]? = some (.inl (.boolean, 8, .inl (a 26))) := ab_other e18 (by omega) c13
    refine ab_iconst (v := 1) d_M_cut_26 (by decide) ?_
    exact ab_zret d_M_cut_27 rfl rfl (Nat.le_refl _) (Nat.le_refl _) (by unfold sp_M_cut; rw [if_pos q16]; exact ⟨rfl, ⟨c19, c20, c21, c22, c23, c24, c25, c26, c27, c28, c29⟩, (ab_fr_set (ab_fr_set (ab_fr_rf _ _) e2 (by first | (show _ ∧ _; omega) | (show _ ∨ _; omega) | (show _ = _; omega) | (show _ ≤ _; omega))) e18 (by first | (show _ ∧ _; omega) | (show _ ∨ _; omega) | (show _ = _; omega) | (show _ ≤ _; omega)))⟩)
  · refine ab_iconst (v := 0) d_M_cut_19 (by decide) ?_
    exact ab_zret d_M_cut_20 rfl rfl (Nat.le_refl _) (Nat.le_refl _) (by unfold sp_M_cut; rw [if_neg (fun z => z q16)]; exact ⟨rfl, ⟨c3, c4, c5, c6, c7, c8, c9, c10, c11, c12, c13⟩, (ab_fr_set (ab_fr_rf _ _) e2 (by first | (show _ ∧ _; omega) | (show _ ∨ _; omega) | (show _ = _; omega) | (show _ ≤ _; omega)))⟩)
