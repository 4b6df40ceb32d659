def at_Play (h : List ab_E) (b : Nat) (s : Nat → Int32) (a : Nat → Nat → Int32) : Prop :=
  h[b]? = some (.inr (10, [.ref (b + 1), .int (s 1), .int (s 2), .int (s 3), .ref (b + 104), .int (s 5), .ref (b + 7), .ref (b + 105), .ref (b + 114), .ref (b + 115), .ref (b + 116), .ref (b + 117), .ref (b + 118), .ref (b + 119)])) ∧ h[b + 104]? = some (.inl (.int, 256, .inl (a 4))) ∧ h[b + 114]? = some (.inl (.boolean, 256, .inl (a 8))) ∧ h[b + 115]? = some (.inl (.int, 256, .inl (a 9))) ∧ h[b + 116]? = some (.inl (.int, 4, .inl (a 10))) ∧ h[b + 117]? = some (.inl (.int, 16, .inl (a 11))) ∧ h[b + 118]? = some (.inl (.int, 64, .inl (a 12))) ∧ h[b + 119]? = some (.inl (.int, 4, .inl (a 13)))
def in_Play (b : Nat) : Nat → Prop := fun i => i = b ∨ i = b + 104 ∨ i = b + 114 ∨ i = b + 115 ∨ i = b + 116 ∨ i = b + 117 ∨ i = b + 118 ∨ i = b + 119
theorem fr_Play {S : Nat → Prop} {h h1 : List ab_E} {b : Nat}  {s : Nat → Int32} {a : Nat → Nat → Int32} (hf : ab_fr S h h1) (h0 : at_Play h b  s a) (hn : ∀ i, in_Play b i → ¬ S i) : at_Play h1 b  s a := by
  obtain ⟨g0, g1, g2, g3, g4, g5, g6, g7⟩ := h0
  exact ⟨ab_fr_at hf g0 (hn _ (by show _ ∨ _; omega)), ab_fr_at hf g1 (hn _ (by show _ ∨ _; omega)), ab_fr_at hf g2 (hn _ (by show _ ∨ _; omega)), ab_fr_at hf g3 (hn _ (by show _ ∨ _; omega)), ab_fr_at hf g4 (hn _ (by show _ ∨ _; omega)), ab_fr_at hf g5 (hn _ (by show _ ∨ _; omega)), ab_fr_at hf g6 (hn _ (by show _ ∨ _; omega)), ab_fr_at hf g7 (hn _ (by show _ ∨ _; omega))⟩
def sp_Play_isQuiet (s : Nat → Int32) (a : Nat → Nat → Int32) (t : Nat → Int32) (d : Nat → Nat → Int32)  : Int32 := if ¬ (t 0) = (s 1) then (0) else (1)
set_option maxRecDepth 20000 in
set_option maxHeartbeats 2000000 in
theorem c_Play_isQuiet {h : List ab_E} {p : Nat} {s : Nat → Int32} {a : Nat → Nat → Int32} {t : Nat → Int32} {d : Nat → Nat → Int32}  (hp : at_Play h p s a) (hw : at_World h (p + 1) t d)  : ab_M y_Play_isQuiet { frames := 0, cells := 0, slots := 0, locals := 0 } [.ref p] h (ab_A (some (.int (sp_Play_isQuiet s a t d ))) (fun h1 => h = h1)) := by
  have hp0 := hp; obtain ⟨go, g4, g8, g9, g10, g11, g12, g13⟩ := hp
  have hw0 := hw; obtain ⟨fo, f7, f8, f11, f12, f14⟩ := hw
  refine ab_of2 (lv := [some (.ref p)]) 0 rfl rfl (Nat.le_of_ble_eq_true rfl) ?_
  refine ab_aload_n d_Play_isQuiet_0 rfl rfl rfl ?_
  refine ab_get (f := 0) d_Play_isQuiet_1 go rfl (by decide) (k2 130 rfl rfl) rfl ?_
  refine ab_get (f := 0) d_Play_isQuiet_4 fo rfl (by decide) (k1 205 rfl rfl) rfl ?_
  refine ab_aload_n d_Play_isQuiet_7 rfl rfl rfl ?_
  refine ab_get (f := 1) d_Play_isQuiet_8 go rfl (by decide) (k2 132 rfl rfl) rfl ?_
  refine ab_icmp_ne (tgt := 18) d_Play_isQuiet_11 (by decide) (fun q1 => ?_) (fun q1 => ?_)
  · refine ab_iconst (v := 0) d_Play_isQuiet_18 (by decide) ?_
    exact ab_zret d_Play_isQuiet_19 rfl rfl (Nat.le_refl _) (Nat.le_refl _) (by unfold sp_Play_isQuiet; rw [if_pos q1]; exact ⟨rfl, rfl⟩)
  · refine ab_iconst (v := 1) d_Play_isQuiet_14 (by decide) ?_
    refine ab_goto (tgt := 19) d_Play_isQuiet_15 (by decide) ?_
    exact ab_zret d_Play_isQuiet_19 rfl rfl (Nat.le_refl _) (Nat.le_refl _) (by unfold sp_Play_isQuiet; rw [if_neg (fun z => z q1)]; exact ⟨rfl, rfl⟩)
def sp_Play_isFullyAhead (s : Nat → Int32) (a : Nat → Nat → Int32) (t : Nat → Int32) (d : Nat → Nat → Int32)  : Int32 := if (t 0) < ((s 1) + 16) then (0) else (1)
set_option maxRecDepth 20000 in
set_option maxHeartbeats 2000000 in
theorem c_Play_isFullyAhead {h : List ab_E} {p : Nat} {s : Nat → Int32} {a : Nat → Nat → Int32} {t : Nat → Int32} {d : Nat → Nat → Int32}  (hp : at_Play h p s a) (hw : at_World h (p + 1) t d)  : ab_M y_Play_isFullyAhead { frames := 0, cells := 0, slots := 0, locals := 0 } [.ref p] h (ab_A (some (.int (sp_Play_isFullyAhead s a t d ))) (fun h1 => h = h1)) := by
  have hp0 := hp; obtain ⟨go, g4, g8, g9, g10, g11, g12, g13⟩ := hp
  have hw0 := hw; obtain ⟨fo, f7, f8, f11, f12, f14⟩ := hw
  refine ab_of2 (lv := [some (.ref p)]) 0 rfl rfl (Nat.le_of_ble_eq_true rfl) ?_
  refine ab_aload_n d_Play_isFullyAhead_0 rfl rfl rfl ?_
  refine ab_get (f := 0) d_Play_isFullyAhead_1 go rfl (by decide) (k2 130 rfl rfl) rfl ?_
  refine ab_get (f := 0) d_Play_isFullyAhead_4 fo rfl (by decide) (k1 205 rfl rfl) rfl ?_
  refine ab_aload_n d_Play_isFullyAhead_7 rfl rfl rfl ?_
  refine ab_get (f := 1) d_Play_isFullyAhead_8 go rfl (by decide) (k2 132 rfl rfl) rfl ?_
  refine ab_bipush (v := 16) d_Play_isFullyAhead_11 (by decide) ?_
  refine ab_iadd d_Play_isFullyAhead_13 ?_
  refine ab_icmp_lt (tgt := 21) d_Play_isFullyAhead_14 (by decide) (fun q1 => ?_) (fun q1 => ?_)
  · refine ab_iconst (v := 0) d_Play_isFullyAhead_21 (by decide) ?_
    exact ab_zret d_Play_isFullyAhead_22 rfl rfl (Nat.le_refl _) (Nat.le_refl _) (by unfold sp_Play_isFullyAhead; rw [if_pos q1]; exact ⟨rfl, rfl⟩)
  · refine ab_iconst (v := 1) d_Play_isFullyAhead_17 (by decide) ?_
    refine ab_goto (tgt := 22) d_Play_isFullyAhead_18 (by decide) ?_
    exact ab_zret d_Play_isFullyAhead_22 rfl rfl (Nat.le_refl _) (Nat.le_refl _) (by unfold sp_Play_isFullyAhead; rw [if_neg q1]; exact ⟨rfl, rfl⟩)
def sp_Play_slot  (q t : Int32) : Int32 := ((q * 64) + (t &&& 63))
set_option maxRecDepth 20000 in
set_option maxHeartbeats 2000000 in
theorem c_Play_slot {h : List ab_E}  {q t : Int32}   : ab_M y_Play_slot { frames := 0, cells := 0, slots := 0, locals := 0 } [.int q, .int t] h (ab_A (some (.int (sp_Play_slot  q t))) (fun h1 => h = h1)) := by
  refine ab_of2 (lv := [some (.int q), some (.int t)]) 0 rfl rfl (Nat.le_of_ble_eq_true rfl) ?_
  refine ab_iload_n d_Play_slot_0 rfl rfl ?_
  refine ab_bipush (v := 64) d_Play_slot_1 (by decide) ?_
  refine ab_imul d_Play_slot_3 ?_
  refine ab_iload_n d_Play_slot_4 rfl rfl ?_
  refine ab_bipush (v := 63) d_Play_slot_5 (by decide) ?_
  refine ab_iand d_Play_slot_7 ?_
  refine ab_iadd d_Play_slot_8 ?_
  exact ab_iret d_Play_slot_9 rfl (Nat.le_refl _) (Nat.le_refl _) (by unfold sp_Play_slot; exact ⟨rfl, rfl⟩)
theorem in15 (n : Int32) : vp_in (n &&& 15) 16 := pk_andIn n 4 (by decide) (by decide)
theorem in_slot {q t : Int32} (h0 : ¬ q < 0) (h1 : ¬ (4 : Int32) ≤ q) : vp_in (sp_Play_slot q t) 256 := by
  obtain ⟨j, hj, rfl⟩ := vp_in_of (in_of (n := 4) (by decide) h0 h1) (by decide)
  obtain ⟨k, hk, he⟩ := pk_andE t (m := 63) 6 (by decide)
  unfold sp_Play_slot
  rw [he, show (64 : Int32) = nI 64 from rfl, pk_mul, nI_add]
  exact vp_in_nI (by omega) (by decide)
def sp_Play_refusal (s : Nat → Int32) (a : Nat → Nat → Int32) (t : Nat → Int32) (d : Nat → Nat → Int32) (q u : Int32) : Int32 := if q < (0 : Int32) then ((-1)) else if q < (4 : Int32) then if u ≤ (s 1) then ((-2)) else if u ≤ ((t 0) + 16) then if u ≤ (t 0) then if ¬ ((((a 11) ((u &&& 15)).toNatClampNeg) >>> (q &&& 31)) &&& 1) = (0 : Int32) then if ((a 8) ((sp_Play_slot q u)).toNatClampNeg) = (0 : Int32) then (0) else ((-4)) else ((-3)) else if ¬ (((s 2) >>> (q &&& 31)) &&& 1) = (0 : Int32) then if ((a 8) ((sp_Play_slot q u)).toNatClampNeg) = (0 : Int32) then (0) else ((-4)) else ((-3)) else ((-2)) else ((-1))
set_option maxRecDepth 20000 in
set_option maxHeartbeats 2000000 in
theorem c_Play_refusal {h : List ab_E} {p : Nat} {s : Nat → Int32} {a : Nat → Nat → Int32} {t : Nat → Int32} {d : Nat → Nat → Int32} {q u : Int32} (hp : at_Play h p s a) (hw : at_World h (p + 1) t d)  : ab_M y_Play_refusal { frames := 1, cells := 0, slots := 0, locals := 40 } [.ref p, .int q, .int u] h (ab_A (some (.int (sp_Play_refusal s a t d q u))) (fun h1 => h = h1)) := by
  have hp0 := hp; obtain ⟨go, g4, g8, g9, g10, g11, g12, g13⟩ := hp
  have hw0 := hw; obtain ⟨fo, f7, f8, f11, f12, f14⟩ := hw
  refine ab_of2 (lv := [some (.ref p), some (.int q), some (.int u), none]) 1 rfl rfl (Nat.le_of_ble_eq_true rfl) ?_
  refine ab_iload_n d_Play_refusal_0 rfl rfl ?_
  refine ab_if_lt (tgt := 9) d_Play_refusal_1 (by decide) (fun q1 => ?_) (fun q1 => ?_)
  · refine ab_iconst (v := (-1)) d_Play_refusal_9 (by decide) ?_
    exact ab_iret d_Play_refusal_10 rfl (Nat.le_refl _) (Nat.le_refl _) (by unfold sp_Play_refusal; rw [if_pos q1]; exact ⟨rfl, rfl⟩)
  · refine ab_iload_n d_Play_refusal_4 rfl rfl ?_
    refine ab_iconst (v := 4) d_Play_refusal_5 (by decide) ?_
    refine ab_icmp_lt (tgt := 11) d_Play_refusal_6 (by decide) (fun q2 => ?_) (fun q2 => ?_)
    · refine ab_iload_n d_Play_refusal_11 rfl rfl ?_
      refine ab_aload_n d_Play_refusal_12 rfl rfl rfl ?_
      refine ab_get (f := 1) d_Play_refusal_13 go rfl (by decide) (k2 132 rfl rfl) rfl ?_
      refine ab_icmp_le (tgt := 33) d_Play_refusal_16 (by decide) (fun q3 => ?_) (fun q3 => ?_)
      · refine ab_bipush (v := (-2)) d_Play_refusal_33 (by decide) ?_
        exact ab_iret d_Play_refusal_35 rfl (Nat.le_refl _) (Nat.le_refl _) (by unfold sp_Play_refusal; rw [if_neg q1]; rw [if_pos q2]; rw [if_pos q3]; exact ⟨rfl, rfl⟩)
      · refine ab_iload_n d_Play_refusal_19 rfl rfl ?_
        refine ab_aload_n d_Play_refusal_20 rfl rfl rfl ?_
        refine ab_get (f := 0) d_Play_refusal_21 go rfl (by decide) (k2 130 rfl rfl) rfl ?_
        refine ab_get (f := 0) d_Play_refusal_24 fo rfl (by decide) (k1 205 rfl rfl) rfl ?_
        refine ab_bipush (v := 16) d_Play_refusal_27 (by decide) ?_
        refine ab_iadd d_Play_refusal_29 ?_
        refine ab_icmp_le (tgt := 36) d_Play_refusal_30 (by decide) (fun q4 => ?_) (fun q4 => ?_)
        · refine ab_iload_n d_Play_refusal_36 rfl rfl ?_
          refine ab_aload_n d_Play_refusal_37 rfl rfl rfl ?_
          refine ab_get (f := 0) d_Play_refusal_38 go rfl (by decide) (k2 130 rfl rfl) rfl ?_
          refine ab_get (f := 0) d_Play_refusal_41 fo rfl (by decide) (k1 205 rfl rfl) rfl ?_
          refine ab_icmp_le (tgt := 54) d_Play_refusal_44 (by decide) (fun q5 => ?_) (fun q5 => ?_)
          · refine ab_aload_n d_Play_refusal_54 rfl rfl rfl ?_
            refine ab_get (f := 11) d_Play_refusal_55 go rfl (by decide) (k2 147 rfl rfl) rfl ?_
            refine ab_iload_n d_Play_refusal_58 rfl rfl ?_
            refine ab_bipush (v := 15) d_Play_refusal_59 (by decide) ?_
            refine ab_iand d_Play_refusal_61 ?_
            refine ab_iald d_Play_refusal_62 tI g11 (in15 u) ?_
            refine ab_topi (fun x6 ex6 => ?_)
            refine ab_istore_n (lv' := [some (.ref p), some (.int q), some (.int u), some (.int x6)]) d_Play_refusal_63 rfl (by decide) rfl ?_
            refine ab_iload_n d_Play_refusal_64 rfl rfl ?_
            refine ab_iload_n d_Play_refusal_65 rfl rfl ?_
            refine ab_ishr d_Play_refusal_66 ?_
            refine ab_iconst (v := 1) d_Play_refusal_67 (by decide) ?_
            refine ab_iand d_Play_refusal_68 ?_
            refine ab_if_ne (tgt := 75) d_Play_refusal_69 (by decide) (fun q7 => ?_) (fun q7 => ?_)
            · refine ab_aload_n d_Play_refusal_75 rfl rfl rfl ?_
              refine ab_get (f := 8) d_Play_refusal_76 go rfl (by decide) (k2 144 rfl rfl) rfl ?_
              refine ab_iload_n d_Play_refusal_79 rfl rfl ?_
              refine ab_iload_n d_Play_refusal_80 rfl rfl ?_
              refine ab_callS_a (As := [.int q, .int u]) (rest := [.ref (p + 114)]) d_Play_refusal_81 (c_Play_slot) (ab_mkC s_Play_slot (Nat.le_of_ble_eq_true rfl) (Nat.le_of_ble_eq_true rfl) (by decide) (by decide)) (k6 181 rfl rfl) t_Play_slot rfl (Nat.le_of_ble_eq_true rfl) (fun h9 q8 => ?_)
              subst q8
              refine ab_zald d_Play_refusal_84 tZ g8 (in_slot q1 (Int32.not_le.mpr q2)) ?_
              refine ab_if_eq (tgt := 93) d_Play_refusal_85 (by decide) (fun q10 => ?_) (fun q10 => ?_)
              · refine ab_iconst (v := 0) d_Play_refusal_93 (by decide) ?_
                exact ab_iret d_Play_refusal_94 rfl (Nat.le_refl _) (Nat.le_refl _) (by subst ex6; unfold sp_Play_refusal; rw [if_neg q1]; rw [if_pos q2]; rw [if_neg q3]; rw [if_pos q4]; rw [if_pos q5]; rw [if_pos q7]; rw [if_pos q10]; exact ⟨rfl, rfl⟩)
              · refine ab_bipush (v := (-4)) d_Play_refusal_88 (by decide) ?_
                refine ab_goto (tgt := 94) d_Play_refusal_90 (by decide) ?_
                exact ab_iret d_Play_refusal_94 rfl (Nat.le_refl _) (Nat.le_refl _) (by subst ex6; unfold sp_Play_refusal; rw [if_neg q1]; rw [if_pos q2]; rw [if_neg q3]; rw [if_pos q4]; rw [if_pos q5]; rw [if_pos q7]; rw [if_neg q10]; exact ⟨rfl, rfl⟩)
            · refine ab_bipush (v := (-3)) d_Play_refusal_72 (by decide) ?_
              exact ab_iret d_Play_refusal_74 rfl (Nat.le_refl _) (Nat.le_refl _) (by subst ex6; unfold sp_Play_refusal; rw [if_neg q1]; rw [if_pos q2]; rw [if_neg q3]; rw [if_pos q4]; rw [if_pos q5]; rw [if_neg (fun z => z q7)]; exact ⟨rfl, rfl⟩)
          · refine ab_aload_n d_Play_refusal_47 rfl rfl rfl ?_
            refine ab_get (f := 2) d_Play_refusal_48 go rfl (by decide) (k2 134 rfl rfl) rfl ?_
            refine ab_goto (tgt := 63) d_Play_refusal_51 (by decide) ?_
            refine ab_istore_n (lv' := [some (.ref p), some (.int q), some (.int u), some (.int (s 2))]) d_Play_refusal_63 rfl (by decide) rfl ?_
            refine ab_iload_n d_Play_refusal_64 rfl rfl ?_
            refine ab_iload_n d_Play_refusal_65 rfl rfl ?_
            refine ab_ishr d_Play_refusal_66 ?_
            refine ab_iconst (v := 1) d_Play_refusal_67 (by decide) ?_
            refine ab_iand d_Play_refusal_68 ?_
            refine ab_if_ne (tgt := 75) d_Play_refusal_69 (by decide) (fun q11 => ?_) (fun q11 => ?_)
            · refine ab_aload_n d_Play_refusal_75 rfl rfl rfl ?_
              refine ab_get (f := 8) d_Play_refusal_76 go rfl (by decide) (k2 144 rfl rfl) rfl ?_
              refine ab_iload_n d_Play_refusal_79 rfl rfl ?_
              refine ab_iload_n d_Play_refusal_80 rfl rfl ?_
              refine ab_callS_a (As := [.int q, .int u]) (rest := [.ref (p + 114)]) d_Play_refusal_81 (c_Play_slot) (ab_mkC s_Play_slot (Nat.le_of_ble_eq_true rfl) (Nat.le_of_ble_eq_true rfl) (by decide) (by decide)) (k6 181 rfl rfl) t_Play_slot rfl (Nat.le_of_ble_eq_true rfl) (fun h13 q12 => ?_)
              subst q12
              refine ab_zald d_Play_refusal_84 tZ g8 (in_slot q1 (Int32.not_le.mpr q2)) ?_
              refine ab_if_eq (tgt := 93) d_Play_refusal_85 (by decide) (fun q14 => ?_) (fun q14 => ?_)
              · refine ab_iconst (v := 0) d_Play_refusal_93 (by decide) ?_
                exact ab_iret d_Play_refusal_94 rfl (Nat.le_refl _) (Nat.le_refl _) (by unfold sp_Play_refusal; rw [if_neg q1]; rw [if_pos q2]; rw [if_neg q3]; rw [if_pos q4]; rw [if_neg q5]; rw [if_pos q11]; rw [if_pos q14]; exact ⟨rfl, rfl⟩)
              · refine ab_bipush (v := (-4)) d_Play_refusal_88 (by decide) ?_
                refine ab_goto (tgt := 94) d_Play_refusal_90 (by decide) ?_
                exact ab_iret d_Play_refusal_94 rfl (Nat.le_refl _) (Nat.le_refl _) (by unfold sp_Play_refusal; rw [if_neg q1]; rw [if_pos q2]; rw [if_neg q3]; rw [if_pos q4]; rw [if_neg q5]; rw [if_pos q11]; rw [if_neg q14]; exact ⟨rfl, rfl⟩)
            · refine ab_bipush (v := (-3)) d_Play_refusal_72 (by decide) ?_
              exact ab_iret d_Play_refusal_74 rfl (Nat.le_refl _) (Nat.le_refl _) (by unfold sp_Play_refusal; rw [if_neg q1]; rw [if_pos q2]; rw [if_neg q3]; rw [if_pos q4]; rw [if_neg q5]; rw [if_neg (fun z => z q11)]; exact ⟨rfl, rfl⟩)
        · refine ab_bipush (v := (-2)) d_Play_refusal_33 (by decide) ?_
          exact ab_iret d_Play_refusal_35 rfl (Nat.le_refl _) (Nat.le_refl _) (by unfold sp_Play_refusal; rw [if_neg q1]; rw [if_pos q2]; rw [if_neg q3]; rw [if_neg q4]; exact ⟨rfl, rfl⟩)
    · refine ab_iconst (v := (-1)) d_Play_refusal_9 (by decide) ?_
      exact ab_iret d_Play_refusal_10 rfl (Nat.le_refl _) (Nat.le_refl _) (by unfold sp_Play_refusal; rw [if_neg q1]; rw [if_neg q2]; exact ⟨rfl, rfl⟩)
