/-- the k-th place that matches, from place i on -/
def sp_find (a : Nat → Nat → Int32) (e u : Int32) : Nat → Nat → Int32 → Int32
  | 0, _, _ => -1
  | n + 1, i, k => if sp_matches a (nI i) e u = 0 then sp_find a e u n (i + 1) k else if k = 0 then 256 * a 7 i + nI i else sp_find a e u n (i + 1) (k + -1)
set_option maxRecDepth 20000 in
set_option maxHeartbeats 2000000 in
theorem l_World_matchAt {h : List ab_E} {w : Nat} {s : Nat → Int32} {a : Nat → Nat → Int32} {e u k : Int32} {T : Nat} {Po : Outcome → List ab_E → Prop} (hw : at_World h w s a) (hT : s 9 = nI T) (hT2 : T ≤ 256) : ∀ (n i : Nat) (left : Int32), i + n = T → Po (.returned (some (.int (sp_find a e u n i left)))) h →
    ab_V y_World_matchAt { frames := 1, cells := 0, slots := 0, locals := 32 } Po 0 0 0 0 6 [some (.ref w), some (.int e), some (.int u), some (.int k), some (.int left), some (.int (nI i))] [] h := by
  have hw0 := hw; obtain ⟨g0, g7, g8, g11, g12, g14⟩ := hw
  intro n
  induction n with
  | zero =>
    intro i left hi hp
    refine ab_iload d_World_matchAt_6 rfl ?_
    refine ab_aload_n d_World_matchAt_8 rfl rfl rfl ?_
    refine ab_get (f := 9) d_World_matchAt_9 g0 rfl (by decide) (k1 231 rfl rfl) rfl ?_
    refine ab_icmp_ge (tgt := 47) d_World_matchAt_12 (by decide) (fun q1 => ?_) (fun q1 => ?_)
    · refine ab_iconst (v := (-1)) d_World_matchAt_47 (by decide) ?_
      exact ab_iret d_World_matchAt_48 rfl (Nat.le_refl _) (Nat.le_refl _) (by rw [sp_find] at hp; exact hp)
    · exact absurd (by rw [hT]; exact nI_le (by omega) (by omega)) q1
  | succ n ih =>
    intro i left hi hp
    refine ab_iload d_World_matchAt_6 rfl ?_
    refine ab_aload_n d_World_matchAt_8 rfl rfl rfl ?_
    refine ab_get (f := 9) d_World_matchAt_9 g0 rfl (by decide) (k1 231 rfl rfl) rfl ?_
    refine ab_icmp_ge (tgt := 47) d_World_matchAt_12 (by decide) (fun q1 => ?_) (fun q1 => ?_)
    · exact absurd (by rw [hT] at q1; exact (nI_leI (by omega) (by omega)).mp q1) (by omega)
    · refine ab_aload_n d_World_matchAt_15 rfl rfl rfl ?_
      refine ab_iload d_World_matchAt_16 rfl ?_
      refine ab_iload_n d_World_matchAt_18 rfl rfl ?_
      refine ab_iload_n d_World_matchAt_19 rfl rfl ?_
      refine ab_callV_a (As := [.int (nI i), .int e, .int u]) (rest := []) d_World_matchAt_20 (c_World_matches hw0 (vp_in_nI (by omega) (by decide))) (ab_mkC s_World_matches (by decide) (by decide) (by decide) (by decide)) (k7 205 rfl rfl) i_World_matches v_World_matches g0 rfl rfl (Nat.le_of_ble_eq_true rfl) (fun h3 q2 => ?_)
      subst q2
      refine ab_if_eq (tgt := 41) d_World_matchAt_23 (by decide) (fun q4 => ?_) (fun q4 => ?_)
      · obtain ⟨x5, ex5⟩ : ∃ q : Int32, q = nI i + 1 := ⟨_, rfl⟩
        refine ab_iinc (v := x5) (lv' := [some (.ref w), some (.int e), some (.int u), some (.int k), some (.int left), some (.int x5)]) d_World_matchAt_41 rfl (by rw [ex5]; rfl) (by decide) rfl ?_
        refine ab_goto (tgt := 6) d_World_matchAt_44 (by decide) ?_
        subst ex5
        rw [nI_1]
        exact ih (i + 1) left (by omega) (by rw [sp_find, if_pos (by assumption)] at hp; exact hp)
      · refine ab_iload d_World_matchAt_26 rfl ?_
        refine ab_if_ne (tgt := 38) d_World_matchAt_28 (by decide) (fun q6 => ?_) (fun q6 => ?_)
        · obtain ⟨x7, ex7⟩ : ∃ q : Int32, q = left + (-1) := ⟨_, rfl⟩
          refine ab_iinc (v := x7) (lv' := [some (.ref w), some (.int e), some (.int u), some (.int k), some (.int x7), some (.int (nI i))]) d_World_matchAt_38 rfl (by rw [ex7]; rfl) (by decide) rfl ?_
          obtain ⟨x8, ex8⟩ : ∃ q : Int32, q = nI i + 1 := ⟨_, rfl⟩
          refine ab_iinc (v := x8) (lv' := [some (.ref w), some (.int e), some (.int u), some (.int k), some (.int x7), some (.int x8)]) d_World_matchAt_41 rfl (by rw [ex8]; rfl) (by decide) rfl ?_
          refine ab_goto (tgt := 6) d_World_matchAt_44 (by decide) ?_
          subst ex7
          subst ex8
          rw [nI_1]
          exact ih (i + 1) _ (by omega) (by rw [sp_find, if_neg (by assumption), if_neg (by assumption)] at hp; exact hp)
        · refine ab_aload_n d_World_matchAt_31 rfl rfl rfl ?_
          refine ab_iload d_World_matchAt_32 rfl ?_
          refine ab_callV_a (As := [.int (nI i)]) (rest := []) d_World_matchAt_34 (c_World_numberAt hw0 (vp_in_nI (by omega) (by decide))) (ab_mkC s_World_numberAt (by decide) (by decide) (by decide) (by decide)) (k7 206 rfl rfl) i_World_numberAt v_World_numberAt g0 rfl rfl (Nat.le_of_ble_eq_true rfl) (fun h10 q9 => ?_)
          subst q9
          exact ab_iret d_World_matchAt_37 rfl (Nat.le_refl _) (Nat.le_refl _) (by rw [sp_find, if_neg (by assumption), if_pos (by assumption)] at hp; rw [nI_clamp (by omega)]; exact hp)
set_option maxRecDepth 20000 in
set_option maxHeartbeats 2000000 in
theorem c_World_matchAt {h : List ab_E} {w : Nat} {s : Nat → Int32} {a : Nat → Nat → Int32} {e u k : Int32} {T : Nat} (hw : at_World h w s a) (hT : s 9 = nI T) (hT2 : T ≤ 256) : ab_M y_World_matchAt { frames := 1, cells := 0, slots := 0, locals := 32 } [.ref w, .int e, .int u, .int k] h (ab_A (some (.int (sp_find a e u T 0 k))) (fun h1 => h = h1)) := by
  have hw0 := hw; obtain ⟨g0, g7, g8, g11, g12, g14⟩ := hw
  refine ab_of2 (lv := [some (.ref w), some (.int e), some (.int u), some (.int k), none, none]) 2 rfl rfl (Nat.le_of_ble_eq_true rfl) ?_
  refine ab_iload_n d_World_matchAt_0 rfl rfl ?_
  refine ab_istore (lv' := [some (.ref w), some (.int e), some (.int u), some (.int k), some (.int k), none]) d_World_matchAt_1 (by decide) rfl ?_
  refine ab_iconst (v := 0) d_World_matchAt_3 (by decide) ?_
  refine ab_istore (lv' := [some (.ref w), some (.int e), some (.int u), some (.int k), some (.int k), some (.int 0)]) d_World_matchAt_4 (by decide) rfl ?_
  exact l_World_matchAt hw0 hT hT2 T 0 k (by omega) ⟨rfl, rfl⟩
