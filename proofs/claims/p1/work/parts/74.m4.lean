def lf (l : List Int32) : Nat → Int32 := fun k => l.getD k 0
def sp_M_in  (v : Int64) (lo : Int64) (hi : Int64) : Int32 := if (lg_cmp v lo) < (0 : Int32) then (0) else if (0 : Int32) < (lg_cmp v hi) then (0) else (1)
set_option maxRecDepth 20000 in
set_option maxHeartbeats 2000000 in
theorem c_M_in {h : List ab_E}  {v lo hi : Int64}   : ab_M y_M_in { frames := 0, cells := 0, slots := 0, locals := 0 } [.long v, .long lo, .long hi] h (ab_A (some (.int (sp_M_in  v lo hi))) (fun h1 => h = h1)) := by
  refine ab_of2 (lv := [some (.long v), none, some (.long lo), none, some (.long hi), none]) 0 rfl rfl (Nat.le_of_ble_eq_true rfl) ?_
  refine ab_lload_n d_M_in_0 rfl rfl ?_
  refine ab_lload_n d_M_in_1 rfl rfl ?_
  refine ab_lcmp d_M_in_2 ?_
  refine ab_if_lt (tgt := 17) d_M_in_3 (by decide) (fun q1 => ?_) (fun q1 => ?_)
  · refine ab_iconst (v := 0) d_M_in_17 (by decide) ?_
    exact ab_zret d_M_in_18 rfl rfl (Nat.le_refl _) (Nat.le_refl _) (by unfold sp_M_in; rw [if_pos q1]; exact ⟨rfl, rfl⟩)
  · refine ab_lload_n d_M_in_6 rfl rfl ?_
    refine ab_lload d_M_in_7 rfl ?_
    refine ab_lcmp d_M_in_9 ?_
    refine ab_if_gt (tgt := 17) d_M_in_10 (by decide) (fun q2 => ?_) (fun q2 => ?_)
    · refine ab_iconst (v := 0) d_M_in_17 (by decide) ?_
      exact ab_zret d_M_in_18 rfl rfl (Nat.le_refl _) (Nat.le_refl _) (by unfold sp_M_in; rw [if_neg q1]; rw [if_pos q2]; exact ⟨rfl, rfl⟩)
    · refine ab_iconst (v := 1) d_M_in_13 (by decide) ?_
      refine ab_goto (tgt := 18) d_M_in_14 (by decide) ?_
      exact ab_zret d_M_in_18 rfl rfl (Nat.le_refl _) (Nat.le_refl _) (by unfold sp_M_in; rw [if_neg q1]; rw [if_neg q2]; exact ⟨rfl, rfl⟩)
theorem lg_lt {a b : Int64} : lg_cmp a b < 0 ↔ a < b := by
  unfold lg_cmp
  by_cases h1 : a > b
  · rw [if_pos h1]; exact ⟨fun z => absurd z (by decide), fun z => absurd (Int64.lt_trans h1 z) Int64.lt_irrefl⟩
  · rw [if_neg h1]
    by_cases h2 : a = b
    · rw [if_pos h2]; subst h2; exact ⟨fun z => absurd z (by decide), fun z => absurd z Int64.lt_irrefl⟩
    · rw [if_neg h2]
      refine ⟨fun _ => ?_, fun _ => by decide⟩
      have h3 : a.toInt ≠ b.toInt := fun z => h2 (Int64.toInt_inj.mp z)
      have h4 : ¬ b.toInt < a.toInt := fun z => h1 (Int64.lt_iff_toInt_lt.mpr z)
      exact Int64.lt_iff_toInt_lt.mpr (by omega)
theorem lg_pos {a b : Int64} : 0 < lg_cmp a b ↔ b < a := by
  unfold lg_cmp
  by_cases h1 : a > b
  · rw [if_pos h1]; exact ⟨fun _ => h1, fun _ => by decide⟩
  · rw [if_neg h1]
    by_cases h2 : a = b
    · rw [if_pos h2]; subst h2; exact ⟨fun z => absurd z (by decide), fun z => absurd z Int64.lt_irrefl⟩
    · rw [if_neg h2]
      exact ⟨fun z => absurd z (by decide), fun z => absurd z h1⟩
