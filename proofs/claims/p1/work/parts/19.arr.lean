def y_Arr_fill : ab_Y := (⟨"java/util/Arrays", "fill", "([II)V"⟩, prog_30_method_103_code, 4, none, [])
theorem d_Arr_fill_0 : decode y_Arr_fill.2.1 0 = .ok (.iconst 0, 1) := by decide +kernel
theorem d_Arr_fill_1 : decode y_Arr_fill.2.1 1 = .ok (.istore_n 2, 1) := by decide +kernel
theorem d_Arr_fill_2 : decode y_Arr_fill.2.1 2 = .ok (.aload_n 0, 1) := by decide +kernel
theorem d_Arr_fill_3 : decode y_Arr_fill.2.1 3 = .ok (.arraylength, 1) := by decide +kernel
theorem d_Arr_fill_4 : decode y_Arr_fill.2.1 4 = .ok (.istore_n 3, 1) := by decide +kernel
theorem d_Arr_fill_5 : decode y_Arr_fill.2.1 5 = .ok (.iload_n 2, 1) := by decide +kernel
theorem d_Arr_fill_6 : decode y_Arr_fill.2.1 6 = .ok (.iload_n 3, 1) := by decide +kernel
theorem d_Arr_fill_7 : decode y_Arr_fill.2.1 7 = .ok (.if_icmp .ge 13, 3) := by decide +kernel
theorem d_Arr_fill_10 : decode y_Arr_fill.2.1 10 = .ok (.aload_n 0, 1) := by decide +kernel
theorem d_Arr_fill_11 : decode y_Arr_fill.2.1 11 = .ok (.iload_n 2, 1) := by decide +kernel
theorem d_Arr_fill_12 : decode y_Arr_fill.2.1 12 = .ok (.iload_n 1, 1) := by decide +kernel
theorem d_Arr_fill_13 : decode y_Arr_fill.2.1 13 = .ok (.iastore, 1) := by decide +kernel
theorem d_Arr_fill_14 : decode y_Arr_fill.2.1 14 = .ok (.iinc 2 1, 3) := by decide +kernel
theorem d_Arr_fill_17 : decode y_Arr_fill.2.1 17 = .ok (.goto (-12), 3) := by decide +kernel
theorem d_Arr_fill_20 : decode y_Arr_fill.2.1 20 = .ok (.return_, 1) := by decide +kernel
theorem s_Arr_fill : ab_Stat y_Arr_fill 2 := ⟨(k1 203 rfl rfl), (k1 11 rfl rfl), ⟨by decide, by decide⟩, by decide +kernel⟩
theorem t_Arr_fill : Cond.static y_Arr_fill.1 ∈ ab_T := (k1 202 rfl rfl)
def sp_fill (i n : Nat) (v : Int32) (f : Nat → Int32) : Nat → Int32 := fun j => if i ≤ j ∧ j < n then v else f j
theorem sp_fill_0 (n : Nat) (v : Int32) (f : Nat → Int32) : sp_fill n n v f = f := by
  funext j
  unfold sp_fill
  rw [if_neg (by omega)]
theorem sp_fill_1 {i n : Nat} (h : i < n) (v : Int32) (f : Nat → Int32) : sp_fill (i + 1) n v (upd f i v) = sp_fill i n v f := by
  funext j
  unfold sp_fill upd
  by_cases hj : j = i
  · subst hj; rw [if_neg (by omega), if_pos rfl, if_pos (by omega)]
  · by_cases h2 : i + 1 ≤ j ∧ j < n
    · rw [if_pos h2, if_pos (by omega)]
    · rw [if_neg h2, if_neg hj, if_neg (by omega)]
theorem ab_set_same {h : List ab_E} {q : Nat} {c : ab_E} (hq : h[q]? = some c) : h.set q c = h := by
  apply List.ext_getElem?
  intro i
  rw [List.getElem?_set]
  by_cases hi : q = i
  · subst hi
    rw [if_pos rfl, if_pos (List.getElem?_eq_some_iff.mp hq).1, hq]
  · rw [if_neg hi]
set_option maxRecDepth 20000 in
set_option maxHeartbeats 2000000 in
theorem l_Arr_fill {q n : Nat} {v : Int32} {Po : Outcome → List ab_E → Prop} (hn : n < 2 ^ 31) : ∀ (k i : Nat) (h : List ab_E) (f : Nat → Int32), i + k = n → h[q]? = some (.inl (.int, n, .inl f)) → Po (.returned none) (h.set q (.inl (.int, n, .inl (sp_fill i n v f)))) →
    ab_V y_Arr_fill { frames := 0, cells := 0, slots := 0, locals := 0 } Po 0 0 0 0 5 [some (.ref q), some (.int v), some (.int (nI i)), some (.int (nI n))] [] h := by
  intro k
  induction k with
  | zero =>
    intro i h f hi hq hp
    refine ab_iload_n d_Arr_fill_5 rfl rfl ?_
    refine ab_iload_n d_Arr_fill_6 rfl rfl ?_
    refine ab_icmp_ge (tgt := 20) d_Arr_fill_7 (by decide) (fun q1 => ?_) (fun q1 => ?_)
    · exact ab_vret d_Arr_fill_20 rfl (Nat.le_refl _) (Nat.le_refl _) (by obtain rfl : i = n := (by omega); rw [sp_fill_0, ab_set_same hq] at hp; exact hp)
    · exact absurd (nI_le (a := n) (b := i) (by omega) (by omega)) q1
  | succ k ih =>
    intro i h f hi hq hp
    refine ab_iload_n d_Arr_fill_5 rfl rfl ?_
    refine ab_iload_n d_Arr_fill_6 rfl rfl ?_
    refine ab_icmp_ge (tgt := 20) d_Arr_fill_7 (by decide) (fun q1 => ?_) (fun q1 => ?_)
    · exact absurd ((nI_leI hn (by omega)).mp q1) (by omega)
    · refine ab_aload_n d_Arr_fill_10 rfl rfl rfl ?_
      refine ab_iload_n d_Arr_fill_11 rfl rfl ?_
      refine ab_iload_n d_Arr_fill_12 rfl rfl ?_
      refine ab_iast d_Arr_fill_13 tI hq (vp_in_nI (by omega) hn) ?_
      refine ab_gen (fun h2 e3 => ?_)
      have c4 : h2[q]? = some (.inl (.int, n, .inl (upd f ((nI i)).toNatClampNeg v))) := ab_self e3 hq
      obtain ⟨x5, ex5⟩ : ∃ q : Int32, q = nI i + 1 := ⟨_, rfl⟩
      refine ab_iinc (v := x5) (lv' := [some (.ref q), some (.int v), some (.int x5), some (.int (nI n))]) d_Arr_fill_14 rfl (by rw [ex5]; rfl) (by decide) rfl ?_
      refine ab_goto (tgt := 5) d_Arr_fill_17 (by decide) ?_
      subst ex5
      rw [nI_1]
      have c4 : h2[q]? = some (.inl (.int, n, .inl (upd f i v))) := by rw [nI_clamp (by omega)] at c4; exact c4
      exact ih (i + 1) _ _ (by omega) c4 (by rw [sp_fill_1 (by omega), e3, List.set_set]; exact hp)
set_option maxRecDepth 20000 in
set_option maxHeartbeats 2000000 in
theorem c_Arr_fill {h : List ab_E} {q n : Nat} {f : Nat → Int32} {v : Int32} (hn : n < 2 ^ 31) (hq : h[q]? = some (.inl (.int, n, .inl f))) : ab_M y_Arr_fill { frames := 0, cells := 0, slots := 0, locals := 0 } [.ref q, .int v] h (ab_A none (fun h1 => h1 = h.set q (.inl (.int, n, .inl (sp_fill 0 n v f))))) := by
  refine ab_of2 (lv := [some (.ref q), some (.int v), none, none]) 2 rfl (by decide +kernel) (Nat.le_of_ble_eq_true rfl) ?_
  refine ab_iconst (v := 0) d_Arr_fill_0 (by decide) ?_
  refine ab_istore_n (lv' := [some (.ref q), some (.int v), some (.int 0), none]) d_Arr_fill_1 rfl (by decide) rfl ?_
  refine ab_aload_n d_Arr_fill_2 rfl rfl rfl ?_
  refine ab_alen (v := nI n) d_Arr_fill_3 tI hq rfl ?_
  refine ab_istore_n (lv' := [some (.ref q), some (.int v), some (.int 0), some (.int (nI n))]) d_Arr_fill_4 rfl (by decide) rfl ?_
  exact l_Arr_fill hn n 0 h f (by omega) hq ⟨rfl, rfl⟩
