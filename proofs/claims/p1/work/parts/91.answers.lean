theorem eq_feed : sq_W_feed  = sq_M_feed  := by
  unfold sq_W_feed sq_M_feed
  repeat' split
  all_goals rfl
theorem eq_fault (n : Int32) : sq_W_fault n = sq_M_fault n := by
  unfold sq_W_fault sq_M_fault
  repeat' split
  all_goals rfl
theorem eq_make (n : Int32) : sq_W_make n = sq_M_make n := by
  unfold sq_W_make sq_M_make
  repeat' split
  all_goals rfl
theorem eq_change (a b c : Int32) : sq_W_change a b c = sq_M_change a b c := by
  unfold sq_W_change sq_M_change
  repeat' split
  all_goals rfl
theorem eq_set (a b c d : Int32) : sq_W_set a b c d = sq_M_set a b c d := by
  unfold sq_W_set sq_M_set
  repeat' split
  all_goals rfl
theorem eq_has (a b : Int32) : sq_W_has a b = sq_M_has a b := by
  unfold sq_W_has sq_M_has
  repeat' split
  all_goals rfl
theorem eq_entity (k : Int32) : sq_W_entity k = sq_M_entity k := by
  unfold sq_W_entity sq_M_entity
  repeat' split
  all_goals rfl
theorem eq_row (a k : Int32) : sq_W_row a k = sq_M_row a k := by
  unfold sq_W_row sq_M_row
  repeat' split
  all_goals rfl
theorem eq_group (n : Int32) : sq_W_group n = sq_M_group n := by
  unfold sq_W_group sq_M_group
  repeat' split
  all_goals rfl
theorem eq_failure (n : Int32) : sq_W_failure n = sq_M_failure n := by
  unfold sq_W_failure sq_M_failure
  repeat' split
  all_goals rfl
theorem eq_pending (k n : Int32) : sq_W_pending k n = sq_M_pending k n := by
  unfold sq_W_pending sq_M_pending
  repeat' split
  all_goals rfl
theorem eq_bend (k n : Int32) : sq_W_bend k n = sq_M_bend k n := by
  unfold sq_W_bend sq_M_bend
  repeat' split
  all_goals rfl
theorem eq_byteOut (n : Int32) : sq_W_byteOut n = sq_M_byteOut n := by
  unfold sq_W_byteOut sq_M_byteOut
  repeat' split
  all_goals rfl
theorem eq_load : sq_W_load  = sq_M_load  := by
  unfold sq_W_load sq_M_load
  repeat' split
  all_goals rfl
theorem eq_step : sq_W_step  = sq_M_step  := by
  unfold sq_W_step sq_M_step
  repeat' split
  all_goals rfl
theorem eq_sum : sq_W_sum  = sq_M_sum  := by
  unfold sq_W_sum sq_M_sum
  repeat' split
  all_goals rfl
theorem eq_save : sq_W_save  = sq_M_save  := by
  unfold sq_W_save sq_M_save
  repeat' split
  all_goals rfl
theorem eq_text (e : Int32) : sq_W_text e = sq_M_text e := by
  unfold sq_W_text sq_M_text
  repeat' split
  all_goals rfl
theorem eq_swap : sq_W_swap  = sq_M_swap  := by
  unfold sq_W_swap sq_M_swap
  repeat' split
  all_goals rfl
theorem eq_end (n : Int32) : sq_W_end n = sq_M_end n := by
  unfold sq_W_end sq_M_end
  by_cases h1 : n < 0
  · rw [if_pos h1, if_pos h1]
  · rw [if_neg h1, if_neg h1]
    by_cases h2 : n ≤ 0
    · rw [if_pos h2, if_neg (Int32.not_lt.mpr h2)]
    · rw [if_neg h2, if_pos (Int32.not_le.mp h2)]
theorem eq_cut (n : Int32) : sq_W_cut n = sq_M_cut n := by
  unfold sq_W_cut sq_M_cut
  by_cases h1 : n < 0
  · rw [if_pos h1, if_pos h1]
  · rw [if_neg h1, if_neg h1]
    by_cases h2 : n ≤ 0
    · rw [if_pos h2, if_neg (Int32.not_lt.mpr h2)]
    · rw [if_neg h2, if_pos (Int32.not_le.mp h2)]
theorem lt1 {t : Int32} : t ≤ 0 ↔ t < 1 := by
  rw [Int32.le_iff_toInt_le, Int32.lt_iff_toInt_lt, show (0 : Int32).toInt = 0 by decide, show (1 : Int32).toInt = 1 by decide]
  omega
theorem eq_input_0 (t v : Int32) : sq_W_input_0 t v = sq_M_input_0 t v := by
  unfold sq_W_input_0 sq_M_input_0
  by_cases h1 : t ≤ 0
  · rw [if_pos h1, if_pos (lt1.mp h1)]
  · rw [if_neg h1, if_neg (fun z => h1 (lt1.mpr z))]
    by_cases h2 : t ≤ 16
    · rw [if_neg (fun z => z h2), if_neg (Int32.not_lt.mpr h2)]
    · rw [if_pos h2, if_pos (Int32.not_le.mp h2)]
theorem eq_input_1 (t v : Int32) : sq_W_input_1 t v = sq_M_input_1 t v := by
  unfold sq_W_input_1 sq_M_input_1
  by_cases h1 : t ≤ 0
  · rw [if_pos h1, if_pos (lt1.mp h1)]
  · rw [if_neg h1, if_neg (fun z => h1 (lt1.mpr z))]
    by_cases h2 : t ≤ 16
    · rw [if_neg (fun z => z h2), if_neg (Int32.not_lt.mpr h2)]
    · rw [if_pos h2, if_pos (Int32.not_le.mp h2)]
theorem eq_input_2 (t v : Int32) : sq_W_input_2 t v = sq_M_input_2 t v := by
  unfold sq_W_input_2 sq_M_input_2
  by_cases h1 : t ≤ 0
  · rw [if_pos h1, if_pos (lt1.mp h1)]
  · rw [if_neg h1, if_neg (fun z => h1 (lt1.mpr z))]
    by_cases h2 : t ≤ 16
    · rw [if_neg (fun z => z h2), if_neg (Int32.not_lt.mpr h2)]
    · rw [if_pos h2, if_pos (Int32.not_le.mp h2)]
theorem eq_input_3 (t v : Int32) : sq_W_input_3 t v = sq_M_input_3 t v := by
  unfold sq_W_input_3 sq_M_input_3
  by_cases h1 : t ≤ 0
  · rw [if_pos h1, if_pos (lt1.mp h1)]
  · rw [if_neg h1, if_neg (fun z => h1 (lt1.mpr z))]
    by_cases h2 : t ≤ 16
    · rw [if_neg (fun z => z h2), if_neg (Int32.not_lt.mpr h2)]
    · rw [if_pos h2, if_pos (Int32.not_le.mp h2)]
theorem plr (p : Int32) : p = 0 ∨ p = 1 ∨ p = 2 ∨ p = 3 ∨ (p < 0 ∨ 3 < p) := by
  rcases pk_ix p (n := 4) (by decide) with q | q | ⟨j, hj, e⟩
  · exact Or.inr (Or.inr (Or.inr (Or.inr (Or.inl q))))
  · refine Or.inr (Or.inr (Or.inr (Or.inr (Or.inr ?_))))
    rw [Int32.le_iff_toInt_le, show (nI 4).toInt = 4 by decide] at q
    rw [Int32.lt_iff_toInt_lt, show (3 : Int32).toInt = 3 by decide]
    omega
  · have : j = 0 ∨ j = 1 ∨ j = 2 ∨ j = 3 := by omega
    rcases this with rfl | rfl | rfl | rfl
    · exact Or.inl e
    · exact Or.inr (Or.inl e)
    · exact Or.inr (Or.inr (Or.inl e))
    · exact Or.inr (Or.inr (Or.inr (Or.inl e)))
theorem pne {p k : Int32} (hk : ¬ (k < 0 ∨ 3 < k)) (hp : p < 0 ∨ 3 < p) : ¬ p = k := fun e => hk (e ▸ hp)
def sq_W_input (p t v : Int32) : Int32 := if p = 0 then sq_W_input_0 t v else if p = 1 then sq_W_input_1 t v else if p = 2 then sq_W_input_2 t v else if p = 3 then sq_W_input_3 t v else sq_W_input_x p t v
theorem f_W_input {h : List ab_E} {x : Nat} {w p t v : Int32} (h0 : at_W0 h x w) : ab_M y_W_input { frames := 2, cells := 0, slots := 0, locals := 80 } [.ref x, .int p, .int t, .int v] h (ab_A (some (.int (sq_W_input p t v))) (fun h1 => ab_fr (in_lo x) h h1)) := by
  rcases plr p with hq | hq | hq | hq | hq
  · subst hq
    rw [show sq_W_input 0 t v = sq_W_input_0 t v by unfold sq_W_input; rw [if_pos rfl]]
    exact f_W_input_0 h0
  · subst hq
    rw [show sq_W_input 1 t v = sq_W_input_1 t v by unfold sq_W_input; rw [if_neg (by decide), if_pos rfl]]
    exact f_W_input_1 h0
  · subst hq
    rw [show sq_W_input 2 t v = sq_W_input_2 t v by unfold sq_W_input; rw [if_neg (by decide), if_neg (by decide), if_pos rfl]]
    exact f_W_input_2 h0
  · subst hq
    rw [show sq_W_input 3 t v = sq_W_input_3 t v by unfold sq_W_input; rw [if_neg (by decide), if_neg (by decide), if_neg (by decide), if_pos rfl]]
    exact f_W_input_3 h0
  · rw [show sq_W_input p t v = sq_W_input_x p t v by unfold sq_W_input; rw [if_neg (pne (by decide) hq), if_neg (pne (by decide) hq), if_neg (pne (by decide) hq), if_neg (pne (by decide) hq)]]
    exact f_W_input_x h0 hq
def sq_W_seat0 (p : Int32) : Int32 := if p = 0 then sq_W_seat_00  else if p = 1 then sq_W_seat_10  else if p = 2 then sq_W_seat_20  else if p = 3 then sq_W_seat_30  else sq_W_seat_x p 0
theorem f_W_seat0 {h : List ab_E} {x : Nat} {w p  : Int32} (h0 : at_W0 h x w) : ab_M y_W_seat { frames := 2, cells := 0, slots := 0, locals := 80 } [.ref x, .int p, .int 0] h (ab_A (some (.int (sq_W_seat0 p ))) (fun h1 => ab_fr (in_lo x) h h1)) := by
  rcases plr p with hq | hq | hq | hq | hq
  · subst hq
    rw [show sq_W_seat0 0  = sq_W_seat_00  by unfold sq_W_seat0; rw [if_pos rfl]]
    exact f_W_seat_00 h0
  · subst hq
    rw [show sq_W_seat0 1  = sq_W_seat_10  by unfold sq_W_seat0; rw [if_neg (by decide), if_pos rfl]]
    exact f_W_seat_10 h0
  · subst hq
    rw [show sq_W_seat0 2  = sq_W_seat_20  by unfold sq_W_seat0; rw [if_neg (by decide), if_neg (by decide), if_pos rfl]]
    exact f_W_seat_20 h0
  · subst hq
    rw [show sq_W_seat0 3  = sq_W_seat_30  by unfold sq_W_seat0; rw [if_neg (by decide), if_neg (by decide), if_neg (by decide), if_pos rfl]]
    exact f_W_seat_30 h0
  · rw [show sq_W_seat0 p  = sq_W_seat_x p 0 by unfold sq_W_seat0; rw [if_neg (pne (by decide) hq), if_neg (pne (by decide) hq), if_neg (pne (by decide) hq), if_neg (pne (by decide) hq)]]
    exact f_W_seat_x h0 hq
def sq_W_seat1 (p : Int32) : Int32 := if p = 0 then sq_W_seat_01  else if p = 1 then sq_W_seat_11  else if p = 2 then sq_W_seat_21  else if p = 3 then sq_W_seat_31  else sq_W_seat_x p 1
theorem f_W_seat1 {h : List ab_E} {x : Nat} {w p  : Int32} (h0 : at_W0 h x w) : ab_M y_W_seat { frames := 2, cells := 0, slots := 0, locals := 80 } [.ref x, .int p, .int 1] h (ab_A (some (.int (sq_W_seat1 p ))) (fun h1 => ab_fr (in_lo x) h h1)) := by
  rcases plr p with hq | hq | hq | hq | hq
  · subst hq
    rw [show sq_W_seat1 0  = sq_W_seat_01  by unfold sq_W_seat1; rw [if_pos rfl]]
    exact f_W_seat_01 h0
  · subst hq
    rw [show sq_W_seat1 1  = sq_W_seat_11  by unfold sq_W_seat1; rw [if_neg (by decide), if_pos rfl]]
    exact f_W_seat_11 h0
  · subst hq
    rw [show sq_W_seat1 2  = sq_W_seat_21  by unfold sq_W_seat1; rw [if_neg (by decide), if_neg (by decide), if_pos rfl]]
    exact f_W_seat_21 h0
  · subst hq
    rw [show sq_W_seat1 3  = sq_W_seat_31  by unfold sq_W_seat1; rw [if_neg (by decide), if_neg (by decide), if_neg (by decide), if_pos rfl]]
    exact f_W_seat_31 h0
  · rw [show sq_W_seat1 p  = sq_W_seat_x p 1 by unfold sq_W_seat1; rw [if_neg (pne (by decide) hq), if_neg (pne (by decide) hq), if_neg (pne (by decide) hq), if_neg (pne (by decide) hq)]]
    exact f_W_seat_x h0 hq
def sq_M_input (p t v : Int32) : Int32 := if p = 0 then sq_M_input_0 t v else if p = 1 then sq_M_input_1 t v else if p = 2 then sq_M_input_2 t v else if p = 3 then sq_M_input_3 t v else sq_M_input_x p t v
theorem f_M_input {h : List ab_E} {m : Nat} {w p t v : Int32} (h0 : at_M0 h m w) : ab_M y_M_input { frames := 1, cells := 0, slots := 0, locals := 40 } [.ref m, .int p, .int t, .int v] h (ab_A (some (.int (sq_M_input p t v))) (fun h1 => True)) := by
  rcases plr p with hq | hq | hq | hq | hq
  · subst hq
    rw [show sq_M_input 0 t v = sq_M_input_0 t v by unfold sq_M_input; rw [if_pos rfl]]
    exact f_M_input_0 h0
  · subst hq
    rw [show sq_M_input 1 t v = sq_M_input_1 t v by unfold sq_M_input; rw [if_neg (by decide), if_pos rfl]]
    exact f_M_input_1 h0
  · subst hq
    rw [show sq_M_input 2 t v = sq_M_input_2 t v by unfold sq_M_input; rw [if_neg (by decide), if_neg (by decide), if_pos rfl]]
    exact f_M_input_2 h0
  · subst hq
    rw [show sq_M_input 3 t v = sq_M_input_3 t v by unfold sq_M_input; rw [if_neg (by decide), if_neg (by decide), if_neg (by decide), if_pos rfl]]
    exact f_M_input_3 h0
  · rw [show sq_M_input p t v = sq_M_input_x p t v by unfold sq_M_input; rw [if_neg (pne (by decide) hq), if_neg (pne (by decide) hq), if_neg (pne (by decide) hq), if_neg (pne (by decide) hq)]]
    exact f_M_input_x h0 hq
def sq_M_seat0 (p : Int32) : Int32 := if p = 0 then sq_M_seat_00  else if p = 1 then sq_M_seat_10  else if p = 2 then sq_M_seat_20  else if p = 3 then sq_M_seat_30  else sq_M_seat_x p 0
theorem f_M_seat0 {h : List ab_E} {m : Nat} {w p  : Int32} (h0 : at_M0 h m w) : ab_M y_M_seat { frames := 1, cells := 0, slots := 0, locals := 40 } [.ref m, .int p, .int 0] h (ab_A (some (.int (sq_M_seat0 p ))) (fun h1 => True)) := by
  rcases plr p with hq | hq | hq | hq | hq
  · subst hq
    rw [show sq_M_seat0 0  = sq_M_seat_00  by unfold sq_M_seat0; rw [if_pos rfl]]
    exact f_M_seat_00 h0
  · subst hq
    rw [show sq_M_seat0 1  = sq_M_seat_10  by unfold sq_M_seat0; rw [if_neg (by decide), if_pos rfl]]
    exact f_M_seat_10 h0
  · subst hq
    rw [show sq_M_seat0 2  = sq_M_seat_20  by unfold sq_M_seat0; rw [if_neg (by decide), if_neg (by decide), if_pos rfl]]
    exact f_M_seat_20 h0
  · subst hq
    rw [show sq_M_seat0 3  = sq_M_seat_30  by unfold sq_M_seat0; rw [if_neg (by decide), if_neg (by decide), if_neg (by decide), if_pos rfl]]
    exact f_M_seat_30 h0
  · rw [show sq_M_seat0 p  = sq_M_seat_x p 0 by unfold sq_M_seat0; rw [if_neg (pne (by decide) hq), if_neg (pne (by decide) hq), if_neg (pne (by decide) hq), if_neg (pne (by decide) hq)]]
    exact f_M_seat_x h0 hq
def sq_M_seat1 (p : Int32) : Int32 := if p = 0 then sq_M_seat_01  else if p = 1 then sq_M_seat_11  else if p = 2 then sq_M_seat_21  else if p = 3 then sq_M_seat_31  else sq_M_seat_x p 1
theorem f_M_seat1 {h : List ab_E} {m : Nat} {w p  : Int32} (h0 : at_M0 h m w) : ab_M y_M_seat { frames := 1, cells := 0, slots := 0, locals := 40 } [.ref m, .int p, .int 1] h (ab_A (some (.int (sq_M_seat1 p ))) (fun h1 => True)) := by
  rcases plr p with hq | hq | hq | hq | hq
  · subst hq
    rw [show sq_M_seat1 0  = sq_M_seat_01  by unfold sq_M_seat1; rw [if_pos rfl]]
    exact f_M_seat_01 h0
  · subst hq
    rw [show sq_M_seat1 1  = sq_M_seat_11  by unfold sq_M_seat1; rw [if_neg (by decide), if_pos rfl]]
    exact f_M_seat_11 h0
  · subst hq
    rw [show sq_M_seat1 2  = sq_M_seat_21  by unfold sq_M_seat1; rw [if_neg (by decide), if_neg (by decide), if_pos rfl]]
    exact f_M_seat_21 h0
  · subst hq
    rw [show sq_M_seat1 3  = sq_M_seat_31  by unfold sq_M_seat1; rw [if_neg (by decide), if_neg (by decide), if_neg (by decide), if_pos rfl]]
    exact f_M_seat_31 h0
  · rw [show sq_M_seat1 p  = sq_M_seat_x p 1 by unfold sq_M_seat1; rw [if_neg (pne (by decide) hq), if_neg (pne (by decide) hq), if_neg (pne (by decide) hq), if_neg (pne (by decide) hq)]]
    exact f_M_seat_x h0 hq
theorem eq_input (p t v : Int32) : sq_W_input p t v = sq_M_input p t v := by
  unfold sq_W_input sq_M_input
  rw [eq_input_0, eq_input_1, eq_input_2, eq_input_3]
  rfl
theorem eq_seat0 (p : Int32) : sq_W_seat0 p = sq_M_seat0 p := by
  unfold sq_W_seat0 sq_M_seat0
  rfl
theorem eq_seat1 (p : Int32) : sq_W_seat1 p = sq_M_seat1 p := by
  unfold sq_W_seat1 sq_M_seat1
  rfl
theorem bc_eq (w : Int32) : sq_bitCount (s0_W w 7) = cntu (a0_M w 25) 8 0 0 := by
  rw [cnt_eq, up_eq]
  have h := nwork_le w
  generalize nwork w = k at h
  have : k = 0 ∨ k = 1 ∨ k = 2 ∨ k = 3 ∨ k = 4 ∨ k = 5 ∨ k = 6 ∨ k = 7 ∨ k = 8 := by omega
  rcases this with rfl | rfl | rfl | rfl | rfl | rfl | rfl | rfl | rfl <;> decide
theorem eq_look (n w : Int32) : sq_W_look n w = sq_M_look n w := by
  unfold sq_W_look sq_M_look
  rw [bc_eq]
theorem eq_fall (n w : Int32) : sq_W_fall n w = sq_M_fall n w := by
  unfold sq_W_fall sq_M_fall sq_W_isWorker
  rw [up_eq]
  have e : a0_M w 25 = fun j => if j < nwork w then 1 else 0 := funext (fun j => a0_M_up w j)
  rw [e]
  have h := nwork_le w
  have h' := nwork_pos w
  generalize nwork w = k at h h'
  rcases pk_ix n (n := 8) (by decide) with q | q | ⟨j, hj, rfl⟩
  · simp only [q, if_true]
    all_goals rfl
  · have h1 : ¬ n < 0 := Int32.not_lt.mpr (Int32.le_trans (by decide) q)
    have h2 : 7 < n := Int32.lt_of_lt_of_le (by decide) q
    have h3 : (8 : Int32) ≤ n := q
    simp only [h1, h2, h3, if_true, if_false]
    all_goals rfl
  · have a1 : k = 1 ∨ k = 2 ∨ k = 3 ∨ k = 4 ∨ k = 5 ∨ k = 6 ∨ k = 7 ∨ k = 8 := by omega
    have a2 : j = 0 ∨ j = 1 ∨ j = 2 ∨ j = 3 ∨ j = 4 ∨ j = 5 ∨ j = 6 ∨ j = 7 := by omega
    rcases a1 with rfl | rfl | rfl | rfl | rfl | rfl | rfl | rfl <;> rcases a2 with rfl | rfl | rfl | rfl | rfl | rfl | rfl | rfl <;> decide
theorem eq_stand (n w : Int32) : sq_W_stand n w = sq_M_stand n w := by
  unfold sq_W_stand sq_M_stand sq_W_isWorker
  rw [up_eq]
  have e : a0_M w 25 = fun j => if j < nwork w then 1 else 0 := funext (fun j => a0_M_up w j)
  rw [e]
  have h := nwork_le w
  have h' := nwork_pos w
  generalize nwork w = k at h h'
  rcases pk_ix n (n := 8) (by decide) with q | q | ⟨j, hj, rfl⟩
  · simp only [q, if_true]
    all_goals rfl
  · have h1 : ¬ n < 0 := Int32.not_lt.mpr (Int32.le_trans (by decide) q)
    have h2 : 7 < n := Int32.lt_of_lt_of_le (by decide) q
    have h3 : (8 : Int32) ≤ n := q
    simp only [h1, h2, h3, if_true, if_false]
    all_goals rfl
  · have a1 : k = 1 ∨ k = 2 ∨ k = 3 ∨ k = 4 ∨ k = 5 ∨ k = 6 ∨ k = 7 ∨ k = 8 := by omega
    have a2 : j = 0 ∨ j = 1 ∨ j = 2 ∨ j = 3 ∨ j = 4 ∨ j = 5 ∨ j = 6 ∨ j = 7 := by omega
    rcases a1 with rfl | rfl | rfl | rfl | rfl | rfl | rfl | rfl <;> rcases a2 with rfl | rfl | rfl | rfl | rfl | rfl | rfl | rfl <;> decide
def cell0 (sL : Nat) (sxs : Nat → Int32) : Int32 := if nI sL ≤ 0 then 0 else sxs 0
set_option maxRecDepth 20000 in
theorem f_cell {G : ab_G} {sL : Nat} {sxs : Nat → Int32} {h : List ab_E} (hL : sL < 2 ^ 31) : pw_M G sL sxs y_Law_cell { frames := 0, cells := 0, slots := 0, locals := 0 } [.float 300, .int 0] h (ab_A (some (.int (cell0 sL sxs))) (fun h1 => h = h1)) := by
  refine pw_of (by decide) (Nat.le_of_ble_eq_true rfl) ?_
  intro p l e s m args below meth c hX hK
  show pw_V _ _ _ _ _ _ _ _ _ _ _ _ _ _ _ _ _ _ [some (.float 300), some (.int 0)] [] h
  refine pw_iload_n hX d_Law_cell_0 rfl rfl ?_
  refine pw_aload_n hX d_Law_cell_1 rfl rfl rfl ?_
  refine pw_slen hX hK d_Law_cell_2 ?_
  refine pw_icmp_ge hX (tgt := 12) d_Law_cell_3 (by decide) (fun q1 => ?_) (fun q1 => ?_)
  · refine pw_iconst hX (v := 0) d_Law_cell_12 (by decide) ?_
    exact pw_iret hX d_Law_cell_13 rfl (Nat.le_refl _) (Nat.le_refl _) ⟨by unfold cell0; rw [if_pos q1], rfl⟩
  · refine pw_aload_n hX d_Law_cell_6 rfl rfl rfl ?_
    refine pw_iload_n hX d_Law_cell_7 rfl rfl ?_
    refine pw_sld hX hK d_Law_cell_8 (in_of hL (by decide) q1) ?_
    refine pw_goto hX (tgt := 13) d_Law_cell_9 (by decide) ?_
    exact pw_iret hX d_Law_cell_13 rfl (Nat.le_refl _) (Nat.le_refl _) ⟨by unfold cell0; rw [if_neg q1]; rfl, rfl⟩
