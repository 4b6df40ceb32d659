/-! ===== expressions, all levels ===== -/
section Par
variable {N p w T : Nat} {L : List (Nat × Nat × Int32 × Bool × Nat)} {g : Nat → Nat} {E : Nat → Nat → Nat} {Nm : Nat → Nat → List Nat} {Pv : Nat → Nat → Int32} {nL lc dp : Nat} {ln : Nat → List Nat} {lk lf : Nat → Nat} {hd : Nat → Int32}
def rkP (N : Nat) (o : Orc_TextE) (w : Nat) (n i k : Nat) (v15 : Int32) (H16 : Hp) : Option (Int32 × Hp) :=
    rf (H16.P w 3) fun a17 =>
    ar H16 100 a17 fun n19 =>
    ck (inb (nI i) n19) <|
    bnd ((H16.D a17 (nI i).toNatClampNeg)) fun x22 =>
    if x22 = (37 : Int32) then
    if nI k = (0 : Int32) then
    B_MText_product_81 N o w (fun l1 H => B_MText_product_5 N o w n l1 H) w (nI i) (nI k) v15 1 H16
    else
    B_MText_product_81 N o w (fun l1 H => B_MText_product_5 N o w n l1 H) w (nI i) (nI k) v15 0 H16
    else
    bC (F_MText_reckons N (nI k) H16) fun v25 H26 =>
    B_MText_product_81 N o w (fun l1 H => B_MText_product_5 N o w n l1 H) w (nI i) (nI k) v15 v25 H26
theorem lv_is4 {k : Nat} : lvN k = 4 ↔ k = 20 ∨ k = 21 ∨ k = 22 := by unfold lvN; (repeat' split) <;> omega
theorem lv_is3 {k : Nat} : lvN k = 3 ↔ k = 18 ∨ k = 19 := by unfold lvN; (repeat' split) <;> omega
theorem lv_is2 {k : Nat} : lvN k = 2 ↔ k = 23 ∨ k = 24 ∨ k = 26 ∨ k = 27 ∨ k = 28 ∨ k = 29 := by unfold lvN; (repeat' split) <;> omega
theorem lv_is1 {k : Nat} : lvN k = 1 ↔ k = 30 := by unfold lvN; (repeat' split) <;> omega
theorem lv_is0 {k : Nat} : lvN k = 0 ↔ k = 31 := by unfold lvN; (repeat' split) <;> omega
theorem reck_x {B : Hp} {v : Int32} : ∃ b, F_MText_reckons N v B = some (b, B) := by
  unfold F_MText_reckons B_MText_reckons_9
  by_cases h : v = 0
  · rw [if_pos h]; exact ⟨_, rfl⟩
  · rw [if_neg h]
    by_cases h2 : v = 2
    · rw [if_pos h2]; exact ⟨_, rfl⟩
    · rw [if_neg h2]; exact ⟨_, rfl⟩
theorem pr_0 {B : Hp} {i n : Nat} {v : Int32} {o' : Orc_TextE} (hb : LB B w L T g i) (h : lvN (tkk L i) ≠ 4) : B_MText_product_5 N o' w (n + 1) v B = some (v, B) := by
  have h' : ¬ (tkk L i = 20 ∨ tkk L i = 21 ∨ tkk L i = 22) := fun z => h (lv_is4.mpr z)
  rw [B_MText_product_5, ck_t (TS hb.1.1), bC_t (show F_MText_is N w (42 : Int32) B = _ from ev_is (k := 20) hb (by decide)), decide_eq_false (by omega), if_pos bI_f, bC_t (show F_MText_is N w (47 : Int32) B = _ from ev_is (k := 21) hb (by decide)), decide_eq_false (by omega), if_pos bI_f, bC_t (show F_MText_is N w (37 : Int32) B = _ from ev_is (k := 22) hb (by decide)), decide_eq_false (by omega), if_pos bI_f]
theorem pr_1 {B : Hp} {i n k : Nat} {o' : Orc_TextE} (hb : LB B w L T g i) (h : lvN (tkk L i) = 4) : B_MText_product_5 N o' w (n + 1) (nI k) B = bC (o'.2 w (B.sD w 11 (nI (i + 1)))) (rkP N o' w n i k) := by
  have h' := lv_is4.mp h
  have e32 : B_MText_product_32 N o' w (fun l1 H => B_MText_product_5 N o' w n l1 H) (nI k) B = bC (o'.2 w (B.sD w 11 (nI (i + 1)))) (rkP N o' w n i k) := by
    unfold B_MText_product_32
    rw [ck_t (TS hb.1.1), bnd_t, bnd_t, hb.2.2.1, nI_1, bnd_t]
    rfl
  rw [B_MText_product_5, ck_t (TS hb.1.1), bC_t (show F_MText_is N w (42 : Int32) B = _ from ev_is (k := 20) hb (by decide))]
  by_cases q : tkk L i = 20
  · rw [decide_eq_true q, if_neg bI_t0, e32]
  · rw [decide_eq_false q, if_pos bI_f, bC_t (show F_MText_is N w (47 : Int32) B = _ from ev_is (k := 21) hb (by decide))]
    by_cases q2 : tkk L i = 21
    · rw [decide_eq_true q2, if_neg bI_t0, e32]
    · rw [decide_eq_false q2, if_pos bI_f, bC_t (show F_MText_is N w (37 : Int32) B = _ from ev_is (k := 22) hb (by decide)), decide_eq_true (by omega), if_neg bI_t0, e32]
theorem pr_2 {B : Hp} {i n k k2 j : Nat} {o' : Orc_TextE} (hb : LB B w L T g j) (hi : i < L.length) (h : lvN (tkk L i) = 4) (hk : k < 5) : rkP N o' w n i k (nI k2) B = bC (F_MText_goTogether N w (nI i) (nI k) (nI k2) (bI (mayN (tkk L i) k)) B) (fun v H2 => B_MText_product_5 N o' w n v H2) := by
  have h' := lv_is4.mp h
  have h61 : L.length ≤ 6001 := by have := hb.2.2.2.2.2.2.1; have := hb.2.2.2.2.2.2.2.1; omega
  have m1 := (hb.2.1 i hi).1
  have e81 : ∀ b : Int32, B_MText_product_81 N o' w (fun l1 H => B_MText_product_5 N o' w n l1 H) w (nI i) (nI k) (nI k2) b B = bC (F_MText_goTogether N w (nI i) (nI k) (nI k2) b B) (fun v H2 => B_MText_product_5 N o' w n v H2) := by
    intro b
    unfold B_MText_product_81
    rw [ck_t (TS hb.1.1)]
  unfold rkP
  rw [rf_t (TP_3 hb.1.1), ar_t (TA_3 hb.1.1), rdI (by omega) (by decide), m1]
  by_cases q : tkk L i = 22
  · rw [if_pos (by rw [q]; rfl)]
    have hm : mayN (tkk L i) k = decide (k = 0) := by rw [q]; rfl
    rw [hm]
    by_cases k0 : k = 0
    · rw [if_pos (show nI k = (0 : Int32) by rw [k0]; rfl), e81, decide_eq_true k0]; rfl
    · rw [if_neg (show ¬ nI k = (0 : Int32) from fun z => k0 ((nI_eq (b := 0) (by omega) (by decide)).mp z)), e81, decide_eq_false k0]; rfl
  · rw [if_neg (show ¬ nI (tyK (tkk L i)) = (37 : Int32) by rcases h' with z | z | z <;> rw [z] <;> first | decide | (exact absurd z q)), bC_t (ev_reck (by omega)), e81]
    have hm : mayN (tkk L i) k = decide (k = 0 ∨ k = 2) := by
      unfold mayN
      rw [if_neg (show ¬ (tkk L i = 30 ∨ tkk L i = 31) by omega), if_neg q, if_neg (show ¬ (tkk L i = 28 ∨ tkk L i = 29) by omega)]
    rw [hm]
theorem pr_4 {B : Hp} {n k p0 : Nat} {v : Int32} {o' : Orc_TextE} (h : Zf B w k p0) : B_MText_product_5 N o' w (n + 1) v B = some (v, B) := by
  rw [B_MText_product_5, ck_t (TS h.1), bC_t (fz_is h), if_pos rfl, bC_t (fz_is h), if_pos rfl, bC_t (fz_is h), if_pos rfl]
theorem pr_3 {B : Hp} {i n k kf p0 : Nat} {y : Int32} {o' : Orc_TextE} (h : Zf B w kf p0) (hi : i < 6002) : ∃ y2 H2, rkP N o' w (n + 1) i k y B = some (y2, H2) ∧ Zf H2 w kf p0 ∧ same (SRo w) B H2 := by
  have z2 := h.sD (a := w + 7) (f := i) (v := nI k) (by omega)
  have e81 : ∀ b : Int32, B_MText_product_81 N o' w (fun l1 H => B_MText_product_5 N o' w (n + 1) l1 H) w (nI i) (nI k) y b B = some (nI k, B.sD (w + 7) i (nI k)) := by
    intro b
    unfold B_MText_product_81
    rw [ck_t (TS h.1), bC_t (fz_go h hi)]
    exact pr_4 z2
  refine ⟨nI k, B.sD (w + 7) i (nI k), ?_, z2, same.rf.sD (by unfold SRo; omega)⟩
  obtain ⟨b, hb⟩ := reck_x (N := N) (B := B) (v := nI k)
  unfold rkP
  rw [rf_t (TP_3 h.1), ar_t (TA_3 h.1), rdI hi (by decide), e81, e81, bC_t hb, e81, ite_self, ite_self]
def rkS (N : Nat) (o : Orc_TextE) (w : Nat) (n i k : Nat) (v15 : Int32) (H16 : Hp) : Option (Int32 × Hp) :=
    bC (F_MText_reckons N (nI k) H16) fun v18 H19 =>
    bC (F_MText_goTogether N w (nI i) (nI k) v15 v18 H19) fun v21 H22 =>
    B_MText_sum_5 N o w n v21 H22
theorem su_0 {B : Hp} {i n : Nat} {v : Int32} {o' : Orc_TextE} (hb : LB B w L T g i) (h : lvN (tkk L i) ≠ 3) : B_MText_sum_5 N o' w (n + 1) v B = some (v, B) := by
  have h' : ¬ (tkk L i = 18 ∨ tkk L i = 19) := fun z => h (lv_is3.mpr z)
  rw [B_MText_sum_5, ck_t (TS hb.1.1), bC_t (show F_MText_is N w (43 : Int32) B = _ from ev_is (k := 18) hb (by decide)), decide_eq_false (by omega), if_pos bI_f, bC_t (show F_MText_is N w (45 : Int32) B = _ from ev_is (k := 19) hb (by decide)), decide_eq_false (by omega), if_pos bI_f]
theorem su_1 {B : Hp} {i n k : Nat} {o' : Orc_TextE} (hb : LB B w L T g i) (h : lvN (tkk L i) = 3) : B_MText_sum_5 N o' w (n + 1) (nI k) B = bC (F_MText_product N o' w (B.sD w 11 (nI (i + 1)))) (rkS N o' w n i k) := by
  have h' := lv_is3.mp h
  have e23 : B_MText_sum_23 N o' w (fun l1 H => B_MText_sum_5 N o' w n l1 H) (nI k) B = bC (F_MText_product N o' w (B.sD w 11 (nI (i + 1)))) (rkS N o' w n i k) := by
    unfold B_MText_sum_23
    rw [ck_t (TS hb.1.1), bnd_t, bnd_t, hb.2.2.1, nI_1, bnd_t]
    rfl
  rw [B_MText_sum_5, ck_t (TS hb.1.1), bC_t (show F_MText_is N w (43 : Int32) B = _ from ev_is (k := 18) hb (by decide))]
  by_cases q : tkk L i = 18
  · rw [decide_eq_true q, if_neg bI_t0, e23]
  · rw [decide_eq_false q, if_pos bI_f, bC_t (show F_MText_is N w (45 : Int32) B = _ from ev_is (k := 19) hb (by decide)), decide_eq_true (by omega), if_neg bI_t0, e23]
theorem su_2 {B : Hp} {i n k k2 j : Nat} {o' : Orc_TextE} (hb : LB B w L T g j) (hi : i < L.length) (h : lvN (tkk L i) = 3) (hk : k < 5) : rkS N o' w n i k (nI k2) B = bC (F_MText_goTogether N w (nI i) (nI k) (nI k2) (bI (mayN (tkk L i) k)) B) (fun v H2 => B_MText_sum_5 N o' w n v H2) := by
  have h' := lv_is3.mp h
  have hm : mayN (tkk L i) k = decide (k = 0 ∨ k = 2) := by
    unfold mayN
    rw [if_neg (show ¬ (tkk L i = 30 ∨ tkk L i = 31) by omega), if_neg (show ¬ tkk L i = 22 by omega), if_neg (show ¬ (tkk L i = 28 ∨ tkk L i = 29) by omega)]
  unfold rkS
  rw [bC_t (ev_reck (by omega)), hm]
theorem su_4 {B : Hp} {n k p0 : Nat} {v : Int32} {o' : Orc_TextE} (h : Zf B w k p0) : B_MText_sum_5 N o' w (n + 1) v B = some (v, B) := by
  rw [B_MText_sum_5, ck_t (TS h.1), bC_t (fz_is h), if_pos rfl, bC_t (fz_is h), if_pos rfl]
theorem su_3 {B : Hp} {i n k kf p0 : Nat} {y : Int32} {o' : Orc_TextE} (h : Zf B w kf p0) (hi : i < 6002) : ∃ y2 H2, rkS N o' w (n + 1) i k y B = some (y2, H2) ∧ Zf H2 w kf p0 ∧ same (SRo w) B H2 := by
  have z2 := h.sD (a := w + 7) (f := i) (v := nI k) (by omega)
  refine ⟨nI k, B.sD (w + 7) i (nI k), ?_, z2, same.rf.sD (by unfold SRo; omega)⟩
  obtain ⟨b, hb⟩ := reck_x (N := N) (B := B) (v := nI k)
  unfold rkS
  rw [bC_t hb, bC_t (fz_go h hi), su_4 z2]
def rkB (N : Nat) (o : Orc_TextE) (w : Nat) (n i k : Nat) (v14 : Int32) (H15 : Hp) : Option (Int32 × Hp) :=
    if nI k = (3 : Int32) then
    B_MText_both_46 N o w (fun l1 H => B_MText_both_5 N o w n l1 H) w (nI i) (nI k) v14 1 H15
    else
    B_MText_both_46 N o w (fun l1 H => B_MText_both_5 N o w n l1 H) w (nI i) (nI k) v14 0 H15
theorem bo_0 {B : Hp} {i n : Nat} {v : Int32} {o' : Orc_TextE} (hb : LB B w L T g i) (h : lvN (tkk L i) ≠ 1) : B_MText_both_5 N o' w (n + 1) v B = some (v, B) := by
  have h' : ¬ tkk L i = 30 := fun z => h (lv_is1.mpr z)
  rw [B_MText_both_5, ck_t (TS hb.1.1), bC_t (show F_MText_is N w (9 : Int32) B = _ from ev_is (k := 30) hb (by decide)), decide_eq_false (by omega), if_pos bI_f]
theorem bo_1 {B : Hp} {i n k : Nat} {o' : Orc_TextE} (hb : LB B w L T g i) (h : lvN (tkk L i) = 1) : B_MText_both_5 N o' w (n + 1) (nI k) B = bC (F_MText_compared N o' w (B.sD w 11 (nI (i + 1)))) (rkB N o' w n i k) := by
  have h' := lv_is1.mp h
  rw [B_MText_both_5, ck_t (TS hb.1.1), bC_t (show F_MText_is N w (9 : Int32) B = _ from ev_is (k := 30) hb (by decide)), decide_eq_true (by omega), if_neg bI_t0, bnd_t, bnd_t, hb.2.2.1, nI_1, bnd_t]
  rfl
theorem bo_2 {B : Hp} {i n k k2 j : Nat} {o' : Orc_TextE} (hb : LB B w L T g j) (hi : i < L.length) (h : lvN (tkk L i) = 1) (hk : k < 5) : rkB N o' w n i k (nI k2) B = bC (F_MText_goTogether N w (nI i) (nI k) (nI k2) (bI (mayN (tkk L i) k)) B) (fun v H2 => B_MText_both_5 N o' w n v H2) := by
  have h' := lv_is1.mp h
  have hm : mayN (tkk L i) k = decide (k = 3) := by
    unfold mayN
    rw [if_pos (show tkk L i = 30 ∨ tkk L i = 31 by omega)]
  unfold rkB B_MText_both_46
  rw [hm, ck_t (TS hb.1.1), ck_t (TS hb.1.1)]
  by_cases k3 : k = 3
  · rw [if_pos (show nI k = (3 : Int32) by rw [k3]; rfl), decide_eq_true k3]; rfl
  · rw [if_neg (show ¬ nI k = (3 : Int32) from fun z => k3 ((nI_eq (b := 3) (by omega) (by decide)).mp z)), decide_eq_false k3]; rfl
theorem bo_4 {B : Hp} {n k p0 : Nat} {v : Int32} {o' : Orc_TextE} (h : Zf B w k p0) : B_MText_both_5 N o' w (n + 1) v B = some (v, B) := by
  rw [B_MText_both_5, ck_t (TS h.1), bC_t (fz_is h), if_pos rfl]
theorem bo_3 {B : Hp} {i n k kf p0 : Nat} {y : Int32} {o' : Orc_TextE} (h : Zf B w kf p0) (hi : i < 6002) : ∃ y2 H2, rkB N o' w (n + 1) i k y B = some (y2, H2) ∧ Zf H2 w kf p0 ∧ same (SRo w) B H2 := by
  have z2 := h.sD (a := w + 7) (f := i) (v := nI k) (by omega)
  refine ⟨nI k, B.sD (w + 7) i (nI k), ?_, z2, same.rf.sD (by unfold SRo; omega)⟩
  unfold rkB B_MText_both_46
  rw [ck_t (TS h.1), ck_t (TS h.1), bC_t (fz_go h hi), bC_t (fz_go h hi), ite_self]
  exact bo_4 z2
def rkV (N : Nat) (o : Orc_TextE) (w : Nat) (n i k : Nat) (v14 : Int32) (H15 : Hp) : Option (Int32 × Hp) :=
    if nI k = (3 : Int32) then
    B_MText_value_46 N o w (fun l1 H => B_MText_value_5 N o w n l1 H) w (nI i) (nI k) v14 1 H15
    else
    B_MText_value_46 N o w (fun l1 H => B_MText_value_5 N o w n l1 H) w (nI i) (nI k) v14 0 H15
theorem va_0 {B : Hp} {i n : Nat} {v : Int32} {o' : Orc_TextE} (hb : LB B w L T g i) (h : lvN (tkk L i) ≠ 0) : B_MText_value_5 N o' w (n + 1) v B = some (v, B) := by
  have h' : ¬ tkk L i = 31 := fun z => h (lv_is0.mpr z)
  rw [B_MText_value_5, ck_t (TS hb.1.1), bC_t (show F_MText_is N w (10 : Int32) B = _ from ev_is (k := 31) hb (by decide)), decide_eq_false (by omega), if_pos bI_f]
theorem va_1 {B : Hp} {i n k : Nat} {o' : Orc_TextE} (hb : LB B w L T g i) (h : lvN (tkk L i) = 0) : B_MText_value_5 N o' w (n + 1) (nI k) B = bC (F_MText_both N o' w (B.sD w 11 (nI (i + 1)))) (rkV N o' w n i k) := by
  have h' := lv_is0.mp h
  rw [B_MText_value_5, ck_t (TS hb.1.1), bC_t (show F_MText_is N w (10 : Int32) B = _ from ev_is (k := 31) hb (by decide)), decide_eq_true (by omega), if_neg bI_t0, bnd_t, bnd_t, hb.2.2.1, nI_1, bnd_t]
  rfl
theorem va_2 {B : Hp} {i n k k2 j : Nat} {o' : Orc_TextE} (hb : LB B w L T g j) (hi : i < L.length) (h : lvN (tkk L i) = 0) (hk : k < 5) : rkV N o' w n i k (nI k2) B = bC (F_MText_goTogether N w (nI i) (nI k) (nI k2) (bI (mayN (tkk L i) k)) B) (fun v H2 => B_MText_value_5 N o' w n v H2) := by
  have h' := lv_is0.mp h
  have hm : mayN (tkk L i) k = decide (k = 3) := by
    unfold mayN
    rw [if_pos (show tkk L i = 30 ∨ tkk L i = 31 by omega)]
  unfold rkV B_MText_value_46
  rw [hm, ck_t (TS hb.1.1), ck_t (TS hb.1.1)]
  by_cases k3 : k = 3
  · rw [if_pos (show nI k = (3 : Int32) by rw [k3]; rfl), decide_eq_true k3]; rfl
  · rw [if_neg (show ¬ nI k = (3 : Int32) from fun z => k3 ((nI_eq (b := 3) (by omega) (by decide)).mp z)), decide_eq_false k3]; rfl
theorem va_4 {B : Hp} {n k p0 : Nat} {v : Int32} {o' : Orc_TextE} (h : Zf B w k p0) : B_MText_value_5 N o' w (n + 1) v B = some (v, B) := by
  rw [B_MText_value_5, ck_t (TS h.1), bC_t (fz_is h), if_pos rfl]
theorem va_3 {B : Hp} {i n k kf p0 : Nat} {y : Int32} {o' : Orc_TextE} (h : Zf B w kf p0) (hi : i < 6002) : ∃ y2 H2, rkV N o' w (n + 1) i k y B = some (y2, H2) ∧ Zf H2 w kf p0 ∧ same (SRo w) B H2 := by
  have z2 := h.sD (a := w + 7) (f := i) (v := nI k) (by omega)
  refine ⟨nI k, B.sD (w + 7) i (nI k), ?_, z2, same.rf.sD (by unfold SRo; omega)⟩
  unfold rkV B_MText_value_46
  rw [ck_t (TS h.1), ck_t (TS h.1), bC_t (fz_go h hi), bC_t (fz_go h hi), ite_self]
  exact va_4 z2
/-! in a fault -/
theorem fz_product {B : Hp} {k p0 : Nat} {o' : Orc_TextE} (hN : 1 ≤ N) (hz : o'.2 w B = some (0, B)) (h : Zf B w k p0) : F_MText_product N o' w B = some (0, B) := by
  obtain ⟨n, rfl⟩ : ∃ n, N = n + 1 := ⟨N - 1, by omega⟩
  unfold F_MText_product
  rw [ck_t (TS h.1), bC_t hz, pr_4 h]
theorem fz_sum {B : Hp} {k p0 : Nat} {o' : Orc_TextE} (hN : 1 ≤ N) (hz : o'.2 w B = some (0, B)) (h : Zf B w k p0) : F_MText_sum N o' w B = some (0, B) := by
  unfold F_MText_sum
  rw [ck_t (TS h.1), bC_t (fz_product hN hz h)]
  obtain ⟨n, rfl⟩ : ∃ n, N = n + 1 := ⟨N - 1, by omega⟩
  rw [su_4 h]
theorem fz_compared {B : Hp} {k p0 : Nat} {o' : Orc_TextE} (hN : 1 ≤ N) (hz : o'.2 w B = some (0, B)) (h : Zf B w k p0) : F_MText_compared N o' w B = some (0, B) := by
  have e : F_MText_isLess N w B = some (0, B) := by
    unfold F_MText_isLess
    rw [ck_t (TS h.1), bC_t (fz_is h), if_pos rfl, bC_t (fz_is h), if_pos rfl, bC_t (fz_is h), if_pos rfl, bC_t (fz_is h), if_pos rfl]
  unfold F_MText_compared
  rw [ck_t (TS h.1), bC_t (fz_sum hN hz h), bC_t e, if_pos rfl, bC_t (fz_is h), if_pos rfl, bC_t (fz_is h), if_pos rfl]
theorem fz_both {B : Hp} {k p0 : Nat} {o' : Orc_TextE} (hN : 1 ≤ N) (hz : o'.2 w B = some (0, B)) (h : Zf B w k p0) : F_MText_both N o' w B = some (0, B) := by
  unfold F_MText_both
  rw [ck_t (TS h.1), bC_t (fz_compared hN hz h)]
  obtain ⟨n, rfl⟩ : ∃ n, N = n + 1 := ⟨N - 1, by omega⟩
  rw [bo_4 h]
theorem fz_value {B : Hp} {k p0 : Nat} {o' : Orc_TextE} (hN : 1 ≤ N) (hz : o'.2 w B = some (0, B)) (h : Zf B w k p0) : F_MText_value N o' w B = some (0, B) := by
  unfold F_MText_value
  rw [ck_t (TS h.1), bC_t (fz_both hN hz h)]
  obtain ⟨n, rfl⟩ : ∃ n, N = n + 1 := ⟨N - 1, by omega⟩
  rw [va_4 h]
theorem fz_unary {B : Hp} {k p0 : Nat} {o' : Orc_TextE} (h : Zf B w k p0) : F_MText_unary N o' w B = some (0, B) := by
  unfold F_MText_unary F_MText_primary B_MText_primary_25 B_MText_primary_51
  rw [ck_t (TS h.1), bC_t (fz_is h), if_pos rfl, bC_t (fz_is h), if_pos rfl, ck_t (TS h.1), bnd_t, bnd_t, if_neg h.nle, if_neg (by decide), if_neg (by decide), ck_t (TS h.1), bnd_t, if_neg h.nle]
  rfl
theorem ZO_X {d : Nat} (hN : 1 ≤ N) : ZO w (X_TextE N (d + 2)) := fun B k p0 h => ⟨by
    show F_MText_value N (X_TextE N (d + 1)) w B = some (0, B)
    exact fz_value hN (show F_MText_unary N (X_TextE N d) w B = some (0, B) from fz_unary h) h, by
    show F_MText_unary N (X_TextE N (d + 1)) w B = some (0, B)
    exact fz_unary h⟩
end Par
