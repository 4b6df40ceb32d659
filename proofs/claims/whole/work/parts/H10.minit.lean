/-! ===== a new object of the reference (gen_m.py) ===== -/
theorem sh0_len : sh0.length = 626 := by decide +kernel
def SG (A : Hp) (n0 n : Nat) (ps : List (Nat × Nat × Nat)) (ds : List (Nat × Nat × Int32)) (sl : Nat) (H : Hp) : Prop := H.sh = sh0.take n ∧ H.sl = sl ∧ (∀ a f, a < n0 → a ≠ 517 → H.P a f = A.P a f ∧ H.D a f = A.D a f) ∧ (∀ q ∈ ps, H.P q.1 q.2.1 = .ref q.2.2) ∧ (∀ d ∈ ds, H.D d.1 d.2.1 = d.2.2) ∧ (∀ a f, 517 ≤ a → ¬ (581 ≤ a ∧ a ≤ 610) → a < n → (∀ d ∈ ds, ¬ (d.1 = a ∧ d.2.1 = f)) → H.D a f = 0)
section Par
variable {A H : Hp} {n0 n sl : Nat} {ps : List (Nat × Nat × Nat)} {ds : List (Nat × Nat × Int32)} {Pq : Hp → Prop}
theorem SG.len (h : SG A n0 n ps ds sl H) (hn : n ≤ 626) : H.sh.length = n := by rw [h.1, List.length_take, sh0_len]; omega
theorem SG.get (h : SG A n0 n ps ds sl H) {a : Nat} {s : Nat × Nat} (ha : a < n) (hs : sh0[a]? = some s) : H.sh[a]? = some s := by rw [h.1, List.getElem?_take, if_pos ha]; exact hs
theorem s_ckd {c : Prop} [Decidable c] {Y : Option (Unit × Hp)} (hc : c) (k : ∃ H2, Y = some ((), H2) ∧ Pq H2) : ∃ H2, ck c Y = some ((), H2) ∧ Pq H2 := by rw [ck_t hc]; exact k
theorem s_bnd {α : Type} {v : α} {Y : α → Option (Unit × Hp)} (k : ∃ H2, Y v = some ((), H2) ∧ Pq H2) : ∃ H2, bnd v Y = some ((), H2) ∧ Pq H2 := k
theorem s_nw {s : Nat × Nat} {kk : Nat} {Y : Hp → Nat → Option (Unit × Hp)} (h : SG A n0 n ps ds sl H) (hn : n < 626) (hs : sh0[n]? = some s) (hq : ∀ q ∈ ps, q.1 < n) (hd : ∀ d ∈ ds, d.1 < n) (h0 : n0 ≤ n) (k : ∀ H3, SG A n0 (n + 1) ps ds (sl + kk) H3 → ∃ H2, Y H3 n = some ((), H2) ∧ Pq H2) : ∃ H2, (bnd (H.nw s kk) fun H3 => bnd H.sh.length fun a4 => Y H3 a4) = some ((), H2) ∧ Pq H2 := by
  have hl := h.len (by omega)
  obtain ⟨h1, h2, h3, h4, h5, h6⟩ := h
  have p : ∀ a f, a ≠ n → (H.nw s kk).P a f = H.P a f := fun a f y => if_neg (by rw [hl]; exact y)
  have d : ∀ a f, a ≠ n → (H.nw s kk).D a f = H.D a f := fun a f y => if_neg (by rw [hl]; exact y)
  have dn : ∀ f, (H.nw s kk).D n f = 0 := fun f => if_pos hl.symm
  obtain ⟨H2, e1, e2⟩ := k (H.nw s kk) ⟨by show H.sh ++ [s] = _; rw [h1, List.take_add_one, hs]; rfl, by show H.sl + kk = _; rw [h2], fun a f y1 y2 => by rw [p a f (by omega), d a f (by omega)]; exact h3 a f y1 y2, fun q y => by rw [p _ _ (by have := hq q y; omega)]; exact h4 q y, fun q y => by rw [d _ _ (by have := hd q y; omega)]; exact h5 q y, fun a f y1 y2 y3 y4 => by
    by_cases z : a = n
    · rw [z]; exact dn f
    · rw [d a f z]; exact h6 a f y1 y2 (by omega) y4⟩
  refine ⟨H2, ?_, e2⟩
  rw [bnd_t, bnd_t, hl]
  exact e1
theorem s_sP {a f t : Nat} {Y : Hp → Option (Unit × Hp)} (h : SG A n0 n ps ds sl H) (ha : n0 ≤ a ∨ a = 517) (hq : ∀ q ∈ ps, ¬ (q.1 = a ∧ q.2.1 = f)) (k : ∀ H3, SG A n0 n ((a, f, t) :: ps) ds sl H3 → ∃ H2, Y H3 = some ((), H2) ∧ Pq H2) : ∃ H2, (bnd (H.sP a f (.ref t)) fun H3 => Y H3) = some ((), H2) ∧ Pq H2 := by
  obtain ⟨h1, h2, h3, h4, h5, h6⟩ := h
  have o : ∀ x g, ¬ (x = a ∧ g = f) → (H.sP a f (.ref t)).P x g = H.P x g := fun x g y => by
    apply sP_o
    by_cases z : x = a
    · exact .inr (fun w => y ⟨z, w⟩)
    · exact .inl z
  exact k (H.sP a f (.ref t)) ⟨h1, h2, fun x g y1 y2 => ⟨by rw [o x g (by omega)]; exact (h3 x g y1 y2).1, (h3 x g y1 y2).2⟩, fun q y => by
    rcases List.mem_cons.mp y with y | y
    · rw [y]; exact sP_s
    · rw [o _ _ (hq q y)]; exact h4 q y, h5, h6⟩
theorem s_sD {a f : Nat} {v : Int32} {Y : Hp → Option (Unit × Hp)} (h : SG A n0 n ps ds sl H) (ha : n0 ≤ a ∨ a = 517) (hq : ∀ d ∈ ds, ¬ (d.1 = a ∧ d.2.1 = f)) (k : ∀ H3, SG A n0 n ps ((a, f, v) :: ds) sl H3 → ∃ H2, Y H3 = some ((), H2) ∧ Pq H2) : ∃ H2, (bnd (H.sD a f v) fun H3 => Y H3) = some ((), H2) ∧ Pq H2 := by
  obtain ⟨h1, h2, h3, h4, h5, h6⟩ := h
  exact k (H.sD a f v) ⟨h1, h2, fun x g y1 y2 => ⟨(h3 x g y1 y2).1, by rw [rdnn (by omega)]; exact (h3 x g y1 y2).2⟩, h4, fun q y => by
    rcases List.mem_cons.mp y with y | y
    · rw [y]; exact rds
    · rw [rdnn (hq q y)]; exact h5 q y, fun x g y1 y2 y3 y4 => by
    rw [rdnn (fun z => y4 (a, f, v) List.mem_cons_self ⟨z.1.symm, z.2.symm⟩)]
    exact h6 x g y1 y2 y3 (fun q y => y4 q (List.mem_cons_of_mem _ y))⟩
theorem s_call {F : Option (Unit × Hp)} {Y : Unit → Hp → Option (Unit × Hp)} {Qq : Hp → Prop} (z : ∃ H3, F = some ((), H3) ∧ Qq H3) (k : ∀ H3, Qq H3 → ∃ H2, Y () H3 = some ((), H2) ∧ Pq H2) : ∃ H2, bC F Y = some ((), H2) ∧ Pq H2 := by
  obtain ⟨H3, z1, z2⟩ := z
  obtain ⟨H2, k1, k2⟩ := k H3 z2
  exact ⟨H2, by rw [bC_t z1]; exact k1, k2⟩
theorem s_end {H2 : Hp} (h : Pq H2) : ∃ H3, some ((), H2) = some ((), H3) ∧ Pq H3 := ⟨H2, rfl, h⟩
theorem SG.base (h : SG A n0 n ps ds sl H) : SG H n n ps ds sl H := ⟨h.1, h.2.1, fun _ _ _ _ => ⟨rfl, rfl⟩, h.2.2.2⟩
/-- what a new world of the reference holds -/
def WF (u : Nat) (B2 : Hp) : Prop := (B2.D u 0 = 0 ∧ B2.D u 1 = 0 ∧ B2.D u 2 = 0 ∧ B2.D u 3 = 0 ∧ B2.D u 8 = 0 ∧ B2.D u 13 = -1 ∧ B2.D u 16 = 0) ∧ ∀ q, q < 256 → B2.D (u + 1) q = 0 ∧ B2.D (u + 2) q = 0 ∧ B2.D (u + 3) q = 0
theorem WF.fr {u : Nat} {B B2 : Hp} (h : WF u B) (hd : ∀ a f, u ≤ a → a ≤ u + 3 → B2.D a f = B.D a f) : WF u B2 := by
  unfold WF at h ⊢
  rw [hd _ _ (by omega) (by omega), hd _ _ (by omega) (by omega), hd _ _ (by omega) (by omega), hd _ _ (by omega) (by omega), hd _ _ (by omega) (by omega), hd _ _ (by omega) (by omega), hd _ _ (by omega) (by omega)]
  exact ⟨h.1, fun q hq => by rw [hd _ _ (by omega) (by omega), hd _ _ (by omega) (by omega), hd _ _ (by omega) (by omega)]; exact h.2 q hq⟩
def usP (u : Nat) : List (Nat × Nat × Nat) := [(u, 4, u + 1), (u, 5, u + 2), (u, 6, u + 3), (u, 7, u + 4), (u, 9, u + 5), (u, 10, u + 6), (u, 11, u + 7), (u, 12, u + 8), (u, 17, u + 9)]
def usS (u : Nat) : List (Nat × Nat × Nat) := [(u, 13, 0), (u + 1, 100, 256), (u + 2, 102, 256), (u + 3, 100, 256), (u + 4, 100, 12288), (u + 5, 100, 256), (u + 6, 100, 256), (u + 7, 100, 256), (u + 8, 100, 1024), (u + 9, 100, 32)]
theorem SG.isU {u : Nat} (h : SG A n0 n ps ds sl H) (hn : u + 9 < n) (hs : (usS u).all (fun x => decide (sh0[x.1]? = some (x.2.1, x.2.2))) = true) (hp : (usP u).all (fun q => decide (q ∈ ps)) = true) : isU H u := by
  have s : ∀ x ∈ usS u, H.sh[x.1]? = some (x.2.1, x.2.2) := fun x y => h.get (by simp only [usS, List.mem_cons, List.not_mem_nil, or_false] at y; rcases y with rfl | rfl | rfl | rfl | rfl | rfl | rfl | rfl | rfl | rfl <;> omega) (of_decide_eq_true (List.all_eq_true.mp hs x y))
  have q : ∀ x ∈ usP u, H.P x.1 x.2.1 = .ref x.2.2 := fun x y => h.2.2.2.1 x (of_decide_eq_true (List.all_eq_true.mp hp x y))
  exact ⟨s (u, 13, 0) (by simp [usS]), ⟨q (u, 4, u + 1) (by simp [usP]), s (u + 1, 100, 256) (by simp [usS])⟩, ⟨q (u, 5, u + 2) (by simp [usP]), s (u + 2, 102, 256) (by simp [usS])⟩, ⟨q (u, 6, u + 3) (by simp [usP]), s (u + 3, 100, 256) (by simp [usS])⟩, ⟨q (u, 7, u + 4) (by simp [usP]), s (u + 4, 100, 12288) (by simp [usS])⟩, ⟨q (u, 9, u + 5) (by simp [usP]), s (u + 5, 100, 256) (by simp [usS])⟩, ⟨q (u, 10, u + 6) (by simp [usP]), s (u + 6, 100, 256) (by simp [usS])⟩, ⟨q (u, 11, u + 7) (by simp [usP]), s (u + 7, 100, 256) (by simp [usS])⟩, ⟨q (u, 12, u + 8) (by simp [usP]), s (u + 8, 100, 1024) (by simp [usS])⟩, q (u, 17, u + 9) (by simp [usP]), s (u + 9, 100, 32) (by simp [usS])⟩
theorem SG.sm {u : Nat} {B2 : Hp} (h : SG A n0 n ps ds sl H) (hs : same (cU u) H B2) (hn : n0 ≤ u) (hu : 581 ≤ u ∧ u ≤ 601) (hd : ∀ d ∈ ds, d.1 < u) : SG A n0 n ps ds sl B2 := by
  obtain ⟨h1, h2, h3, h4, h5, h6⟩ := h
  have d : ∀ a f, ¬ (u ≤ a ∧ a ≤ u + 9) → B2.D a f = H.D a f := fun a f y => hs.1 _ _ y
  exact ⟨by rw [hs.2.2.2.1]; exact h1, by rw [hs.2.2.2.2]; exact h2, fun a f y1 y2 => by rw [hs.2.1, d a f (by omega)]; exact h3 a f y1 y2, fun q y => by rw [hs.2.1]; exact h4 q y, fun q y => by rw [d _ _ (by have := hd q y; omega)]; exact h5 q y, fun a f y1 y2 y3 y4 => by rw [d a f (by omega)]; exact h6 a f y1 y2 y3 y4⟩
def nwk (w : Int32) : Nat := if (1 : Int32) ≤ w then (if w ≤ 8 then w.toNatClampNeg else 8) else 1
theorem m_lp2 {N : Nat} {w : Int32} {cn : Nat} (hc : cn ≤ 8) : ∀ j i f B, i + j = cn → j < f → B.sh[517]? = some (12, 0) → B.P 517 25 = .ref 623 → B.sh[623]? = some (102, 8) → ∃ B2, B_M_init_191 N 517 w f (nI cn) (nI i) B = some ((), B2) ∧ same (fun a g => a = 623 ∧ i ≤ g ∧ g < cn) B B2 ∧ ∀ q, i ≤ q → q < cn → B2.D 623 q = 1 := by
  intro j
  induction j with
  | zero =>
    intro i f B hi hf h1 h2 h3
    obtain ⟨f, rfl⟩ : ∃ y, f = y + 1 := ⟨f - 1, by omega⟩
    exact ⟨B, by rw [B_M_init_191, if_pos (nI_le (by omega) (by omega))], same.rf, fun q _ _ => by omega⟩
  | succ j ih =>
    intro i f B hi hf h1 h2 h3
    obtain ⟨f, rfl⟩ : ∃ y, f = y + 1 := ⟨f - 1, by omega⟩
    obtain ⟨B2, r1, r2, r3⟩ := ih (i + 1) f (B.sD 623 i 1) (by omega) (by omega) h1 h2 h3
    refine ⟨B2, ?_, ((same.rf (H := B)).sD ⟨rfl, Nat.le_refl _, by omega⟩).tr (r2.mono fun a g y => ⟨y.1, by omega, y.2.2⟩), fun q q1 q2 => ?_⟩
    · rw [B_M_init_191, if_neg (nI_ge (by omega) (by omega)), ck_t h1, rf_t h2, ar_t h3, wrI (show i < 8 by omega) (by decide), show vp_nar .boolean (1 : Int32) = (1 : Int32) from rfl, nI_1]
      exact r1
    · by_cases y : q = i
      · rw [y, r2.1 _ _ (by omega), rds]
      · exact r3 q (by omega) q2
theorem m_fin {N : Nat} {w : Int32} (hN : 300 ≤ N) (h : SG A n0 625 ps ds sl H) (hp : (517, 25, 623) ∈ ps) (hd : ∀ d ∈ ds, d.1 < 623) : ∃ H2, (if (1 : Int32) ≤ w then if w ≤ (8 : Int32) then B_M_init_188 N 517 w w H else B_M_init_188 N 517 w 8 H else B_M_init_188 N 517 w 1 H) = some ((), H2) ∧ same (fun a g => a = 623) H H2 ∧ ∀ j, j < 8 → H2.D 623 j = if j < nwk w then 1 else 0 := by
  have s1 : H.sh[517]? = some (12, 0) := h.get (by decide) (by decide +kernel)
  have s2 : H.sh[623]? = some (102, 8) := h.get (by decide) (by decide +kernel)
  have z : ∀ j, H.D 623 j = 0 := fun j => h.2.2.2.2.2 623 j (by decide) (by decide) (by decide) (fun d y k => by have := hd d y; omega)
  have go : ∀ cn, cn ≤ 8 → ∃ H2, B_M_init_188 N 517 w (nI cn) H = some ((), H2) ∧ same (fun a g => a = 623) H H2 ∧ ∀ j, j < 8 → H2.D 623 j = if j < cn then 1 else 0 := fun cn hc => by
    have lp : ∃ B2, B_M_init_191 N 517 w N (nI cn) (nI 0) H = some ((), B2) ∧ same (fun a g => a = 623 ∧ 0 ≤ g ∧ g < cn) H B2 ∧ ∀ q, 0 ≤ q → q < cn → B2.D 623 q = 1 := by
      obtain ⟨B2, r1, r2, r3⟩ := m_lp2 (N := N) (w := w) hc cn 0 N H (by omega) (by omega) s1 (h.2.2.2.1 _ hp) s2
      exact ⟨B2, r1, r2.mono fun a g y => ⟨y.1, by omega, y.2.2⟩, r3⟩
    obtain ⟨B2, r1, r2, r3⟩ := lp
    refine ⟨B2, r1, r2.mono fun a g y => y.1, fun j hj => ?_⟩
    by_cases y : j < cn
    · rw [if_pos y]; exact r3 j (Nat.zero_le _) y
    · rw [if_neg y, r2.1 _ _ (fun k => y k.2.2)]; exact z j
  unfold nwk
  by_cases y1 : (1 : Int32) ≤ w
  · rw [if_pos y1]
    by_cases y2 : w ≤ 8
    · obtain ⟨k, k1, k2⟩ := to_nI (v := w) (n := 8) (by decide) (Int32.not_lt.mpr (Int32.le_trans (by decide) y1)) y2
      rw [if_pos y2, if_pos y1, if_pos y2]
      have := go k k1
      rw [← k2] at this
      rw [k2, cN (by omega), ← k2]
      exact this
    · rw [if_neg y2, if_pos y1, if_neg y2]
      exact go 8 (Nat.le_refl _)
  · rw [if_neg y1, if_neg y1]
    exact go 1 (by decide)
def ptM : List (Nat × Nat × Nat) := [(517, 26, 624), (517, 25, 623), (517, 21, 622), (517, 19, 621), (517, 18, 620), (517, 17, 619), (517, 16, 618), (517, 15, 617), (517, 14, 616), (517, 11, 611), (611, 15, 615), (611, 14, 614), (611, 13, 613), (611, 3, 612), (517, 10, 601), (601, 17, 610), (601, 12, 609), (601, 11, 608), (601, 10, 607), (601, 9, 606), (601, 7, 605), (601, 6, 604), (601, 5, 603), (601, 4, 602), (517, 9, 591), (591, 17, 600), (591, 12, 599), (591, 11, 598), (591, 10, 597), (591, 9, 596), (591, 7, 595), (591, 6, 594), (591, 5, 593), (591, 4, 592), (517, 8, 581), (581, 17, 590), (581, 12, 589), (581, 11, 588), (581, 10, 587), (581, 9, 586), (581, 7, 585), (581, 6, 584), (581, 5, 583), (581, 4, 582), (517, 4, 550), (550, 40, 580), (550, 39, 579), (550, 38, 578), (550, 36, 577), (550, 35, 576), (550, 34, 575), (550, 33, 574), (550, 32, 573), (550, 31, 572), (550, 30, 571), (550, 28, 570), (550, 27, 569), (550, 25, 568), (550, 24, 567), (550, 23, 566), (550, 22, 565), (550, 20, 564), (550, 19, 563), (550, 18, 562), (550, 17, 561), (550, 15, 560), (550, 14, 559), (550, 13, 558), (550, 8, 557), (550, 7, 556), (550, 6, 555), (550, 5, 554), (550, 4, 553), (550, 3, 552), (550, 0, 551), (517, 3, 519), (519, 40, 549), (519, 39, 548), (519, 38, 547), (519, 36, 546), (519, 35, 545), (519, 34, 544), (519, 33, 543), (519, 32, 542), (519, 31, 541), (519, 30, 540), (519, 28, 539), (519, 27, 538), (519, 25, 537), (519, 24, 536), (519, 23, 535), (519, 22, 534), (519, 20, 533), (519, 19, 532), (519, 18, 531), (519, 17, 530), (519, 15, 529), (519, 14, 528), (519, 13, 527), (519, 8, 526), (519, 7, 525), (519, 6, 524), (519, 5, 523), (519, 4, 522), (519, 3, 521), (519, 0, 520), (517, 1, 518)]
set_option maxRecDepth 20000 in
theorem mi_519 {N : Nat} (h0 : SG A 517 520 [(517, 1, 518)] [] (sl) H) : ∃ H2, F_MText_init N 519 H = some ((), H2) ∧ SG A 517 550 [(519, 40, 549), (519, 39, 548), (519, 38, 547), (519, 36, 546), (519, 35, 545), (519, 34, 544), (519, 33, 543), (519, 32, 542), (519, 31, 541), (519, 30, 540), (519, 28, 539), (519, 27, 538), (519, 25, 537), (519, 24, 536), (519, 23, 535), (519, 22, 534), (519, 20, 533), (519, 19, 532), (519, 18, 531), (519, 17, 530), (519, 15, 529), (519, 14, 528), (519, 13, 527), (519, 8, 526), (519, 7, 525), (519, 6, 524), (519, 5, 523), (519, 4, 522), (519, 3, 521), (519, 0, 520), (517, 1, 518)] [] (sl + 6000 + 6002 + 6002 + 6002 + 6002 + 6002 + 6002 + 56 + 56 + 56 + 16 + 17 + 48 + 48 + 8 + 8 + 32 + 32 + 16 + 768 + 16 + 16 + 16 + 16 + 16 + 16 + 16 + 12 + 12 + 12) H2 := by
  unfold F_MText_init
  refine s_ckd (by decide) ?_
  refine s_ckd (by decide) ?_
  refine s_nw h0 (by decide) (by decide +kernel) (by decide) (by decide) (by decide) (fun K1 h1 => ?_)
  refine s_ckd (SG.get h1 (by decide) (by decide +kernel)) ?_
  refine s_sP h1 (by decide) (by decide) (fun K2 h2 => ?_)
  refine s_ckd (by decide) ?_
  refine s_ckd (by decide) ?_
  refine s_nw h2 (by decide) (by decide +kernel) (by decide) (by decide) (by decide) (fun K3 h3 => ?_)
  refine s_sP h3 (by decide) (by decide) (fun K4 h4 => ?_)
  refine s_ckd (by decide) ?_
  refine s_ckd (by decide) ?_
  refine s_nw h4 (by decide) (by decide +kernel) (by decide) (by decide) (by decide) (fun K5 h5 => ?_)
  refine s_sP h5 (by decide) (by decide) (fun K6 h6 => ?_)
  refine s_ckd (by decide) ?_
  refine s_ckd (by decide) ?_
  refine s_nw h6 (by decide) (by decide +kernel) (by decide) (by decide) (by decide) (fun K7 h7 => ?_)
  refine s_sP h7 (by decide) (by decide) (fun K8 h8 => ?_)
  refine s_ckd (by decide) ?_
  refine s_ckd (by decide) ?_
  refine s_nw h8 (by decide) (by decide +kernel) (by decide) (by decide) (by decide) (fun K9 h9 => ?_)
  refine s_sP h9 (by decide) (by decide) (fun K10 h10 => ?_)
  refine s_ckd (by decide) ?_
  refine s_ckd (by decide) ?_
  refine s_nw h10 (by decide) (by decide +kernel) (by decide) (by decide) (by decide) (fun K11 h11 => ?_)
  refine s_sP h11 (by decide) (by decide) (fun K12 h12 => ?_)
  refine s_ckd (by decide) ?_
  refine s_ckd (by decide) ?_
  refine s_nw h12 (by decide) (by decide +kernel) (by decide) (by decide) (by decide) (fun K13 h13 => ?_)
  refine s_sP h13 (by decide) (by decide) (fun K14 h14 => ?_)
  refine s_ckd (by decide) ?_
  refine s_ckd (by decide) ?_
  refine s_nw h14 (by decide) (by decide +kernel) (by decide) (by decide) (by decide) (fun K15 h15 => ?_)
  refine s_sP h15 (by decide) (by decide) (fun K16 h16 => ?_)
  refine s_ckd (by decide) ?_
  refine s_ckd (by decide) ?_
  refine s_nw h16 (by decide) (by decide +kernel) (by decide) (by decide) (by decide) (fun K17 h17 => ?_)
  refine s_sP h17 (by decide) (by decide) (fun K18 h18 => ?_)
  refine s_ckd (by decide) ?_
  refine s_ckd (by decide) ?_
  refine s_nw h18 (by decide) (by decide +kernel) (by decide) (by decide) (by decide) (fun K19 h19 => ?_)
  refine s_sP h19 (by decide) (by decide) (fun K20 h20 => ?_)
  refine s_ckd (by decide) ?_
  refine s_ckd (by decide) ?_
  refine s_nw h20 (by decide) (by decide +kernel) (by decide) (by decide) (by decide) (fun K21 h21 => ?_)
  refine s_sP h21 (by decide) (by decide) (fun K22 h22 => ?_)
  refine s_ckd (by decide) ?_
  refine s_ckd (by decide) ?_
  refine s_nw h22 (by decide) (by decide +kernel) (by decide) (by decide) (by decide) (fun K23 h23 => ?_)
  refine s_sP h23 (by decide) (by decide) (fun K24 h24 => ?_)
  refine s_ckd (by decide) ?_
  refine s_ckd (by decide) ?_
  refine s_nw h24 (by decide) (by decide +kernel) (by decide) (by decide) (by decide) (fun K25 h25 => ?_)
  refine s_sP h25 (by decide) (by decide) (fun K26 h26 => ?_)
  refine s_ckd (by decide) ?_
  refine s_ckd (by decide) ?_
  refine s_nw h26 (by decide) (by decide +kernel) (by decide) (by decide) (by decide) (fun K27 h27 => ?_)
  refine s_sP h27 (by decide) (by decide) (fun K28 h28 => ?_)
  refine s_ckd (by decide) ?_
  refine s_ckd (by decide) ?_
  refine s_nw h28 (by decide) (by decide +kernel) (by decide) (by decide) (by decide) (fun K29 h29 => ?_)
  refine s_sP h29 (by decide) (by decide) (fun K30 h30 => ?_)
  refine s_ckd (by decide) ?_
  refine s_ckd (by decide) ?_
  refine s_nw h30 (by decide) (by decide +kernel) (by decide) (by decide) (by decide) (fun K31 h31 => ?_)
  refine s_sP h31 (by decide) (by decide) (fun K32 h32 => ?_)
  refine s_ckd (by decide) ?_
  refine s_ckd (by decide) ?_
  refine s_nw h32 (by decide) (by decide +kernel) (by decide) (by decide) (by decide) (fun K33 h33 => ?_)
  refine s_sP h33 (by decide) (by decide) (fun K34 h34 => ?_)
  refine s_ckd (by decide) ?_
  refine s_ckd (by decide) ?_
  refine s_nw h34 (by decide) (by decide +kernel) (by decide) (by decide) (by decide) (fun K35 h35 => ?_)
  refine s_sP h35 (by decide) (by decide) (fun K36 h36 => ?_)
  refine s_ckd (by decide) ?_
  refine s_ckd (by decide) ?_
  refine s_nw h36 (by decide) (by decide +kernel) (by decide) (by decide) (by decide) (fun K37 h37 => ?_)
  refine s_sP h37 (by decide) (by decide) (fun K38 h38 => ?_)
  refine s_ckd (by decide) ?_
  refine s_ckd (by decide) ?_
  refine s_nw h38 (by decide) (by decide +kernel) (by decide) (by decide) (by decide) (fun K39 h39 => ?_)
  refine s_sP h39 (by decide) (by decide) (fun K40 h40 => ?_)
  refine s_ckd (by decide) ?_
  refine s_ckd (by decide) ?_
  refine s_nw h40 (by decide) (by decide +kernel) (by decide) (by decide) (by decide) (fun K41 h41 => ?_)
  refine s_sP h41 (by decide) (by decide) (fun K42 h42 => ?_)
  refine s_ckd (by decide) ?_
  refine s_ckd (by decide) ?_
  refine s_nw h42 (by decide) (by decide +kernel) (by decide) (by decide) (by decide) (fun K43 h43 => ?_)
  refine s_sP h43 (by decide) (by decide) (fun K44 h44 => ?_)
  refine s_ckd (by decide) ?_
  refine s_ckd (by decide) ?_
  refine s_nw h44 (by decide) (by decide +kernel) (by decide) (by decide) (by decide) (fun K45 h45 => ?_)
  refine s_sP h45 (by decide) (by decide) (fun K46 h46 => ?_)
  refine s_ckd (by decide) ?_
  refine s_ckd (by decide) ?_
  refine s_nw h46 (by decide) (by decide +kernel) (by decide) (by decide) (by decide) (fun K47 h47 => ?_)
  refine s_sP h47 (by decide) (by decide) (fun K48 h48 => ?_)
  refine s_ckd (by decide) ?_
  refine s_ckd (by decide) ?_
  refine s_nw h48 (by decide) (by decide +kernel) (by decide) (by decide) (by decide) (fun K49 h49 => ?_)
  refine s_sP h49 (by decide) (by decide) (fun K50 h50 => ?_)
  refine s_ckd (by decide) ?_
  refine s_ckd (by decide) ?_
  refine s_nw h50 (by decide) (by decide +kernel) (by decide) (by decide) (by decide) (fun K51 h51 => ?_)
  refine s_sP h51 (by decide) (by decide) (fun K52 h52 => ?_)
  refine s_ckd (by decide) ?_
  refine s_ckd (by decide) ?_
  refine s_nw h52 (by decide) (by decide +kernel) (by decide) (by decide) (by decide) (fun K53 h53 => ?_)
  refine s_sP h53 (by decide) (by decide) (fun K54 h54 => ?_)
  refine s_ckd (by decide) ?_
  refine s_ckd (by decide) ?_
  refine s_nw h54 (by decide) (by decide +kernel) (by decide) (by decide) (by decide) (fun K55 h55 => ?_)
  refine s_sP h55 (by decide) (by decide) (fun K56 h56 => ?_)
  refine s_ckd (by decide) ?_
  refine s_ckd (by decide) ?_
  refine s_nw h56 (by decide) (by decide +kernel) (by decide) (by decide) (by decide) (fun K57 h57 => ?_)
  refine s_sP h57 (by decide) (by decide) (fun K58 h58 => ?_)
  refine s_ckd (by decide) ?_
  refine s_ckd (by decide) ?_
  refine s_nw h58 (by decide) (by decide +kernel) (by decide) (by decide) (by decide) (fun K59 h59 => ?_)
  refine s_sP h59 (by decide) (by decide) (fun K60 h60 => ?_)
  exact s_end h60
set_option maxRecDepth 20000 in
theorem mi_550 {N : Nat} (h0 : SG A 517 551 [(517, 3, 519), (519, 40, 549), (519, 39, 548), (519, 38, 547), (519, 36, 546), (519, 35, 545), (519, 34, 544), (519, 33, 543), (519, 32, 542), (519, 31, 541), (519, 30, 540), (519, 28, 539), (519, 27, 538), (519, 25, 537), (519, 24, 536), (519, 23, 535), (519, 22, 534), (519, 20, 533), (519, 19, 532), (519, 18, 531), (519, 17, 530), (519, 15, 529), (519, 14, 528), (519, 13, 527), (519, 8, 526), (519, 7, 525), (519, 6, 524), (519, 5, 523), (519, 4, 522), (519, 3, 521), (519, 0, 520), (517, 1, 518)] [] (sl) H) : ∃ H2, F_MText_init N 550 H = some ((), H2) ∧ SG A 517 581 [(550, 40, 580), (550, 39, 579), (550, 38, 578), (550, 36, 577), (550, 35, 576), (550, 34, 575), (550, 33, 574), (550, 32, 573), (550, 31, 572), (550, 30, 571), (550, 28, 570), (550, 27, 569), (550, 25, 568), (550, 24, 567), (550, 23, 566), (550, 22, 565), (550, 20, 564), (550, 19, 563), (550, 18, 562), (550, 17, 561), (550, 15, 560), (550, 14, 559), (550, 13, 558), (550, 8, 557), (550, 7, 556), (550, 6, 555), (550, 5, 554), (550, 4, 553), (550, 3, 552), (550, 0, 551), (517, 3, 519), (519, 40, 549), (519, 39, 548), (519, 38, 547), (519, 36, 546), (519, 35, 545), (519, 34, 544), (519, 33, 543), (519, 32, 542), (519, 31, 541), (519, 30, 540), (519, 28, 539), (519, 27, 538), (519, 25, 537), (519, 24, 536), (519, 23, 535), (519, 22, 534), (519, 20, 533), (519, 19, 532), (519, 18, 531), (519, 17, 530), (519, 15, 529), (519, 14, 528), (519, 13, 527), (519, 8, 526), (519, 7, 525), (519, 6, 524), (519, 5, 523), (519, 4, 522), (519, 3, 521), (519, 0, 520), (517, 1, 518)] [] (sl + 6000 + 6002 + 6002 + 6002 + 6002 + 6002 + 6002 + 56 + 56 + 56 + 16 + 17 + 48 + 48 + 8 + 8 + 32 + 32 + 16 + 768 + 16 + 16 + 16 + 16 + 16 + 16 + 16 + 12 + 12 + 12) H2 := by
  unfold F_MText_init
  refine s_ckd (by decide) ?_
  refine s_ckd (by decide) ?_
  refine s_nw h0 (by decide) (by decide +kernel) (by decide) (by decide) (by decide) (fun K1 h1 => ?_)
  refine s_ckd (SG.get h1 (by decide) (by decide +kernel)) ?_
  refine s_sP h1 (by decide) (by decide) (fun K2 h2 => ?_)
  refine s_ckd (by decide) ?_
  refine s_ckd (by decide) ?_
  refine s_nw h2 (by decide) (by decide +kernel) (by decide) (by decide) (by decide) (fun K3 h3 => ?_)
  refine s_sP h3 (by decide) (by decide) (fun K4 h4 => ?_)
  refine s_ckd (by decide) ?_
  refine s_ckd (by decide) ?_
  refine s_nw h4 (by decide) (by decide +kernel) (by decide) (by decide) (by decide) (fun K5 h5 => ?_)
  refine s_sP h5 (by decide) (by decide) (fun K6 h6 => ?_)
  refine s_ckd (by decide) ?_
  refine s_ckd (by decide) ?_
  refine s_nw h6 (by decide) (by decide +kernel) (by decide) (by decide) (by decide) (fun K7 h7 => ?_)
  refine s_sP h7 (by decide) (by decide) (fun K8 h8 => ?_)
  refine s_ckd (by decide) ?_
  refine s_ckd (by decide) ?_
  refine s_nw h8 (by decide) (by decide +kernel) (by decide) (by decide) (by decide) (fun K9 h9 => ?_)
  refine s_sP h9 (by decide) (by decide) (fun K10 h10 => ?_)
  refine s_ckd (by decide) ?_
  refine s_ckd (by decide) ?_
  refine s_nw h10 (by decide) (by decide +kernel) (by decide) (by decide) (by decide) (fun K11 h11 => ?_)
  refine s_sP h11 (by decide) (by decide) (fun K12 h12 => ?_)
  refine s_ckd (by decide) ?_
  refine s_ckd (by decide) ?_
  refine s_nw h12 (by decide) (by decide +kernel) (by decide) (by decide) (by decide) (fun K13 h13 => ?_)
  refine s_sP h13 (by decide) (by decide) (fun K14 h14 => ?_)
  refine s_ckd (by decide) ?_
  refine s_ckd (by decide) ?_
  refine s_nw h14 (by decide) (by decide +kernel) (by decide) (by decide) (by decide) (fun K15 h15 => ?_)
  refine s_sP h15 (by decide) (by decide) (fun K16 h16 => ?_)
  refine s_ckd (by decide) ?_
  refine s_ckd (by decide) ?_
  refine s_nw h16 (by decide) (by decide +kernel) (by decide) (by decide) (by decide) (fun K17 h17 => ?_)
  refine s_sP h17 (by decide) (by decide) (fun K18 h18 => ?_)
  refine s_ckd (by decide) ?_
  refine s_ckd (by decide) ?_
  refine s_nw h18 (by decide) (by decide +kernel) (by decide) (by decide) (by decide) (fun K19 h19 => ?_)
  refine s_sP h19 (by decide) (by decide) (fun K20 h20 => ?_)
  refine s_ckd (by decide) ?_
  refine s_ckd (by decide) ?_
  refine s_nw h20 (by decide) (by decide +kernel) (by decide) (by decide) (by decide) (fun K21 h21 => ?_)
  refine s_sP h21 (by decide) (by decide) (fun K22 h22 => ?_)
  refine s_ckd (by decide) ?_
  refine s_ckd (by decide) ?_
  refine s_nw h22 (by decide) (by decide +kernel) (by decide) (by decide) (by decide) (fun K23 h23 => ?_)
  refine s_sP h23 (by decide) (by decide) (fun K24 h24 => ?_)
  refine s_ckd (by decide) ?_
  refine s_ckd (by decide) ?_
  refine s_nw h24 (by decide) (by decide +kernel) (by decide) (by decide) (by decide) (fun K25 h25 => ?_)
  refine s_sP h25 (by decide) (by decide) (fun K26 h26 => ?_)
  refine s_ckd (by decide) ?_
  refine s_ckd (by decide) ?_
  refine s_nw h26 (by decide) (by decide +kernel) (by decide) (by decide) (by decide) (fun K27 h27 => ?_)
  refine s_sP h27 (by decide) (by decide) (fun K28 h28 => ?_)
  refine s_ckd (by decide) ?_
  refine s_ckd (by decide) ?_
  refine s_nw h28 (by decide) (by decide +kernel) (by decide) (by decide) (by decide) (fun K29 h29 => ?_)
  refine s_sP h29 (by decide) (by decide) (fun K30 h30 => ?_)
  refine s_ckd (by decide) ?_
  refine s_ckd (by decide) ?_
  refine s_nw h30 (by decide) (by decide +kernel) (by decide) (by decide) (by decide) (fun K31 h31 => ?_)
  refine s_sP h31 (by decide) (by decide) (fun K32 h32 => ?_)
  refine s_ckd (by decide) ?_
  refine s_ckd (by decide) ?_
  refine s_nw h32 (by decide) (by decide +kernel) (by decide) (by decide) (by decide) (fun K33 h33 => ?_)
  refine s_sP h33 (by decide) (by decide) (fun K34 h34 => ?_)
  refine s_ckd (by decide) ?_
  refine s_ckd (by decide) ?_
  refine s_nw h34 (by decide) (by decide +kernel) (by decide) (by decide) (by decide) (fun K35 h35 => ?_)
  refine s_sP h35 (by decide) (by decide) (fun K36 h36 => ?_)
  refine s_ckd (by decide) ?_
  refine s_ckd (by decide) ?_
  refine s_nw h36 (by decide) (by decide +kernel) (by decide) (by decide) (by decide) (fun K37 h37 => ?_)
  refine s_sP h37 (by decide) (by decide) (fun K38 h38 => ?_)
  refine s_ckd (by decide) ?_
  refine s_ckd (by decide) ?_
  refine s_nw h38 (by decide) (by decide +kernel) (by decide) (by decide) (by decide) (fun K39 h39 => ?_)
  refine s_sP h39 (by decide) (by decide) (fun K40 h40 => ?_)
  refine s_ckd (by decide) ?_
  refine s_ckd (by decide) ?_
  refine s_nw h40 (by decide) (by decide +kernel) (by decide) (by decide) (by decide) (fun K41 h41 => ?_)
  refine s_sP h41 (by decide) (by decide) (fun K42 h42 => ?_)
  refine s_ckd (by decide) ?_
  refine s_ckd (by decide) ?_
  refine s_nw h42 (by decide) (by decide +kernel) (by decide) (by decide) (by decide) (fun K43 h43 => ?_)
  refine s_sP h43 (by decide) (by decide) (fun K44 h44 => ?_)
  refine s_ckd (by decide) ?_
  refine s_ckd (by decide) ?_
  refine s_nw h44 (by decide) (by decide +kernel) (by decide) (by decide) (by decide) (fun K45 h45 => ?_)
  refine s_sP h45 (by decide) (by decide) (fun K46 h46 => ?_)
  refine s_ckd (by decide) ?_
  refine s_ckd (by decide) ?_
  refine s_nw h46 (by decide) (by decide +kernel) (by decide) (by decide) (by decide) (fun K47 h47 => ?_)
  refine s_sP h47 (by decide) (by decide) (fun K48 h48 => ?_)
  refine s_ckd (by decide) ?_
  refine s_ckd (by decide) ?_
  refine s_nw h48 (by decide) (by decide +kernel) (by decide) (by decide) (by decide) (fun K49 h49 => ?_)
  refine s_sP h49 (by decide) (by decide) (fun K50 h50 => ?_)
  refine s_ckd (by decide) ?_
  refine s_ckd (by decide) ?_
  refine s_nw h50 (by decide) (by decide +kernel) (by decide) (by decide) (by decide) (fun K51 h51 => ?_)
  refine s_sP h51 (by decide) (by decide) (fun K52 h52 => ?_)
  refine s_ckd (by decide) ?_
  refine s_ckd (by decide) ?_
  refine s_nw h52 (by decide) (by decide +kernel) (by decide) (by decide) (by decide) (fun K53 h53 => ?_)
  refine s_sP h53 (by decide) (by decide) (fun K54 h54 => ?_)
  refine s_ckd (by decide) ?_
  refine s_ckd (by decide) ?_
  refine s_nw h54 (by decide) (by decide +kernel) (by decide) (by decide) (by decide) (fun K55 h55 => ?_)
  refine s_sP h55 (by decide) (by decide) (fun K56 h56 => ?_)
  refine s_ckd (by decide) ?_
  refine s_ckd (by decide) ?_
  refine s_nw h56 (by decide) (by decide +kernel) (by decide) (by decide) (by decide) (fun K57 h57 => ?_)
  refine s_sP h57 (by decide) (by decide) (fun K58 h58 => ?_)
  refine s_ckd (by decide) ?_
  refine s_ckd (by decide) ?_
  refine s_nw h58 (by decide) (by decide +kernel) (by decide) (by decide) (by decide) (fun K59 h59 => ?_)
  refine s_sP h59 (by decide) (by decide) (fun K60 h60 => ?_)
  exact s_end h60
set_option maxRecDepth 20000 in
theorem mi_581 {N : Nat} (hN : 300 ≤ N) (h0 : SG A 517 582 [(517, 4, 550), (550, 40, 580), (550, 39, 579), (550, 38, 578), (550, 36, 577), (550, 35, 576), (550, 34, 575), (550, 33, 574), (550, 32, 573), (550, 31, 572), (550, 30, 571), (550, 28, 570), (550, 27, 569), (550, 25, 568), (550, 24, 567), (550, 23, 566), (550, 22, 565), (550, 20, 564), (550, 19, 563), (550, 18, 562), (550, 17, 561), (550, 15, 560), (550, 14, 559), (550, 13, 558), (550, 8, 557), (550, 7, 556), (550, 6, 555), (550, 5, 554), (550, 4, 553), (550, 3, 552), (550, 0, 551), (517, 3, 519), (519, 40, 549), (519, 39, 548), (519, 38, 547), (519, 36, 546), (519, 35, 545), (519, 34, 544), (519, 33, 543), (519, 32, 542), (519, 31, 541), (519, 30, 540), (519, 28, 539), (519, 27, 538), (519, 25, 537), (519, 24, 536), (519, 23, 535), (519, 22, 534), (519, 20, 533), (519, 19, 532), (519, 18, 531), (519, 17, 530), (519, 15, 529), (519, 14, 528), (519, 13, 527), (519, 8, 526), (519, 7, 525), (519, 6, 524), (519, 5, 523), (519, 4, 522), (519, 3, 521), (519, 0, 520), (517, 1, 518)] [(517, 7, (-1)), (517, 6, (-1))] (sl) H) : ∃ H2, F_MWorld_init N 581 H = some ((), H2) ∧ (SG A 517 591 [(581, 17, 590), (581, 12, 589), (581, 11, 588), (581, 10, 587), (581, 9, 586), (581, 7, 585), (581, 6, 584), (581, 5, 583), (581, 4, 582), (517, 4, 550), (550, 40, 580), (550, 39, 579), (550, 38, 578), (550, 36, 577), (550, 35, 576), (550, 34, 575), (550, 33, 574), (550, 32, 573), (550, 31, 572), (550, 30, 571), (550, 28, 570), (550, 27, 569), (550, 25, 568), (550, 24, 567), (550, 23, 566), (550, 22, 565), (550, 20, 564), (550, 19, 563), (550, 18, 562), (550, 17, 561), (550, 15, 560), (550, 14, 559), (550, 13, 558), (550, 8, 557), (550, 7, 556), (550, 6, 555), (550, 5, 554), (550, 4, 553), (550, 3, 552), (550, 0, 551), (517, 3, 519), (519, 40, 549), (519, 39, 548), (519, 38, 547), (519, 36, 546), (519, 35, 545), (519, 34, 544), (519, 33, 543), (519, 32, 542), (519, 31, 541), (519, 30, 540), (519, 28, 539), (519, 27, 538), (519, 25, 537), (519, 24, 536), (519, 23, 535), (519, 22, 534), (519, 20, 533), (519, 19, 532), (519, 18, 531), (519, 17, 530), (519, 15, 529), (519, 14, 528), (519, 13, 527), (519, 8, 526), (519, 7, 525), (519, 6, 524), (519, 5, 523), (519, 4, 522), (519, 3, 521), (519, 0, 520), (517, 1, 518)] [(517, 7, (-1)), (517, 6, (-1))] (sl + 256 + 256 + 256 + 12288 + 256 + 256 + 256 + 1024 + 32) H2 ∧ WF 581 H2) := by
  unfold F_MWorld_init
  refine s_ckd (by decide) ?_
  refine s_ckd (by decide) ?_
  refine s_nw h0 (by decide) (by decide +kernel) (by decide) (by decide) (by decide) (fun K1 h1 => ?_)
  refine s_ckd (SG.get h1 (by decide) (by decide +kernel)) ?_
  refine s_sP h1 (by decide) (by decide) (fun K2 h2 => ?_)
  refine s_ckd (by decide) ?_
  refine s_ckd (by decide) ?_
  refine s_nw h2 (by decide) (by decide +kernel) (by decide) (by decide) (by decide) (fun K3 h3 => ?_)
  refine s_sP h3 (by decide) (by decide) (fun K4 h4 => ?_)
  refine s_ckd (by decide) ?_
  refine s_ckd (by decide) ?_
  refine s_nw h4 (by decide) (by decide +kernel) (by decide) (by decide) (by decide) (fun K5 h5 => ?_)
  refine s_sP h5 (by decide) (by decide) (fun K6 h6 => ?_)
  refine s_ckd (by decide) ?_
  refine s_ckd (by decide) ?_
  refine s_nw h6 (by decide) (by decide +kernel) (by decide) (by decide) (by decide) (fun K7 h7 => ?_)
  refine s_sP h7 (by decide) (by decide) (fun K8 h8 => ?_)
  refine s_ckd (by decide) ?_
  refine s_ckd (by decide) ?_
  refine s_nw h8 (by decide) (by decide +kernel) (by decide) (by decide) (by decide) (fun K9 h9 => ?_)
  refine s_sP h9 (by decide) (by decide) (fun K10 h10 => ?_)
  refine s_ckd (by decide) ?_
  refine s_ckd (by decide) ?_
  refine s_nw h10 (by decide) (by decide +kernel) (by decide) (by decide) (by decide) (fun K11 h11 => ?_)
  refine s_sP h11 (by decide) (by decide) (fun K12 h12 => ?_)
  refine s_ckd (by decide) ?_
  refine s_ckd (by decide) ?_
  refine s_nw h12 (by decide) (by decide +kernel) (by decide) (by decide) (by decide) (fun K13 h13 => ?_)
  refine s_sP h13 (by decide) (by decide) (fun K14 h14 => ?_)
  refine s_ckd (by decide) ?_
  refine s_ckd (by decide) ?_
  refine s_nw h14 (by decide) (by decide +kernel) (by decide) (by decide) (by decide) (fun K15 h15 => ?_)
  refine s_sP h15 (by decide) (by decide) (fun K16 h16 => ?_)
  refine s_ckd (by decide) ?_
  refine s_ckd (by decide) ?_
  refine s_nw h16 (by decide) (by decide +kernel) (by decide) (by decide) (by decide) (fun K17 h17 => ?_)
  refine s_sP h17 (by decide) (by decide) (fun K18 h18 => ?_)
  obtain ⟨B2, e1, e2, e3, e4⟩ := bg_B (N := N) hN (SG.isU (u := 581) h18 (by decide) (by decide +kernel) (by decide))
  refine ⟨B2, by rw [bC_t e1], ?_, e3, e4⟩
  exact SG.sm h18 e2 (by decide) (by decide) (by decide)
set_option maxRecDepth 20000 in
theorem mi_591 {N : Nat} (hN : 300 ≤ N) (h0 : SG A 591 592 [(517, 8, 581), (581, 17, 590), (581, 12, 589), (581, 11, 588), (581, 10, 587), (581, 9, 586), (581, 7, 585), (581, 6, 584), (581, 5, 583), (581, 4, 582), (517, 4, 550), (550, 40, 580), (550, 39, 579), (550, 38, 578), (550, 36, 577), (550, 35, 576), (550, 34, 575), (550, 33, 574), (550, 32, 573), (550, 31, 572), (550, 30, 571), (550, 28, 570), (550, 27, 569), (550, 25, 568), (550, 24, 567), (550, 23, 566), (550, 22, 565), (550, 20, 564), (550, 19, 563), (550, 18, 562), (550, 17, 561), (550, 15, 560), (550, 14, 559), (550, 13, 558), (550, 8, 557), (550, 7, 556), (550, 6, 555), (550, 5, 554), (550, 4, 553), (550, 3, 552), (550, 0, 551), (517, 3, 519), (519, 40, 549), (519, 39, 548), (519, 38, 547), (519, 36, 546), (519, 35, 545), (519, 34, 544), (519, 33, 543), (519, 32, 542), (519, 31, 541), (519, 30, 540), (519, 28, 539), (519, 27, 538), (519, 25, 537), (519, 24, 536), (519, 23, 535), (519, 22, 534), (519, 20, 533), (519, 19, 532), (519, 18, 531), (519, 17, 530), (519, 15, 529), (519, 14, 528), (519, 13, 527), (519, 8, 526), (519, 7, 525), (519, 6, 524), (519, 5, 523), (519, 4, 522), (519, 3, 521), (519, 0, 520), (517, 1, 518)] [(517, 7, (-1)), (517, 6, (-1))] (sl) H) : ∃ H2, F_MWorld_init N 591 H = some ((), H2) ∧ (SG A 591 601 [(591, 17, 600), (591, 12, 599), (591, 11, 598), (591, 10, 597), (591, 9, 596), (591, 7, 595), (591, 6, 594), (591, 5, 593), (591, 4, 592), (517, 8, 581), (581, 17, 590), (581, 12, 589), (581, 11, 588), (581, 10, 587), (581, 9, 586), (581, 7, 585), (581, 6, 584), (581, 5, 583), (581, 4, 582), (517, 4, 550), (550, 40, 580), (550, 39, 579), (550, 38, 578), (550, 36, 577), (550, 35, 576), (550, 34, 575), (550, 33, 574), (550, 32, 573), (550, 31, 572), (550, 30, 571), (550, 28, 570), (550, 27, 569), (550, 25, 568), (550, 24, 567), (550, 23, 566), (550, 22, 565), (550, 20, 564), (550, 19, 563), (550, 18, 562), (550, 17, 561), (550, 15, 560), (550, 14, 559), (550, 13, 558), (550, 8, 557), (550, 7, 556), (550, 6, 555), (550, 5, 554), (550, 4, 553), (550, 3, 552), (550, 0, 551), (517, 3, 519), (519, 40, 549), (519, 39, 548), (519, 38, 547), (519, 36, 546), (519, 35, 545), (519, 34, 544), (519, 33, 543), (519, 32, 542), (519, 31, 541), (519, 30, 540), (519, 28, 539), (519, 27, 538), (519, 25, 537), (519, 24, 536), (519, 23, 535), (519, 22, 534), (519, 20, 533), (519, 19, 532), (519, 18, 531), (519, 17, 530), (519, 15, 529), (519, 14, 528), (519, 13, 527), (519, 8, 526), (519, 7, 525), (519, 6, 524), (519, 5, 523), (519, 4, 522), (519, 3, 521), (519, 0, 520), (517, 1, 518)] [(517, 7, (-1)), (517, 6, (-1))] (sl + 256 + 256 + 256 + 12288 + 256 + 256 + 256 + 1024 + 32) H2 ∧ WF 591 H2) := by
  unfold F_MWorld_init
  refine s_ckd (by decide) ?_
  refine s_ckd (by decide) ?_
  refine s_nw h0 (by decide) (by decide +kernel) (by decide) (by decide) (by decide) (fun K1 h1 => ?_)
  refine s_ckd (SG.get h1 (by decide) (by decide +kernel)) ?_
  refine s_sP h1 (by decide) (by decide) (fun K2 h2 => ?_)
  refine s_ckd (by decide) ?_
  refine s_ckd (by decide) ?_
  refine s_nw h2 (by decide) (by decide +kernel) (by decide) (by decide) (by decide) (fun K3 h3 => ?_)
  refine s_sP h3 (by decide) (by decide) (fun K4 h4 => ?_)
  refine s_ckd (by decide) ?_
  refine s_ckd (by decide) ?_
  refine s_nw h4 (by decide) (by decide +kernel) (by decide) (by decide) (by decide) (fun K5 h5 => ?_)
  refine s_sP h5 (by decide) (by decide) (fun K6 h6 => ?_)
  refine s_ckd (by decide) ?_
  refine s_ckd (by decide) ?_
  refine s_nw h6 (by decide) (by decide +kernel) (by decide) (by decide) (by decide) (fun K7 h7 => ?_)
  refine s_sP h7 (by decide) (by decide) (fun K8 h8 => ?_)
  refine s_ckd (by decide) ?_
  refine s_ckd (by decide) ?_
  refine s_nw h8 (by decide) (by decide +kernel) (by decide) (by decide) (by decide) (fun K9 h9 => ?_)
  refine s_sP h9 (by decide) (by decide) (fun K10 h10 => ?_)
  refine s_ckd (by decide) ?_
  refine s_ckd (by decide) ?_
  refine s_nw h10 (by decide) (by decide +kernel) (by decide) (by decide) (by decide) (fun K11 h11 => ?_)
  refine s_sP h11 (by decide) (by decide) (fun K12 h12 => ?_)
  refine s_ckd (by decide) ?_
  refine s_ckd (by decide) ?_
  refine s_nw h12 (by decide) (by decide +kernel) (by decide) (by decide) (by decide) (fun K13 h13 => ?_)
  refine s_sP h13 (by decide) (by decide) (fun K14 h14 => ?_)
  refine s_ckd (by decide) ?_
  refine s_ckd (by decide) ?_
  refine s_nw h14 (by decide) (by decide +kernel) (by decide) (by decide) (by decide) (fun K15 h15 => ?_)
  refine s_sP h15 (by decide) (by decide) (fun K16 h16 => ?_)
  refine s_ckd (by decide) ?_
  refine s_ckd (by decide) ?_
  refine s_nw h16 (by decide) (by decide +kernel) (by decide) (by decide) (by decide) (fun K17 h17 => ?_)
  refine s_sP h17 (by decide) (by decide) (fun K18 h18 => ?_)
  obtain ⟨B2, e1, e2, e3, e4⟩ := bg_B (N := N) hN (SG.isU (u := 591) h18 (by decide) (by decide +kernel) (by decide))
  refine ⟨B2, by rw [bC_t e1], ?_, e3, e4⟩
  exact SG.sm h18 e2 (by decide) (by decide) (by decide)
set_option maxRecDepth 20000 in
theorem mi_601 {N : Nat} (hN : 300 ≤ N) (h0 : SG A 601 602 [(517, 9, 591), (591, 17, 600), (591, 12, 599), (591, 11, 598), (591, 10, 597), (591, 9, 596), (591, 7, 595), (591, 6, 594), (591, 5, 593), (591, 4, 592), (517, 8, 581), (581, 17, 590), (581, 12, 589), (581, 11, 588), (581, 10, 587), (581, 9, 586), (581, 7, 585), (581, 6, 584), (581, 5, 583), (581, 4, 582), (517, 4, 550), (550, 40, 580), (550, 39, 579), (550, 38, 578), (550, 36, 577), (550, 35, 576), (550, 34, 575), (550, 33, 574), (550, 32, 573), (550, 31, 572), (550, 30, 571), (550, 28, 570), (550, 27, 569), (550, 25, 568), (550, 24, 567), (550, 23, 566), (550, 22, 565), (550, 20, 564), (550, 19, 563), (550, 18, 562), (550, 17, 561), (550, 15, 560), (550, 14, 559), (550, 13, 558), (550, 8, 557), (550, 7, 556), (550, 6, 555), (550, 5, 554), (550, 4, 553), (550, 3, 552), (550, 0, 551), (517, 3, 519), (519, 40, 549), (519, 39, 548), (519, 38, 547), (519, 36, 546), (519, 35, 545), (519, 34, 544), (519, 33, 543), (519, 32, 542), (519, 31, 541), (519, 30, 540), (519, 28, 539), (519, 27, 538), (519, 25, 537), (519, 24, 536), (519, 23, 535), (519, 22, 534), (519, 20, 533), (519, 19, 532), (519, 18, 531), (519, 17, 530), (519, 15, 529), (519, 14, 528), (519, 13, 527), (519, 8, 526), (519, 7, 525), (519, 6, 524), (519, 5, 523), (519, 4, 522), (519, 3, 521), (519, 0, 520), (517, 1, 518)] [(517, 7, (-1)), (517, 6, (-1))] (sl) H) : ∃ H2, F_MWorld_init N 601 H = some ((), H2) ∧ (SG A 601 611 [(601, 17, 610), (601, 12, 609), (601, 11, 608), (601, 10, 607), (601, 9, 606), (601, 7, 605), (601, 6, 604), (601, 5, 603), (601, 4, 602), (517, 9, 591), (591, 17, 600), (591, 12, 599), (591, 11, 598), (591, 10, 597), (591, 9, 596), (591, 7, 595), (591, 6, 594), (591, 5, 593), (591, 4, 592), (517, 8, 581), (581, 17, 590), (581, 12, 589), (581, 11, 588), (581, 10, 587), (581, 9, 586), (581, 7, 585), (581, 6, 584), (581, 5, 583), (581, 4, 582), (517, 4, 550), (550, 40, 580), (550, 39, 579), (550, 38, 578), (550, 36, 577), (550, 35, 576), (550, 34, 575), (550, 33, 574), (550, 32, 573), (550, 31, 572), (550, 30, 571), (550, 28, 570), (550, 27, 569), (550, 25, 568), (550, 24, 567), (550, 23, 566), (550, 22, 565), (550, 20, 564), (550, 19, 563), (550, 18, 562), (550, 17, 561), (550, 15, 560), (550, 14, 559), (550, 13, 558), (550, 8, 557), (550, 7, 556), (550, 6, 555), (550, 5, 554), (550, 4, 553), (550, 3, 552), (550, 0, 551), (517, 3, 519), (519, 40, 549), (519, 39, 548), (519, 38, 547), (519, 36, 546), (519, 35, 545), (519, 34, 544), (519, 33, 543), (519, 32, 542), (519, 31, 541), (519, 30, 540), (519, 28, 539), (519, 27, 538), (519, 25, 537), (519, 24, 536), (519, 23, 535), (519, 22, 534), (519, 20, 533), (519, 19, 532), (519, 18, 531), (519, 17, 530), (519, 15, 529), (519, 14, 528), (519, 13, 527), (519, 8, 526), (519, 7, 525), (519, 6, 524), (519, 5, 523), (519, 4, 522), (519, 3, 521), (519, 0, 520), (517, 1, 518)] [(517, 7, (-1)), (517, 6, (-1))] (sl + 256 + 256 + 256 + 12288 + 256 + 256 + 256 + 1024 + 32) H2 ∧ WF 601 H2) := by
  unfold F_MWorld_init
  refine s_ckd (by decide) ?_
  refine s_ckd (by decide) ?_
  refine s_nw h0 (by decide) (by decide +kernel) (by decide) (by decide) (by decide) (fun K1 h1 => ?_)
  refine s_ckd (SG.get h1 (by decide) (by decide +kernel)) ?_
  refine s_sP h1 (by decide) (by decide) (fun K2 h2 => ?_)
  refine s_ckd (by decide) ?_
  refine s_ckd (by decide) ?_
  refine s_nw h2 (by decide) (by decide +kernel) (by decide) (by decide) (by decide) (fun K3 h3 => ?_)
  refine s_sP h3 (by decide) (by decide) (fun K4 h4 => ?_)
  refine s_ckd (by decide) ?_
  refine s_ckd (by decide) ?_
  refine s_nw h4 (by decide) (by decide +kernel) (by decide) (by decide) (by decide) (fun K5 h5 => ?_)
  refine s_sP h5 (by decide) (by decide) (fun K6 h6 => ?_)
  refine s_ckd (by decide) ?_
  refine s_ckd (by decide) ?_
  refine s_nw h6 (by decide) (by decide +kernel) (by decide) (by decide) (by decide) (fun K7 h7 => ?_)
  refine s_sP h7 (by decide) (by decide) (fun K8 h8 => ?_)
  refine s_ckd (by decide) ?_
  refine s_ckd (by decide) ?_
  refine s_nw h8 (by decide) (by decide +kernel) (by decide) (by decide) (by decide) (fun K9 h9 => ?_)
  refine s_sP h9 (by decide) (by decide) (fun K10 h10 => ?_)
  refine s_ckd (by decide) ?_
  refine s_ckd (by decide) ?_
  refine s_nw h10 (by decide) (by decide +kernel) (by decide) (by decide) (by decide) (fun K11 h11 => ?_)
  refine s_sP h11 (by decide) (by decide) (fun K12 h12 => ?_)
  refine s_ckd (by decide) ?_
  refine s_ckd (by decide) ?_
  refine s_nw h12 (by decide) (by decide +kernel) (by decide) (by decide) (by decide) (fun K13 h13 => ?_)
  refine s_sP h13 (by decide) (by decide) (fun K14 h14 => ?_)
  refine s_ckd (by decide) ?_
  refine s_ckd (by decide) ?_
  refine s_nw h14 (by decide) (by decide +kernel) (by decide) (by decide) (by decide) (fun K15 h15 => ?_)
  refine s_sP h15 (by decide) (by decide) (fun K16 h16 => ?_)
  refine s_ckd (by decide) ?_
  refine s_ckd (by decide) ?_
  refine s_nw h16 (by decide) (by decide +kernel) (by decide) (by decide) (by decide) (fun K17 h17 => ?_)
  refine s_sP h17 (by decide) (by decide) (fun K18 h18 => ?_)
  obtain ⟨B2, e1, e2, e3, e4⟩ := bg_B (N := N) hN (SG.isU (u := 601) h18 (by decide) (by decide +kernel) (by decide))
  refine ⟨B2, by rw [bC_t e1], ?_, e3, e4⟩
  exact SG.sm h18 e2 (by decide) (by decide) (by decide)
set_option maxRecDepth 20000 in
theorem mi_611 {N : Nat} (h0 : SG A 611 612 [(517, 10, 601), (601, 17, 610), (601, 12, 609), (601, 11, 608), (601, 10, 607), (601, 9, 606), (601, 7, 605), (601, 6, 604), (601, 5, 603), (601, 4, 602), (517, 9, 591), (591, 17, 600), (591, 12, 599), (591, 11, 598), (591, 10, 597), (591, 9, 596), (591, 7, 595), (591, 6, 594), (591, 5, 593), (591, 4, 592), (517, 8, 581), (581, 17, 590), (581, 12, 589), (581, 11, 588), (581, 10, 587), (581, 9, 586), (581, 7, 585), (581, 6, 584), (581, 5, 583), (581, 4, 582), (517, 4, 550), (550, 40, 580), (550, 39, 579), (550, 38, 578), (550, 36, 577), (550, 35, 576), (550, 34, 575), (550, 33, 574), (550, 32, 573), (550, 31, 572), (550, 30, 571), (550, 28, 570), (550, 27, 569), (550, 25, 568), (550, 24, 567), (550, 23, 566), (550, 22, 565), (550, 20, 564), (550, 19, 563), (550, 18, 562), (550, 17, 561), (550, 15, 560), (550, 14, 559), (550, 13, 558), (550, 8, 557), (550, 7, 556), (550, 6, 555), (550, 5, 554), (550, 4, 553), (550, 3, 552), (550, 0, 551), (517, 3, 519), (519, 40, 549), (519, 39, 548), (519, 38, 547), (519, 36, 546), (519, 35, 545), (519, 34, 544), (519, 33, 543), (519, 32, 542), (519, 31, 541), (519, 30, 540), (519, 28, 539), (519, 27, 538), (519, 25, 537), (519, 24, 536), (519, 23, 535), (519, 22, 534), (519, 20, 533), (519, 19, 532), (519, 18, 531), (519, 17, 530), (519, 15, 529), (519, 14, 528), (519, 13, 527), (519, 8, 526), (519, 7, 525), (519, 6, 524), (519, 5, 523), (519, 4, 522), (519, 3, 521), (519, 0, 520), (517, 1, 518)] [(517, 7, (-1)), (517, 6, (-1))] (sl) H) : ∃ H2, F_MRunner_init N 611 H = some ((), H2) ∧ SG A 611 616 [(611, 15, 615), (611, 14, 614), (611, 13, 613), (611, 3, 612), (517, 10, 601), (601, 17, 610), (601, 12, 609), (601, 11, 608), (601, 10, 607), (601, 9, 606), (601, 7, 605), (601, 6, 604), (601, 5, 603), (601, 4, 602), (517, 9, 591), (591, 17, 600), (591, 12, 599), (591, 11, 598), (591, 10, 597), (591, 9, 596), (591, 7, 595), (591, 6, 594), (591, 5, 593), (591, 4, 592), (517, 8, 581), (581, 17, 590), (581, 12, 589), (581, 11, 588), (581, 10, 587), (581, 9, 586), (581, 7, 585), (581, 6, 584), (581, 5, 583), (581, 4, 582), (517, 4, 550), (550, 40, 580), (550, 39, 579), (550, 38, 578), (550, 36, 577), (550, 35, 576), (550, 34, 575), (550, 33, 574), (550, 32, 573), (550, 31, 572), (550, 30, 571), (550, 28, 570), (550, 27, 569), (550, 25, 568), (550, 24, 567), (550, 23, 566), (550, 22, 565), (550, 20, 564), (550, 19, 563), (550, 18, 562), (550, 17, 561), (550, 15, 560), (550, 14, 559), (550, 13, 558), (550, 8, 557), (550, 7, 556), (550, 6, 555), (550, 5, 554), (550, 4, 553), (550, 3, 552), (550, 0, 551), (517, 3, 519), (519, 40, 549), (519, 39, 548), (519, 38, 547), (519, 36, 546), (519, 35, 545), (519, 34, 544), (519, 33, 543), (519, 32, 542), (519, 31, 541), (519, 30, 540), (519, 28, 539), (519, 27, 538), (519, 25, 537), (519, 24, 536), (519, 23, 535), (519, 22, 534), (519, 20, 533), (519, 19, 532), (519, 18, 531), (519, 17, 530), (519, 15, 529), (519, 14, 528), (519, 13, 527), (519, 8, 526), (519, 7, 525), (519, 6, 524), (519, 5, 523), (519, 4, 522), (519, 3, 521), (519, 0, 520), (517, 1, 518)] [(517, 7, (-1)), (517, 6, (-1))] (sl + 393216 + 48 + 12 + 8) H2 := by
  unfold F_MRunner_init
  refine s_ckd (by decide) ?_
  refine s_ckd (by decide) ?_
  refine s_nw h0 (by decide) (by decide +kernel) (by decide) (by decide) (by decide) (fun K1 h1 => ?_)
  refine s_ckd (SG.get h1 (by decide) (by decide +kernel)) ?_
  refine s_sP h1 (by decide) (by decide) (fun K2 h2 => ?_)
  refine s_ckd (by decide) ?_
  refine s_ckd (by decide) ?_
  refine s_nw h2 (by decide) (by decide +kernel) (by decide) (by decide) (by decide) (fun K3 h3 => ?_)
  refine s_sP h3 (by decide) (by decide) (fun K4 h4 => ?_)
  refine s_ckd (by decide) ?_
  refine s_ckd (by decide) ?_
  refine s_nw h4 (by decide) (by decide +kernel) (by decide) (by decide) (by decide) (fun K5 h5 => ?_)
  refine s_sP h5 (by decide) (by decide) (fun K6 h6 => ?_)
  refine s_ckd (by decide) ?_
  refine s_ckd (by decide) ?_
  refine s_nw h6 (by decide) (by decide +kernel) (by decide) (by decide) (by decide) (fun K7 h7 => ?_)
  refine s_sP h7 (by decide) (by decide) (fun K8 h8 => ?_)
  exact s_end h8
set_option maxRecDepth 20000 in
theorem mi_517 {N : Nat} {w : Int32} (hN : 300 ≤ N) (h0 : SG A 517 518 [] [] (sl) H) : ∃ H2, F_M_init N 517 w H = some ((), H2) ∧ (H2.sh = sh0.take 625 ∧ H2.sl = sl + 6000 + 43 + 6000 + 6002 + 6002 + 6002 + 6002 + 6002 + 6002 + 56 + 56 + 56 + 16 + 17 + 48 + 48 + 8 + 8 + 32 + 32 + 16 + 768 + 16 + 16 + 16 + 16 + 16 + 16 + 16 + 12 + 12 + 12 + 43 + 6000 + 6002 + 6002 + 6002 + 6002 + 6002 + 6002 + 56 + 56 + 56 + 16 + 17 + 48 + 48 + 8 + 8 + 32 + 32 + 16 + 768 + 16 + 16 + 16 + 16 + 16 + 16 + 16 + 12 + 12 + 12 + 18 + 256 + 256 + 256 + 12288 + 256 + 256 + 256 + 1024 + 32 + 18 + 256 + 256 + 256 + 12288 + 256 + 256 + 256 + 1024 + 32 + 18 + 256 + 256 + 256 + 12288 + 256 + 256 + 256 + 1024 + 32 + 16 + 393216 + 48 + 12 + 8 + 256 + 256 + 64 + 4 + 4 + 256 + 58000 + 8 + 8 ∧ (∀ a f, a < 517 → H2.P a f = A.P a f ∧ H2.D a f = A.D a f) ∧ (WF 581 H2 ∧ WF 591 H2 ∧ WF 601 H2) ∧ (∀ q ∈ ptM, H2.P q.1 q.2.1 = .ref q.2.2) ∧ (H2.D 517 6 = -1 ∧ H2.D 517 7 = -1 ∧ H2.D 517 12 = 1) ∧ (∀ a f, 517 ≤ a → ¬ (581 ≤ a ∧ a ≤ 610) → a ≠ 623 → a < 625 → ¬ (a = 517 ∧ (f = 6 ∨ f = 7 ∨ f = 12)) → H2.D a f = 0) ∧ ∀ j, j < 8 → H2.D 623 j = if j < nwk w then 1 else 0) := by
  unfold F_M_init
  refine s_ckd (by decide) ?_
  refine s_ckd (by decide) ?_
  refine s_nw h0 (by decide) (by decide +kernel) (by decide) (by decide) (by decide) (fun K1 h1 => ?_)
  refine s_ckd (SG.get h1 (by decide) (by decide +kernel)) ?_
  refine s_sP h1 (by decide) (by decide) (fun K2 h2 => ?_)
  refine s_nw h2 (by decide) (by decide +kernel) (by decide) (by decide) (by decide) (fun K3 h3 => ?_)
  refine s_call (mi_519 h3) (fun K4 h4 => ?_)
  refine s_sP h4 (by decide) (by decide) (fun K5 h5 => ?_)
  refine s_nw h5 (by decide) (by decide +kernel) (by decide) (by decide) (by decide) (fun K6 h6 => ?_)
  refine s_call (mi_550 h6) (fun K7 h7 => ?_)
  refine s_sP h7 (by decide) (by decide) (fun K8 h8 => ?_)
  refine s_sD h8 (by decide) (by decide) (fun K9 h9 => ?_)
  refine s_sD h9 (by decide) (by decide) (fun K10 h10 => ?_)
  refine s_nw h10 (by decide) (by decide +kernel) (by decide) (by decide) (by decide) (fun K11 h11 => ?_)
  refine s_call (mi_581 hN h11) (fun K12 h12 => ?_)
  have w581 := h12.2
  replace h12 := h12.1
  have b581 := h12
  replace h12 := SG.base h12
  refine s_sP h12 (by decide) (by decide) (fun K13 h13 => ?_)
  refine s_nw h13 (by decide) (by decide +kernel) (by decide) (by decide) (by decide) (fun K14 h14 => ?_)
  refine s_call (mi_591 hN h14) (fun K15 h15 => ?_)
  have w591 := h15.2
  replace h15 := h15.1
  have b591 := h15
  replace h15 := SG.base h15
  refine s_sP h15 (by decide) (by decide) (fun K16 h16 => ?_)
  refine s_nw h16 (by decide) (by decide +kernel) (by decide) (by decide) (by decide) (fun K17 h17 => ?_)
  refine s_call (mi_601 hN h17) (fun K18 h18 => ?_)
  have w601 := h18.2
  replace h18 := h18.1
  have b601 := h18
  replace h18 := SG.base h18
  refine s_sP h18 (by decide) (by decide) (fun K19 h19 => ?_)
  refine s_nw h19 (by decide) (by decide +kernel) (by decide) (by decide) (by decide) (fun K20 h20 => ?_)
  refine s_call (mi_611 h20) (fun K21 h21 => ?_)
  refine s_sP h21 (by decide) (by decide) (fun K22 h22 => ?_)
  refine s_sD h22 (by decide) (by decide) (fun K23 h23 => ?_)
  refine s_ckd (by decide) ?_
  refine s_ckd (by decide) ?_
  refine s_nw h23 (by decide) (by decide +kernel) (by decide) (by decide) (by decide) (fun K24 h24 => ?_)
  refine s_sP h24 (by decide) (by decide) (fun K25 h25 => ?_)
  refine s_ckd (by decide) ?_
  refine s_ckd (by decide) ?_
  refine s_nw h25 (by decide) (by decide +kernel) (by decide) (by decide) (by decide) (fun K26 h26 => ?_)
  refine s_sP h26 (by decide) (by decide) (fun K27 h27 => ?_)
  refine s_ckd (by decide) ?_
  refine s_ckd (by decide) ?_
  refine s_nw h27 (by decide) (by decide +kernel) (by decide) (by decide) (by decide) (fun K28 h28 => ?_)
  refine s_sP h28 (by decide) (by decide) (fun K29 h29 => ?_)
  refine s_ckd (by decide) ?_
  refine s_ckd (by decide) ?_
  refine s_nw h29 (by decide) (by decide +kernel) (by decide) (by decide) (by decide) (fun K30 h30 => ?_)
  refine s_sP h30 (by decide) (by decide) (fun K31 h31 => ?_)
  refine s_ckd (by decide) ?_
  refine s_ckd (by decide) ?_
  refine s_nw h31 (by decide) (by decide +kernel) (by decide) (by decide) (by decide) (fun K32 h32 => ?_)
  refine s_sP h32 (by decide) (by decide) (fun K33 h33 => ?_)
  refine s_ckd (by decide) ?_
  refine s_ckd (by decide) ?_
  refine s_nw h33 (by decide) (by decide +kernel) (by decide) (by decide) (by decide) (fun K34 h34 => ?_)
  refine s_sP h34 (by decide) (by decide) (fun K35 h35 => ?_)
  refine s_ckd (by decide) ?_
  refine s_ckd (by decide) ?_
  refine s_nw h35 (by decide) (by decide +kernel) (by decide) (by decide) (by decide) (fun K36 h36 => ?_)
  refine s_sP h36 (by decide) (by decide) (fun K37 h37 => ?_)
  refine s_ckd (by decide) ?_
  refine s_ckd (by decide) ?_
  refine s_nw h37 (by decide) (by decide +kernel) (by decide) (by decide) (by decide) (fun K38 h38 => ?_)
  refine s_sP h38 (by decide) (by decide) (fun K39 h39 => ?_)
  refine s_ckd (by decide) ?_
  refine s_ckd (by decide) ?_
  refine s_nw h39 (by decide) (by decide +kernel) (by decide) (by decide) (by decide) (fun K40 h40 => ?_)
  refine s_sP h40 (by decide) (by decide) (fun K41 h41 => ?_)
  obtain ⟨H2, f1, f2, f3⟩ := m_fin (N := N) (w := w) hN h41 (by decide) (by decide)
  have g : ∀ a f, a ≠ 623 → H2.D a f = K41.D a f := fun a f y => f2.1 _ _ y
  have c3 : ∀ a f, a < 611 → a ≠ 517 → H2.P a f = K18.P a f ∧ H2.D a f = K18.D a f := fun a f y1 y2 => by rw [f2.2.1, g a f (by omega)]; exact h41.2.2.1 a f y1 y2
  have c2 : ∀ a f, a < 601 → a ≠ 517 → H2.P a f = K15.P a f ∧ H2.D a f = K15.D a f := fun a f y1 y2 => by rw [(c3 a f (by omega) y2).1, (c3 a f (by omega) y2).2]; exact b601.2.2.1 a f y1 y2
  have c1 : ∀ a f, a < 591 → a ≠ 517 → H2.P a f = K12.P a f ∧ H2.D a f = K12.D a f := fun a f y1 y2 => by rw [(c2 a f (by omega) y2).1, (c2 a f (by omega) y2).2]; exact b591.2.2.1 a f y1 y2
  have c0 : ∀ a f, a < 517 → H2.P a f = A.P a f ∧ H2.D a f = A.D a f := fun a f y1 => by rw [(c1 a f (by omega) (by omega)).1, (c1 a f (by omega) (by omega)).2]; exact b581.2.2.1 a f y1 (by omega)
  refine ⟨H2, f1, by rw [f2.2.2.2.1]; exact h41.1, by rw [f2.2.2.2.2]; exact h41.2.1, c0, ⟨w581.fr fun a f y1 y2 => (c1 a f (by omega) (by omega)).2, w591.fr fun a f y1 y2 => (c2 a f (by omega) (by omega)).2, w601.fr fun a f y1 y2 => (c3 a f (by omega) (by omega)).2⟩, fun q y => by rw [f2.2.1]; exact h41.2.2.2.1 q y, ⟨?_, ?_, ?_⟩, fun a f y1 y2 y3 y4 y5 => ?_, f3⟩
  · rw [g _ _ (by decide)]; exact h41.2.2.2.2.1 (517, 6, -1) (by decide)
  · rw [g _ _ (by decide)]; exact h41.2.2.2.2.1 (517, 7, -1) (by decide)
  · rw [g _ _ (by decide)]; exact h41.2.2.2.2.1 (517, 12, 1) (by decide)
  · rw [g a f y3]; exact h41.2.2.2.2.2 a f y1 y2 y4 (fun d y k => by simp only [List.mem_cons, List.not_mem_nil, or_false] at y; rcases y with rfl | rfl | rfl <;> (simp only at k; omega))
end Par
