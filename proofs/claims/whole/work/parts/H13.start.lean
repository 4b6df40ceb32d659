/-! ===== the root relation holds at the start ===== -/
def rtW : List (Nat × Nat × Nat) := [(0, 5, 325), (0, 4, 133), (0, 3, 131), (0, 2, 11), (0, 1, 8), (0, 0, 1)]
def allP : List (Nat × Nat × Nat) := rtW ++ (ptW0 ++ (ptW1 ++ (ptW2 ++ (ptW3 ++ (ptW4 ++ (ptW5 ++ ptM))))))
theorem rf0_all : rf0.all (fun q => decide (q ∈ allP)) = true := by decide +kernel
theorem allP_lt : allP.all (fun q => decide (q.1 < 625)) = true := by decide +kernel
theorem nwk_le (w : Int32) : 1 ≤ nwk w ∧ nwk w ≤ 8 := by
  unfold nwk
  by_cases y1 : (1 : Int32) ≤ w
  · rw [if_pos y1]
    by_cases y2 : w ≤ 8
    · obtain ⟨k, k1, k2⟩ := to_nI (v := w) (n := 8) (by decide) (Int32.not_lt.mpr (Int32.le_trans (by decide) y1)) y2
      rw [if_pos y2]
      have : 1 ≤ k := Decidable.byContradiction fun z => by
        have : k = 0 := by omega
        rw [k2, this] at y1
        exact absurd y1 (by decide)
      rw [k2, cN (by omega)]
      omega
    · rw [if_neg y2]; decide
  · rw [if_neg y1]; decide
theorem upW_n (w : Int32) : upW w = nI (2 ^ nwk w - 1) := by
  have h8 : ∀ k : Fin 9, 1 ≤ k.val → ((1 : Int32) <<< (nI k.val &&& 31)) - 1 = nI (2 ^ k.val - 1) := by decide +kernel
  have key : (if (1 : Int32) < (if w < 8 then w else 8) then (if w < 8 then w else 8) else 1) = nI (nwk w) := by
    unfold nwk
    by_cases y1 : (1 : Int32) ≤ w
    · rw [if_pos y1]
      by_cases y2 : w ≤ 8
      · obtain ⟨k, k1, k2⟩ := to_nI (v := w) (n := 8) (by decide) (Int32.not_lt.mpr (Int32.le_trans (by decide) y1)) y2
        rw [if_pos y2]
        have hk : 1 ≤ k := Decidable.byContradiction fun z => by
          have : k = 0 := by omega
          rw [k2, this] at y1
          exact absurd y1 (by decide)
        have h9 : ∀ k : Fin 9, 1 ≤ k.val → (if (1 : Int32) < (if nI k.val < 8 then nI k.val else 8) then (if nI k.val < 8 then nI k.val else 8) else 1) = nI k.val := by decide +kernel
        rw [k2, cN (by omega)]
        exact h9 ⟨k, by omega⟩ hk
      · rw [if_neg y2]
        have : ¬ w < 8 := fun z => y2 (Int32.le_of_lt z)
        rw [if_neg this, if_pos (by decide)]
        rfl
    · rw [if_neg y1]
      have a1 : w < 8 := Int32.lt_of_lt_of_le (Int32.not_le.mp y1) (by decide)
      have a2 : ¬ (1 : Int32) < w := fun z => y1 (Int32.le_of_lt z)
      rw [if_pos a1, if_neg a2]
      rfl
  unfold upW
  rw [key]
  have := nwk_le w
  exact h8 ⟨nwk w, by omega⟩ this.1
theorem bits_n : ∀ n : Fin 9, ∀ k : Fin 8, ((2 ^ n.val - 1) / 2 ^ k.val % 2 = 1) ↔ k.val < n.val := by decide +kernel
theorem SG.st {X : Hp} {sl : Nat} (h1 : X.sh = sh0.take 517) (h2 : X.sl = sl) : SG X 517 518 [] [] (sl + 29) (X.nw (12, 0) 29) := by
  have hl : X.sh.length = 517 := by rw [h1, List.length_take, sh0_len]; rfl
  refine ⟨by show X.sh ++ [(12, 0)] = _; rw [h1]; decide +kernel, by show X.sl + 29 = _; rw [h2], fun a f y1 y2 => ⟨if_neg (by omega), if_neg (by omega)⟩, fun q y => absurd y List.not_mem_nil, fun q y => absurd y List.not_mem_nil, fun a f y1 y2 y3 _ => if_pos (by omega)⟩
set_option maxRecDepth 20000 in
set_option maxHeartbeats 4000000 in
theorem start_ok {N : Nat} {w : Int32} (hN : 2000000 ≤ N) : ∃ X B, F_W_init N 0 w (hp_0.nw (0, 0) 9) = some ((), X) ∧ F_M_init N 517 w (X.nw (12, 0) 29) = some ((), B) ∧ X.sh = sh0.take 517 ∧ X.sl = 368486 ∧ B.sh = sh0.take 625 ∧ B.sl = 958093 ∧ RR N 958094 0 (B.nw (104, 1) 1) (B.nw (104, 1) 1) := by
  obtain ⟨X, e1, ⟨xs, xl⟩, xP, ⟨x6, x7, x8⟩, xst, g0, g1, g2, g3, g4, g5⟩ := wi_0 (N := N) (w := w) (by omega)
  have xl' : X.sl = 368486 := xl
  obtain ⟨B, e2, bs, bl, bf, ⟨w1, w2, w3⟩, bP, ⟨b6, b7, b12⟩, bz, bu⟩ := mi_517 (N := N) (w := w) (by omega) (SG.st xs xl')
  have bl' : B.sl = 958093 := bl
  refine ⟨X, B, e1, e2, xs, xl', bs, bl', ?_⟩
  have hl : B.sh.length = 625 := by rw [bs, List.length_take, sh0_len]; rfl
  generalize hF : B.nw (104, 1) 1 = K
  have kP : ∀ a f, a < 625 → K.P a f = B.P a f := fun a f y => by rw [← hF]; exact if_neg (by omega)
  have kD : ∀ a f, a < 625 → K.D a f = B.D a f := fun a f y => by rw [← hF]; exact if_neg (by omega)
  have ks : K.sh = sh0 := by rw [← hF]; show B.sh ++ [(104, 1)] = _; rw [bs]; decide +kernel
  have kl : K.sl = 958094 := by rw [← hF]; show B.sl + 1 = _; rw [bl']
  have xD : ∀ a f, a < 517 → K.D a f = X.D a f := fun a f y => by rw [kD a f (by omega)]; exact (bf a f y).2
  have zz : ∀ a f, 517 ≤ a → ¬ (581 ≤ a ∧ a ≤ 610) → a ≠ 623 → a < 625 → ¬ (a = 517 ∧ (f = 6 ∨ f = 7 ∨ f = 12)) → K.D a f = 0 := fun a f y1 y2 y3 y4 y5 => by rw [kD a f y4]; exact bz a f y1 y2 y3 y4 y5
  have pts : ∀ q ∈ allP, K.P q.1 q.2.1 = .ref q.2.2 := fun q y => by
    have hlt := of_decide_eq_true (List.all_eq_true.mp allP_lt q y)
    rw [kP _ _ hlt]
    have up : ∀ q : Nat × Nat × Nat, q.1 < 517 → X.P q.1 q.2.1 = .ref q.2.2 → B.P q.1 q.2.1 = .ref q.2.2 := fun q y1 y2 => by rw [(bf _ _ y1).1]; exact y2
    have lW0 : (ptW0 ++ (ptW1 ++ (ptW2 ++ (ptW3 ++ (ptW4 ++ ptW5))))).all (fun q => decide (q.1 < 517)) = true := by decide +kernel
    have lw : ∀ q, q ∈ ptW0 ++ (ptW1 ++ (ptW2 ++ (ptW3 ++ (ptW4 ++ ptW5)))) → q.1 < 517 := fun q y => of_decide_eq_true (List.all_eq_true.mp lW0 q y)
    rcases List.mem_append.mp y with y | y
    · simp only [rtW, List.mem_cons, List.not_mem_nil, or_false] at y
      rcases y with rfl | rfl | rfl | rfl | rfl | rfl
      · exact up _ (by decide) (xP (5, 325) (by decide))
      · exact up _ (by decide) (xP (4, 133) (by decide))
      · exact up _ (by decide) (xP (3, 131) (by decide))
      · exact up _ (by decide) (xP (2, 11) (by decide))
      · exact up _ (by decide) (xP (1, 8) (by decide))
      · exact up _ (by decide) (xP (0, 1) (by decide))
    rcases List.mem_append.mp y with y | y
    · exact up q (lw q (List.mem_append_left _ y)) (g0.1 q y)
    rcases List.mem_append.mp y with y | y
    · exact up q (lw q (List.mem_append_right _ (List.mem_append_left _ y))) (g1.1 q y)
    rcases List.mem_append.mp y with y | y
    · exact up q (lw q (List.mem_append_right _ (List.mem_append_right _ (List.mem_append_left _ y)))) (g2.1 q y)
    rcases List.mem_append.mp y with y | y
    · exact up q (lw q (List.mem_append_right _ (List.mem_append_right _ (List.mem_append_right _ (List.mem_append_left _ y))))) (g3.1 q y)
    rcases List.mem_append.mp y with y | y
    · exact up q (lw q (List.mem_append_right _ (List.mem_append_right _ (List.mem_append_right _ (List.mem_append_right _ (List.mem_append_left _ y)))))) (g4.1 q y)
    rcases List.mem_append.mp y with y | y
    · exact up q (lw q (List.mem_append_right _ (List.mem_append_right _ (List.mem_append_right _ (List.mem_append_right _ (List.mem_append_right _ y)))))) (g5.1 q y)
    · exact bP q y
  have pt : ∀ a f t, (a, f, t) ∈ allP → K.P a f = .ref t := fun a f t y => pts (a, f, t) y
  have hG : Gr K := ⟨⟨[], by rw [ks, List.append_nil]⟩, fun q y => pts q (of_decide_eq_true (List.all_eq_true.mp rf0_all q y))⟩
  have d0 : ∀ a f, 1 ≤ a → a < 7 → K.D a f = 0 := fun a f y1 y2 => by rw [xD a f (by omega)]; exact g0.2.2.1 a f y1 (by omega) (fun x y => by rw [List.mem_singleton.mp y]; omega) (fun d y => absurd y List.not_mem_nil)
  have d2 : ∀ a f, 11 ≤ a → a < 131 → (∀ x ∈ [111, 105, 99, 93, 87, 81, 75, 69, 63, 57, 51, 45, 39, 33, 27, 21, 14], x ≠ a) → ¬ (a = 11 ∧ f = 2) → K.D a f = 0 := fun a f y1 y2 y3 y4 => by rw [xD a f (by omega)]; exact g2.2.2.1 a f y1 y2 y3 (fun d y k => y4 (by rw [List.mem_singleton.mp y] at k; exact ⟨k.1.symm, k.2.symm⟩))
  have d3 : ∀ a f, 131 ≤ a → a < 133 → K.D a f = 0 := fun a f y1 y2 => by rw [xD a f (by omega)]; exact g3.2.2.1 a f y1 y2 (fun x y => absurd y List.not_mem_nil) (fun d y => absurd y List.not_mem_nil)
  have d4 : ∀ a f, 133 ≤ a → a < 325 → K.D a f = 0 := fun a f y1 y2 => by rw [xD a f (by omega)]; exact g4.2.2.1 a f y1 y2 (fun x y => absurd y List.not_mem_nil) (fun d y => absurd y List.not_mem_nil)
  have d14 : ∀ q, q < 256 → K.D 14 q = -1 := fun q hq => by rw [xD 14 q (by decide)]; exact g2.2.2.2 (by decide) q hq
  have d112 : K.D 11 2 = 1 := by rw [xD 11 2 (by decide)]; exact g2.2.1 (11, 2, 1) (by decide)
  have w1' : WF 581 K := w1.fr fun a f y1 y2 => kD a f (by omega)
  have w2' : WF 591 K := w2.fr fun a f y1 y2 => kD a f (by omega)
  have ww : ∀ u, u = 581 ∨ u = 591 → WPR K 12 K u (fun _ _ => 0) (Q0 0) ∧ RVB (fun _ => 0) (fun _ _ => 0) (Q0 0) K u ∧ GNV (fun _ => 0) 0 (Q0 0) := fun u hu => by
    have hw : WF u K := by rcases hu with rfl | rfl; exact w1'; exact w2'
    obtain ⟨⟨v0, v1, v2, v3, v8, v13, v16⟩, vq⟩ := hw
    exact nw_wp (wo := 12) (u := u) (wd := 0) (by decide) (fun c m y => absurd y.1 (Nat.not_lt_zero _)) ⟨d2 12 0 (by decide) (by decide) (by decide) (by decide), d2 12 2 (by decide) (by decide) (by decide) (by decide), d2 12 3 (by decide) (by decide) (by decide) (by decide), d2 12 6 (by decide) (by decide) (by decide) (by decide), d2 12 9 (by decide) (by decide) (by decide) (by decide), d2 12 10 (by decide) (by decide) (by decide) (by decide), d2 12 13 (by decide) (by decide) (by decide) (by decide), d2 12 15 (by decide) (by decide) (by decide) (by decide)⟩ (fun q hq => ⟨d2 13 q (by decide) (by decide) (by decide) (by omega), d14 q hq⟩) ⟨v0, v2, v3, v8, v13, v16⟩ (fun q hq => ⟨(vq q hq).1, (vq q hq).2.1⟩) (by rw [d2 12 1 (by decide) (by decide) (by decide) (by decide), v1])
  have tx : TXF K 133 K 519 0 0 (fun _ => 0) (fun _ => 0) (fun _ => 0) (fun _ => 0) (fun _ _ => 0) (fun _ _ => []) (fun _ _ => 0) := by
    refine ⟨⟨fun k hk => absurd hk (Nat.not_lt_zero _), ⟨d4 203 3 (by decide) (by decide), fun c hc => d4 270 c (by decide) (by decide), fun m hm => absurd hm (Nat.not_lt_zero _), fun c hc => absurd hc (Nat.not_lt_zero _)⟩, ⟨d4 271 3 (by decide) (by decide), fun c hc => d4 314 c (by decide) (by decide), fun e q hm => absurd hm (Nat.not_lt_zero _), fun c hc => absurd hc (Nat.not_lt_zero _)⟩, ⟨d4 133 4 (by decide) (by decide), fun f hf => absurd hf (Nat.not_lt_zero _)⟩, ⟨d4 133 7 (by decide) (by decide), fun f hf => absurd hf (Nat.not_lt_zero _)⟩, d4 133 15 (by decide) (by decide)⟩, ⟨⟨zz 519 12 (by decide) (by decide) (by decide) (by decide) (by decide), fun k hk => absurd hk (Nat.not_lt_zero _)⟩, ⟨zz 519 16 (by decide) (by decide) (by decide) (by decide) (by decide), fun c hc => zz 531 c (by decide) (by decide) (by decide) (by decide) (by omega), fun m hm => absurd hm (Nat.not_lt_zero _), fun c hc => absurd hc (Nat.not_lt_zero _)⟩, ⟨zz 519 21 (by decide) (by decide) (by decide) (by decide) (by decide), fun e he => absurd he (Nat.not_lt_zero _), fun e q hm => absurd hm (Nat.not_lt_zero _), fun c hc => absurd hc (Nat.not_lt_zero _)⟩, ⟨zz 519 26 (by decide) (by decide) (by decide) (by decide) (by decide), fun f hf => absurd hf (Nat.not_lt_zero _)⟩, ⟨zz 519 29 (by decide) (by decide) (by decide) (by decide) (by decide), fun f hf => absurd hf (Nat.not_lt_zero _)⟩⟩, .inl rfl, by decide, ⟨d4 133 17 (by decide) (by decide), by decide⟩, ⟨by decide, fun i hi => absurd hi (Nat.not_lt_zero _)⟩, fun x hx => absurd hx (Nat.not_lt_zero _), fun s hs => absurd hs (Nat.not_lt_zero _)⟩
  have hLs : LST K 118 704 := ⟨pt 117 0 118 (by decide +kernel), by rw [ks]; decide +kernel, .inl rfl, 0, by decide, by decide⟩
  have pli : PLI N 133 0 519 0 (fun _ => 0) (fun _ => 0) (fun _ => 0) (fun _ => 0) (fun _ _ => 0) (fun _ _ => []) (fun _ _ => 0) (fun _ => 0) 0 0 K 118 704 K 581 591 0 0 := PLI.nw (n := 0) hG hG tx hLs (by decide) (by decide) (by decide) (pt 517 8 581 (by decide +kernel)) (pt 517 9 591 (by decide +kernel)) (pt 517 3 519 (by decide +kernel)) (by decide) (d2 11 1 (by decide) (by decide) (by decide) (by decide)) (d2 12 0 (by decide) (by decide) (by decide) (by decide)) (ww 591 (.inr rfl)).1 (ww 591 (.inr rfl)).2.1 (ww 591 (.inr rfl)).2.2 (ww 581 (.inl rfl)).1 (ww 581 (.inl rfl)).2.1 (fun q hq => ⟨d2 125 q (by decide) (by decide) (by decide) (by omega), zz 617 q (by decide) (by decide) (by decide) (by decide) (by omega)⟩) (fun q hq => ⟨d2 127 q (by decide) (by decide) (by decide) (by omega), zz 619 q (by decide) (by decide) (by decide) (by decide) (by omega)⟩)
  have we : WE (fun _ _ => 0) := ⟨by decide, rfl, fun c hc => absurd hc (Nat.not_lt_zero _), by decide, fun m hm => absurd hm (Nat.not_lt_zero _), by decide, rfl, fun c hc => absurd hc (Nat.not_lt_zero _), fun e q hc => absurd hc (Nat.not_lt_zero _), by decide, fun c hc => absurd hc (Nat.not_lt_zero _), by decide, fun c hc => absurd hc (Nat.not_lt_zero _), by decide, fun c hc => absurd hc (Nat.not_lt_zero _)⟩
  have hn := nwk_le w
  refine ⟨133, 325, 0, 519, 550, 0, _, _, _, _, _, _, _, fun _ => 0, 0, 0, 0, 118, 704, 581, 591, 601, 0, 0, 0, 2 ^ nwk w - 1, 0, pli, ⟨⟨we, ⟨fun s hs => absurd hs (Nat.not_lt_zero _), fun hs => absurd hs (Nat.not_lt_zero _), rfl⟩, fun f c m hf => absurd hf (Nat.not_lt_zero _), fun s hs => absurd hs (Nat.not_lt_zero _)⟩, NMQ.z⟩, ⟨by decide, by decide, by decide⟩, ⟨⟨pt 0 4 133 (by decide +kernel), pt 0 5 325 (by decide +kernel), pt 517 3 519 (by decide +kernel), pt 517 4 550 (by decide +kernel), .inl ⟨rfl, rfl⟩, .inl ⟨rfl, rfl⟩, zz 519 37 (by decide) (by decide) (by decide) (by decide) (by decide), zz 550 37 (by decide) (by decide) (by decide) (by decide) (by decide)⟩, pt 517 10 601 (by decide +kernel), ⟨by rw [d2 11 5 (by decide) (by decide) (by decide) (by decide), zz 517 20 (by decide) (by decide) (by decide) (by decide) (by decide)], fun x hx => by rw [d2 115 x (by decide) (by decide) (by decide) (by omega), zz 621 x (by decide) (by decide) (by decide) (by decide) (by omega)], 0, Nat.le_refl _, d2 11 5 (by decide) (by decide) (by decide) (by decide)⟩, ⟨?_, by decide, ?_, ?_, fun k hk => ⟨?_, ?_⟩⟩, ⟨by rw [d112, kD 517 12 (by decide), b12], by rw [d2 11 3 (by decide) (by decide) (by decide) (by decide), zz 517 13 (by decide) (by decide) (by decide) (by decide) (by decide)], by rw [xD 0 6 (by decide), x6, zz 517 5 (by decide) (by decide) (by decide) (by decide) (by decide)]⟩, ⟨0, fun _ => 0, by decide, d0 1 1 (by decide) (by decide), zz 517 2 (by decide) (by decide) (by decide) (by decide) (by decide), fun _ => (by decide : (0 : Nat) < 256), fun i hi => absurd hi (Nat.not_lt_zero _)⟩, fun x hx => by rw [xD 7 x (by decide)]; exact xst x hx, .inl ⟨d0 1 4 (by decide) (by decide), by rw [kD 517 6 (by decide)]; exact b6, by rw [kD 517 7 (by decide)]; exact b7⟩, ⟨0, by decide, d3 131 1 (by decide) (by decide), zz 517 22 (by decide) (by decide) (by decide) (by decide) (by decide), fun i hi => absurd hi (Nat.not_lt_zero _)⟩, zz 517 24 (by decide) (by decide) (by decide) (by decide) (by decide), ⟨gr_T hG 519 (by decide), 0, by decide, zz 535 0 (by decide) (by decide) (by decide) (by decide) (by decide)⟩, gr_T hG 550 (by decide), 0, by decide, zz 566 0 (by decide) (by decide) (by decide) (by decide) (by decide)⟩, ⟨by decide, by decide, ⟨fun _ => 0, fun y hy => absurd hy (show ¬ (0 : Nat) = 1 by decide)⟩, by decide⟩, 0, by decide, d0 1 1 (by decide) (by decide), by rw [ks, sh0_len]; decide, by rw [kl]; decide⟩
  · have : 2 ^ nwk w ≤ 2 ^ 8 := Nat.pow_le_pow_right (by decide) hn.2
    omega
  · rw [xD 0 7 (by decide), x7, upW_n]
  · rw [xD 0 8 (by decide), x8]; rfl
  · rw [kD 623 k (by decide), bu k hk]
    have := bits_n ⟨nwk w, by omega⟩ ⟨k, hk⟩
    simp only at this
    by_cases y : k < nwk w
    · rw [if_pos y, if_pos (this.mpr y)]
    · rw [if_neg y, if_neg (fun z => y (this.mp z))]
  · rw [zz 624 k (by decide) (by decide) (by decide) (by decide) (by omega), Nat.zero_div, if_neg (by decide)]
