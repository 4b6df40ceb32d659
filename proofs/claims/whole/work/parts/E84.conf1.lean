/-! ===== ticks are confirmed alike ===== -/
def CFA (a f : Nat) : Prop := (a = 11 ∧ (f = 1 ∨ f = 5)) ∨ a = 115 ∨ a = 125 ∨ a = 127
def CFB (us a f : Nat) : Prop := TGB us a f ∨ a = 620 ∨ a = 621 ∨ (a = 517 ∧ f = 20) ∨ a = 617 ∨ a = 619
section Par
variable {N p wo inp cs w u ir M K0 : Nat} {s pl : Int32} {ty mn nu cd : Nat → Int32} {E Q : Nat → Nat → Nat} {V : Nat → Nat → Int32} {nL lc : Nat} {lk : Nat → Nat} {hd : Nat → Int32}
/-- the reference runs the confirmed world again -/
theorem runs_s {S : Nat → Nat} {nb b t0 la z us un c n : Nat} {Nm : Nat → Nat → List Nat} {Pv : Nat → Nat → Int32} {A B : Hp} (h : PLI N p cs w M ty mn nu cd E Nm Pv S b t0 A la z B us un c n) (hcn' : c < n) (hQ : TXQ M cs ty mn nu cd E Pv) (hM : M + 2 ≤ N) (hN : 2000000 ≤ N) (hb : BNS S nb) (hcn : nb + (b + 16 * (n - t0)) + 20 < 8388608) : ∃ B4 Q4, F_M_runs N 517 us B = some ((), B4) ∧ WPR A (wt n (c + 1)) B4 us E Q4 ∧ RVB S E Q4 B4 us ∧ GNV S (b + 16 * (c + 1 - t0)) Q4 ∧ smT (fun a f => TGB us a f ∨ a = 620) B B4 ∧ B4.D us 0 = nI (c + 1) := by
  obtain ⟨⟨hGA, hGB, hT, hL⟩, ⟨hus, hun, hne, b8, b9, b3⟩, ⟨n0, n1, n2, n3, n4, n5, n6⟩, -, ⟨Qs, y1, y2, y3⟩, hLk, hRw, hCm⟩ := h
  have hu1 := lU_le hus
  obtain ⟨B1, q1, q2, q3⟩ := ev_bitsOf (N := N) (u := us) (c := c) (t := c + 1) (by omega) hus (by omega) (by omega) (by omega) 4 N 0 B (by omega) (by omega) hGB b8 n5
  have hGB1 : Gr B1 := q2.gr hGB
  have e1 : ∀ a f, a ≠ 620 → B1.D a f = B.D a f := fun a f y => q2.1 a f (by omega)
  obtain ⟨k1, k2⟩ := hRw (c + 1) (by omega) (by omega)
  have hT1 : TXF A p B1 w cs M ty mn nu cd E Nm Pv := hT.fw hQ.1 hGA hL (exS.rf (R := fun _ _ => False) hL).exT q2.smT (fun a f y => y.elim) (fun a f y => by omega)
  obtain ⟨B4, Q4, r1, r2, r3, r4, r5, r6⟩ := lnk_run (N := N) (ir := 620) (u := us) (hLk c (Nat.le_refl _) hcn') hT1 hQ hM hN hus hGB1 (y1.fr (fun _ _ _ _ => rfl) (fun a f z1 z2 => e1 a f (by omega))) (rA_517_18 hGB1) (fun x hx => by
    rw [q3 x (by omega) hx, k1 x hx, k2, hCm.ip hx]) hb (by omega) (y2.fr fun a f z1 z2 => e1 a f (by omega)) y3
  refine ⟨B4, Q4, ?_, r2, r3, by rw [show b + 16 * (c + 1 - t0) = b + 16 * (c - t0) + 16 by omega]; exact r4, ((q2.mono fun a f y => .inr y.1).smT).tr (r5.mono fun a f y => .inl y), by rw [r6, e1 _ _ (by omega), n5, nI_1]⟩
  have hq : F_M_bitsOf N 517 (nI (c + 1)) B = some ((), B1) := q1
  unfold F_M_runs
  rw [ck_t (US (gr_U hGB us hus)), bnd_t, n5, nI_1, ck_t (rS_517 hGB), bC_t hq, rf_t (rP_517_11 hGB1), rf_t (show B1.P 517 3 = .ref w by rw [q2.2.1]; exact b3), rf_t (rP_517_18 hGB1), ck_t (rS_611 hGB1), bC_t r1]
/-- one tick is confirmed, or none -/
theorem conf_one {S : Nat → Nat} {kT : Nat} {nb b t0 la z us un c n l1 nA nB : Nat} {Nm : Nat → Nat → List Nat} {Pv : Nat → Nat → Int32} {A B : Hp} (h : PLI N p cs w M ty mn nu cd E Nm Pv S b t0 A la z B us un c n) (hTl : TLD kT A B) (hcn' : c < n) (hl : l1 < 16) (hQ : TXQ M cs ty mn nu cd E Pv) (hM : M + 2 ≤ N) (hN : 2000000 ≤ N) (hb : BNS S nb) (hcn : nb + (b + 16 * (n - t0)) + 20 < 8388608) :
    (B_Play_confirm_2 N 11 (nA + 1) (nI l1) A = some ((), A) ∧ B_M_confirms_2 N 517 (nB + 1) 1 B = some ((), B)) ∨
    ∃ A3 B6, B_Play_confirm_2 N 11 (nA + 1) (nI l1) A = B_Play_confirm_2 N 11 nA (nI (l1 + 1)) A3 ∧ B_M_confirms_2 N 517 (nB + 1) 1 B = B_M_confirms_2 N 517 nB 1 B6 ∧ PLI N p cs w M ty mn nu cd E Nm Pv S b t0 A3 la z B6 us un (c + 1) n ∧ TLD (kT + 32) A3 B6 ∧ same CFA A A3 ∧ smT (CFB us) B B6 := by
  have h' := h
  obtain ⟨⟨hGA, hGB, hT, hL⟩, ⟨hus, hun, hne, b8, b9, b3⟩, ⟨n0, n1, n2, n3, n4, n5, n6⟩, ⟨Qn, x1, x2, x3⟩, ⟨Qs, y1, y2, y3⟩, hLk, hRw, hCm⟩ := h
  have hu1 := lU_le hus
  have hu2 := lU_le hun
  have dj := lU_dj hus hun hne
  have bn : B.D un 0 = nI n := by rw [← x1.2.1]; exact n6
  obtain ⟨k1, k2⟩ := hRw (c + 1) (by omega) (by omega)
  have eA : B_Play_confirm_2 N 11 (nA + 1) (nI l1) A = (bC (B_Play_isKnown_2 N 11 (nI (c + 1)) N (nI 0) A) fun v11 H12 => if v11 = (0 : Int32) then some ((), H12) else bnd ((H12.D 11 1)) fun x14 => bnd (H12.sD 11 1 (x14 + (1 : Int32))) fun H15 => B_Play_confirm_47 N 11 (fun l1 H => B_Play_confirm_2 N 11 nA l1 H) N (nI l1) 0 H15) := by
    rw [B_Play_confirm_2, if_neg (show ¬ (16 : Int32) ≤ nI l1 from nI_ge (b := 16) (by omega) (by omega)), ck_t (rS_11 hGA), bnd_t, n4, rf_t (rP_11_0 hGA), ck_t (rA_11_0 hGA), bnd_t, n6, if_neg (nI_ge (by omega) (by omega)), bnd_t]
    unfold F_Play_isKnown
    rw [nI_1]
    rfl
  have eB : B_M_confirms_2 N 517 (nB + 1) 1 B = B_M_confirms_35 N 517 (fun l1 H => B_M_confirms_2 N 517 nB l1 H) N 1 (nI (c + 1)) (nI 0) B := by
    rw [B_M_confirms_2, if_neg (by decide), ck_t (rS_517 hGB), rf_t b8, ck_t (US (gr_U hGB us hus)), bnd_t, n5, rf_t b9, ck_t (US (gr_U hGB un hun)), bnd_t, bn, if_neg (nI_ge (by omega) (by omega)), rf_t b8, ck_t (US (gr_U hGB us hus)), bnd_t, n5, bnd_t, nI_1]
    rfl
  have kA := ev_kn (N := N) (t := c + 1) hGA (by omega) 4 N 0 (by omega) (by omega)
  have kB := ev_k35 (N := N) (kq2 := fun l1 H => B_M_confirms_2 N 517 nB l1 H) (t := c + 1) hGB b8 (by omega) 4 N 0 (by omega) (by omega)
  have kE : KNW (A.D 128 ((c + 1) % 16)) (A.D 125) (c + 1) 0 ↔ KNW (B.D 618 ((c + 1) % 64)) (B.D 617) (c + 1) 0 := by
    unfold KNW
    rw [k2]
    constructor
    · intro q x z1 z2 z3
      rw [← (hCm.1 _ (by omega)).1]
      exact q x z1 z2 z3
    · intro q x z1 z2 z3
      rw [(hCm.1 _ (by omega)).1]
      exact q x z1 z2 z3
  by_cases kn : KNW (A.D 128 ((c + 1) % 16)) (A.D 125) (c + 1) 0
  · right
    obtain ⟨B4, Q4, r1, r2, r3, r4, r5, r6⟩ := runs_s (N := N) h' hcn' hQ hM hN hb hcn
    rw [bC_t (kA.1 kn), if_neg (by decide), bnd_t, n4, nI_1, bnd_t] at eA
    rw [kB.1 (kE.mp kn), bC_t r1] at eB
    have d1 : ∀ a f, ¬ (a = 11 ∧ f = 1) → (A.sD 11 1 (nI (c + 1))).D a f = A.D a f := fun a f y => rdnn y
    obtain ⟨n0', hn0⟩ : ∃ y, N = y + 1 + 4 := ⟨N - 5, by omega⟩
    obtain ⟨A2, c1, c2, c3, c4⟩ := ev_c47 (N := N) (n0 := n0') (l1 := nI l1) (kq2 := fun l1 H => B_Play_confirm_2 N 11 nA l1 H) (t := c + 1) (by omega) 4 N 0 (A.sD 11 1 (nI (c + 1))) (by omega) hn0 hGA.sD rds
    have hGA2 : Gr A2 := c2.gr hGA.sD
    have s2 : same CFA A A2 := (((same.rf (H := A)).sD (.inl ⟨rfl, .inl rfl⟩)).tr (c2.mono fun a f y => by unfold CFA; omega))
    have d2 : ∀ a f, ¬ CFA a f → A2.D a f = A.D a f := fun a f y => s2.1 a f y
    have a21 : A2.D 11 1 = nI (c + 1) := by rw [c2.1 _ _ (by omega), rds]
    have hw1 : wt n (c + 1) ∈ lW := wt_m
    have hwl := lW_le hw1
    have hwm := lW_md hw1
    have hGB4 : Gr B4 := r5.gr hGB
    have e4 : ∀ a f, ¬ (TGB us a f ∨ a = 620) → B4.D a f = B.D a f := fun a f y => r5.1 a f y
    have w7 := r2.1.2.2.2.2.2.2
    obtain ⟨A3, B5, t1, t2, t3, t4, t5⟩ := tell_jo (N := N) (l1 := 1) (l2 := nI (c + 1)) (kq2 := fun l1 H => B_M_confirms_2 N 517 nB l1 H) (w1 := wt n (c + 1)) (us := us) (sn := Q4 5 3) hw1 hus w7.2.2.1 (Q4 5 3) 0 kT N N A2 B4 (by omega) (by have := w7.2.2.1; omega) (by have := w7.2.2.1; omega) hGA2 hGB4 (by rw [r5.2.1 _ _ (by unfold lnkB; omega)]; exact b8) (by rw [d2 _ _ (by unfold CFA; omega)]; exact w7.1) w7.2.1 (fun x hx => by rw [d2 _ _ (by unfold CFA; omega)]; exact w7.2.2.2 x hx) (hTl.fr (fun a f y => by rw [c2.1 _ _ (by omega), d1 _ _ (by omega)]) (fun a f y => e4 _ _ (by unfold TGB TFB; omega)))
    have hGB5 : Gr B5 := t4.gr hGB4
    obtain ⟨B6, v1, v2, v3, v4⟩ := ev_c152 (N := N) (l1 := 1) (kq2 := fun l1 H => B_M_confirms_2 N 517 nB l1 H) (t := c + 1) (by omega) 4 N 0 B5 (by omega) (by omega) hGB5
    have s3 : same CFA A A3 := s2.tr (t3.mono fun a f y => by unfold CFA; omega)
    have s6 : smT (CFB us) B B6 := ((r5.mono fun a f y => y.elim .inl (fun z => .inr (.inl z)) : smT (CFB us) B B4).tr (t4.mono fun a f y => by unfold CFB; omega : same (CFB us) B4 B5).smT).tr (v2.mono fun a f y => by unfold CFB; omega : same (CFB us) B5 B6).smT
    have d3 : ∀ a f, ¬ CFA a f → A3.D a f = A.D a f := fun a f y => s3.1 a f y
    have e3 : ∀ a, a ≠ 11 → a ≠ 115 → a ≠ 125 → a ≠ 127 → A3.D a = A.D a := fun a y1 y2 y3 y4 => funext fun f => d3 a f (by unfold CFA; omega)
    have e6 : ∀ a f, ¬ CFB us a f → B6.D a f = B.D a f := fun a f y => s6.1 a f y
    have b56 : ∀ a f, ¬ ((a = 619 ∧ 0 ≤ f ∧ f < 4) ∨ (a = 617 ∧ slt (c + 1) 0 f)) → ¬ (a = 621 ∨ (a = 517 ∧ f = 20)) → B6.D a f = B4.D a f := fun a f y1 y2 => by rw [v2.1 _ _ y1, t4.1 _ _ y2]
    have A125 : ∀ x, x < 256 → x % 64 ≠ (c + 1) % 64 → A3.D 125 x = A.D 125 x := fun x z1 z2 => by rw [t3.1 _ _ (by omega), c2.1 _ _ (by unfold slt; omega), d1 _ _ (by omega)]
    have A125z : ∀ x, x < 256 → x % 64 = (c + 1) % 64 → A3.D 125 x = 0 := fun x z1 z2 => by rw [t3.1 _ _ (by omega)]; exact c4 x (by unfold slt; omega)
    have A127 : ∀ x, x < 4 → A3.D 127 x = if A.D 125 (64 * x + (c + 1) % 64) = 0 then A.D 127 x else A.D 126 (64 * x + (c + 1) % 64) := fun x hx => by
      rw [t3.1 _ _ (by omega), c3 x (by omega) hx, d1 _ _ (by omega), d1 _ _ (by omega), d1 _ _ (by omega)]
    have lo : ∀ a f, 616 ≤ a → a ≤ 619 → B5.D a f = B.D a f := fun a f z1 z2 => by rw [t4.1 _ _ (by omega), e4 _ _ (by unfold TGB TFB; omega)]
    refine ⟨A3, B6, ?_, ?_, ⟨⟨s3.gr hGA, s6.gr hGB, hT.fw hQ.1 hGA hL (s3.exS hL).exT s6 (fun a f y => by unfold CFA at y; omega) (fun a f y => by unfold CFB TGB TFB at y; omega), (s3.exS hL).1⟩, ⟨hus, hun, hne, by rw [s6.2.1 _ _ (by unfold lnkB; omega)]; exact b8, by rw [s6.2.1 _ _ (by unfold lnkB; omega)]; exact b9, by rw [s6.2.1 _ _ (by unfold lnkB; omega)]; exact b3⟩, ⟨by omega, by omega, by omega, n3, by rw [t3.1 _ _ (by omega)]; exact a21, by rw [b56 _ _ (by omega) (by omega)]; exact r6, by rw [d3 _ _ (by unfold CFA; omega)]; exact n6⟩, ⟨Qn, x1.fr (fun a f z1 z2 => d3 a f (by unfold CFA; omega)) (fun a f z1 z2 => e6 a f (by unfold CFB TGB TFB; omega)), x2.fr (fun a f z1 z2 => e6 a f (by unfold CFB TGB TFB; omega)), x3⟩, ⟨Q4, r2.fr (fun a f z1 z2 => d3 a f (by unfold CFA; omega)) (fun a f z1 z2 => b56 a f (by omega) (by omega)), r3.fr (fun a f z1 z2 => b56 a f (by omega) (by omega)), r4⟩, fun t z1 z2 => ?_, fun t z1 z2 => ?_, ?_⟩, ?_, s3, s6⟩
    · rw [eA]
      have e47 : B_Play_confirm_47 N 11 (fun l1 H => B_Play_confirm_2 N 11 nA l1 H) N (nI l1) 0 (A.sD 11 1 (nI (c + 1))) = B_Play_confirm_47 N 11 (fun l1 H => B_Play_confirm_2 N 11 nA l1 H) (n0' + 1) (nI l1) (nI 4) A2 := c1
      have tl : F_Play_tell N 11 (wt n (c + 1)) A2 = some ((), A3) := t1
      have a12 : A2.D 12 0 = nI n := by rw [d2 _ _ (by unfold CFA; omega)]; exact n6
      rw [e47, B_Play_confirm_47, if_pos (show (4 : Int32) ≤ nI 4 by decide), ck_t (rS_11 hGA2), bnd_t, a21, rf_t (rP_11_0 hGA2), ck_t (rA_11_0 hGA2), bnd_t, a12]
      unfold B_Play_confirm_129
      by_cases q : c + 1 = n
      · rw [if_pos (by rw [q]), rf_t (rP_11_0 hGA2), ck_t (rS_11 hGA2)]
        have hq : wt n (c + 1) = 12 := if_pos q
        rw [hq] at tl
        rw [bC_t tl, nI_1]
      · rw [if_neg (show ¬ nI (c + 1) = nI n from fun y => q ((nI_eq (by omega) (by omega)).mp y)), rf_t (rP_11_6 hGA2), bnd_t, ar_t (rA_11_6 hGA2), nI_15 (by omega), rdP (show (c + 1) % 16 < 16 by omega) (by decide), rf_t (rP_18 hGA2 (by omega)), ck_t (rS_11 hGA2)]
        have hq : wt n (c + 1) = 19 + 6 * ((c + 1) % 16) := if_neg q
        rw [hq] at tl
        rw [bC_t tl, nI_1]
    · rw [eB, t2]
      exact v1
    · exact ((hLk t (by omega) z2).fr (CEQ.fr fun a f k1 k2 => d3 a f (by have := lW_md (wt_m (n := n) (t := t)); unfold CFA; omega)) (CEQ.fr fun a f k1 k2 => d3 a f (by have := lW_md (wt_m (n := n) (t := t + 1)); unfold CFA; omega)).symm).ii (fun x hx => (d3 129 _ (by unfold CFA; omega)).symm)
    · obtain ⟨q1, q2⟩ := hRw t (by omega) z2
      rw [e3 128 (by decide) (by decide) (by decide) (by decide), e3 129 (by decide) (by decide) (by decide) (by decide), e3 126 (by decide) (by decide) (by decide) (by decide), e6 618 _ (by unfold CFB TGB TFB; omega)]
      refine ⟨fun x hx => ?_, q2⟩
      rw [q1 x hx]
      unfold ipV
      obtain ⟨j, hj⟩ : ∃ j, t = c + 1 + j := ⟨t - (c + 1), by omega⟩
      rw [hj, inF_up hx A125 A127 j (by omega)]
    · refine ⟨fun x hx => ?_, fun x hx => ?_⟩
      · by_cases q : x % 64 = (c + 1) % 64
        · rw [A125z x hx q, v4 x (by unfold slt; omega)]
          exact ⟨rfl, fun y => absurd rfl y⟩
        · rw [A125 x hx q, e3 126 (by decide) (by decide) (by decide) (by decide), v2.1 617 x (by unfold slt; omega), v2.1 616 x (by omega), lo _ _ (by omega) (by omega), lo _ _ (by omega) (by omega)]
          exact hCm.1 x hx
      · rw [A127 x hx, v3 x (by omega) hx, lo _ _ (by omega) (by omega), lo _ _ (by omega) (by omega), lo _ _ (by omega) (by omega), hCm.2 x hx]
        obtain ⟨q1, q2⟩ := hCm.1 (64 * x + (c + 1) % 64) (by omega)
        rw [← q1]
        by_cases q : A.D 125 (64 * x + (c + 1) % 64) = 0
        · rw [if_pos q, if_pos q]
        · rw [if_neg q, if_neg q, q2 q]
    · exact (t5.fr (fun _ _ _ => rfl) (fun a f y => v2.1 _ _ (by omega))).mono (by have := w7.2.2.1; omega)
  · left
    rw [bC_t (kA.2 kn), if_pos rfl] at eA
    rw [kB.2 (fun y => kn (kE.mpr y))] at eB
    exact ⟨eA, eB⟩
end Par
