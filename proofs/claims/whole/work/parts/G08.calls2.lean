/-! ===== further calls (gen_rr.py) ===== -/
theorem jc_set {N s0 k : Nat} {x1 x2 x3 x4 : Int32} (hN : 2000000 ≤ N) (hk : k ≤ 600) : JC Int32 N s0 k (fun H => F_W_set N 0 x1 x2 x3 x4 H) (fun H => F_M_set N 517 x1 x2 x3 x4 H) := by
  intro A B h
  obtain ⟨p, p2, cs, w, w2, M, ty, mn, nu, cd, E, Nm, Pv, S, nb, b, t0, la, z, us, un, um, c, n, kT, U, F, h1, h2, h3, h4, h5, h6⟩ := h
  have hlA := h1.1.1.len
  have hlB := h1.1.2.1.len
  have hus := lU_le h1.2.1.1
  have hun := lU_le h1.2.1.2.1
  have hum := lU_le h3.1
  have ws := h4.1.ws
  have hM : M + 2 ≤ N := by
    have := h1.1.2.2.1.2.2.2.2.2.1.1
    omega
  have hE := h2.1.1
  have q0 := h1.2.2.1
  have h4' := h4
  obtain ⟨r1, r2, r3, r4, r5, r6, r7, r8, r9, r10, r11, r12⟩ := h4
  obtain ⟨k1, k2, k3, k4⟩ := h5
  obtain ⟨r, A2, B2, y0, e1, e2, jP, jA, jB⟩ := set_jo (N := N) (e := x1) (q := x2) (i := x3) (v := x4) h1 r1.1 hE hN
  have hsA : A2.sh = A.sh ∧ A2.sl = A.sl := ⟨jA.2.2.2.1, jA.2.2.2.2⟩
  have hsB : B2.sh = B.sh ∧ B2.sl = B.sl := ⟨jB.2.2.2.1, jB.2.2.2.2⟩
  have gB2 := jP.1.2.1
  have gA : gw (fun a f => 12 ≤ a ∧ a ≤ 17) A A2 := jA.gw.mono fun a f y => by unfold cW at y; omega
  have gB : gw (fun a f => (a = 517 ∧ f = 0) ∨ (581 ≤ a ∧ a ≤ 610)) B B2 := jB.gw.mono fun a f y => by unfold EDB cU at y; omega
  have eA : ∀ a f, a < 626 → ¬ (12 ≤ a ∧ a ≤ 17) → A2.D a f = A.D a f ∧ A2.P a f = A.P a f := fun a f y1 y2 => gA.2 a f (by omega) y2
  have eB : ∀ a f, a < 626 → ¬ ((a = 517 ∧ f = 0) ∨ (581 ≤ a ∧ a ≤ 610)) → B2.D a f = B.D a f ∧ B2.P a f = B.P a f := fun a f y1 y2 => gB.2 a f (by omega) y2
  refine ⟨r, A2, B2, e1, e2, ⟨p, p2, cs, w, w2, M, ty, mn, nu, cd, E, Nm, Pv, (addS S y0), (nb + 1), b, t0, la, z, us, un, um, c, n, kT, U, F, jP, h2, h3, ⟨r1.fr (eA 0 4 (by omega) (by omega)).2 (eA 0 5 (by omega) (by omega)).2 (eB 517 3 (by omega) (by omega)).2 (eB 517 4 (by omega) (by omega)).2 (eB w 37 (by omega) (by omega)).1 (eB w2 37 (by omega) (by omega)).1, (by rw [(eB 517 10 (by omega) (by omega)).2]; exact r2), r3.fr (fun a f y => (eA a f (by omega) (by omega)).1) (fun a f y => (eB a f (by omega) (by omega)).1), r4.fr (fun a f y => (eA a f (by omega) (by omega)).1) (fun a f y => (eB a f (by omega) (by omega)).1), ⟨(by rw [(eA 11 2 (by omega) (by omega)).1, (eB 517 12 (by omega) (by omega)).1]; exact r5.1), (by rw [(eA 11 3 (by omega) (by omega)).1, (eB 517 13 (by omega) (by omega)).1]; exact r5.2.1), (by rw [(eA 0 6 (by omega) (by omega)).1, (eB 517 5 (by omega) (by omega)).1]; exact r5.2.2)⟩, r6.fr (fun a f y => (eA a f (by omega) (by omega)).1) (fun a f y => (eB a f (by omega) (by omega)).1), (fun x hx => by rw [(eA 7 x (by omega) (by omega)).1]; exact r7 x hx), r8.fr (fun a f y => (eA a f (by omega) (by omega)).1) (fun a f y => (eB a f (by omega) (by omega)).1), r9.fr (fun a f y => (eA a f (by omega) (by omega)).1) (fun a f y => (eB a f (by omega) (by omega)).1), (by rw [(eB 517 24 (by omega) (by omega)).1]; exact r10), r11.fr (gr_T gB2 w ws.2.2.2.2.1) (eB (w + 16) 0 (by omega) (by omega)).1, r12.fr (gr_T gB2 w2 ws.2.2.2.2.2) (eB (w2 + 16) 0 (by omega) (by omega)).1⟩, ⟨by omega, by omega, k3.add, by omega⟩, (h6.fr (eA 1 1 (by omega) (by omega)).1 hsA.1 hsA.2).up⟩, gA.mono fun a f y => by unfold clsR; omega, gB.mono fun a f y => by unfold refR; omega, hsB.1, hsB.2⟩

theorem jc_seat {N s0 k : Nat} {x1 x2 : Int32} (hN : 2000000 ≤ N) (hk : k ≤ 600) (hq : x2 = 0 ∨ x2 = 1) : JC Int32 N s0 k (fun H => F_W_seat N 0 x1 x2 H) (fun H => F_M_seat N 517 x1 x2 H) := by
  intro A B h
  obtain ⟨p, p2, cs, w, w2, M, ty, mn, nu, cd, E, Nm, Pv, S, nb, b, t0, la, z, us, un, um, c, n, kT, U, F, h1, h2, h3, h4, h5, h6⟩ := h
  have hlA := h1.1.1.len
  have hlB := h1.1.2.1.len
  have hus := lU_le h1.2.1.1
  have hun := lU_le h1.2.1.2.1
  have hum := lU_le h3.1
  have ws := h4.1.ws
  have hM : M + 2 ≤ N := by
    have := h1.1.2.2.1.2.2.2.2.2.1.1
    omega
  have hE := h2.1.1
  have q0 := h1.2.2.1
  have h4' := h4
  obtain ⟨r1, r2, r3, r4, r5, r6, r7, r8, r9, r10, r11, r12⟩ := h4
  obtain ⟨k1, k2, k3, k4⟩ := h5
  obtain ⟨r, A2, B2, e1, e2, jP, jO, jA, jB⟩ := seat_jo (N := N) (P := x1) (q := x2) h1 r5.1 hE (by omega) hq
  have hsA : A2.sh = A.sh ∧ A2.sl = A.sl := ⟨jA.2.2.2.1, jA.2.2.2.2⟩
  have hsB : B2.sh = B.sh ∧ B2.sl = B.sl := ⟨jB.2.2.2.1, jB.2.2.2.2⟩
  have gB2 := jP.1.2.1
  have gA : gw (fun a f => (a = 11 ∧ f = 2) ∨ a = 125) A A2 := jA.gw.mono fun a f y => by omega
  have gB : gw (fun a f => (a = 517 ∧ (f = 0 ∨ f = 12)) ∨ a = 617) B B2 := jB.gw.mono fun a f y => by omega
  have eA : ∀ a f, a < 626 → ¬ ((a = 11 ∧ f = 2) ∨ a = 125) → A2.D a f = A.D a f ∧ A2.P a f = A.P a f := fun a f y1 y2 => gA.2 a f (by omega) y2
  have eB : ∀ a f, a < 626 → ¬ ((a = 517 ∧ (f = 0 ∨ f = 12)) ∨ a = 617) → B2.D a f = B.D a f ∧ B2.P a f = B.P a f := fun a f y1 y2 => gB.2 a f (by omega) y2
  refine ⟨r, A2, B2, e1, e2, ⟨p, p2, cs, w, w2, M, ty, mn, nu, cd, E, Nm, Pv, S, nb, b, t0, la, z, us, un, um, c, n, kT, U, F, jP, h2, h3, ⟨r1.fr (eA 0 4 (by omega) (by omega)).2 (eA 0 5 (by omega) (by omega)).2 (eB 517 3 (by omega) (by omega)).2 (eB 517 4 (by omega) (by omega)).2 (eB w 37 (by omega) (by omega)).1 (eB w2 37 (by omega) (by omega)).1, (by rw [(eB 517 10 (by omega) (by omega)).2]; exact r2), r3.fr (fun a f y => (eA a f (by omega) (by omega)).1) (fun a f y => (eB a f (by omega) (by omega)).1), r4.fr (fun a f y => (eA a f (by omega) (by omega)).1) (fun a f y => (eB a f (by omega) (by omega)).1), ⟨jO, (by rw [(eA 11 3 (by omega) (by omega)).1, (eB 517 13 (by omega) (by omega)).1]; exact r5.2.1), (by rw [(eA 0 6 (by omega) (by omega)).1, (eB 517 5 (by omega) (by omega)).1]; exact r5.2.2)⟩, r6.fr (fun a f y => (eA a f (by omega) (by omega)).1) (fun a f y => (eB a f (by omega) (by omega)).1), (fun x hx => by rw [(eA 7 x (by omega) (by omega)).1]; exact r7 x hx), r8.fr (fun a f y => (eA a f (by omega) (by omega)).1) (fun a f y => (eB a f (by omega) (by omega)).1), r9.fr (fun a f y => (eA a f (by omega) (by omega)).1) (fun a f y => (eB a f (by omega) (by omega)).1), (by rw [(eB 517 24 (by omega) (by omega)).1]; exact r10), r11.fr (gr_T gB2 w ws.2.2.2.2.1) (eB (w + 16) 0 (by omega) (by omega)).1, r12.fr (gr_T gB2 w2 ws.2.2.2.2.2) (eB (w2 + 16) 0 (by omega) (by omega)).1⟩, ⟨by omega, by omega, k3, by omega⟩, (h6.fr (eA 1 1 (by omega) (by omega)).1 hsA.1 hsA.2).up⟩, gA.mono fun a f y => by unfold clsR; omega, gB.mono fun a f y => by unfold refR; omega, hsB.1, hsB.2⟩

theorem jc_sum {N s0 k : Nat} (hN : 2000000 ≤ N) (hk : k ≤ 600) : JC Int32 N s0 k (fun H => F_W_sum N 0  H) (fun H => F_M_sum N 517  H) := by
  intro A B h
  obtain ⟨p, p2, cs, w, w2, M, ty, mn, nu, cd, E, Nm, Pv, S, nb, b, t0, la, z, us, un, um, c, n, kT, U, F, h1, h2, h3, h4, h5, h6⟩ := h
  have hlA := h1.1.1.len
  have hlB := h1.1.2.1.len
  have hus := lU_le h1.2.1.1
  have hun := lU_le h1.2.1.2.1
  have hum := lU_le h3.1
  have ws := h4.1.ws
  have hM : M + 2 ≤ N := by
    have := h1.1.2.2.1.2.2.2.2.2.1.1
    omega
  have hE := h2.1.1
  have q0 := h1.2.2.1
  have h4' := h4
  obtain ⟨r1, r2, r3, r4, r5, r6, r7, r8, r9, r10, r11, r12⟩ := h4
  obtain ⟨k1, k2, k3, k4⟩ := h5
  obtain ⟨r, A2, B2, e1, e2, jP, jA, j1, jB, j2⟩ := sum_jo (N := N) h1 hE (by omega) r1.1
  have hsA : A2.sh = A.sh ∧ A2.sl = A.sl := ⟨jA.2.2.2.1, jA.2.2.2.2⟩
  have hsB : B2.sh = B.sh ∧ B2.sl = B.sl := ⟨jB.2.2.2.1, jB.2.2.2.2⟩
  have gB2 := jP.1.2.1
  have gA : gw (fun a f => a = 131) A A2 := jA.gw.mono fun a f y => by omega
  have gB : gw (fun a f => a = 517 ∧ (f = 0 ∨ f = 23 ∨ f = 24)) B B2 := jB.gw.mono fun a f y => by omega
  have eA : ∀ a f, a < 626 → ¬ (a = 131) → A2.D a f = A.D a f ∧ A2.P a f = A.P a f := fun a f y1 y2 => gA.2 a f (by omega) y2
  have eB : ∀ a f, a < 626 → ¬ (a = 517 ∧ (f = 0 ∨ f = 23 ∨ f = 24)) → B2.D a f = B.D a f ∧ B2.P a f = B.P a f := fun a f y1 y2 => gB.2 a f (by omega) y2
  refine ⟨r, A2, B2, e1, e2, ⟨p, p2, cs, w, w2, M, ty, mn, nu, cd, E, Nm, Pv, S, nb, b, t0, la, z, us, un, um, c, n, kT, U, F, jP, h2, h3, ⟨r1.fr (eA 0 4 (by omega) (by omega)).2 (eA 0 5 (by omega) (by omega)).2 (eB 517 3 (by omega) (by omega)).2 (eB 517 4 (by omega) (by omega)).2 (eB w 37 (by omega) (by omega)).1 (eB w2 37 (by omega) (by omega)).1, (by rw [(eB 517 10 (by omega) (by omega)).2]; exact r2), r3.fr (fun a f y => (eA a f (by omega) (by omega)).1) (fun a f y => (eB a f (by omega) (by omega)).1), r4.fr (fun a f y => (eA a f (by omega) (by omega)).1) (fun a f y => (eB a f (by omega) (by omega)).1), ⟨(by rw [(eA 11 2 (by omega) (by omega)).1, (eB 517 12 (by omega) (by omega)).1]; exact r5.1), (by rw [(eA 11 3 (by omega) (by omega)).1, (eB 517 13 (by omega) (by omega)).1]; exact r5.2.1), (by rw [(eA 0 6 (by omega) (by omega)).1, (eB 517 5 (by omega) (by omega)).1]; exact r5.2.2)⟩, r6.fr (fun a f y => (eA a f (by omega) (by omega)).1) (fun a f y => (eB a f (by omega) (by omega)).1), (fun x hx => by rw [(eA 7 x (by omega) (by omega)).1]; exact r7 x hx), r8.fr (fun a f y => (eA a f (by omega) (by omega)).1) (fun a f y => (eB a f (by omega) (by omega)).1), r9.fr (fun a f y => by
    rcases y with ⟨rfl, rfl⟩ | y
    · exact j1
    · exact (eA a f (by omega) (by omega)).1) (fun a f y => (eB a f (by omega) (by omega)).1), j2, r11.fr (gr_T gB2 w ws.2.2.2.2.1) (eB (w + 16) 0 (by omega) (by omega)).1, r12.fr (gr_T gB2 w2 ws.2.2.2.2.2) (eB (w2 + 16) 0 (by omega) (by omega)).1⟩, ⟨by omega, by omega, k3, by omega⟩, (h6.fr (eA 1 1 (by omega) (by omega)).1 hsA.1 hsA.2).up⟩, gA.mono fun a f y => by unfold clsR; omega, gB.mono fun a f y => by unfold refR; omega, hsB.1, hsB.2⟩

theorem jc_save {N s0 k : Nat} (hN : 2000000 ≤ N) (hk : k ≤ 600) : JC Int32 N s0 k (fun H => F_W_save N 0  H) (fun H => F_M_save N 517  H) := by
  intro A B h
  obtain ⟨p, p2, cs, w, w2, M, ty, mn, nu, cd, E, Nm, Pv, S, nb, b, t0, la, z, us, un, um, c, n, kT, U, F, h1, h2, h3, h4, h5, h6⟩ := h
  have hlA := h1.1.1.len
  have hlB := h1.1.2.1.len
  have hus := lU_le h1.2.1.1
  have hun := lU_le h1.2.1.2.1
  have hum := lU_le h3.1
  have ws := h4.1.ws
  have hM : M + 2 ≤ N := by
    have := h1.1.2.2.1.2.2.2.2.2.1.1
    omega
  have hE := h2.1.1
  have q0 := h1.2.2.1
  have h4' := h4
  obtain ⟨r1, r2, r3, r4, r5, r6, r7, r8, r9, r10, r11, r12⟩ := h4
  obtain ⟨k1, k2, k3, k4⟩ := h5
  obtain ⟨r, A2, B2, e1, e2, jP, jA, jB, jO⟩ := save_jo (N := N) h1 hE (by omega) r1.1 r10 r9
  have hsA : A2.sh = A.sh ∧ A2.sl = A.sl := ⟨jA.2.2.2.1, jA.2.2.2.2⟩
  have hsB : B2.sh = B.sh ∧ B2.sl = B.sl := ⟨jB.2.2.2.1, jB.2.2.2.2⟩
  have gB2 := jP.1.2.1
  have gA : gw (fun a f => a = 131 ∨ a = 132) A A2 := jA.gw.mono fun a f y => by omega
  have gB : gw (fun a f => (a = 517 ∧ (f = 0 ∨ f = 22)) ∨ a = 622) B B2 := jB.gw.mono fun a f y => by omega
  have eA : ∀ a f, a < 626 → ¬ (a = 131 ∨ a = 132) → A2.D a f = A.D a f ∧ A2.P a f = A.P a f := fun a f y1 y2 => gA.2 a f (by omega) y2
  have eB : ∀ a f, a < 626 → ¬ ((a = 517 ∧ (f = 0 ∨ f = 22)) ∨ a = 622) → B2.D a f = B.D a f ∧ B2.P a f = B.P a f := fun a f y1 y2 => gB.2 a f (by omega) y2
  refine ⟨r, A2, B2, e1, e2, ⟨p, p2, cs, w, w2, M, ty, mn, nu, cd, E, Nm, Pv, S, nb, b, t0, la, z, us, un, um, c, n, kT, U, F, jP, h2, h3, ⟨r1.fr (eA 0 4 (by omega) (by omega)).2 (eA 0 5 (by omega) (by omega)).2 (eB 517 3 (by omega) (by omega)).2 (eB 517 4 (by omega) (by omega)).2 (eB w 37 (by omega) (by omega)).1 (eB w2 37 (by omega) (by omega)).1, (by rw [(eB 517 10 (by omega) (by omega)).2]; exact r2), r3.fr (fun a f y => (eA a f (by omega) (by omega)).1) (fun a f y => (eB a f (by omega) (by omega)).1), r4.fr (fun a f y => (eA a f (by omega) (by omega)).1) (fun a f y => (eB a f (by omega) (by omega)).1), ⟨(by rw [(eA 11 2 (by omega) (by omega)).1, (eB 517 12 (by omega) (by omega)).1]; exact r5.1), (by rw [(eA 11 3 (by omega) (by omega)).1, (eB 517 13 (by omega) (by omega)).1]; exact r5.2.1), (by rw [(eA 0 6 (by omega) (by omega)).1, (eB 517 5 (by omega) (by omega)).1]; exact r5.2.2)⟩, r6.fr (fun a f y => (eA a f (by omega) (by omega)).1) (fun a f y => (eB a f (by omega) (by omega)).1), (fun x hx => by rw [(eA 7 x (by omega) (by omega)).1]; exact r7 x hx), r8.fr (fun a f y => (eA a f (by omega) (by omega)).1) (fun a f y => (eB a f (by omega) (by omega)).1), jO, (by rw [(eB 517 24 (by omega) (by omega)).1]; exact r10), r11.fr (gr_T gB2 w ws.2.2.2.2.1) (eB (w + 16) 0 (by omega) (by omega)).1, r12.fr (gr_T gB2 w2 ws.2.2.2.2.2) (eB (w2 + 16) 0 (by omega) (by omega)).1⟩, ⟨by omega, by omega, k3, by omega⟩, (h6.fr (eA 1 1 (by omega) (by omega)).1 hsA.1 hsA.2).up⟩, gA.mono fun a f y => by unfold clsR; omega, gB.mono fun a f y => by unfold refR; omega, hsB.1, hsB.2⟩

theorem jc_fall {N s0 k : Nat} {x1 : Int32} (hN : 2000000 ≤ N) (hk : k ≤ 600) : JC Int32 N s0 k (fun H => F_W_fall N 0 x1 H) (fun H => F_M_fall N 517 x1 H) := by
  intro A B h
  obtain ⟨p, p2, cs, w, w2, M, ty, mn, nu, cd, E, Nm, Pv, S, nb, b, t0, la, z, us, un, um, c, n, kT, U, F, h1, h2, h3, h4, h5, h6⟩ := h
  have hlA := h1.1.1.len
  have hlB := h1.1.2.1.len
  have hus := lU_le h1.2.1.1
  have hun := lU_le h1.2.1.2.1
  have hum := lU_le h3.1
  have ws := h4.1.ws
  have hM : M + 2 ≤ N := by
    have := h1.1.2.2.1.2.2.2.2.2.1.1
    omega
  have hE := h2.1.1
  have q0 := h1.2.2.1
  have h4' := h4
  obtain ⟨r1, r2, r3, r4, r5, r6, r7, r8, r9, r10, r11, r12⟩ := h4
  obtain ⟨k1, k2, k3, k4⟩ := h5
  obtain ⟨r, A2, B2, F2, e1, e2, jW, jA, jB⟩ := fall_jo (N := N) (q := x1) h1.1.1 h1.1.2.1 r4
  have hsA : A2.sh = A.sh ∧ A2.sl = A.sl := ⟨jA.2.2.2.1, jA.2.2.2.2⟩
  have hsB : B2.sh = B.sh ∧ B2.sl = B.sl := ⟨jB.2.2.2.1, jB.2.2.2.2⟩
  have gA2 := jA.gr h1.1.1
  have gB2 := jB.gr h1.1.2.1
  have gA : gw (fun a f => a = 0 ∧ f = 8) A A2 := jA.gw.mono fun a f y => by omega
  have gB : gw (fun a f => (a = 517 ∧ f = 0) ∨ a = 624) B B2 := jB.gw.mono fun a f y => by omega
  have eA : ∀ a f, a < 626 → ¬ (a = 0 ∧ f = 8) → A2.D a f = A.D a f ∧ A2.P a f = A.P a f := fun a f y1 y2 => gA.2 a f (by omega) y2
  have eB : ∀ a f, a < 626 → ¬ ((a = 517 ∧ f = 0) ∨ a = 624) → B2.D a f = B.D a f ∧ B2.P a f = B.P a f := fun a f y1 y2 => gB.2 a f (by omega) y2
  have jP := h1.gw hE gA2 gB2 gA gB (fun a f y z => by have := h1.1.2.2.2.2.2.1; unfold nA at z; omega) (fun a f y z => by unfold nB cU at z; omega)
  refine ⟨r, A2, B2, e1, e2, ⟨p, p2, cs, w, w2, M, ty, mn, nu, cd, E, Nm, Pv, S, nb, b, t0, la, z, us, un, um, c, n, kT, U, F2, jP, h2, h3, ⟨r1.fr (eA 0 4 (by omega) (by omega)).2 (eA 0 5 (by omega) (by omega)).2 (eB 517 3 (by omega) (by omega)).2 (eB 517 4 (by omega) (by omega)).2 (eB w 37 (by omega) (by omega)).1 (eB w2 37 (by omega) (by omega)).1, (by rw [(eB 517 10 (by omega) (by omega)).2]; exact r2), r3.fr (fun a f y => (eA a f (by omega) (by omega)).1) (fun a f y => (eB a f (by omega) (by omega)).1), jW, ⟨(by rw [(eA 11 2 (by omega) (by omega)).1, (eB 517 12 (by omega) (by omega)).1]; exact r5.1), (by rw [(eA 11 3 (by omega) (by omega)).1, (eB 517 13 (by omega) (by omega)).1]; exact r5.2.1), (by rw [(eA 0 6 (by omega) (by omega)).1, (eB 517 5 (by omega) (by omega)).1]; exact r5.2.2)⟩, r6.fr (fun a f y => (eA a f (by omega) (by omega)).1) (fun a f y => (eB a f (by omega) (by omega)).1), (fun x hx => by rw [(eA 7 x (by omega) (by omega)).1]; exact r7 x hx), r8.fr (fun a f y => (eA a f (by omega) (by omega)).1) (fun a f y => (eB a f (by omega) (by omega)).1), r9.fr (fun a f y => (eA a f (by omega) (by omega)).1) (fun a f y => (eB a f (by omega) (by omega)).1), (by rw [(eB 517 24 (by omega) (by omega)).1]; exact r10), r11.fr (gr_T gB2 w ws.2.2.2.2.1) (eB (w + 16) 0 (by omega) (by omega)).1, r12.fr (gr_T gB2 w2 ws.2.2.2.2.2) (eB (w2 + 16) 0 (by omega) (by omega)).1⟩, ⟨by omega, by omega, k3, by omega⟩, (h6.fr (eA 1 1 (by omega) (by omega)).1 hsA.1 hsA.2).up⟩, gA.mono fun a f y => by unfold clsR; omega, gB.mono fun a f y => by unfold refR; omega, hsB.1, hsB.2⟩

theorem jc_stand {N s0 k : Nat} {x1 : Int32} (hN : 2000000 ≤ N) (hk : k ≤ 600) : JC Int32 N s0 k (fun H => F_W_stand N 0 x1 H) (fun H => F_M_stand N 517 x1 H) := by
  intro A B h
  obtain ⟨p, p2, cs, w, w2, M, ty, mn, nu, cd, E, Nm, Pv, S, nb, b, t0, la, z, us, un, um, c, n, kT, U, F, h1, h2, h3, h4, h5, h6⟩ := h
  have hlA := h1.1.1.len
  have hlB := h1.1.2.1.len
  have hus := lU_le h1.2.1.1
  have hun := lU_le h1.2.1.2.1
  have hum := lU_le h3.1
  have ws := h4.1.ws
  have hM : M + 2 ≤ N := by
    have := h1.1.2.2.1.2.2.2.2.2.1.1
    omega
  have hE := h2.1.1
  have q0 := h1.2.2.1
  have h4' := h4
  obtain ⟨r1, r2, r3, r4, r5, r6, r7, r8, r9, r10, r11, r12⟩ := h4
  obtain ⟨k1, k2, k3, k4⟩ := h5
  obtain ⟨r, A2, B2, U2, F2, e1, e2, jW, jA, jB⟩ := stand_jo (N := N) (q := x1) h1.1.1 h1.1.2.1 r4
  have hsA : A2.sh = A.sh ∧ A2.sl = A.sl := ⟨jA.2.2.2.1, jA.2.2.2.2⟩
  have hsB : B2.sh = B.sh ∧ B2.sl = B.sl := ⟨jB.2.2.2.1, jB.2.2.2.2⟩
  have gA2 := jA.gr h1.1.1
  have gB2 := jB.gr h1.1.2.1
  have gA : gw (fun a f => a = 0 ∧ (f = 7 ∨ f = 8)) A A2 := jA.gw.mono fun a f y => by omega
  have gB : gw (fun a f => (a = 517 ∧ f = 0) ∨ a = 623 ∨ a = 624) B B2 := jB.gw.mono fun a f y => by omega
  have eA : ∀ a f, a < 626 → ¬ (a = 0 ∧ (f = 7 ∨ f = 8)) → A2.D a f = A.D a f ∧ A2.P a f = A.P a f := fun a f y1 y2 => gA.2 a f (by omega) y2
  have eB : ∀ a f, a < 626 → ¬ ((a = 517 ∧ f = 0) ∨ a = 623 ∨ a = 624) → B2.D a f = B.D a f ∧ B2.P a f = B.P a f := fun a f y1 y2 => gB.2 a f (by omega) y2
  have jP := h1.gw hE gA2 gB2 gA gB (fun a f y z => by have := h1.1.2.2.2.2.2.1; unfold nA at z; omega) (fun a f y z => by unfold nB cU at z; omega)
  refine ⟨r, A2, B2, e1, e2, ⟨p, p2, cs, w, w2, M, ty, mn, nu, cd, E, Nm, Pv, S, nb, b, t0, la, z, us, un, um, c, n, kT, U2, F2, jP, h2, h3, ⟨r1.fr (eA 0 4 (by omega) (by omega)).2 (eA 0 5 (by omega) (by omega)).2 (eB 517 3 (by omega) (by omega)).2 (eB 517 4 (by omega) (by omega)).2 (eB w 37 (by omega) (by omega)).1 (eB w2 37 (by omega) (by omega)).1, (by rw [(eB 517 10 (by omega) (by omega)).2]; exact r2), r3.fr (fun a f y => (eA a f (by omega) (by omega)).1) (fun a f y => (eB a f (by omega) (by omega)).1), jW, ⟨(by rw [(eA 11 2 (by omega) (by omega)).1, (eB 517 12 (by omega) (by omega)).1]; exact r5.1), (by rw [(eA 11 3 (by omega) (by omega)).1, (eB 517 13 (by omega) (by omega)).1]; exact r5.2.1), (by rw [(eA 0 6 (by omega) (by omega)).1, (eB 517 5 (by omega) (by omega)).1]; exact r5.2.2)⟩, r6.fr (fun a f y => (eA a f (by omega) (by omega)).1) (fun a f y => (eB a f (by omega) (by omega)).1), (fun x hx => by rw [(eA 7 x (by omega) (by omega)).1]; exact r7 x hx), r8.fr (fun a f y => (eA a f (by omega) (by omega)).1) (fun a f y => (eB a f (by omega) (by omega)).1), r9.fr (fun a f y => (eA a f (by omega) (by omega)).1) (fun a f y => (eB a f (by omega) (by omega)).1), (by rw [(eB 517 24 (by omega) (by omega)).1]; exact r10), r11.fr (gr_T gB2 w ws.2.2.2.2.1) (eB (w + 16) 0 (by omega) (by omega)).1, r12.fr (gr_T gB2 w2 ws.2.2.2.2.2) (eB (w2 + 16) 0 (by omega) (by omega)).1⟩, ⟨by omega, by omega, k3, by omega⟩, (h6.fr (eA 1 1 (by omega) (by omega)).1 hsA.1 hsA.2).up⟩, gA.mono fun a f y => by unfold clsR; omega, gB.mono fun a f y => by unfold refR; omega, hsB.1, hsB.2⟩

theorem jc_pace {N s0 k : Nat} {x1 : Int32} (hN : 2000000 ≤ N) (hk : k ≤ 600) : JC Unit N s0 k (fun H => F_W_pace N 0 x1 H) (fun H => F_M_pace N 517 x1 H) := by
  intro A B h
  obtain ⟨p, p2, cs, w, w2, M, ty, mn, nu, cd, E, Nm, Pv, S, nb, b, t0, la, z, us, un, um, c, n, kT, U, F, h1, h2, h3, h4, h5, h6⟩ := h
  have hlA := h1.1.1.len
  have hlB := h1.1.2.1.len
  have hus := lU_le h1.2.1.1
  have hun := lU_le h1.2.1.2.1
  have hum := lU_le h3.1
  have ws := h4.1.ws
  have hM : M + 2 ≤ N := by
    have := h1.1.2.2.1.2.2.2.2.2.1.1
    omega
  have hE := h2.1.1
  have q0 := h1.2.2.1
  have h4' := h4
  obtain ⟨r1, r2, r3, r4, r5, r6, r7, r8, r9, r10, r11, r12⟩ := h4
  obtain ⟨k1, k2, k3, k4⟩ := h5
  refine ⟨(), A, B.sD 517 0 0, rfl, ?_, RR.q ⟨p, p2, cs, w, w2, M, ty, mn, nu, cd, E, Nm, Pv, S, nb, b, t0, la, z, us, un, um, c, n, kT, U, F, h1, h2, h3, h4', ⟨k1, k2, k3, k4⟩, h6⟩, gw.rf, RR.qg, rfl, rfl⟩
  show F_M_pace N 517 x1 B = _
  unfold F_M_pace
  rw [ck_t (rS_517 h1.1.2.1), bnd_t]

theorem jc_end {N s0 k : Nat} {x1 : Int32} (hN : 2000000 ≤ N) (hk : k ≤ 600) : JC Int32 N s0 k (fun H => F_W_end N 0 x1 H) (fun H => F_M_end N 517 x1 H) := by
  intro A B h
  obtain ⟨p, p2, cs, w, w2, M, ty, mn, nu, cd, E, Nm, Pv, S, nb, b, t0, la, z, us, un, um, c, n, kT, U, F, h1, h2, h3, h4, h5, h6⟩ := h
  have hlA := h1.1.1.len
  have hlB := h1.1.2.1.len
  have hus := lU_le h1.2.1.1
  have hun := lU_le h1.2.1.2.1
  have hum := lU_le h3.1
  have ws := h4.1.ws
  have hM : M + 2 ≤ N := by
    have := h1.1.2.2.1.2.2.2.2.2.1.1
    omega
  have hE := h2.1.1
  have q0 := h1.2.2.1
  have h4' := h4
  obtain ⟨r1, r2, r3, r4, r5, r6, r7, r8, r9, r10, r11, r12⟩ := h4
  obtain ⟨k1, k2, k3, k4⟩ := h5
  obtain ⟨r, A2, B2, e1, e2, jR, jA, jB⟩ := end_jo (N := N) (q := x1) h1.1.1 h1.1.2.1 r6
  have hsA : A2.sh = A.sh ∧ A2.sl = A.sl := ⟨jA.2.2.2.1, jA.2.2.2.2⟩
  have hsB : B2.sh = B.sh ∧ B2.sl = B.sl := ⟨jB.2.2.2.1, jB.2.2.2.2⟩
  have gA2 := jA.gr h1.1.1
  have gB2 := jB.gr h1.1.2.1
  have gA : gw (fun a f => a = 1 ∧ f = 1) A A2 := jA.gw.mono fun a f y => by omega
  have gB : gw (fun a f => a = 517 ∧ (f = 0 ∨ f = 2)) B B2 := jB.gw.mono fun a f y => by omega
  have eA : ∀ a f, a < 626 → ¬ (a = 1 ∧ f = 1) → A2.D a f = A.D a f ∧ A2.P a f = A.P a f := fun a f y1 y2 => gA.2 a f (by omega) y2
  have eB : ∀ a f, a < 626 → ¬ (a = 517 ∧ (f = 0 ∨ f = 2)) → B2.D a f = B.D a f ∧ B2.P a f = B.P a f := fun a f y1 y2 => gB.2 a f (by omega) y2
  have jP := h1.gw hE gA2 gB2 gA gB (fun a f y z => by have := h1.1.2.2.2.2.2.1; unfold nA at z; omega) (fun a f y z => by unfold nB cU at z; omega)
  have jM : RM s0 A2 z (k + 1) := by
    obtain ⟨T, m1, m2, m3, m4⟩ := h6
    obtain ⟨T2, t1, t2, t3⟩ := en_T h1.1.1 m2 m1 e1
    exact ⟨T2, by omega, t3, by rw [hsA.1]; omega, by rw [hsA.2]; omega⟩
  refine ⟨r, A2, B2, e1, e2, ⟨p, p2, cs, w, w2, M, ty, mn, nu, cd, E, Nm, Pv, S, nb, b, t0, la, z, us, un, um, c, n, kT, U, F, jP, h2, h3, ⟨r1.fr (eA 0 4 (by omega) (by omega)).2 (eA 0 5 (by omega) (by omega)).2 (eB 517 3 (by omega) (by omega)).2 (eB 517 4 (by omega) (by omega)).2 (eB w 37 (by omega) (by omega)).1 (eB w2 37 (by omega) (by omega)).1, (by rw [(eB 517 10 (by omega) (by omega)).2]; exact r2), r3.fr (fun a f y => (eA a f (by omega) (by omega)).1) (fun a f y => (eB a f (by omega) (by omega)).1), r4.fr (fun a f y => (eA a f (by omega) (by omega)).1) (fun a f y => (eB a f (by omega) (by omega)).1), ⟨(by rw [(eA 11 2 (by omega) (by omega)).1, (eB 517 12 (by omega) (by omega)).1]; exact r5.1), (by rw [(eA 11 3 (by omega) (by omega)).1, (eB 517 13 (by omega) (by omega)).1]; exact r5.2.1), (by rw [(eA 0 6 (by omega) (by omega)).1, (eB 517 5 (by omega) (by omega)).1]; exact r5.2.2)⟩, jR, (fun x hx => by rw [(eA 7 x (by omega) (by omega)).1]; exact r7 x hx), r8.fr (fun a f y => (eA a f (by omega) (by omega)).1) (fun a f y => (eB a f (by omega) (by omega)).1), r9.fr (fun a f y => (eA a f (by omega) (by omega)).1) (fun a f y => (eB a f (by omega) (by omega)).1), (by rw [(eB 517 24 (by omega) (by omega)).1]; exact r10), r11.fr (gr_T gB2 w ws.2.2.2.2.1) (eB (w + 16) 0 (by omega) (by omega)).1, r12.fr (gr_T gB2 w2 ws.2.2.2.2.2) (eB (w2 + 16) 0 (by omega) (by omega)).1⟩, ⟨by omega, by omega, k3, by omega⟩, jM⟩, gA.mono fun a f y => by unfold clsR; omega, gB.mono fun a f y => by unfold refR; omega, hsB.1, hsB.2⟩

theorem jc_feed {N s0 k : Nat} {x1 x2 x3 x4 x5 : Int32} (hN : 2000000 ≤ N) (hk : k ≤ 600) : JC Int32 N s0 k (fun H => F_W_feed N 0 x1 x2 x3 x4 x5 H) (fun H => F_M_feed N 517 x1 x2 x3 x4 x5 H) := by
  intro A B h
  obtain ⟨p, p2, cs, w, w2, M, ty, mn, nu, cd, E, Nm, Pv, S, nb, b, t0, la, z, us, un, um, c, n, kT, U, F, h1, h2, h3, h4, h5, h6⟩ := h
  have hlA := h1.1.1.len
  have hlB := h1.1.2.1.len
  have hus := lU_le h1.2.1.1
  have hun := lU_le h1.2.1.2.1
  have hum := lU_le h3.1
  have ws := h4.1.ws
  have hM : M + 2 ≤ N := by
    have := h1.1.2.2.1.2.2.2.2.2.1.1
    omega
  have hE := h2.1.1
  have q0 := h1.2.2.1
  have h4' := h4
  obtain ⟨r1, r2, r3, r4, r5, r6, r7, r8, r9, r10, r11, r12⟩ := h4
  obtain ⟨k1, k2, k3, k4⟩ := h5
  obtain ⟨r, A2, B2, e1, e2, jR, jA, jB⟩ := feed_jo (N := N) (a := x1) (b := x2) (c := x3) (d := x4) (e := x5) (by omega) h1.1.1 h1.1.2.1 r6
  have hsA : A2.sh = A.sh ∧ A2.sl = A.sl := ⟨jA.2.2.2.1, jA.2.2.2.2⟩
  have hsB : B2.sh = B.sh ∧ B2.sl = B.sl := ⟨jB.2.2.2.1, jB.2.2.2.2⟩
  have gA2 := jA.gr h1.1.1
  have gB2 := jB.gr h1.1.2.1
  have gA : gw (fun a f => (a = 1 ∧ f = 1) ∨ a = 2) A A2 := jA.gw.mono fun a f y => by omega
  have gB : gw (fun a f => (a = 517 ∧ (f = 0 ∨ f = 2)) ∨ a = 518) B B2 := jB.gw.mono fun a f y => by omega
  have eA : ∀ a f, a < 626 → ¬ ((a = 1 ∧ f = 1) ∨ a = 2) → A2.D a f = A.D a f ∧ A2.P a f = A.P a f := fun a f y1 y2 => gA.2 a f (by omega) y2
  have eB : ∀ a f, a < 626 → ¬ ((a = 517 ∧ (f = 0 ∨ f = 2)) ∨ a = 518) → B2.D a f = B.D a f ∧ B2.P a f = B.P a f := fun a f y1 y2 => gB.2 a f (by omega) y2
  have jP := h1.gw hE gA2 gB2 gA gB (fun a f y z => by have := h1.1.2.2.2.2.2.1; unfold nA at z; omega) (fun a f y z => by unfold nB cU at z; omega)
  have jM : RM s0 A2 z (k + 1) := by
    obtain ⟨T, m1, m2, m3, m4⟩ := h6
    obtain ⟨T2, t1, t2, t3⟩ := fd_T (by omega) h1.1.1 m2 m1 e1
    exact ⟨T2, by omega, t3, by rw [hsA.1]; omega, by rw [hsA.2]; omega⟩
  refine ⟨r, A2, B2, e1, e2, ⟨p, p2, cs, w, w2, M, ty, mn, nu, cd, E, Nm, Pv, S, nb, b, t0, la, z, us, un, um, c, n, kT, U, F, jP, h2, h3, ⟨r1.fr (eA 0 4 (by omega) (by omega)).2 (eA 0 5 (by omega) (by omega)).2 (eB 517 3 (by omega) (by omega)).2 (eB 517 4 (by omega) (by omega)).2 (eB w 37 (by omega) (by omega)).1 (eB w2 37 (by omega) (by omega)).1, (by rw [(eB 517 10 (by omega) (by omega)).2]; exact r2), r3.fr (fun a f y => (eA a f (by omega) (by omega)).1) (fun a f y => (eB a f (by omega) (by omega)).1), r4.fr (fun a f y => (eA a f (by omega) (by omega)).1) (fun a f y => (eB a f (by omega) (by omega)).1), ⟨(by rw [(eA 11 2 (by omega) (by omega)).1, (eB 517 12 (by omega) (by omega)).1]; exact r5.1), (by rw [(eA 11 3 (by omega) (by omega)).1, (eB 517 13 (by omega) (by omega)).1]; exact r5.2.1), (by rw [(eA 0 6 (by omega) (by omega)).1, (eB 517 5 (by omega) (by omega)).1]; exact r5.2.2)⟩, jR, (fun x hx => by rw [(eA 7 x (by omega) (by omega)).1]; exact r7 x hx), r8.fr (fun a f y => (eA a f (by omega) (by omega)).1) (fun a f y => (eB a f (by omega) (by omega)).1), r9.fr (fun a f y => (eA a f (by omega) (by omega)).1) (fun a f y => (eB a f (by omega) (by omega)).1), (by rw [(eB 517 24 (by omega) (by omega)).1]; exact r10), r11.fr (gr_T gB2 w ws.2.2.2.2.1) (eB (w + 16) 0 (by omega) (by omega)).1, r12.fr (gr_T gB2 w2 ws.2.2.2.2.2) (eB (w2 + 16) 0 (by omega) (by omega)).1⟩, ⟨by omega, by omega, k3, by omega⟩, jM⟩, gA.mono fun a f y => by unfold clsR; omega, gB.mono fun a f y => by unfold refR; omega, hsB.1, hsB.2⟩

theorem jc_input {N s0 k : Nat} {x1 x2 x3 : Int32} (hN : 2000000 ≤ N) (hk : k ≤ 600) : JC Int32 N s0 k (fun H => F_W_input N 0 x1 x2 x3 H) (fun H => F_M_input N 517 x1 x2 x3 H) := by
  intro A B h
  obtain ⟨p, p2, cs, w, w2, M, ty, mn, nu, cd, E, Nm, Pv, S, nb, b, t0, la, z, us, un, um, c, n, kT, U, F, h1, h2, h3, h4, h5, h6⟩ := h
  have hlA := h1.1.1.len
  have hlB := h1.1.2.1.len
  have hus := lU_le h1.2.1.1
  have hun := lU_le h1.2.1.2.1
  have hum := lU_le h3.1
  have ws := h4.1.ws
  have hM : M + 2 ≤ N := by
    have := h1.1.2.2.1.2.2.2.2.2.1.1
    omega
  have hE := h2.1.1
  have q0 := h1.2.2.1
  have h4' := h4
  obtain ⟨r1, r2, r3, r4, r5, r6, r7, r8, r9, r10, r11, r12⟩ := h4
  obtain ⟨k1, k2, k3, k4⟩ := h5
  obtain ⟨r, A2, B2, la2, z2, c2, e1, e2, jP, jT, jG, jA, jB, jc⟩ := input_jo (N := N) (P := x1) (T := x2) (v := x3) h1 r3 r5.2.1 r5.1 r1.1 h2.1 hM hN k3 (by omega)
  have hsB : B2.sh = B.sh ∧ B2.sl = B.sl := ⟨jB.2.2.2.1, jB.2.2.2.2⟩
  have hla := h1.1.2.2.2.2.2.1
  have q2 := jP.2.2.1
  have gB2 := jP.1.2.1
  have gA : gw (fun a f => (12 ≤ a ∧ a ≤ 130) ∨ (a = 11 ∧ (f = 1 ∨ f = 3 ∨ f = 5)) ∨ 626 ≤ a) A A2 := jA.gw.mono fun a f y => by unfold IPA ACA CFA lnkA at y; omega
  have gB : gw (fun a f => (581 ≤ a ∧ a ≤ 621 ∧ a ≠ 618) ∨ (a = 517 ∧ (f = 0 ∨ f = 13 ∨ f = 20))) B B2 := jB.gw.mono fun a f y => by unfold IPB lnkB at y; omega
  have eA : ∀ a f, a < 626 → ¬ ((12 ≤ a ∧ a ≤ 130) ∨ (a = 11 ∧ (f = 1 ∨ f = 3 ∨ f = 5)) ∨ 626 ≤ a) → A2.D a f = A.D a f ∧ A2.P a f = A.P a f := fun a f y1 y2 => gA.2 a f (by omega) y2
  have eB : ∀ a f, a < 626 → ¬ ((581 ≤ a ∧ a ≤ 621 ∧ a ≠ 618) ∨ (a = 517 ∧ (f = 0 ∨ f = 13 ∨ f = 20))) → B2.D a f = B.D a f ∧ B2.P a f = B.P a f := fun a f y1 y2 => gB.2 a f (by omega) y2
  have jM : RM s0 A2 z2 (k + 1) := by
    obtain ⟨T, m1, m2, m3, m4⟩ := h6
    obtain ⟨-, -, -, -, -, -, l1, l2, l3⟩ := jA
    exact ⟨T, m1, by rw [(eA 1 1 (by omega) (by omega)).1]; exact m2, by omega, by omega⟩
  refine ⟨r, A2, B2, e1, e2, ⟨p, p2, cs, w, w2, M, ty, mn, nu, cd, E, Nm, Pv, S, nb, b, t0, la2, z2, us, un, um, c2, n, (kT + 32 * (c2 - c)), U, F, jP, h2, h3, ⟨r1.fr (eA 0 4 (by omega) (by omega)).2 (eA 0 5 (by omega) (by omega)).2 (eB 517 3 (by omega) (by omega)).2 (eB 517 4 (by omega) (by omega)).2 (eB w 37 (by omega) (by omega)).1 (eB w2 37 (by omega) (by omega)).1, (by rw [(eB 517 10 (by omega) (by omega)).2]; exact r2), jT, r4.fr (fun a f y => (eA a f (by omega) (by omega)).1) (fun a f y => (eB a f (by omega) (by omega)).1), ⟨(by rw [(eA 11 2 (by omega) (by omega)).1, (eB 517 12 (by omega) (by omega)).1]; exact r5.1), jG, (by rw [(eA 0 6 (by omega) (by omega)).1, (eB 517 5 (by omega) (by omega)).1]; exact r5.2.2)⟩, r6.fr (fun a f y => (eA a f (by omega) (by omega)).1) (fun a f y => (eB a f (by omega) (by omega)).1), (fun x hx => by rw [(eA 7 x (by omega) (by omega)).1]; exact r7 x hx), r8.fr (fun a f y => (eA a f (by omega) (by omega)).1) (fun a f y => (eB a f (by omega) (by omega)).1), r9.fr (fun a f y => (eA a f (by omega) (by omega)).1) (fun a f y => (eB a f (by omega) (by omega)).1), (by rw [(eB 517 24 (by omega) (by omega)).1]; exact r10), r11.fr (gr_T gB2 w ws.2.2.2.2.1) (eB (w + 16) 0 (by omega) (by omega)).1, r12.fr (gr_T gB2 w2 ws.2.2.2.2.2) (eB (w2 + 16) 0 (by omega) (by omega)).1⟩, ⟨by omega, by omega, k3, by omega⟩, jM⟩, gA.mono fun a f y => by unfold clsR; omega, gB.mono fun a f y => by unfold refR; omega, hsB.1, hsB.2⟩

theorem jc_step {N s0 k : Nat} (hN : 2000000 ≤ N) (hk : k ≤ 600) : JC Int32 N s0 k (fun H => F_W_step N 0  H) (fun H => F_M_step N 517  H) := by
  intro A B h
  obtain ⟨p, p2, cs, w, w2, M, ty, mn, nu, cd, E, Nm, Pv, S, nb, b, t0, la, z, us, un, um, c, n, kT, U, F, h1, h2, h3, h4, h5, h6⟩ := h
  have hlA := h1.1.1.len
  have hlB := h1.1.2.1.len
  have hus := lU_le h1.2.1.1
  have hun := lU_le h1.2.1.2.1
  have hum := lU_le h3.1
  have ws := h4.1.ws
  have hM : M + 2 ≤ N := by
    have := h1.1.2.2.1.2.2.2.2.2.1.1
    omega
  have hE := h2.1.1
  have q0 := h1.2.2.1
  have h4' := h4
  obtain ⟨r1, r2, r3, r4, r5, r6, r7, r8, r9, r10, r11, r12⟩ := h4
  obtain ⟨k1, k2, k3, k4⟩ := h5
  obtain ⟨r, A2, B2, la2, z2, c2, n2, U2, F2, e1, e2, jP, jT, jW, jn1, jn2, jc, jA, jB⟩ := step_jo (N := N) h1 r3 r5.1 r4 r5.2.2 r1.1 k2 h2.1 hM hN k3 (by omega)
  have hsB : B2.sh = B.sh ∧ B2.sl = B.sl := ⟨jB.2.2.2.1, jB.2.2.2.2⟩
  have hla := h1.1.2.2.2.2.2.1
  have q2 := jP.2.2.1
  have gB2 := jP.1.2.1
  have gA : gw (fun a f => (12 ≤ a ∧ a ≤ 130) ∨ (a = 11 ∧ (f = 1 ∨ f = 5)) ∨ (a = 0 ∧ (f = 7 ∨ f = 8)) ∨ 626 ≤ a) A A2 := jA.gw.mono fun a f y => by unfold SPA GOA AHA TGA TFA CFA lnkA cW at y; omega
  have gB : gw (fun a f => (581 ≤ a ∧ a ≤ 624 ∧ a ≠ 622) ∨ (a = 517 ∧ (f = 0 ∨ f = 20))) B B2 := jB.gw.mono fun a f y => by unfold SPB GOB AHB CFB TGB TFB lnkB at y; omega
  have eA : ∀ a f, a < 626 → ¬ ((12 ≤ a ∧ a ≤ 130) ∨ (a = 11 ∧ (f = 1 ∨ f = 5)) ∨ (a = 0 ∧ (f = 7 ∨ f = 8)) ∨ 626 ≤ a) → A2.D a f = A.D a f ∧ A2.P a f = A.P a f := fun a f y1 y2 => gA.2 a f (by omega) y2
  have eB : ∀ a f, a < 626 → ¬ ((581 ≤ a ∧ a ≤ 624 ∧ a ≠ 622) ∨ (a = 517 ∧ (f = 0 ∨ f = 20))) → B2.D a f = B.D a f ∧ B2.P a f = B.P a f := fun a f y1 y2 => gB.2 a f (by omega) y2
  have jM : RM s0 A2 z2 (k + 1) := by
    obtain ⟨T, m1, m2, m3, m4⟩ := h6
    obtain ⟨-, -, -, -, -, -, l1, l2, l3⟩ := jA
    exact ⟨T, m1, by rw [(eA 1 1 (by omega) (by omega)).1]; exact m2, by omega, by omega⟩
  refine ⟨r, A2, B2, e1, e2, ⟨p, p2, cs, w, w2, M, ty, mn, nu, cd, E, Nm, Pv, S, nb, b, t0, la2, z2, us, un, um, c2, n2, (kT + 32 * (c2 - c)), U2, F2, jP, h2, h3, ⟨r1.fr (eA 0 4 (by omega) (by omega)).2 (eA 0 5 (by omega) (by omega)).2 (eB 517 3 (by omega) (by omega)).2 (eB 517 4 (by omega) (by omega)).2 (eB w 37 (by omega) (by omega)).1 (eB w2 37 (by omega) (by omega)).1, (by rw [(eB 517 10 (by omega) (by omega)).2]; exact r2), jT, jW, ⟨(by rw [(eA 11 2 (by omega) (by omega)).1, (eB 517 12 (by omega) (by omega)).1]; exact r5.1), (by rw [(eA 11 3 (by omega) (by omega)).1, (eB 517 13 (by omega) (by omega)).1]; exact r5.2.1), (by rw [(eA 0 6 (by omega) (by omega)).1, (eB 517 5 (by omega) (by omega)).1]; exact r5.2.2)⟩, r6.fr (fun a f y => (eA a f (by omega) (by omega)).1) (fun a f y => (eB a f (by omega) (by omega)).1), (fun x hx => by rw [(eA 7 x (by omega) (by omega)).1]; exact r7 x hx), r8.fr (fun a f y => (eA a f (by omega) (by omega)).1) (fun a f y => (eB a f (by omega) (by omega)).1), r9.fr (fun a f y => (eA a f (by omega) (by omega)).1) (fun a f y => (eB a f (by omega) (by omega)).1), (by rw [(eB 517 24 (by omega) (by omega)).1]; exact r10), r11.fr (gr_T gB2 w ws.2.2.2.2.1) (eB (w + 16) 0 (by omega) (by omega)).1, r12.fr (gr_T gB2 w2 ws.2.2.2.2.2) (eB (w2 + 16) 0 (by omega) (by omega)).1⟩, ⟨by omega, by omega, k3, by omega⟩, jM⟩, gA.mono fun a f y => by unfold clsR; omega, gB.mono fun a f y => by unfold refR; omega, hsB.1, hsB.2⟩

