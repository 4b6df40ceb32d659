/-! ===== text, swap, load keep the root relation (gen_rr2.py) ===== -/
theorem jc_text {N s0 k : Nat} {x1 : Int32} (hN : 2000000 ≤ N) (hk : k ≤ 600) : JC Int32 N s0 k (fun H => F_W_text N 0 x1 H) (fun H => F_M_text N 517 x1 H) := by
  intro A B h
  obtain ⟨p, p2, cs, w, w2, M, ty, mn, nu, cd, E, Nm, Pv, S, nb, b, t0, la, z, us, un, um, c, n, kT, U, F, h1, h2, h3, h4, h5, h6⟩ := h
  have hlA := h1.1.1.len
  have hlB := h1.1.2.1.len
  have hus := lU_le h1.2.1.1
  have hun := lU_le h1.2.1.2.1
  have hum := lU_le h3.1
  have ws := h4.1.ws
  have hM : M + 2 ≤ N := by
    have := h1.1.2.2.1.2.2.2.2.2.1.1
    omega
  have hE := h2.1.1
  have q0 := h1.2.2.1
  have h4' := h4
  obtain ⟨r1, r2, r3, r4, r5, r6, r7, r8, r9, r10, r11, r12⟩ := h4
  obtain ⟨k1, k2, k3, k4⟩ := h5
  have pw := r1.2.2.2.2
  obtain ⟨T, t6, tA, r, A2, B2, e1, e2, jR, jS, jF, jZ, gA0, ⟨rm1, rm2⟩, gB0, hsB, jI, hor⟩ := text_jo2 (N := N) (sd := x1) h1 r1 hE r6 r7 hN
  have jM : RM s0 A2 z (k + 1) := by
    obtain ⟨T', m1, m2, m3, m4⟩ := h6
    have : T' = T := by
      rw [m2] at tA
      exact (nI_eq (by omega) (by omega)).mp tA
    subst this
    exact ⟨0, by omega, jZ, by omega, by omega⟩
  rcases hor with ⟨jP, jG, gA1, gB1⟩ | ⟨cs', M', ty', mn', nu', cd', E', Nm', Pv', jP, jQ, jG, ⟨j5a, j5b⟩, ⟨j3a, j3b⟩, j6a, j6b⟩
  · have gB2 := jP.1.2.1
    have gA : gw (fun a f => (1 ≤ a ∧ a ≤ 10 ∧ a ≠ 7 ∧ a ≠ 2) ∨ (p2 ≤ a ∧ a ≤ p2 + 191)) A A2 := gA1.mono fun a f y => by
      have := SRA_le y; omega
    have gB : gw (fun a f => (w2 ≤ a ∧ a ≤ w2 + 30) ∨ (a = 517 ∧ (f = 0 ∨ f = 2 ∨ f = 6 ∨ f = 7))) B B2 := gB1.mono fun a f y => by
      rcases y with y | y
      · have := RDB_le y; omega
      · omega
    have eA : ∀ a f, a < 626 → ¬ ((1 ≤ a ∧ a ≤ 10 ∧ a ≠ 7 ∧ a ≠ 2) ∨ (p2 ≤ a ∧ a ≤ p2 + 191)) → A2.D a f = A.D a f ∧ A2.P a f = A.P a f := fun a f y1 y2 => gA.2 a f (by omega) y2
    have eB : ∀ a f, a < 626 → ¬ ((w2 ≤ a ∧ a ≤ w2 + 30) ∨ (a = 517 ∧ (f = 0 ∨ f = 2 ∨ f = 6 ∨ f = 7))) → B2.D a f = B.D a f ∧ B2.P a f = B.P a f := fun a f y1 y2 => gB.2 a f (by omega) y2
    refine ⟨r, A2, B2, e1, e2, ⟨p, p2, cs, w, w2, M, ty, mn, nu, cd, E, Nm, Pv, S, nb, b, t0, la, z, us, un, um, c, n, kT, U, F, jP, h2, h3, ⟨jG, (by rw [(eB 517 10 (by omega) (by omega)).2]; exact r2), r3.fr (fun a f y => (eA a f (by omega) (by omega)).1) (fun a f y => (eB a f (by omega) (by omega)).1), r4.fr (fun a f y => (eA a f (by omega) (by omega)).1) (fun a f y => (eB a f (by omega) (by omega)).1), ⟨(by rw [(eA 11 2 (by omega) (by omega)).1, (eB 517 12 (by omega) (by omega)).1]; exact r5.1), (by rw [(eA 11 3 (by omega) (by omega)).1, (eB 517 13 (by omega) (by omega)).1]; exact r5.2.1), (by rw [(eA 0 6 (by omega) (by omega)).1, (eB 517 5 (by omega) (by omega)).1]; exact r5.2.2)⟩, jR, jS, jF, r9.fr (fun a f y => (eA a f (by omega) (by omega)).1) (fun a f y => (eB a f (by omega) (by omega)).1), (by rw [(eB 517 24 (by omega) (by omega)).1]; exact r10), r11.fr (gr_T gB2 w ws.2.2.2.2.1) (eB (w + 16) 0 (by omega) (by omega)).1, jI r12⟩, ⟨by omega, by omega, k3, by omega⟩, jM⟩, gA.mono fun a f y => by unfold clsR; omega, gB.mono fun a f y => by unfold refR; omega, hsB.1, hsB.2⟩
  · have gB2 := jP.1.2.1
    have gA : gw (fun a f => (1 ≤ a ∧ a ≤ 10 ∧ a ≠ 7 ∧ a ≠ 2) ∨ (p2 ≤ a ∧ a ≤ p2 + 191) ∨ (a = 0 ∧ (f = 4 ∨ f = 5 ∨ f = 6)) ∨ (a = 11 ∧ (f = 1 ∨ f = 3 ∨ f = 5)) ∨ (12 ≤ a ∧ a ≤ 17) ∨ a = 125 ∨ a = 127) A A2 := gA0.mono fun a f y => by
      unfold TXU cW at y
      rcases y with y | y
      · have := SRA_le y; omega
      · omega
    have gB : gw (fun a f => (w2 ≤ a ∧ a ≤ w2 + 30) ∨ (a = 517 ∧ (f = 0 ∨ f = 2 ∨ f = 3 ∨ f = 4 ∨ f = 5 ∨ f = 6 ∨ f = 7 ∨ f = 13 ∨ f = 20)) ∨ (581 ≤ a ∧ a ≤ 610) ∨ a = 617 ∨ a = 619) B B2 := gB0.mono fun a f y => by
      unfold TXV cU at y
      rcases y with y | y
      · have := RDB_le y; omega
      · omega
    have eA : ∀ a f, a < 626 → ¬ ((1 ≤ a ∧ a ≤ 10 ∧ a ≠ 7 ∧ a ≠ 2) ∨ (p2 ≤ a ∧ a ≤ p2 + 191) ∨ (a = 0 ∧ (f = 4 ∨ f = 5 ∨ f = 6)) ∨ (a = 11 ∧ (f = 1 ∨ f = 3 ∨ f = 5)) ∨ (12 ≤ a ∧ a ≤ 17) ∨ a = 125 ∨ a = 127) → A2.D a f = A.D a f ∧ A2.P a f = A.P a f := fun a f y1 y2 => gA.2 a f (by omega) y2
    have eB : ∀ a f, a < 626 → ¬ ((w2 ≤ a ∧ a ≤ w2 + 30) ∨ (a = 517 ∧ (f = 0 ∨ f = 2 ∨ f = 3 ∨ f = 4 ∨ f = 5 ∨ f = 6 ∨ f = 7 ∨ f = 13 ∨ f = 20)) ∨ (581 ≤ a ∧ a ≤ 610) ∨ a = 617 ∨ a = 619) → B2.D a f = B.D a f ∧ B2.P a f = B.P a f := fun a f y1 y2 => gB.2 a f (by omega) y2
    refine ⟨r, A2, B2, e1, e2, ⟨p2, p, cs', w2, w, M', ty', mn', nu', cd', E', Nm', Pv', (fun _ => 0), 0, 0, 0, la, z, us, un, um, 0, 0, 0, U, F, jP, jQ, h3, ⟨jG, (by rw [(eB 517 10 (by omega) (by omega)).2]; exact r2), ⟨by rw [j5a, j5b], fun x hx => by rw [(eA 115 x (by omega) (by omega)).1, (eB 621 x (by omega) (by omega)).1]; exact r3.2.1 x hx, 0, Nat.le_refl _, j5a⟩, r4.fr (fun a f y => (eA a f (by omega) (by omega)).1) (fun a f y => (eB a f (by omega) (by omega)).1), ⟨(by rw [(eA 11 2 (by omega) (by omega)).1, (eB 517 12 (by omega) (by omega)).1]; exact r5.1), (by rw [j3a, j3b]), (by rw [j6a, j6b])⟩, jR, jS, jF, r9.fr (fun a f y => (eA a f (by omega) (by omega)).1) (fun a f y => (eB a f (by omega) (by omega)).1), (by rw [(eB 517 24 (by omega) (by omega)).1]; exact r10), jI r12, r11.fr (gr_T gB2 w ws.2.2.2.2.1) (eB (w + 16) 0 (by omega) (by omega)).1⟩, ⟨by omega, by omega, ⟨fun _ => 0, fun y hy => absurd hy (show ¬ (0 : Nat) = 1 by decide)⟩, by omega⟩, jM⟩, gA.mono fun a f y => by unfold clsR; omega, gB.mono fun a f y => by unfold refR; omega, hsB.1, hsB.2⟩

theorem jc_swap {N s0 k : Nat} (hN : 2000000 ≤ N) (hk : k ≤ 600) : JC Int32 N s0 k (fun H => F_W_swap N 0  H) (fun H => F_M_swap N 517  H) := by
  intro A B h
  obtain ⟨p, p2, cs, w, w2, M, ty, mn, nu, cd, E, Nm, Pv, S, nb, b, t0, la, z, us, un, um, c, n, kT, U, F, h1, h2, h3, h4, h5, h6⟩ := h
  have hlA := h1.1.1.len
  have hlB := h1.1.2.1.len
  have hus := lU_le h1.2.1.1
  have hun := lU_le h1.2.1.2.1
  have hum := lU_le h3.1
  have ws := h4.1.ws
  have hM : M + 2 ≤ N := by
    have := h1.1.2.2.1.2.2.2.2.2.1.1
    omega
  have hE := h2.1.1
  have q0 := h1.2.2.1
  have h4' := h4
  obtain ⟨r1, r2, r3, r4, r5, r6, r7, r8, r9, r10, r11, r12⟩ := h4
  obtain ⟨k1, k2, k3, k4⟩ := h5
  have pw := r1.2.2.2.2
  obtain ⟨T, t6, tA, r, A2, B2, e1, e2, gA0, ⟨rm1, rm2⟩, gB0, hsB, jI0, hor⟩ := swap_jo (N := N) h1 r1 hE h2.2 r6 r7 r2 h3.1 h3.2.1 h3.2.2 hN
  have jI := jI0 16 rfl
  rcases hor with ⟨rfl, rfl⟩ | ⟨jR, jS, jF, jZ, hor⟩
  · exact ⟨r, A2, _, e1, e2, RR.q ⟨p, p2, cs, w, w2, M, ty, mn, nu, cd, E, Nm, Pv, S, nb, b, t0, la, z, us, un, um, c, n, kT, U, F, h1, h2, h3, h4', ⟨k1, k2, k3, k4⟩, h6⟩, gw.rf, RR.qg, rfl, rfl⟩
  have jM : RM s0 A2 z (k + 1) := by
    obtain ⟨T', m1, m2, m3, m4⟩ := h6
    have : T' = T := by
      rw [m2] at tA
      exact (nI_eq (by omega) (by omega)).mp tA
    subst this
    exact ⟨0, by omega, jZ, by omega, by omega⟩
  rcases hor with ⟨jP, jG, gA1, gB1⟩ | ⟨cs', M', ty', mn', nu', cd', E', Nm', Pv', jcn, jP, jQ, jG, j6a, j6b, j10⟩
  · have gB2 := jP.1.2.1
    have gA : gw (fun a f => (1 ≤ a ∧ a ≤ 10 ∧ a ≠ 7 ∧ a ≠ 2) ∨ (p2 ≤ a ∧ a ≤ p2 + 191)) A A2 := gA1.mono fun a f y => by
      have := SRA_le y; omega
    have gB : gw (fun a f => (w2 ≤ a ∧ a ≤ w2 + 30) ∨ (a = 517 ∧ (f = 0 ∨ f = 2 ∨ f = 6 ∨ f = 7))) B B2 := gB1.mono fun a f y => by
      rcases y with y | y
      · have := RDB_le y; omega
      · omega
    have eA : ∀ a f, a < 626 → ¬ ((1 ≤ a ∧ a ≤ 10 ∧ a ≠ 7 ∧ a ≠ 2) ∨ (p2 ≤ a ∧ a ≤ p2 + 191)) → A2.D a f = A.D a f ∧ A2.P a f = A.P a f := fun a f y1 y2 => gA.2 a f (by omega) y2
    have eB : ∀ a f, a < 626 → ¬ ((w2 ≤ a ∧ a ≤ w2 + 30) ∨ (a = 517 ∧ (f = 0 ∨ f = 2 ∨ f = 6 ∨ f = 7))) → B2.D a f = B.D a f ∧ B2.P a f = B.P a f := fun a f y1 y2 => gB.2 a f (by omega) y2
    refine ⟨r, A2, B2, e1, e2, ⟨p, p2, cs, w, w2, M, ty, mn, nu, cd, E, Nm, Pv, S, nb, b, t0, la, z, us, un, um, c, n, kT, U, F, jP, h2, h3, ⟨jG, (by rw [(eB 517 10 (by omega) (by omega)).2]; exact r2), r3.fr (fun a f y => (eA a f (by omega) (by omega)).1) (fun a f y => (eB a f (by omega) (by omega)).1), r4.fr (fun a f y => (eA a f (by omega) (by omega)).1) (fun a f y => (eB a f (by omega) (by omega)).1), ⟨(by rw [(eA 11 2 (by omega) (by omega)).1, (eB 517 12 (by omega) (by omega)).1]; exact r5.1), (by rw [(eA 11 3 (by omega) (by omega)).1, (eB 517 13 (by omega) (by omega)).1]; exact r5.2.1), (by rw [(eA 0 6 (by omega) (by omega)).1, (eB 517 5 (by omega) (by omega)).1]; exact r5.2.2)⟩, jR, jS, jF, r9.fr (fun a f y => (eA a f (by omega) (by omega)).1) (fun a f y => (eB a f (by omega) (by omega)).1), (by rw [(eB 517 24 (by omega) (by omega)).1]; exact r10), r11.fr (gr_T gB2 w ws.2.2.2.2.1) (eB (w + 16) 0 (by omega) (by omega)).1, jI r12⟩, ⟨by omega, by omega, k3, by omega⟩, jM⟩, gA.mono fun a f y => by unfold clsR; omega, gB.mono fun a f y => by unfold refR; omega, hsB.1, hsB.2⟩
  · have gB2 := jP.1.2.1
    have gA : gw (fun a f => (1 ≤ a ∧ a ≤ 10 ∧ a ≠ 7 ∧ a ≠ 2) ∨ (p2 ≤ a ∧ a ≤ p2 + 191) ∨ (a = 0 ∧ (f = 4 ∨ f = 5 ∨ f = 6)) ∨ (12 ≤ a ∧ a ≤ 24)) A A2 := gA0.mono fun a f y => by
      unfold SWU cW at y
      rcases y with y | y
      · have := SRA_le y; omega
      · omega
    have gB : gw (fun a f => (w2 ≤ a ∧ a ≤ w2 + 30) ∨ (a = 517 ∧ (f = 0 ∨ f = 2 ∨ f = 3 ∨ f = 4 ∨ f = 5 ∨ f = 6 ∨ f = 7 ∨ f = 9 ∨ f = 10)) ∨ (581 ≤ a ∧ a ≤ 610)) B B2 := gB0.mono fun a f y => by
      unfold SWV cU at y
      rcases y with y | y
      · have := RDB_le y; omega
      · omega
    have eA : ∀ a f, a < 626 → ¬ ((1 ≤ a ∧ a ≤ 10 ∧ a ≠ 7 ∧ a ≠ 2) ∨ (p2 ≤ a ∧ a ≤ p2 + 191) ∨ (a = 0 ∧ (f = 4 ∨ f = 5 ∨ f = 6)) ∨ (12 ≤ a ∧ a ≤ 24)) → A2.D a f = A.D a f ∧ A2.P a f = A.P a f := fun a f y1 y2 => gA.2 a f (by omega) y2
    have eB : ∀ a f, a < 626 → ¬ ((w2 ≤ a ∧ a ≤ w2 + 30) ∨ (a = 517 ∧ (f = 0 ∨ f = 2 ∨ f = 3 ∨ f = 4 ∨ f = 5 ∨ f = 6 ∨ f = 7 ∨ f = 9 ∨ f = 10)) ∨ (581 ≤ a ∧ a ≤ 610)) → B2.D a f = B.D a f ∧ B2.P a f = B.P a f := fun a f y1 y2 => gB.2 a f (by omega) y2
    refine ⟨r, A2, B2, e1, e2, ⟨p2, p, cs', w2, w, M', ty', mn', nu', cd', E', Nm', Pv', S, nb, b, t0, la, z, us, um, un, n, n, kT, U, F, jP, jQ, ⟨h1.2.1.2.1, fun y => h1.2.1.2.2.1 y.symm, fun y => h3.2.2 y.symm⟩, ⟨jG, j10, r3.fr (fun a f y => (eA a f (by omega) (by omega)).1) (fun a f y => (eB a f (by omega) (by omega)).1), r4.fr (fun a f y => (eA a f (by omega) (by omega)).1) (fun a f y => (eB a f (by omega) (by omega)).1), ⟨(by rw [(eA 11 2 (by omega) (by omega)).1, (eB 517 12 (by omega) (by omega)).1]; exact r5.1), (by rw [(eA 11 3 (by omega) (by omega)).1, (eB 517 13 (by omega) (by omega)).1]; exact r5.2.1), (by rw [j6a, j6b])⟩, jR, jS, jF, r9.fr (fun a f y => (eA a f (by omega) (by omega)).1) (fun a f y => (eB a f (by omega) (by omega)).1), (by rw [(eB 517 24 (by omega) (by omega)).1]; exact r10), jI r12, r11.fr (gr_T gB2 w ws.2.2.2.2.1) (eB (w + 16) 0 (by omega) (by omega)).1⟩, ⟨by omega, by omega, k3, by omega⟩, jM⟩, gA.mono fun a f y => by unfold clsR; omega, gB.mono fun a f y => by unfold refR; omega, hsB.1, hsB.2⟩

theorem jc_load {N s0 k : Nat} (hN : 2000000 ≤ N) (hk : k ≤ 600) : JC Int32 N s0 k (fun H => F_W_load N 0  H) (fun H => F_M_load N 517  H) := by
  intro A B h
  obtain ⟨p, p2, cs, w, w2, M, ty, mn, nu, cd, E, Nm, Pv, S, nb, b, t0, la, z, us, un, um, c, n, kT, U, F, h1, h2, h3, h4, h5, h6⟩ := h
  have hlA := h1.1.1.len
  have hlB := h1.1.2.1.len
  have hus := lU_le h1.2.1.1
  have hun := lU_le h1.2.1.2.1
  have hum := lU_le h3.1
  have ws := h4.1.ws
  have hM : M + 2 ≤ N := by
    have := h1.1.2.2.1.2.2.2.2.2.1.1
    omega
  have hE := h2.1.1
  have q0 := h1.2.2.1
  have h4' := h4
  obtain ⟨r1, r2, r3, r4, r5, r6, r7, r8, r9, r10, r11, r12⟩ := h4
  obtain ⟨k1, k2, k3, k4⟩ := h5
  obtain ⟨r, A2, B2, e1, e2, jO, gA0, jPA, gB0, ⟨l1, l2⟩, hsB, hor⟩ := load_jo (N := N) h1 hE hN r1.1 r2 h3.1 h3.2.1 h3.2.2 r5.2.2 r9 r11.2
  have gA : gw (fun a f => (a = 131 ∧ (f = 2 ∨ f = 5)) ∨ (12 ≤ a ∧ a ≤ 24) ∨ (a = 11 ∧ f = 1) ∨ a = 125 ∨ a = 127) A A2 := gA0.mono fun a f y => by
    unfold LOA LDA RDA cW at y; omega
  have gB : gw (fun a f => (a = 517 ∧ (f = 0 ∨ f = 9 ∨ f = 10 ∨ f = 27 ∨ f = 28)) ∨ (581 ≤ a ∧ a ≤ 610) ∨ a = 617 ∨ a = 619) B B2 := gB0.mono fun a f y => by
    unfold LOB LDB RDBb cU at y; omega
  have eA : ∀ a f, a < 626 → ¬ ((a = 131 ∧ (f = 2 ∨ f = 5)) ∨ (12 ≤ a ∧ a ≤ 24) ∨ (a = 11 ∧ f = 1) ∨ a = 125 ∨ a = 127) → A2.D a f = A.D a f ∧ A2.P a f = A.P a f := fun a f y1 y2 => gA.2 a f (by omega) y2
  have eB : ∀ a f, a < 626 → ¬ ((a = 517 ∧ (f = 0 ∨ f = 9 ∨ f = 10 ∨ f = 27 ∨ f = 28)) ∨ (581 ≤ a ∧ a ≤ 610) ∨ a = 617 ∨ a = 619) → B2.D a f = B.D a f ∧ B2.P a f = B.P a f := fun a f y1 y2 => gB.2 a f (by omega) y2
  have jM : RM s0 A2 z (k + 1) := by
    obtain ⟨T', m1, m2, m3, m4⟩ := h6
    exact ⟨T', m1, by rw [(eA 1 1 (by omega) (by omega)).1]; exact m2, by omega, by omega⟩
  rcases hor with ⟨jP, jB⟩ | ⟨S', t, jS, jt, jP, j10⟩
  · have gB2 := jP.1.2.1
    refine ⟨r, A2, B2, e1, e2, ⟨p, p2, cs, w, w2, M, ty, mn, nu, cd, E, Nm, Pv, S, nb, b, t0, la, z, us, un, um, c, n, kT, U, F, jP, h2, h3, ⟨r1.fr (eA 0 4 (by omega) (by omega)).2 (eA 0 5 (by omega) (by omega)).2 (eB 517 3 (by omega) (by omega)).2 (eB 517 4 (by omega) (by omega)).2 (eB w 37 (by omega) (by omega)).1 (eB w2 37 (by omega) (by omega)).1, (by rw [jB]; exact r2), r3.fr (fun a f y => (eA a f (by omega) (by omega)).1) (fun a f y => (eB a f (by omega) (by omega)).1), r4.fr (fun a f y => (eA a f (by omega) (by omega)).1) (fun a f y => (eB a f (by omega) (by omega)).1), ⟨(by rw [(eA 11 2 (by omega) (by omega)).1, (eB 517 12 (by omega) (by omega)).1]; exact r5.1), (by rw [(eA 11 3 (by omega) (by omega)).1, (eB 517 13 (by omega) (by omega)).1]; exact r5.2.1), (by rw [(eA 0 6 (by omega) (by omega)).1, (eB 517 5 (by omega) (by omega)).1]; exact r5.2.2)⟩, r6.fr (fun a f y => (eA a f (by omega) (by omega)).1) (fun a f y => (eB a f (by omega) (by omega)).1), (fun x hx => by rw [(eA 7 x (by omega) (by omega)).1]; exact r7 x hx), r8.fr (fun a f y => (eA a f (by omega) (by omega)).1) (fun a f y => (eB a f (by omega) (by omega)).1), jO, (by rw [(eB 517 24 (by omega) (by omega)).1]; exact r10), r11.fr (gr_T gB2 w ws.2.2.2.2.1) (eB (w + 16) 0 (by omega) (by omega)).1, r12.fr (gr_T gB2 w2 ws.2.2.2.2.2) (eB (w2 + 16) 0 (by omega) (by omega)).1⟩, ⟨by omega, by omega, k3, by omega⟩, jM⟩, gA.mono fun a f y => by unfold clsR; omega, gB.mono fun a f y => by unfold refR; omega, hsB.1, hsB.2⟩
  · have gB2 := jP.1.2.1
    refine ⟨r, A2, B2, e1, e2, ⟨p, p2, cs, w, w2, M, ty, mn, nu, cd, E, Nm, Pv, S', 13312, 8000000, t, la, z, us, um, un, t, t, kT, U, F, jP, h2, ⟨h1.2.1.2.1, fun y => h1.2.1.2.2.1 y.symm, fun y => h3.2.2 y.symm⟩, ⟨r1.fr (eA 0 4 (by omega) (by omega)).2 (eA 0 5 (by omega) (by omega)).2 (eB 517 3 (by omega) (by omega)).2 (eB 517 4 (by omega) (by omega)).2 (eB w 37 (by omega) (by omega)).1 (eB w2 37 (by omega) (by omega)).1, j10, r3.fr (fun a f y => (eA a f (by omega) (by omega)).1) (fun a f y => (eB a f (by omega) (by omega)).1), r4.fr (fun a f y => (eA a f (by omega) (by omega)).1) (fun a f y => (eB a f (by omega) (by omega)).1), ⟨(by rw [(eA 11 2 (by omega) (by omega)).1, (eB 517 12 (by omega) (by omega)).1]; exact r5.1), (by rw [(eA 11 3 (by omega) (by omega)).1, (eB 517 13 (by omega) (by omega)).1]; exact r5.2.1), (by rw [(eA 0 6 (by omega) (by omega)).1, (eB 517 5 (by omega) (by omega)).1]; exact r5.2.2)⟩, r6.fr (fun a f y => (eA a f (by omega) (by omega)).1) (fun a f y => (eB a f (by omega) (by omega)).1), (fun x hx => by rw [(eA 7 x (by omega) (by omega)).1]; exact r7 x hx), r8.fr (fun a f y => (eA a f (by omega) (by omega)).1) (fun a f y => (eB a f (by omega) (by omega)).1), jO, (by rw [(eB 517 24 (by omega) (by omega)).1]; exact r10), r11.fr (gr_T gB2 w ws.2.2.2.2.1) (eB (w + 16) 0 (by omega) (by omega)).1, r12.fr (gr_T gB2 w2 ws.2.2.2.2.2) (eB (w2 + 16) 0 (by omega) (by omega)).1⟩, ⟨by omega, jt, jS, by omega⟩, jM⟩, gA.mono fun a f y => by unfold clsR; omega, gB.mono fun a f y => by unfold refR; omega, hsB.1, hsB.2⟩
