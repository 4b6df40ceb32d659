/-! ===== every call keeps the root relation (written by gen_rr.py) ===== -/
theorem RR.qg {B : Hp} {x : Int32} : gw refR B (B.sD 517 0 x) := (same.rf.sD (show refR 517 0 by unfold refR; omega)).gw
theorem RR.q {N s0 k : Nat} {A B : Hp} {x : Int32} (h : RR N s0 k A B) : RR N s0 (k + 1) A (B.sD 517 0 x) := by
  obtain ⟨p, p2, cs, w, w2, M, ty, mn, nu, cd, E, Nm, Pv, S, nb, b, t0, la, z, us, un, um, c, n, kT, U, F, h1, h2, h3, h4, h5, h6⟩ := h
  refine ⟨p, p2, cs, w, w2, M, ty, mn, nu, cd, E, Nm, Pv, S, nb, b, t0, la, z, us, un, um, c, n, kT, U, F, h1.th h2.1.1, h2, h3, h4.fr h1.1.2.1.sD (fun _ _ _ _ _ => ⟨rfl, rfl⟩) (fun a f y1 y2 => ⟨rdnn (by omega), rfl⟩), ⟨by omega, h5.2.1, h5.2.2.1, by omega⟩, h6.up⟩
theorem hs_rm {N T : Nat} {A : Hp} (hG : Gr A) (hT : A.D 1 1 = nI T) (h6 : T ≤ 6000) : F_Lexer_hasRoom N 1 20 A = some (if T ≤ 5980 then 1 else 0, A) := by
  unfold F_Lexer_hasRoom
  rw [ck_t (rS_1 hG), bnd_t, hT, show (6000 : Int32) - 20 = nI 5980 from rfl]
  by_cases y : T ≤ 5980
  · rw [if_pos y, if_neg (nI_nlt (by omega) (by omega))]
  · rw [if_neg y, if_pos (nI_lt (by omega) (by omega))]
theorem fd_T {N T : Nat} {r x1 x2 x3 x4 x5 : Int32} {A A2 : Hp} (hN : 300 ≤ N) (hG : Gr A) (hT : A.D 1 1 = nI T) (h6 : T ≤ 6000) (hF : F_W_feed N 0 x1 x2 x3 x4 x5 A = some (r, A2)) : ∃ T2, T2 ≤ 6000 ∧ T2 ≤ T + 20 ∧ A2.D 1 1 = nI T2 := by
  unfold F_W_feed at hF
  rw [ck_t (rS_0 hG), rf_t (rP_0_0 hG), ck_t (rS_1 hG), bC_t (hs_rm hG hT h6)] at hF
  by_cases y : T ≤ 5980
  · obtain ⟨B1, a1, b1, c1, -⟩ := ad_int (N := N) (v := x1) hN hG hT (by omega)
    have G1 := b1.gr hG
    obtain ⟨B2, a2, b2, c2, -⟩ := ad_int (N := N) (v := x2) hN G1 c1 (by omega)
    have G2 := b2.gr G1
    obtain ⟨B3, a3, b3, c3, -⟩ := ad_int (N := N) (v := x3) hN G2 c2 (by omega)
    have G3 := b3.gr G2
    obtain ⟨B4, a4, b4, c4, -⟩ := ad_int (N := N) (v := x4) hN G3 c3 (by omega)
    have G4 := b4.gr G3
    obtain ⟨B5, a5, b5, c5, -⟩ := ad_int (N := N) (v := x5) hN G4 c4 (by omega)
    rw [if_pos y, if_neg (by decide), rf_t (rP_0_0 hG), ck_t (rS_1 hG), bC_t a1, rf_t (rP_0_0 G1), ck_t (rS_1 G1), bC_t a2, rf_t (rP_0_0 G2), ck_t (rS_1 G2), bC_t a3, rf_t (rP_0_0 G3), ck_t (rS_1 G3), bC_t a4, rf_t (rP_0_0 G4), ck_t (rS_1 G4), bC_t a5] at hF
    obtain ⟨-, e2⟩ := Prod.mk.inj (Option.some.inj hF)
    exact ⟨T + 4 + 4 + 4 + 4 + 4, by omega, by omega, by rw [← e2]; exact c5⟩
  · rw [if_neg y, if_pos rfl] at hF
    obtain ⟨-, e2⟩ := Prod.mk.inj (Option.some.inj hF)
    exact ⟨T, h6, by omega, by rw [← e2]; exact hT⟩
theorem en_T {N T : Nat} {r x1 : Int32} {A A2 : Hp} (hG : Gr A) (hT : A.D 1 1 = nI T) (h6 : T ≤ 6000) (hF : F_W_end N 0 x1 A = some (r, A2)) : ∃ T2, T2 ≤ 6000 ∧ T2 ≤ T ∧ A2.D 1 1 = nI T2 := by
  unfold F_W_end at hF
  by_cases y : x1 < 0
  · rw [if_pos y] at hF
    obtain ⟨-, e2⟩ := Prod.mk.inj (Option.some.inj hF)
    exact ⟨T, h6, Nat.le_refl _, by rw [← e2]; exact hT⟩
  · rw [if_neg y, ck_t (rS_0 hG), rf_t (rP_0_0 hG), ck_t (rS_1 hG), bnd_t, hT] at hF
    by_cases y2 : x1 ≤ nI T
    · rw [if_pos y2, rf_t (rP_0_0 hG), ck_t (rS_1 hG), bnd_t] at hF
      obtain ⟨-, e2⟩ := Prod.mk.inj (Option.some.inj hF)
      obtain ⟨k, k1, k2⟩ := to_nI (by omega) y y2
      exact ⟨k, by omega, k1, by rw [← e2, rds]; exact k2⟩
    · rw [if_neg y2] at hF
      obtain ⟨-, e2⟩ := Prod.mk.inj (Option.some.inj hF)
      exact ⟨T, h6, Nat.le_refl _, by rw [← e2]; exact hT⟩
theorem jc_group {N s0 k : Nat} {x1 : Int32} (hN : 2000000 ≤ N) (hk : k ≤ 600) : JC Int32 N s0 k (fun H => F_W_group N 0 x1 H) (fun H => F_M_group N 517 x1 H) := by
  intro A B h
  obtain ⟨p, p2, cs, w, w2, M, ty, mn, nu, cd, E, Nm, Pv, S, nb, b, t0, la, z, us, un, um, c, n, kT, U, F, h1, h2, h3, h4, h5, h6⟩ := h
  have hlA := h1.1.1.len
  have hlB := h1.1.2.1.len
  have hus := lU_le h1.2.1.1
  have hun := lU_le h1.2.1.2.1
  have hum := lU_le h3.1
  have ws := h4.1.ws
  have hM : M + 2 ≤ N := by
    have := h1.1.2.2.1.2.2.2.2.2.1.1
    omega
  have hE := h2.1.1
  have q0 := h1.2.2.1
  have h4' := h4
  obtain ⟨r1, r2, r3, r4, r5, r6, r7, r8, r9, r10, r11, r12⟩ := h4
  obtain ⟨k1, k2, k3, k4⟩ := h5
  obtain ⟨Q, hW, hV, -⟩ := h1.2.2.2.1
  have hta : A.D 1 1 = B.D 517 2 := by
    obtain ⟨T, g, t1, t2, t3, -⟩ := r6
    rw [t2, t3]
  have hou : A.D 131 1 = B.D 517 22 := by
    obtain ⟨T, t1, t2, t3, -⟩ := r9
    rw [t2, t3]
  obtain ⟨r, e1, e2⟩ := group_jo (N := N) (q := x1) h1.1.2.2.1 hE h1.1.1 h1.1.2.1 r1.1 r1.2.2.1
  exact ⟨r, A, B.sD 517 0 0, e1, e2, RR.q ⟨p, p2, cs, w, w2, M, ty, mn, nu, cd, E, Nm, Pv, S, nb, b, t0, la, z, us, un, um, c, n, kT, U, F, h1, h2, h3, h4', ⟨k1, k2, k3, k4⟩, h6⟩, gw.rf, RR.qg, rfl, rfl⟩

theorem jc_has {N s0 k : Nat} {x1 x2 : Int32} (hN : 2000000 ≤ N) (hk : k ≤ 600) : JC Int32 N s0 k (fun H => F_W_has N 0 x1 x2 H) (fun H => F_M_has N 517 x1 x2 H) := by
  intro A B h
  obtain ⟨p, p2, cs, w, w2, M, ty, mn, nu, cd, E, Nm, Pv, S, nb, b, t0, la, z, us, un, um, c, n, kT, U, F, h1, h2, h3, h4, h5, h6⟩ := h
  have hlA := h1.1.1.len
  have hlB := h1.1.2.1.len
  have hus := lU_le h1.2.1.1
  have hun := lU_le h1.2.1.2.1
  have hum := lU_le h3.1
  have ws := h4.1.ws
  have hM : M + 2 ≤ N := by
    have := h1.1.2.2.1.2.2.2.2.2.1.1
    omega
  have hE := h2.1.1
  have q0 := h1.2.2.1
  have h4' := h4
  obtain ⟨r1, r2, r3, r4, r5, r6, r7, r8, r9, r10, r11, r12⟩ := h4
  obtain ⟨k1, k2, k3, k4⟩ := h5
  obtain ⟨Q, hW, hV, -⟩ := h1.2.2.2.1
  have hta : A.D 1 1 = B.D 517 2 := by
    obtain ⟨T, g, t1, t2, t3, -⟩ := r6
    rw [t2, t3]
  have hou : A.D 131 1 = B.D 517 22 := by
    obtain ⟨T, t1, t2, t3, -⟩ := r9
    rw [t2, t3]
  obtain ⟨r, e1, e2⟩ := has_jo (N := N) (e := x1) (q := x2) h1.1.2.2.1 hE h1.1.1 h1.1.2.1 r1.1 r1.2.2.1 h1.2.1.2.1 h1.2.1.2.2.2.2.1 hW
  exact ⟨r, A, B.sD 517 0 0, e1, e2, RR.q ⟨p, p2, cs, w, w2, M, ty, mn, nu, cd, E, Nm, Pv, S, nb, b, t0, la, z, us, un, um, c, n, kT, U, F, h1, h2, h3, h4', ⟨k1, k2, k3, k4⟩, h6⟩, gw.rf, RR.qg, rfl, rfl⟩

theorem jc_entity {N s0 k : Nat} {x1 : Int32} (hN : 2000000 ≤ N) (hk : k ≤ 600) : JC Int32 N s0 k (fun H => F_W_entity N 0 x1 H) (fun H => F_M_entity N 517 x1 H) := by
  intro A B h
  obtain ⟨p, p2, cs, w, w2, M, ty, mn, nu, cd, E, Nm, Pv, S, nb, b, t0, la, z, us, un, um, c, n, kT, U, F, h1, h2, h3, h4, h5, h6⟩ := h
  have hlA := h1.1.1.len
  have hlB := h1.1.2.1.len
  have hus := lU_le h1.2.1.1
  have hun := lU_le h1.2.1.2.1
  have hum := lU_le h3.1
  have ws := h4.1.ws
  have hM : M + 2 ≤ N := by
    have := h1.1.2.2.1.2.2.2.2.2.1.1
    omega
  have hE := h2.1.1
  have q0 := h1.2.2.1
  have h4' := h4
  obtain ⟨r1, r2, r3, r4, r5, r6, r7, r8, r9, r10, r11, r12⟩ := h4
  obtain ⟨k1, k2, k3, k4⟩ := h5
  obtain ⟨Q, hW, hV, -⟩ := h1.2.2.2.1
  have hta : A.D 1 1 = B.D 517 2 := by
    obtain ⟨T, g, t1, t2, t3, -⟩ := r6
    rw [t2, t3]
  have hou : A.D 131 1 = B.D 517 22 := by
    obtain ⟨T, t1, t2, t3, -⟩ := r9
    rw [t2, t3]
  obtain ⟨r, e1, e2⟩ := entity_jo (N := N) (k := x1) (by omega) h1.1.1 h1.1.2.1 h1.2.1.2.1 h1.2.1.2.2.2.2.1 hW.1
  exact ⟨r, A, B.sD 517 0 0, e1, e2, RR.q ⟨p, p2, cs, w, w2, M, ty, mn, nu, cd, E, Nm, Pv, S, nb, b, t0, la, z, us, un, um, c, n, kT, U, F, h1, h2, h3, h4', ⟨k1, k2, k3, k4⟩, h6⟩, gw.rf, RR.qg, rfl, rfl⟩

theorem jc_row {N s0 k : Nat} {x1 x2 : Int32} (hN : 2000000 ≤ N) (hk : k ≤ 600) : JC Int32 N s0 k (fun H => F_W_row N 0 x1 x2 H) (fun H => F_M_row N 517 x1 x2 H) := by
  intro A B h
  obtain ⟨p, p2, cs, w, w2, M, ty, mn, nu, cd, E, Nm, Pv, S, nb, b, t0, la, z, us, un, um, c, n, kT, U, F, h1, h2, h3, h4, h5, h6⟩ := h
  have hlA := h1.1.1.len
  have hlB := h1.1.2.1.len
  have hus := lU_le h1.2.1.1
  have hun := lU_le h1.2.1.2.1
  have hum := lU_le h3.1
  have ws := h4.1.ws
  have hM : M + 2 ≤ N := by
    have := h1.1.2.2.1.2.2.2.2.2.1.1
    omega
  have hE := h2.1.1
  have q0 := h1.2.2.1
  have h4' := h4
  obtain ⟨r1, r2, r3, r4, r5, r6, r7, r8, r9, r10, r11, r12⟩ := h4
  obtain ⟨k1, k2, k3, k4⟩ := h5
  obtain ⟨Q, hW, hV, -⟩ := h1.2.2.2.1
  have hta : A.D 1 1 = B.D 517 2 := by
    obtain ⟨T, g, t1, t2, t3, -⟩ := r6
    rw [t2, t3]
  have hou : A.D 131 1 = B.D 517 22 := by
    obtain ⟨T, t1, t2, t3, -⟩ := r9
    rw [t2, t3]
  obtain ⟨r, e1, e2⟩ := row_jo2 (N := N) (s := x1) (k := x2) (by omega) h1.1.2.2.1 hE h1.1.1 h1.1.2.1 r1.1 r1.2.2.1 h1.2.1.2.1 h1.2.1.2.2.2.2.1 hW.1
  exact ⟨r, A, B.sD 517 0 0, e1, e2, RR.q ⟨p, p2, cs, w, w2, M, ty, mn, nu, cd, E, Nm, Pv, S, nb, b, t0, la, z, us, un, um, c, n, kT, U, F, h1, h2, h3, h4', ⟨k1, k2, k3, k4⟩, h6⟩, gw.rf, RR.qg, rfl, rfl⟩

theorem jc_failure {N s0 k : Nat} {x1 : Int32} (hN : 2000000 ≤ N) (hk : k ≤ 600) : JC Int32 N s0 k (fun H => F_W_failure N 0 x1 H) (fun H => F_M_failure N 517 x1 H) := by
  intro A B h
  obtain ⟨p, p2, cs, w, w2, M, ty, mn, nu, cd, E, Nm, Pv, S, nb, b, t0, la, z, us, un, um, c, n, kT, U, F, h1, h2, h3, h4, h5, h6⟩ := h
  have hlA := h1.1.1.len
  have hlB := h1.1.2.1.len
  have hus := lU_le h1.2.1.1
  have hun := lU_le h1.2.1.2.1
  have hum := lU_le h3.1
  have ws := h4.1.ws
  have hM : M + 2 ≤ N := by
    have := h1.1.2.2.1.2.2.2.2.2.1.1
    omega
  have hE := h2.1.1
  have q0 := h1.2.2.1
  have h4' := h4
  obtain ⟨r1, r2, r3, r4, r5, r6, r7, r8, r9, r10, r11, r12⟩ := h4
  obtain ⟨k1, k2, k3, k4⟩ := h5
  obtain ⟨Q, hW, hV, -⟩ := h1.2.2.2.1
  have hta : A.D 1 1 = B.D 517 2 := by
    obtain ⟨T, g, t1, t2, t3, -⟩ := r6
    rw [t2, t3]
  have hou : A.D 131 1 = B.D 517 22 := by
    obtain ⟨T, t1, t2, t3, -⟩ := r9
    rw [t2, t3]
  obtain ⟨r, e1, e2⟩ := failure_jo (N := N) (q := x1) h1 hE
  exact ⟨r, A, B.sD 517 0 0, e1, e2, RR.q ⟨p, p2, cs, w, w2, M, ty, mn, nu, cd, E, Nm, Pv, S, nb, b, t0, la, z, us, un, um, c, n, kT, U, F, h1, h2, h3, h4', ⟨k1, k2, k3, k4⟩, h6⟩, gw.rf, RR.qg, rfl, rfl⟩

theorem jc_pending {N s0 k : Nat} {x1 x2 : Int32} (hN : 2000000 ≤ N) (hk : k ≤ 600) : JC Int32 N s0 k (fun H => F_W_pending N 0 x1 x2 H) (fun H => F_M_pending N 517 x1 x2 H) := by
  intro A B h
  obtain ⟨p, p2, cs, w, w2, M, ty, mn, nu, cd, E, Nm, Pv, S, nb, b, t0, la, z, us, un, um, c, n, kT, U, F, h1, h2, h3, h4, h5, h6⟩ := h
  have hlA := h1.1.1.len
  have hlB := h1.1.2.1.len
  have hus := lU_le h1.2.1.1
  have hun := lU_le h1.2.1.2.1
  have hum := lU_le h3.1
  have ws := h4.1.ws
  have hM : M + 2 ≤ N := by
    have := h1.1.2.2.1.2.2.2.2.2.1.1
    omega
  have hE := h2.1.1
  have q0 := h1.2.2.1
  have h4' := h4
  obtain ⟨r1, r2, r3, r4, r5, r6, r7, r8, r9, r10, r11, r12⟩ := h4
  obtain ⟨k1, k2, k3, k4⟩ := h5
  obtain ⟨Q, hW, hV, -⟩ := h1.2.2.2.1
  have hta : A.D 1 1 = B.D 517 2 := by
    obtain ⟨T, g, t1, t2, t3, -⟩ := r6
    rw [t2, t3]
  have hou : A.D 131 1 = B.D 517 22 := by
    obtain ⟨T, t1, t2, t3, -⟩ := r9
    rw [t2, t3]
  obtain ⟨r, e1, e2⟩ := pending_jo (N := N) (k := x1) (q := x2) h1.1.2.2.1 hE h1.1.1 h1.1.2.1 r1.1 r1.2.2.1 h1.2.1.2.1 h1.2.1.2.2.2.2.1 hW.1 hV.2.2
  exact ⟨r, A, B.sD 517 0 0, e1, e2, RR.q ⟨p, p2, cs, w, w2, M, ty, mn, nu, cd, E, Nm, Pv, S, nb, b, t0, la, z, us, un, um, c, n, kT, U, F, h1, h2, h3, h4', ⟨k1, k2, k3, k4⟩, h6⟩, gw.rf, RR.qg, rfl, rfl⟩

theorem jc_look {N s0 k : Nat} {x1 : Int32} (hN : 2000000 ≤ N) (hk : k ≤ 600) : JC Int32 N s0 k (fun H => F_W_look N 0 x1 H) (fun H => F_M_look N 517 x1 H) := by
  intro A B h
  obtain ⟨p, p2, cs, w, w2, M, ty, mn, nu, cd, E, Nm, Pv, S, nb, b, t0, la, z, us, un, um, c, n, kT, U, F, h1, h2, h3, h4, h5, h6⟩ := h
  have hlA := h1.1.1.len
  have hlB := h1.1.2.1.len
  have hus := lU_le h1.2.1.1
  have hun := lU_le h1.2.1.2.1
  have hum := lU_le h3.1
  have ws := h4.1.ws
  have hM : M + 2 ≤ N := by
    have := h1.1.2.2.1.2.2.2.2.2.1.1
    omega
  have hE := h2.1.1
  have q0 := h1.2.2.1
  have h4' := h4
  obtain ⟨r1, r2, r3, r4, r5, r6, r7, r8, r9, r10, r11, r12⟩ := h4
  obtain ⟨k1, k2, k3, k4⟩ := h5
  obtain ⟨Q, hW, hV, -⟩ := h1.2.2.2.1
  have hta : A.D 1 1 = B.D 517 2 := by
    obtain ⟨T, g, t1, t2, t3, -⟩ := r6
    rw [t2, t3]
  have hou : A.D 131 1 = B.D 517 22 := by
    obtain ⟨T, t1, t2, t3, -⟩ := r9
    rw [t2, t3]
  obtain ⟨r, e1, e2⟩ := look_jo (N := N) (q := x1) h1 hE h2.1.2.1 (by omega) r3 r4 r5.2.1 r5.1 hta hou r1.1
  exact ⟨r, A, B.sD 517 0 0, e1, e2, RR.q ⟨p, p2, cs, w, w2, M, ty, mn, nu, cd, E, Nm, Pv, S, nb, b, t0, la, z, us, un, um, c, n, kT, U, F, h1, h2, h3, h4', ⟨k1, k2, k3, k4⟩, h6⟩, gw.rf, RR.qg, rfl, rfl⟩

theorem jc_make {N s0 k : Nat} {x1 : Int32} (hN : 2000000 ≤ N) (hk : k ≤ 600) : JC Int32 N s0 k (fun H => F_W_make N 0 x1 H) (fun H => F_M_make N 517 x1 H) := by
  intro A B h
  obtain ⟨p, p2, cs, w, w2, M, ty, mn, nu, cd, E, Nm, Pv, S, nb, b, t0, la, z, us, un, um, c, n, kT, U, F, h1, h2, h3, h4, h5, h6⟩ := h
  have hlA := h1.1.1.len
  have hlB := h1.1.2.1.len
  have hus := lU_le h1.2.1.1
  have hun := lU_le h1.2.1.2.1
  have hum := lU_le h3.1
  have ws := h4.1.ws
  have hM : M + 2 ≤ N := by
    have := h1.1.2.2.1.2.2.2.2.2.1.1
    omega
  have hE := h2.1.1
  have q0 := h1.2.2.1
  have h4' := h4
  obtain ⟨r1, r2, r3, r4, r5, r6, r7, r8, r9, r10, r11, r12⟩ := h4
  obtain ⟨k1, k2, k3, k4⟩ := h5
  obtain ⟨r, A2, B2, e1, e2, jP, jA, jB⟩ := make_jo (N := N) (q := x1) h1 r1.1 h2.1 hN
  have hsA : A2.sh = A.sh ∧ A2.sl = A.sl := ⟨jA.2.2.2.1, jA.2.2.2.2⟩
  have hsB : B2.sh = B.sh ∧ B2.sl = B.sl := ⟨jB.2.2.2.1, jB.2.2.2.2⟩
  have gB2 := jP.1.2.1
  have gA : gw (fun a f => 12 ≤ a ∧ a ≤ 17) A A2 := jA.gw.mono fun a f y => by unfold cW at y; omega
  have gB : gw (fun a f => (a = 517 ∧ f = 0) ∨ (581 ≤ a ∧ a ≤ 610)) B B2 := jB.gw.mono fun a f y => by unfold EDB cU at y; omega
  have eA : ∀ a f, a < 626 → ¬ (12 ≤ a ∧ a ≤ 17) → A2.D a f = A.D a f ∧ A2.P a f = A.P a f := fun a f y1 y2 => gA.2 a f (by omega) y2
  have eB : ∀ a f, a < 626 → ¬ ((a = 517 ∧ f = 0) ∨ (581 ≤ a ∧ a ≤ 610)) → B2.D a f = B.D a f ∧ B2.P a f = B.P a f := fun a f y1 y2 => gB.2 a f (by omega) y2
  refine ⟨r, A2, B2, e1, e2, ⟨p, p2, cs, w, w2, M, ty, mn, nu, cd, E, Nm, Pv, S, nb, b, t0, la, z, us, un, um, c, n, kT, U, F, jP, h2, h3, ⟨r1.fr (eA 0 4 (by omega) (by omega)).2 (eA 0 5 (by omega) (by omega)).2 (eB 517 3 (by omega) (by omega)).2 (eB 517 4 (by omega) (by omega)).2 (eB w 37 (by omega) (by omega)).1 (eB w2 37 (by omega) (by omega)).1, (by rw [(eB 517 10 (by omega) (by omega)).2]; exact r2), r3.fr (fun a f y => (eA a f (by omega) (by omega)).1) (fun a f y => (eB a f (by omega) (by omega)).1), r4.fr (fun a f y => (eA a f (by omega) (by omega)).1) (fun a f y => (eB a f (by omega) (by omega)).1), ⟨(by rw [(eA 11 2 (by omega) (by omega)).1, (eB 517 12 (by omega) (by omega)).1]; exact r5.1), (by rw [(eA 11 3 (by omega) (by omega)).1, (eB 517 13 (by omega) (by omega)).1]; exact r5.2.1), (by rw [(eA 0 6 (by omega) (by omega)).1, (eB 517 5 (by omega) (by omega)).1]; exact r5.2.2)⟩, r6.fr (fun a f y => (eA a f (by omega) (by omega)).1) (fun a f y => (eB a f (by omega) (by omega)).1), (fun x hx => by rw [(eA 7 x (by omega) (by omega)).1]; exact r7 x hx), r8.fr (fun a f y => (eA a f (by omega) (by omega)).1) (fun a f y => (eB a f (by omega) (by omega)).1), r9.fr (fun a f y => (eA a f (by omega) (by omega)).1) (fun a f y => (eB a f (by omega) (by omega)).1), (by rw [(eB 517 24 (by omega) (by omega)).1]; exact r10), r11.fr (gr_T gB2 w ws.2.2.2.2.1) (eB (w + 16) 0 (by omega) (by omega)).1, r12.fr (gr_T gB2 w2 ws.2.2.2.2.2) (eB (w2 + 16) 0 (by omega) (by omega)).1⟩, ⟨by omega, by omega, k3, by omega⟩, (h6.fr (eA 1 1 (by omega) (by omega)).1 hsA.1 hsA.2).up⟩, gA.mono fun a f y => by unfold clsR; omega, gB.mono fun a f y => by unfold refR; omega, hsB.1, hsB.2⟩

theorem jc_change {N s0 k : Nat} {x1 x2 x3 : Int32} (hN : 2000000 ≤ N) (hk : k ≤ 600) : JC Int32 N s0 k (fun H => F_W_change N 0 x1 x2 x3 H) (fun H => F_M_change N 517 x1 x2 x3 H) := by
  intro A B h
  obtain ⟨p, p2, cs, w, w2, M, ty, mn, nu, cd, E, Nm, Pv, S, nb, b, t0, la, z, us, un, um, c, n, kT, U, F, h1, h2, h3, h4, h5, h6⟩ := h
  have hlA := h1.1.1.len
  have hlB := h1.1.2.1.len
  have hus := lU_le h1.2.1.1
  have hun := lU_le h1.2.1.2.1
  have hum := lU_le h3.1
  have ws := h4.1.ws
  have hM : M + 2 ≤ N := by
    have := h1.1.2.2.1.2.2.2.2.2.1.1
    omega
  have hE := h2.1.1
  have q0 := h1.2.2.1
  have h4' := h4
  obtain ⟨r1, r2, r3, r4, r5, r6, r7, r8, r9, r10, r11, r12⟩ := h4
  obtain ⟨k1, k2, k3, k4⟩ := h5
  obtain ⟨r, A2, B2, e1, e2, jP, jA, jB⟩ := change_jo (N := N) (how := x1) (e := x2) (q := x3) h1 r1.1 h2.1 hN k3 (by omega)
  have hsA : A2.sh = A.sh ∧ A2.sl = A.sl := ⟨jA.2.2.2.1, jA.2.2.2.2⟩
  have hsB : B2.sh = B.sh ∧ B2.sl = B.sl := ⟨jB.2.2.2.1, jB.2.2.2.2⟩
  have gB2 := jP.1.2.1
  have gA : gw (fun a f => 12 ≤ a ∧ a ≤ 17) A A2 := jA.gw.mono fun a f y => by unfold cW at y; omega
  have gB : gw (fun a f => (a = 517 ∧ f = 0) ∨ (581 ≤ a ∧ a ≤ 610)) B B2 := jB.gw.mono fun a f y => by unfold EDB cU at y; omega
  have eA : ∀ a f, a < 626 → ¬ (12 ≤ a ∧ a ≤ 17) → A2.D a f = A.D a f ∧ A2.P a f = A.P a f := fun a f y1 y2 => gA.2 a f (by omega) y2
  have eB : ∀ a f, a < 626 → ¬ ((a = 517 ∧ f = 0) ∨ (581 ≤ a ∧ a ≤ 610)) → B2.D a f = B.D a f ∧ B2.P a f = B.P a f := fun a f y1 y2 => gB.2 a f (by omega) y2
  refine ⟨r, A2, B2, e1, e2, ⟨p, p2, cs, w, w2, M, ty, mn, nu, cd, E, Nm, Pv, S, nb, (b + 1), t0, la, z, us, un, um, c, n, kT, U, F, jP, h2, h3, ⟨r1.fr (eA 0 4 (by omega) (by omega)).2 (eA 0 5 (by omega) (by omega)).2 (eB 517 3 (by omega) (by omega)).2 (eB 517 4 (by omega) (by omega)).2 (eB w 37 (by omega) (by omega)).1 (eB w2 37 (by omega) (by omega)).1, (by rw [(eB 517 10 (by omega) (by omega)).2]; exact r2), r3.fr (fun a f y => (eA a f (by omega) (by omega)).1) (fun a f y => (eB a f (by omega) (by omega)).1), r4.fr (fun a f y => (eA a f (by omega) (by omega)).1) (fun a f y => (eB a f (by omega) (by omega)).1), ⟨(by rw [(eA 11 2 (by omega) (by omega)).1, (eB 517 12 (by omega) (by omega)).1]; exact r5.1), (by rw [(eA 11 3 (by omega) (by omega)).1, (eB 517 13 (by omega) (by omega)).1]; exact r5.2.1), (by rw [(eA 0 6 (by omega) (by omega)).1, (eB 517 5 (by omega) (by omega)).1]; exact r5.2.2)⟩, r6.fr (fun a f y => (eA a f (by omega) (by omega)).1) (fun a f y => (eB a f (by omega) (by omega)).1), (fun x hx => by rw [(eA 7 x (by omega) (by omega)).1]; exact r7 x hx), r8.fr (fun a f y => (eA a f (by omega) (by omega)).1) (fun a f y => (eB a f (by omega) (by omega)).1), r9.fr (fun a f y => (eA a f (by omega) (by omega)).1) (fun a f y => (eB a f (by omega) (by omega)).1), (by rw [(eB 517 24 (by omega) (by omega)).1]; exact r10), r11.fr (gr_T gB2 w ws.2.2.2.2.1) (eB (w + 16) 0 (by omega) (by omega)).1, r12.fr (gr_T gB2 w2 ws.2.2.2.2.2) (eB (w2 + 16) 0 (by omega) (by omega)).1⟩, ⟨by omega, by omega, k3, by omega⟩, (h6.fr (eA 1 1 (by omega) (by omega)).1 hsA.1 hsA.2).up⟩, gA.mono fun a f y => by unfold clsR; omega, gB.mono fun a f y => by unfold refR; omega, hsB.1, hsB.2⟩

