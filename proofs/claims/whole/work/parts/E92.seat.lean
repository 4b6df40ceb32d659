/-! ===== the call seat ===== -/
section Par
variable {N p wo inp cs w u ir M K0 : Nat} {s pl : Int32} {ty mn nu cd : Nat → Int32} {E Q : Nat → Nat → Nat} {V : Nat → Nat → Int32} {nL lc : Nat} {lk : Nat → Nat} {hd : Nat → Int32}
/-- what came above now is forgotten -/
theorem PLI.clr {S : Nat → Nat} {b t0 la z us un c n T p0 : Nat} {Nm : Nat → Nat → List Nat} {Pv : Nat → Nat → Int32} {A B : Hp} (h : PLI N p cs w M ty mn nu cd E Nm Pv S b t0 A la z B us un c n) (hE : WE E) (hp0 : p0 < 4) (hT : n < T) (hT2 : T ≤ n + 16) : PLI N p cs w M ty mn nu cd E Nm Pv S b t0 (A.sD 125 (64 * p0 + T % 64) 0) la z (B.sD 617 (64 * p0 + T % 64) 0) us un c n := by
  obtain ⟨⟨hGA, hGB, hTx, hL⟩, ⟨hus, hun, hne, b8, b9, b3⟩, ⟨n0, n1, n2, n3, n4, n5, n6⟩, ⟨Qn, x1, x2, x3⟩, ⟨Qs, y1, y2, y3⟩, hLk, hRw, hCm⟩ := h
  have hu1 := lU_le hus
  have hu2 := lU_le hun
  have hA : same (fun a f => a = 125 ∧ f = 64 * p0 + T % 64) A (A.sD 125 (64 * p0 + T % 64) 0) := same.rf.sD ⟨rfl, rfl⟩
  have hB : same (fun a f => a = 617 ∧ f = 64 * p0 + T % 64) B (B.sD 617 (64 * p0 + T % 64) 0) := same.rf.sD ⟨rfl, rfl⟩
  have a5 : (A.sD 125 (64 * p0 + T % 64) 0).D 125 (64 * p0 + T % 64) = 0 := rds
  have b7 : (B.sD 617 (64 * p0 + T % 64) 0).D 617 (64 * p0 + T % 64) = 0 := rds
  generalize A.sD 125 (64 * p0 + T % 64) 0 = A' at *
  generalize B.sD 617 (64 * p0 + T % 64) 0 = B' at *
  have dA : ∀ a f, ¬ (a = 125 ∧ f = 64 * p0 + T % 64) → A'.D a f = A.D a f := fun a f y => hA.1 a f y
  have dB : ∀ a f, ¬ (a = 617 ∧ f = 64 * p0 + T % 64) → B'.D a f = B.D a f := fun a f y => hB.1 a f y
  have eA : ∀ a, a ≠ 125 → A'.D a = A.D a := fun a z1 => funext fun f => dA a f (by omega)
  have wA : ∀ m t a f, wt m t ≤ a → a ≤ wt m t + 5 → A'.D a f = A.D a f := fun m t a f z1 z2 => dA a f (by have := lW_le (wt_m (n := m) (t := t)); omega)
  have h1 : ∀ x, x < 256 → x ≠ 64 * p0 + T % 64 → A'.D 125 x = A.D 125 x ∧ A.D 126 x = A.D 126 x := fun x _ z2 => ⟨dA _ _ (by omega), rfl⟩
  refine ⟨⟨hA.gr hGA, hB.gr hGB, hTx.fw hE hGA hL (hA.exS hL).exT hB.smT (fun a f y => by omega) (fun a f y => by omega), (hA.exS hL).1⟩, ⟨hus, hun, hne, by rw [hB.2.1]; exact b8, by rw [hB.2.1]; exact b9, by rw [hB.2.1]; exact b3⟩, ⟨n0, n1, n2, n3, by rw [dA _ _ (by omega)]; exact n4, by rw [dB _ _ (by omega)]; exact n5, by rw [dA _ _ (by omega)]; exact n6⟩, ⟨Qn, x1.fr (fun a f z1 z2 => dA a f (by omega)) (fun a f z1 z2 => dB a f (by omega)), x2.fr (fun a f z1 z2 => dB a f (by omega)), x3⟩, ⟨Qs, y1.fr (fun a f z1 z2 => wA _ _ a f z1 z2) (fun a f z1 z2 => dB a f (by omega)), y2.fr (fun a f z1 z2 => dB a f (by omega)), y3⟩, fun t z1 z2 => ?_, fun t z1 z2 => ?_, ?_⟩
  · rw [eA 129 (by decide)]
    exact (hLk t z1 z2).fr (CEQ.fr fun a f k1 k2 => wA _ _ a f k1 k2) (CEQ.fr fun a f k1 k2 => wA _ _ a f k1 k2).symm
  · obtain ⟨q1, q2⟩ := hRw t z1 z2
    rw [eA 129 (by decide), eA 128 (by decide), eA 127 (by decide), eA 126 (by decide), dB 618 _ (by omega)]
    refine ⟨fun x hx => ?_, q2⟩
    rw [q1 x hx]
    unfold ipV
    rw [inF_lo (cm2 := A'.D 125) (bt2 := A.D 126) (T := T) (by omega) h1 hx t (by omega)]
  · refine ⟨fun x hx => ?_, fun x hx => ?_⟩
    · by_cases q : x = 64 * p0 + T % 64
      · rw [q, a5, b7]
        exact ⟨rfl, fun y => absurd rfl y⟩
      · rw [dA _ _ (by omega), dA _ _ (by omega), dB _ _ (by omega), dB _ _ (by omega)]
        exact hCm.1 x hx
    · rw [dA _ _ (by omega), dB _ _ (by omega)]
      exact hCm.2 x hx
theorem st_lp {S : Nat → Nat} {b t0 la z us un c n pl : Nat} {Nm : Nat → Nat → List Nat} {Pv : Nat → Nat → Int32} (hE : WE E) (hp : pl < 4) : ∀ j a fA fB A B, a + j = 17 → 1 ≤ a → j < fA → j < fB → PLI N p cs w M ty mn nu cd E Nm Pv S b t0 A la z B us un c n → ∃ A2 B2, B_Play_place_45 N 11 (nI pl) 0 fA (nI a) A = some (1, A2) ∧ B_M_seat_62 N 517 (nI pl) 0 fB (nI (n + a)) B = some (1, B2) ∧ PLI N p cs w M ty mn nu cd E Nm Pv S b t0 A2 la z B2 us un c n ∧ same (fun x _ => x = 125) A A2 ∧ same (fun x _ => x = 617) B B2 := by
  intro j
  induction j with
  | zero =>
    intro a fA fB A B ha h1 hA hB h
    obtain ⟨fA, rfl⟩ : ∃ y, fA = y + 1 := ⟨fA - 1, by omega⟩
    obtain ⟨fB, rfl⟩ : ∃ y, fB = y + 1 := ⟨fB - 1, by omega⟩
    have hi := h.2.2.1
    refine ⟨A, B, ?_, ?_, h, same.rf, same.rf⟩
    · rw [B_Play_place_45, if_pos (show (16 : Int32) < nI a from nI_lt (a := 16) (by omega) (by omega))]
    · obtain ⟨Qn, x1, -⟩ := h.2.2.2.1
      rw [B_M_seat_62, if_pos rfl, ck_t (rS_517 h.1.2.1), rf_t h.2.1.2.2.2.2.1, ck_t (US (gr_U h.1.2.1 un h.2.1.2.1)), bnd_t, ← x1.2.1, hi.2.2.2.2.2.2, show nI n + (16 : Int32) = nI (n + 16) from nI_ad n 16, if_pos (nI_lt (by omega) (by omega))]
  | succ j ih =>
    intro a fA fB A B ha h1 hA hB h
    obtain ⟨fA, rfl⟩ : ∃ y, fA = y + 1 := ⟨fA - 1, by omega⟩
    obtain ⟨fB, rfl⟩ : ∃ y, fB = y + 1 := ⟨fB - 1, by omega⟩
    have hi := h.2.2.1
    have n3 := hi.2.2.2.1
    have n6 := hi.2.2.2.2.2.2
    have hGA := h.1.1
    have hGB := h.1.2.1
    have t31 : n + a < 2 ^ 31 := by omega
    have s256 : 64 * pl + (n + a) % 64 < 256 := by omega
    obtain ⟨A2, B2, r1, r2, r3, r4, r5⟩ := ih (a + 1) fA fB _ _ (by omega) (by omega) (by omega) (by omega) (h.clr (T := n + a) hE hp (by omega) (by omega))
    refine ⟨A2, B2, ?_, ?_, r3, ((same.rf (S := fun x _ => x = 125) (H := A)).sD rfl).tr r4, ((same.rf (S := fun x _ => x = 617) (H := B)).sD rfl).tr r5⟩
    · rw [B_Play_place_45, if_neg (show ¬ (16 : Int32) < nI a from nI_nlt (a := 16) (by omega) (by omega)), if_pos rfl, ck_t (rS_11 hGA), rf_t (rP_11_8 hGA), rf_t (rP_11_0 hGA), ck_t (rA_11_0 hGA), bnd_t, n6, nI_ad]
      unfold F_Play_slot
      rw [slA t31, bC_v, ar_t (rA_11_8 hGA), wrI s256 (by decide), show vp_nar .boolean (0 : Int32) = (0 : Int32) from rfl, nI_1]
      exact r1
    · obtain ⟨Qn, x1, -⟩ := h.2.2.2.1
      rw [B_M_seat_62, if_pos rfl, ck_t (rS_517 hGB), rf_t h.2.1.2.2.2.2.1, ck_t (US (gr_U hGB un h.2.1.2.1)), bnd_t, ← x1.2.1, n6, show nI n + (16 : Int32) = nI (n + 16) from nI_ad n 16, if_neg (nI_nlt (by omega) (by omega)), rf_t (rP_517_15 hGB)]
      unfold F_M_slot
      rw [slB t31, bC_v, ar_t (rA_517_15 hGB), wrI s256 (by decide), show vp_nar .boolean (0 : Int32) = (0 : Int32) from rfl, nI_1]
      exact r2
/-- the call seat -/
theorem seat_jo {S : Nat → Nat} {b t0 la z us un c n : Nat} {P q : Int32} {Nm : Nat → Nat → List Nat} {Pv : Nat → Nat → Int32} {A B : Hp} (h : PLI N p cs w M ty mn nu cd E Nm Pv S b t0 A la z B us un c n) (hon : A.D 11 2 = B.D 517 12) (hE : WE E) (hN : 300 ≤ N) (hq : q = 0 ∨ q = 1) : ∃ r A2 B2, F_W_seat N 0 P q A = some (r, A2) ∧ F_M_seat N 517 P q B = some (r, B2) ∧ PLI N p cs w M ty mn nu cd E Nm Pv S b t0 A2 la z B2 us un c n ∧ A2.D 11 2 = B2.D 517 12 ∧ same (fun a f => (a = 11 ∧ f = 2) ∨ a = 125) A A2 ∧ same (fun a f => (a = 517 ∧ (f = 0 ∨ f = 12)) ∨ a = 617) B B2 := by
  have hGA := h.1.1
  have hGB0 := h.1.2.1
  have h0 : PLI N p cs w M ty mn nu cd E Nm Pv S b t0 A la z (B.sD 517 0 0) us un c n := h.fr hE same.rf (same.rf.sD (.inl rfl))
  have hon0 : A.D 11 2 = (B.sD 517 0 0).D 517 12 := by rw [rdf (by decide)]; exact hon
  have sB0 : same (fun a f => (a = 517 ∧ (f = 0 ∨ f = 12)) ∨ a = 617) B (B.sD 517 0 0) := same.rf.sD (.inl ⟨rfl, .inl rfl⟩)
  have eA : ∀ r A2, F_Play_place N 11 P q A = some (r, A2) → r &&& 1 = r → F_W_seat N 0 P q A = some (r, A2) := fun r A2 k1 k2 => by
    unfold F_W_seat
    rw [ck_t (rS_0 hGA), rf_t (rP_0_2 hGA), ck_t (rS_11 hGA), bC_t k1, ck_t k2]
  have eB : F_M_seat N 517 P q B = (bC (F_M_in N (P.toInt64) (0 : Int64) (3 : Int64) (B.sD 517 0 0)) fun v4 H5 => if v4 = (0 : Int32) then some (0, H5) else bnd ((H5.D 517 12)) fun x7 => if ((x7 >>> (P &&& 31)) &&& (1 : Int32)) = (1 : Int32) then B_M_seat_34 N 517 P q 1 H5 else B_M_seat_34 N 517 P q 0 H5) := by
    unfold F_M_seat
    rw [ck_t (rS_517 hGB0), bnd_t]
  generalize B.sD 517 0 0 = B0 at *
  have hGB := h0.1.2.1
  rw [bC_t (ev_in (a := (0 : Int64)) (b := (3 : Int64)) (lo := 0) (hi := 3) rfl rfl)] at eB
  by_cases p1 : P < 0
  · rw [if_pos p1, if_pos rfl] at eB
    exact ⟨0, A, B0, eA 0 A (by unfold F_Play_place; rw [if_pos p1]) (by decide), eB, h0, hon0, same.rf, sB0⟩
  by_cases p2 : P < 4
  · obtain ⟨pl, hp, rfl⟩ := nI_small (n := 4) p1 (fun y => i32_nlt.mpr y p2) (by decide)
    have ep : F_Play_place N 11 (nI pl) q A = (if ((A.D 11 2 >>> (nI pl &&& 31)) &&& (1 : Int32)) = q then some (0, A) else B_Play_place_45 N 11 (nI pl) q N (nI 1) (A.sD 11 2 (A.D 11 2 ^^^ ((1 : Int32) <<< (nI pl &&& 31))))) := by
      unfold F_Play_place B_Play_place_26
      rw [if_neg p1, if_neg (show ¬ (4 : Int32) ≤ nI pl from nI_ge (b := 4) (by omega) (by decide)), ck_t (rS_11 hGA), bnd_t, ck_t (rS_11 hGA), bnd_t, bnd_t]
      rcases hq with rfl | rfl
      · rw [if_pos rfl]
        rfl
      · rw [if_neg (by decide)]
        rfl
    have h517 := h0.2.1.2.2.2.2.1
    obtain ⟨Qn, x1, -⟩ := h0.2.2.2.1
    have n6 := h0.2.2.1.2.2.2.2.2.2
    have n3 := h0.2.2.1.2.2.2.1
    have hun := h0.2.1.2.1
    have hu2 := lU_le hun
    have e34 : ∀ w0, B_M_seat_34 N 517 (nI pl) q w0 B0 = (if w0 = q then some (0, B0) else B_M_seat_62 N 517 (nI pl) q N (nI (n + 1)) (B0.sD 517 12 (A.D 11 2 ^^^ ((1 : Int32) <<< (nI pl &&& 31))))) := fun w0 => by
      have hGB1 : Gr (B0.sD 517 12 (A.D 11 2 ^^^ ((1 : Int32) <<< (nI pl &&& 31)))) := hGB.sD
      unfold B_M_seat_34
      rw [ck_t (rS_517 hGB), bnd_t, ← hon0, bnd_t, rf_t (show (B0.sD 517 12 (A.D 11 2 ^^^ ((1 : Int32) <<< (nI pl &&& 31)))).P 517 9 = .ref un from h517), ck_t (US (gr_U hGB1 un hun)), bnd_t, rdw (by omega), ← x1.2.1, n6, nI_1, bnd_t]
    rw [if_neg p1, if_neg (show ¬ (3 : Int32) < nI pl from nI_nlt (a := 3) (by omega) (by omega)), if_neg (by decide), bnd_t, ← hon0, e34, e34] at eB
    have eB2 : F_M_seat N 517 (nI pl) q B = (if ((A.D 11 2 >>> (nI pl &&& 31)) &&& (1 : Int32)) = q then some (0, B0) else B_M_seat_62 N 517 (nI pl) q N (nI (n + 1)) (B0.sD 517 12 (A.D 11 2 ^^^ ((1 : Int32) <<< (nI pl &&& 31))))) := by
      rw [eB]
      rcases and1 (A.D 11 2 >>> (nI pl &&& 31)) with y | y
      · rw [y, if_neg (by decide)]
      · rw [y, if_pos rfl]
    by_cases y : ((A.D 11 2 >>> (nI pl &&& 31)) &&& (1 : Int32)) = q
    · rw [if_pos y] at ep eB2
      exact ⟨0, A, B0, eA 0 A ep (by decide), eB2, h0, hon0, same.rf, sB0⟩
    · rw [if_neg y] at ep eB2
      have h1 : PLI N p cs w M ty mn nu cd E Nm Pv S b t0 (A.sD 11 2 (A.D 11 2 ^^^ ((1 : Int32) <<< (nI pl &&& 31)))) la z (B0.sD 517 12 (A.D 11 2 ^^^ ((1 : Int32) <<< (nI pl &&& 31)))) us un c n := h0.fr hE (same.rf.sD (.inr (.inl ⟨rfl, by decide⟩))) (same.rf.sD (.inl rfl))
      have sA1 : same (fun a f => (a = 11 ∧ f = 2) ∨ a = 125) A (A.sD 11 2 (A.D 11 2 ^^^ ((1 : Int32) <<< (nI pl &&& 31)))) := same.rf.sD (.inl ⟨rfl, rfl⟩)
      have sB1 : same (fun a f => (a = 517 ∧ (f = 0 ∨ f = 12)) ∨ a = 617) B (B0.sD 517 12 (A.D 11 2 ^^^ ((1 : Int32) <<< (nI pl &&& 31)))) := sB0.sD (.inl ⟨rfl, .inr rfl⟩)
      have on1 : (A.sD 11 2 (A.D 11 2 ^^^ ((1 : Int32) <<< (nI pl &&& 31)))).D 11 2 = (B0.sD 517 12 (A.D 11 2 ^^^ ((1 : Int32) <<< (nI pl &&& 31)))).D 517 12 := by rw [rds, rds]
      generalize A.sD 11 2 (A.D 11 2 ^^^ ((1 : Int32) <<< (nI pl &&& 31))) = A1 at *
      generalize B0.sD 517 12 (A.D 11 2 ^^^ ((1 : Int32) <<< (nI pl &&& 31))) = B1 at *
      rcases hq with rfl | rfl
      · obtain ⟨A2, B2, r1, r2, r3, r4, r5⟩ := st_lp (N := N) hE hp 16 1 N N A1 B1 (by omega) (by omega) (by omega) (by omega) h1
        exact ⟨1, A2, B2, eA 1 A2 (ep.trans r1) (by decide), eB2.trans r2, r3, by rw [r4.1 _ _ (by omega), r5.1 _ _ (by omega)]; exact on1, sA1.tr (r4.mono fun a f k => .inr k), sB1.tr (r5.mono fun a f k => .inr k)⟩
      · obtain ⟨N1, hN1⟩ : ∃ y, N = y + 1 := ⟨N - 1, by omega⟩
        refine ⟨1, A1, B1, eA 1 A1 (ep.trans ?_) (by decide), eB2.trans ?_, h1, on1, sA1, sB1⟩
        · have : B_Play_place_45 N 11 (nI pl) 1 (N1 + 1) (nI 1) A1 = some (1, A1) := by
            rw [B_Play_place_45, if_neg (show ¬ (16 : Int32) < nI 1 by decide), if_neg (by decide)]
          rw [← hN1] at this
          exact this
        · have : B_M_seat_62 N 517 (nI pl) 1 (N1 + 1) (nI (n + 1)) B1 = some (1, B1) := by
            rw [B_M_seat_62, if_neg (by decide)]
          rw [← hN1] at this
          exact this
  · have p3 : (3 : Int32) < P := Decidable.byContradiction fun y => p2 ((i32_le (c := 3) (by decide)).mp (i32_nlt.mp y))
    rw [if_neg p1, if_pos p3, if_pos rfl] at eB
    exact ⟨0, A, B0, eA 0 A (by unfold F_Play_place; rw [if_neg p1, if_pos (show (4 : Int32) ≤ P from i32_nlt.mp p2)]) (by decide), eB, h0, hon0, same.rf, sB0⟩
end Par
