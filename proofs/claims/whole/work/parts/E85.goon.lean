/-! ===== a step, both sides ===== -/
def PFA (a f : Nat) : Prop := a = 0 ∨ (a = 11 ∧ f ≠ 1) ∨ a = 115 ∨ a = 130 ∨ a = 131 ∨ a = 132
def PFB (a f : Nat) : Prop := a = 517 ∨ a = 518 ∨ 620 ≤ a
section Par
variable {N p wo inp cs w u ir M K0 : Nat} {s pl : Int32} {ty mn nu cd : Nat → Int32} {E Q : Nat → Nat → Nat} {V : Nat → Nat → Int32} {nL lc : Nat} {lk : Nat → Nat} {hd : Nat → Int32}
/-- over changes that have nothing to do with the play -/
theorem PLI.fr {S : Nat → Nat} {b t0 la z us un c n : Nat} {Nm : Nat → Nat → List Nat} {Pv : Nat → Nat → Int32} {A B A' B' : Hp} (h : PLI N p cs w M ty mn nu cd E Nm Pv S b t0 A la z B us un c n) (hE : WE E) (hA : same PFA A A') (hB : same PFB B B') : PLI N p cs w M ty mn nu cd E Nm Pv S b t0 A' la z B' us un c n := by
  obtain ⟨⟨hGA, hGB, hT, hL⟩, ⟨hus, hun, hne, b8, b9, b3⟩, ⟨n0, n1, n2, n3, n4, n5, n6⟩, ⟨Qn, x1, x2, x3⟩, ⟨Qs, y1, y2, y3⟩, hLk, hRw, hCm⟩ := h
  have hu1 := lU_le hus
  have hu2 := lU_le hun
  have dA : ∀ a f, ¬ PFA a f → A'.D a f = A.D a f := fun a f y => hA.1 a f y
  have dB : ∀ a f, ¬ PFB a f → B'.D a f = B.D a f := fun a f y => hB.1 a f y
  have eA : ∀ a, 125 ≤ a → a ≤ 129 → A'.D a = A.D a := fun a y1 y2 => funext fun f => dA a f (by unfold PFA; omega)
  have wA : ∀ m t a f, wt m t ≤ a → a ≤ wt m t + 5 → A'.D a f = A.D a f := fun m t a f y1 y2 => dA a f (by have := lW_md (wt_m (n := m) (t := t)); unfold PFA; omega)
  refine ⟨⟨hA.gr hGA, hB.gr hGB, hT.fw hE hGA hL (hA.exS hL).exT hB.smT (fun a f y => by unfold PFA at y; omega) (fun a f y => by unfold PFB at y; omega), (hA.exS hL).1⟩, ⟨hus, hun, hne, by rw [hB.2.1]; exact b8, by rw [hB.2.1]; exact b9, by rw [hB.2.1]; exact b3⟩, ⟨n0, n1, n2, n3, by rw [dA _ _ (by unfold PFA; omega)]; exact n4, by rw [dB _ _ (by unfold PFB; omega)]; exact n5, by rw [dA _ _ (by unfold PFA; omega)]; exact n6⟩, ⟨Qn, x1.fr (fun a f z1 z2 => dA a f (by unfold PFA; omega)) (fun a f z1 z2 => dB a f (by unfold PFB; omega)), x2.fr (fun a f z1 z2 => dB a f (by unfold PFB; omega)), x3⟩, ⟨Qs, y1.fr (fun a f z1 z2 => wA _ _ a f z1 z2) (fun a f z1 z2 => dB a f (by unfold PFB; omega)), y2.fr (fun a f z1 z2 => dB a f (by unfold PFB; omega)), y3⟩, fun t z1 z2 => ?_, fun t z1 z2 => ?_, ?_⟩
  · rw [eA 129 (by decide) (by decide)]
    exact (hLk t z1 z2).fr (CEQ.fr fun a f k1 k2 => wA _ _ a f k1 k2) (CEQ.fr fun a f k1 k2 => wA _ _ a f k1 k2).symm
  · rw [eA 129 (by decide) (by decide), eA 128 (by decide) (by decide), eA 125 (by decide) (by decide), eA 126 (by decide) (by decide), eA 127 (by decide) (by decide), dB 618 _ (by unfold PFB; omega)]
    exact hRw t z1 z2
  · unfold CAM
    rw [eA 125 (by decide) (by decide), eA 126 (by decide) (by decide), eA 127 (by decide) (by decide)]
    refine ⟨fun x hx => ?_, fun x hx => ?_⟩
    · rw [dB 617 _ (by unfold PFB; omega), dB 616 _ (by unfold PFB; omega)]
      exact hCm.1 x hx
    · rw [dB 619 _ (by unfold PFB; omega)]
      exact hCm.2 x hx
/-- all that can be confirmed is -/
theorem conf_jo {S : Nat → Nat} {nb b t0 la z us un n : Nat} {Nm : Nat → Nat → List Nat} {Pv : Nat → Nat → Int32} (hQ : TXQ M cs ty mn nu cd E Pv) (hM : M + 2 ≤ N) (hN : 2000000 ≤ N) (hb : BNS S nb) (hcn : nb + (b + 16 * (n - t0)) + 20 < 8388608) : ∀ r c l1 nA nB kT A B, c + r = n → l1 + r ≤ 16 → r < nA → r < nB → PLI N p cs w M ty mn nu cd E Nm Pv S b t0 A la z B us un c n → TLD kT A B → ∃ A2 B2 c2, B_Play_confirm_2 N 11 nA (nI l1) A = some ((), A2) ∧ B_M_confirms_2 N 517 nB 1 B = some ((), B2) ∧ PLI N p cs w M ty mn nu cd E Nm Pv S b t0 A2 la z B2 us un c2 n ∧ TLD (kT + 32 * (c2 - c)) A2 B2 ∧ same CFA A A2 ∧ smT (CFB us) B B2 ∧ c ≤ c2 := by
  intro r
  induction r with
  | zero =>
    intro c l1 nA nB kT A B hr hl hA hB h hT
    obtain ⟨nA, rfl⟩ : ∃ y, nA = y + 1 := ⟨nA - 1, by omega⟩
    obtain ⟨nB, rfl⟩ : ∃ y, nB = y + 1 := ⟨nB - 1, by omega⟩
    have h' := h
    obtain ⟨⟨hGA, hGB, -⟩, ⟨hus, hun, hne, b8, b9, b3⟩, ⟨n0, n1, n2, n3, n4, n5, n6⟩, ⟨Qn, x1, -⟩, -⟩ := h
    have bn : B.D un 0 = nI n := by rw [← x1.2.1]; exact n6
    refine ⟨A, B, c, ?_, ?_, h', hT.mono (by omega), same.rf, (same.rf (S := CFB us)).smT, Nat.le_refl _⟩
    · rw [B_Play_confirm_2]
      by_cases y : (16 : Int32) ≤ nI l1
      · rw [if_pos y]
      · rw [if_neg y, ck_t (rS_11 hGA), bnd_t, n4, rf_t (rP_11_0 hGA), ck_t (rA_11_0 hGA), bnd_t, n6, if_pos (nI_le (by omega) (by omega))]
    · rw [B_M_confirms_2, if_neg (by decide), ck_t (rS_517 hGB), rf_t b8, ck_t (US (gr_U hGB us hus)), bnd_t, n5, rf_t b9, ck_t (US (gr_U hGB un hun)), bnd_t, bn, if_pos (nI_le (by omega) (by omega))]
  | succ r ih =>
    intro c l1 nA nB kT A B hr hl hA hB h hT
    obtain ⟨nA, rfl⟩ : ∃ y, nA = y + 1 := ⟨nA - 1, by omega⟩
    obtain ⟨nB, rfl⟩ : ∃ y, nB = y + 1 := ⟨nB - 1, by omega⟩
    rcases conf_one (N := N) (nA := nA) (nB := nB) (l1 := l1) h hT (by omega) (by omega) hQ hM hN hb hcn with ⟨k1, k2⟩ | ⟨A3, B6, k1, k2, k3, k4, k5, k6⟩
    · exact ⟨A, B, c, k1, k2, h, hT.mono (by omega), same.rf, (same.rf (S := CFB us)).smT, Nat.le_refl _⟩
    · obtain ⟨A2, B2, c2, r1, r2, r3, r4, r5, r6, r7⟩ := ih (c + 1) (l1 + 1) nA nB (kT + 32) A3 B6 (by omega) (by omega) (by omega) (by omega) k3 k4
      exact ⟨A2, B2, c2, k1.trans r1, k2.trans r2, r3, r4.mono (by omega), k5.tr r5, k6.tr r6, by omega⟩
def GOA (n a f : Nat) : Prop := AHA n a f ∨ a = 128
def GOB (un a f : Nat) : Prop := AHB un a f ∨ a = 618
/-- a tick ahead: class's goOn up to confirm, reference's runs -/
theorem go_jo {S : Nat → Nat} {kT : Nat} {nb b t0 la z us un c n : Nat} {Nm : Nat → Nat → List Nat} {Pv : Nat → Nat → Int32} {A B : Hp} (h : PLI N p cs w M ty mn nu cd E Nm Pv S b t0 A la z B us un c n) (hn : n < c + 16) (hn2 : n + 1 < 2000000000) (hQ : TXQ M cs ty mn nu cd E Pv) (hM : M + 2 ≤ N) (hN : 2000000 ≤ N) (hb : BNS S nb) (hcn : nb + (b + 16 * (n - t0)) + 20 < 8388608) (hon : A.D 11 2 = B.D 517 12) (hTl : TLD kT A B) : ∃ A4 B4 la4 z4, F_Play_goOn N 11 p A = (bC (F_Play_confirm N 11 A4) fun _ H28 => some ((), H28)) ∧ F_M_runs N 517 un (B.sD 618 ((n + 1) % 64) (B.D 517 12)) = some ((), B4) ∧ PLI N p cs w M ty mn nu cd E Nm Pv S b t0 A4 la4 z4 B4 us un c (n + 1) ∧ TLD kT A4 B4 ∧ exT (GOA n) A la z A4 la4 z4 ∧ smT (GOB un) B B4 := by
  have h' := h
  obtain ⟨⟨hGA, hGB, hT, hL⟩, ⟨hus, hun, hne, b8, b9, b3⟩, ⟨n0, n1, n2, n3, n4, n5, n6⟩, ⟨Qn, x1, x2, x3⟩, ⟨Qs, y1, y2, y3⟩, hLk, hRw, hCm⟩ := h
  have hu1 := lU_le hus
  have hu2 := lU_le hun
  have bn : B.D un 0 = nI n := by rw [← x1.2.1]; exact n6
  have sA : same (fun a f => a = 128 ∧ f = (n + 1) % 16) A (A.sD 128 ((n + 1) % 16) (A.D 11 2)) := same.rf.sD ⟨rfl, rfl⟩
  have sB : same (fun a f => a = 618 ∧ f = (n + 1) % 64) B (B.sD 618 ((n + 1) % 64) (B.D 517 12)) := same.rf.sD ⟨rfl, rfl⟩
  have p12 : (A.sD 128 ((n + 1) % 16) (A.D 11 2)).D 128 ((n + 1) % 16) = (B.sD 618 ((n + 1) % 64) (B.D 517 12)).D 618 ((n + 1) % 64) := by rw [rds, rds]; exact hon
  have hI : PLI N p cs w M ty mn nu cd E Nm Pv S b t0 (A.sD 128 ((n + 1) % 16) (A.D 11 2)) la z (B.sD 618 ((n + 1) % 64) (B.D 517 12)) us un c n := by
    have dA : ∀ a f, ¬ (a = 128 ∧ f = (n + 1) % 16) → (A.sD 128 ((n + 1) % 16) (A.D 11 2)).D a f = A.D a f := fun a f y => rdnn y
    have dB : ∀ a f, ¬ (a = 618 ∧ f = (n + 1) % 64) → (B.sD 618 ((n + 1) % 64) (B.D 517 12)).D a f = B.D a f := fun a f y => rdnn y
    have eA : ∀ a, a ≠ 128 → (A.sD 128 ((n + 1) % 16) (A.D 11 2)).D a = A.D a := fun a y => funext fun f => dA a f (by omega)
    generalize A.sD 128 ((n + 1) % 16) (A.D 11 2) = A' at *
    generalize B.sD 618 ((n + 1) % 64) (B.D 517 12) = B' at *
    have wA : ∀ m t a f, wt m t ≤ a → a ≤ wt m t + 5 → A'.D a f = A.D a f := fun m t a f y1 y2 => dA a f (by have := lW_le (wt_m (n := m) (t := t)); omega)
    refine ⟨⟨sA.gr hGA, sB.gr hGB, hT.fw hQ.1 hGA hL (sA.exS hL).exT sB.smT (fun a f y => by omega) (fun a f y => by omega), (sA.exS hL).1⟩, ⟨hus, hun, hne, by rw [sB.2.1]; exact b8, by rw [sB.2.1]; exact b9, by rw [sB.2.1]; exact b3⟩, ⟨n0, n1, n2, n3, by rw [dA _ _ (by omega)]; exact n4, by rw [dB _ _ (by omega)]; exact n5, by rw [dA _ _ (by omega)]; exact n6⟩, ⟨Qn, x1.fr (fun a f z1 z2 => dA a f (by omega)) (fun a f z1 z2 => dB a f (by omega)), x2.fr (fun a f z1 z2 => dB a f (by omega)), x3⟩, ⟨Qs, y1.fr (fun a f z1 z2 => wA _ _ a f z1 z2) (fun a f z1 z2 => dB a f (by omega)), y2.fr (fun a f z1 z2 => dB a f (by omega)), y3⟩, fun t z1 z2 => ?_, fun t z1 z2 => ?_, ?_⟩
    · rw [eA 129 (by decide)]
      exact (hLk t z1 z2).fr (CEQ.fr fun a f k1 k2 => wA _ _ a f k1 k2) (CEQ.fr fun a f k1 k2 => wA _ _ a f k1 k2).symm
    · rw [eA 129 (by decide), eA 125 (by decide), eA 126 (by decide), eA 127 (by decide), dA 128 _ (by omega), dB 618 _ (by omega)]
      exact hRw t z1 z2
    · unfold CAM
      rw [eA 125 (by decide), eA 126 (by decide), eA 127 (by decide)]
      refine ⟨fun x hx => ?_, fun x hx => ?_⟩
      · rw [dB 617 _ (by omega), dB 616 _ (by omega)]
        exact hCm.1 x hx
      · rw [dB 619 _ (by omega)]
        exact hCm.2 x hx
  obtain ⟨A1, A4, B1, B4, la4, z4, r1, r2, r3, r4, r5, r6, r7, r8, r9, r10, r11⟩ := ahead_jo (N := N) hI hn hn2 hQ hM hN hb hcn p12
  have hlen := hGA.len
  have hla := hL.2.2.1
  refine ⟨A4, B4, la4, z4, ?_, ?_, r5, ?_, ((sA.mono fun a f y => .inr y.1).exS hL).exT.tr (r6.mono fun a f y => .inl y), ((sB.mono fun a f y => .inr y.1).smT).tr (r7.mono fun a f y => .inl y)⟩
  · unfold F_Play_goOn
    rw [ck_t (rS_11 hGA), rf_t (rP_11_11 hGA), rf_t (rP_11_0 hGA), ck_t (rA_11_0 hGA), bnd_t, n6, bnd_t, ar_t (rA_11_11 hGA), nI_1, nI_15 (by omega), wrI (show (n + 1) % 16 < 16 by omega) (by decide), bC_t r1, rf_t (rP_11_7 r8), rf_t (rP_11_0 r8), rf_t (rP_11_13 r8), ck_t (rS_116 r8), bC_t r2]
  · have hGB' : Gr (B.sD 618 ((n + 1) % 64) (B.D 517 12)) := hGB.sD
    unfold F_M_runs
    rw [ck_t (US (gr_U hGB' un hun)), bnd_t, rdw (by omega), bn, nI_1, ck_t (rS_517 hGB'), bC_t r3, rf_t (rP_517_11 r9), rf_t (show B1.P 517 3 = .ref w by rw [r10]; exact b3), rf_t (rP_517_18 r9), ck_t (rS_611 r9), bC_t r4]
  · have dA : ∀ a f, a < 626 → a ≠ 118 → ¬ AHA n a f → A4.D a f = (A.sD 128 ((n + 1) % 16) (A.D 11 2)).D a f := fun a f z1 z2 z3 => r6.2.2.1 a f (by show a < A.sh.length; omega) z3 (by omega)
    exact hTl.fr (fun a f y => by rw [dA _ _ (by omega) (by omega) (by unfold AHA TGA TFA cW; omega), rdw (by omega)]) (fun a f y => by rw [r7.1 _ _ (by unfold AHB TGB TFB; omega), rdw (by omega)])
end Par
