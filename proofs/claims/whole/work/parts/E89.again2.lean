/-! ===== an input that changes ticks ===== -/
section Par
variable {N p wo inp cs w u ir M K0 : Nat} {s pl : Int32} {ty mn nu cd : Nat → Int32} {E Q : Nat → Nat → Nat} {V : Nat → Nat → Int32} {nL lc : Nat} {lk : Nat → Nat} {hd : Nat → Int32}
/-- from the play to the ticks that are run again -/
theorem PLI.plr {S : Nat → Nat} {b t0 la z us un c n T p0 : Nat} {v : Int32} {Nm : Nat → Nat → List Nat} {Pv : Nat → Nat → Int32} {A B A' B' B3 : Hp} (h : PLI N p cs w M ty mn nu cd E Nm Pv S b t0 A la z B us un c n) (hE : WE E) (hp0 : p0 < 4) (hT : c < T) (hT2 : T ≤ n) (hA : same (fun a f => (a = 125 ∨ a = 126) ∧ f = 64 * p0 + T % 64) A A') (hB : same (fun a f => ((a = 616 ∨ a = 617) ∧ f = 64 * p0 + T % 64) ∨ a = 620) B B') (a5 : A'.D 125 (64 * p0 + T % 64) = 1) (a6 : A'.D 126 (64 * p0 + T % 64) = v) (b7 : B'.D 617 (64 * p0 + T % 64) = 1) (b6 : B'.D 616 (64 * p0 + T % 64) = v) (h3 : same (cU un) B' B3) (hW : ∀ Q, WPR A' (wt n c) B' us E Q → WPR A' (wt n c) B3 un E Q ∧ (∀ S, RVB S E Q B' us → RVB S E Q B3 un)) : PLR N p cs w M ty mn nu cd E Nm Pv S b t0 A' la z B3 us un c n T c := by
  obtain ⟨⟨hGA, hGB, hTx, hL⟩, ⟨hus, hun, hne, b8, b9, b3⟩, ⟨n0, n1, n2, n3, n4, n5, n6⟩, ⟨Qn, x1, x2, x3⟩, ⟨Qs, y1, y2, y3⟩, hLk, hRw, hCm⟩ := h
  have hu1 := lU_le hus
  have hu2 := lU_le hun
  have dj := lU_dj hus hun hne
  have dA : ∀ a f, ¬ ((a = 125 ∨ a = 126) ∧ f = 64 * p0 + T % 64) → A'.D a f = A.D a f := fun a f y => hA.1 a f y
  have dB : ∀ a f, ¬ (((a = 616 ∨ a = 617) ∧ f = 64 * p0 + T % 64) ∨ a = 620) → B'.D a f = B.D a f := fun a f y => hB.1 a f y
  have d3 : ∀ a f, ¬ (un ≤ a ∧ a ≤ un + 9) → B3.D a f = B'.D a f := fun a f y => h3.1 a f (by unfold cU; omega)
  have eA : ∀ a, a ≠ 125 → a ≠ 126 → A'.D a = A.D a := fun a z1 z2 => funext fun f => dA a f (by omega)
  have wA : ∀ m t a f, wt m t ≤ a → a ≤ wt m t + 5 → A'.D a f = A.D a f := fun m t a f z1 z2 => dA a f (by have := lW_le (wt_m (n := m) (t := t)); omega)
  have h1 : ∀ x, x < 256 → x ≠ 64 * p0 + T % 64 → A'.D 125 x = A.D 125 x ∧ A'.D 126 x = A.D 126 x := fun x _ z2 => ⟨dA _ _ (by omega), dA _ _ (by omega)⟩
  have W' : WPR A' (wt n c) B' us E Qs := y1.fr (fun a f z1 z2 => wA _ _ a f z1 z2) (fun a f z1 z2 => dB a f (by omega))
  have R' : RVB S E Qs B' us := y2.fr (fun a f z1 z2 => dB a f (by omega))
  obtain ⟨W3, R3⟩ := hW Qs W'
  have smx : smT (fun a f => (((a = 616 ∨ a = 617) ∧ f = 64 * p0 + T % 64) ∨ a = 620) ∨ cU un a f) B B3 := ((hB.mono fun a f y => .inl y).smT).tr ((h3.mono fun a f y => .inr y).smT)
  refine ⟨⟨hA.gr hGA, h3.gr (hB.gr hGB), hTx.fw hE hGA hL (hA.exS hL).exT smx (fun a f y => by omega) (fun a f y => by unfold cU at y; omega), (hA.exS hL).1⟩, ⟨hus, hun, hne, by rw [h3.2.1, hB.2.1]; exact b8, by rw [h3.2.1, hB.2.1]; exact b9, by rw [h3.2.1, hB.2.1]; exact b3⟩, ⟨⟨n0, Nat.le_refl _, hT, hT2, n2, n3⟩, by rw [dA _ _ (by omega)]; exact n4, by rw [d3 _ _ (by omega), dB _ _ (by omega)]; exact n5, by rw [← W3.2.1, W'.2.1, dB _ _ (by omega)]; exact n5⟩, ⟨Qs, W3, R3 S R', y3⟩, ⟨Qs, W'.fr (fun _ _ _ _ => rfl) (fun a f z1 z2 => d3 a f (by omega)), R'.fr (fun a f z1 z2 => d3 a f (by omega)), y3⟩, fun t z1 z2 => ?_, ⟨fun t z1 z2 x hx => ?_, fun t z1 z2 => ?_⟩, ?_⟩
  · rw [eA 129 (by decide) (by decide)]
    exact (hLk t z1 (by omega)).fr (CEQ.fr fun a f k1 k2 => wA _ _ a f k1 k2) (CEQ.fr fun a f k1 k2 => wA _ _ a f k1 k2).symm
  · rw [eA 129 (by decide) (by decide), eA 128 (by decide) (by decide), eA 127 (by decide) (by decide), (hRw t z1 (by omega)).1 x hx]
    unfold ipV
    rw [inF_lo (cm2 := A'.D 125) (bt2 := A'.D 126) (by omega) h1 hx t z2]
  · rw [dA _ _ (by omega), d3 _ _ (by omega), dB _ _ (by omega)]
    exact (hRw t z1 z2).2
  · refine ⟨fun x hx => ?_, fun x hx => ?_⟩
    · rw [d3 _ _ (by omega), d3 _ _ (by omega)]
      by_cases q : x = 64 * p0 + T % 64
      · rw [q, a5, b7, a6, b6]
        exact ⟨rfl, fun _ => rfl⟩
      · rw [dA _ _ (by omega), dA _ _ (by omega), dB _ _ (by omega), dB _ _ (by omega)]
        exact hCm.1 x hx
    · rw [dA _ _ (by omega), d3 _ _ (by omega), dB _ _ (by omega)]
      exact hCm.2 x hx
def IPA (a f : Nat) : Prop := ACA a f ∨ CFA a f ∨ (a = 11 ∧ f = 3) ∨ a = 125 ∨ a = 126
def IPB (us un a f : Nat) : Prop := (us ≤ a ∧ a ≤ us + 9) ∨ (un ≤ a ∧ a ≤ un + 9) ∨ (611 ≤ a ∧ a ≤ 614) ∨ (616 ≤ a ∧ a ≤ 621 ∧ a ≠ 618) ∨ (a = 517 ∧ (f = 20 ∨ f = 13))
theorem CFB.ip {us un a f : Nat} (h : CFB us a f ∨ (a = 517 ∧ f = 13)) : IPB us un a f := by
  unfold CFB TGB TFB at h
  unfold IPB
  omega
theorem AHB.ip {us un a f : Nat} (h : AHB un a f) : IPB us un a f := by
  unfold AHB TGB TFB at h
  unfold IPB
  omega
/-- the ticks from T on are run again -/
theorem acc_2b {S : Nat → Nat} {kT : Nat} {nb b t0 la z us un c n T p0 : Nat} {v : Int32} {Nm : Nat → Nat → List Nat} {Pv : Nat → Nat → Int32} {A B A' B' : Hp} (h : PLI N p cs w M ty mn nu cd E Nm Pv S b t0 A la z B us un c n) (hTl : TLD kT A B) (hag : A.D 11 3 = B.D 517 13) (hQ : TXQ M cs ty mn nu cd E Pv) (hM : M + 2 ≤ N) (hN : 2000000 ≤ N) (hb : BNS S nb) (hcn : nb + (b + 16 * (n - t0)) + 20 < 8388608) (hp0 : p0 < 4) (hT : c < T) (hT2 : T ≤ n) (hA : same (fun a f => (a = 125 ∨ a = 126) ∧ f = 64 * p0 + T % 64) A A') (hB : same (fun a f => ((a = 616 ∨ a = 617) ∧ f = 64 * p0 + T % 64) ∨ a = 620) B B') (a5 : A'.D 125 (64 * p0 + T % 64) = 1) (a6 : A'.D 126 (64 * p0 + T % 64) = v) (b7 : B'.D 617 (64 * p0 + T % 64) = 1) (b6 : B'.D 616 (64 * p0 + T % 64) = v) : ∃ A2 B2 la2 z2 c2, (bC (F_World_copyFrom N 12 (19 + 6 * ((T - 1) % 16)) A') fun _ H85 => B_Play_accept_77 N 11 p (nI p0) (nI T) v (nI (n - T + 1)) H85) = some (nI (n - T + 1), A2) ∧ (bC (F_M_runsAgain N 517 B') fun _ H81 => B_M_input_189 N 517 (nI p0) (nI T) v (nI (n - T + 1)) H81) = some (nI (n - T + 1), B2) ∧ PLI N p cs w M ty mn nu cd E Nm Pv S b t0 A2 la2 z2 B2 us un c2 n ∧ TLD (kT + 32 * (c2 - c)) A2 B2 ∧ A2.D 11 3 = B2.D 517 13 ∧ exT IPA A la z A2 la2 z2 ∧ smT (IPB us un) B B2 ∧ c ≤ c2 := by
  have h' := h
  obtain ⟨⟨hGA, hGB, hTx, hL⟩, ⟨hus, hun, hne, b8, b9, b3⟩, ⟨n0, n1, n2, n3, n4, n5, n6⟩, ⟨Qn, x1, x2, x3⟩, ⟨Qs, y1, y2, y3⟩, hLk, hRw, hCm⟩ := h
  have hu1 := lU_le hus
  have hu2 := lU_le hun
  have dj := lU_dj hus hun hne
  have hGA' : Gr A' := hA.gr hGA
  have hGB' : Gr B' := hB.gr hGB
  have W' : WPR A' (wt n c) B' us E Qs := y1.fr (fun a f z1 z2 => hA.1 a f (by have := lW_le (wt_m (n := n) (t := c)); omega)) (fun a f z1 z2 => hB.1 a f (by omega))
  obtain ⟨B3, c1, c2, -, -⟩ := WPR.cpB (N := N) (u := un) W' hN hun hus (fun y => hne y.symm) hGB' hQ.1
  have hcp : ∀ Q, WPR A' (wt n c) B' us E Q → WPR A' (wt n c) B3 un E Q ∧ (∀ S, RVB S E Q B' us → RVB S E Q B3 un) := fun Q hw => by
    obtain ⟨B3', k1, -, k3, k4⟩ := WPR.cpB (N := N) (u := un) hw hN hun hus (fun y => hne y.symm) hGB' hQ.1
    rw [c1] at k1
    have e : B3 = B3' := congrArg Prod.snd (Option.some.inj k1)
    subst e
    exact ⟨k3, k4⟩
  have hR := h'.plr hQ.1 hp0 hT hT2 hA hB a5 a6 b7 b6 c2 hcp
  obtain ⟨B4, r1, r2, r3⟩ := rep_jo (N := N) hQ hM hN hb hcn (T - 1 - c) c (N - (T - 1 - c)) B3 (by omega) hR
  rw [show N - (T - 1 - c) + (T - 1 - c) = N by omega] at r1
  have hwT : wt n (T - 1) = 19 + 6 * ((T - 1) % 16) := if_neg (by omega)
  obtain ⟨Qr, z1, -⟩ := r2.2.2.2.1
  rw [hwT] at z1
  obtain ⟨A3, e1, e2, e3⟩ := cp_eq (N := N) (wo := 12) z1 (by decide) (wb_m _ (by omega)) (by omega) hGA'
  have hP := r2.pli hQ.1 e2 (by rw [hwT]; exact e3)
  have hSt := r2.2.2.2.2.2.2.1.2
  obtain ⟨A5, B5, la5, z5, f1, f2, f3, f4, f5⟩ := acc_lp (N := N) (k := n - T + 1) (p2 := nI p0) (p3 := nI T) (p4 := v) hQ hM hN hb hcn n2 n3 (by omega) (n - T + 1) (T - 1) (N - 1 - (n - T + 1) + 1) (N - (T - 1 - c)) A3 B4 la z (by omega) (Nat.le_refl _) (by omega) hP (fun x k1 k2 => by rw [e2.1 _ _ (by unfold cW; omega)]; exact hSt x (by omega) k2)
  rw [show N - 1 - (n - T + 1) + 1 + (n - T + 1) = N by omega, Nat.sub_self] at f1
  have sBB : smT (IPB us un) B B5 := ((((hB.mono fun a f y => by unfold IPB; omega : same (IPB us un) B B').smT).tr ((c2.mono fun a f y => by unfold cU at y; unfold IPB; omega : same (IPB us un) B' B3).smT)).tr (r3.mono fun a f y => AHB.ip y)).tr (f5.mono fun a f y => AHB.ip y)
  have sAA : exT IPA A la z A5 la5 z5 := (((hA.mono fun a f y => by unfold IPA; omega : same IPA A A').exS hL).exT.tr (((e2.mono fun a f y => by unfold cW at y; exact .inl (by unfold ACA; omega) : same IPA A' A3).exS (hA.exS hL).1).exT)).tr (f4.mono fun a f y => .inl y)
  have hlen := hGA.len
  have hla := hL.2.2.1
  have hT5 : TLD kT A5 B5 := by
    have a115 : ∀ a f, a = 115 ∨ (a = 11 ∧ f = 5) ∨ (a = 11 ∧ f = 3) → A5.D a f = A.D a f := fun a f y => by
      rw [f4.2.2.1 a f (by rw [e2.2.2.2.1, hA.2.2.2.1]; omega) (by unfold ACA; omega) (by omega), e2.1 _ _ (by unfold cW; omega), hA.1 _ _ (by omega)]
    have b621 : ∀ a f, a = 621 ∨ (a = 517 ∧ f = 20) → B5.D a f = B.D a f := fun a f y => by
      rw [f5.1 _ _ (by unfold AHB TGB TFB; omega), r3.1 _ _ (by unfold AHB TGB TFB; omega), c2.1 _ _ (by unfold cU; omega), hB.1 _ _ (by omega)]
    exact hTl.fr (fun a f y => a115 _ _ (by omega)) (fun a f y => b621 _ _ (by omega))
  have hg5 : A5.D 11 3 = B5.D 517 13 := by
    rw [f4.2.2.1 11 3 (by rw [e2.2.2.2.1, hA.2.2.2.1]; omega) (by unfold ACA; omega) (by omega), e2.1 _ _ (by unfold cW; omega), hA.1 _ _ (by omega), f5.1 _ _ (by unfold AHB TGB TFB; omega), r3.1 _ _ (by unfold AHB TGB TFB; omega), c2.1 _ _ (by unfold cU; omega), hB.1 _ _ (by omega)]
    exact hag
  obtain ⟨A6, B6, c6, g1, g2, g3, g4, g5, g6, g7, g8⟩ := ac_end (N := N) (nA := N - 1 - (n - T + 1)) (p1 := nI p0) (p2 := nI T) (v := v) (k := n - T + 1) f3 hT5 hg5 hQ hM hN hb hcn (by omega)
  refine ⟨A6, B6, la5, z5, c6, ?_, ?_, g3, g4, g5, sAA.tr ((g6.mono fun a f y => by unfold IPA; rcases y with y | y; exact .inr (.inl y); exact .inr (.inr (.inl y))).exS sAA.1).exT, sBB.tr (g7.mono fun a f y => CFB.ip y), g8⟩
  · rw [bC_t e1]
    unfold B_Play_accept_77
    rw [show (0 : Int32) = nI 0 from rfl, f1]
    exact g1
  · have er : F_M_runsAgain N 517 B' = some ((), B5) := by
      unfold F_M_runsAgain
      rw [ck_t (rS_517 hGB'), rf_t (show B'.P 517 9 = .ref un by rw [hB.2.1]; exact b9), ck_t (US (gr_U hGB' un hun)), bnd_t, hB.1 un 0 (by omega), ← x1.2.1, n6, rf_t (show B'.P 517 9 = .ref un by rw [hB.2.1]; exact b9), rf_t (show B'.P 517 8 = .ref us by rw [hB.2.1]; exact b8), ck_t (US (gr_U hGB' un hun)), bC_t c1, r1]
      exact f2
    rw [bC_t er]
    exact g2
end Par
