/-! ===== the root relation ===== -/
def clsR (a f : Nat) : Prop := a < 517 ∨ 626 ≤ a
def refR (a f : Nat) : Prop := 517 ≤ a ∧ a < 626
/-- what stands beside the play -/
def RBs (A B : Hp) (p p2 w w2 um kT U F : Nat) : Prop := PRG A B p p2 w w2 ∧ B.P 517 10 = .ref um ∧ TLD kT A B ∧ WKR A B U F ∧ (A.D 11 2 = B.D 517 12 ∧ A.D 11 3 = B.D 517 13 ∧ A.D 0 6 = B.D 517 5) ∧ RTP A B ∧ StA A ∧ FLT A B ∧ OUTR A B ∧ B.D 517 24 = 0 ∧ IE B w ∧ IE B w2
/-- the room that is used; k calls were done -/
def RM (s0 : Nat) (A : Hp) (z k : Nat) : Prop := ∃ T, T ≤ 6000 ∧ A.D 1 1 = nI T ∧ 704 * A.sh.length + 5632 * T ≤ 704 * 650 + z + 704 * (170 * k) ∧ A.sl + 80 * T ≤ s0 + 2 * z + 1800 * k
/-- class and reference after k calls -/
def RR (N s0 k : Nat) (A B : Hp) : Prop := ∃ (p p2 cs w w2 M : Nat) (ty mn nu cd : Nat → Int32) (E : Nat → Nat → Nat) (Nm : Nat → Nat → List Nat) (Pv : Nat → Nat → Int32) (S : Nat → Nat) (nb b t0 la z us un um c n kT U F : Nat), PLI N p cs w M ty mn nu cd E Nm Pv S b t0 A la z B us un c n ∧ (TXQ M cs ty mn nu cd E Pv ∧ NMQ E Nm) ∧ (um ∈ lU ∧ um ≠ us ∧ um ≠ un) ∧ RBs A B p p2 w w2 um kT U F ∧ (kT ≤ 544 * k ∧ n ≤ 1000000000 ∧ BNS S nb ∧ nb + b + 16 * (n - t0) ≤ 8013312 + 17 * k) ∧ RM s0 A z k
theorem PRG.fr {A B A2 B2 : Hp} {p p2 w w2 : Nat} (h : PRG A B p p2 w w2) (a4 : A2.P 0 4 = A.P 0 4) (a5 : A2.P 0 5 = A.P 0 5) (b3 : B2.P 517 3 = B.P 517 3) (b4 : B2.P 517 4 = B.P 517 4) (c1 : B2.D w 37 = B.D w 37) (c2 : B2.D w2 37 = B.D w2 37) : PRG A2 B2 p p2 w w2 := by
  unfold PRG at h ⊢
  rw [a4, a5, b3, b4, c1, c2]
  exact h
theorem WKR.fr {A B A2 B2 : Hp} {U F : Nat} (h : WKR A B U F) (hA : ∀ a f, a = 0 ∧ (f = 7 ∨ f = 8) → A2.D a f = A.D a f) (hB : ∀ a f, a = 623 ∨ a = 624 → B2.D a f = B.D a f) : WKR A2 B2 U F := by
  obtain ⟨h1, h2, h3, h4, h5⟩ := h
  exact ⟨h1, h2, by rw [hA _ _ (by omega)]; exact h3, by rw [hA _ _ (by omega)]; exact h4, fun k hk => by rw [hB _ _ (by omega), hB _ _ (by omega)]; exact h5 k hk⟩
theorem FLT.fr {A B A2 B2 : Hp} (h : FLT A B) (hA : ∀ a f, a = 1 ∧ (f = 4 ∨ f = 5) → A2.D a f = A.D a f) (hB : ∀ a f, a = 517 ∧ (f = 6 ∨ f = 7) → B2.D a f = B.D a f) : FLT A2 B2 := by
  unfold FLT at h ⊢
  rw [hA _ _ (by omega), hA _ _ (by omega), hB _ _ (by omega), hB _ _ (by omega)]
  exact h
theorem OUTR.fr {A B A2 B2 : Hp} (h : OUTR A B) (hA : ∀ a f, (a = 131 ∧ f = 1) ∨ a = 132 → A2.D a f = A.D a f) (hB : ∀ a f, (a = 517 ∧ f = 22) ∨ a = 622 → B2.D a f = B.D a f) : OUTR A2 B2 := by
  obtain ⟨T, h1, h2, h3, h4⟩ := h
  exact ⟨T, h1, by rw [hA _ _ (by omega)]; exact h2, by rw [hB _ _ (by omega)]; exact h3, fun i hi => by rw [hA _ _ (by omega), hB _ _ (by omega)]; exact h4 i hi⟩
theorem IE.fr {B B2 : Hp} {w : Nat} (h : IE B w) (hT : isT B2 w) (e : B2.D (w + 16) 0 = B.D (w + 16) 0) : IE B2 w := by
  obtain ⟨x, x1, x2⟩ := h.2
  exact ⟨hT, x, x1, by rw [e]; exact x2⟩
theorem PRG.ws {A B : Hp} {p p2 w w2 : Nat} (h : PRG A B p p2 w w2) : (w = 519 ∨ w = 550) ∧ (w2 = 519 ∨ w2 = 550) ∧ (p = 133 ∨ p = 325) ∧ (p2 = 133 ∨ p2 = 325) ∧ w ∈ lT ∧ w2 ∈ lT := by
  have h1 := h.w2m
  obtain ⟨-, -, -, -, h5, h6, -⟩ := h
  exact ⟨by omega, by omega, by omega, by omega, h1.2.2.1, h1.1⟩
theorem RBs.fr {A B A2 B2 : Hp} {p p2 w w2 um kT U F : Nat} (h : RBs A B p p2 w w2 um kT U F) (hG : Gr B2) (dA : ∀ a f, a < 626 → ¬ refR a f → ((a = 0 ∧ 4 ≤ f ∧ f ≤ 8) ∨ (a = 1 ∧ (f = 1 ∨ f = 4 ∨ f = 5)) ∨ a = 2 ∨ a = 7 ∨ (a = 11 ∧ (f = 2 ∨ f = 3 ∨ f = 5)) ∨ a = 115 ∨ (a = 131 ∧ f = 1) ∨ a = 132) → A2.D a f = A.D a f ∧ A2.P a f = A.P a f) (dB : ∀ a f, a < 626 → ((a = 517 ∧ (f = 2 ∨ f = 3 ∨ f = 4 ∨ f = 5 ∨ f = 6 ∨ f = 7 ∨ f = 10 ∨ f = 12 ∨ f = 13 ∨ f = 20 ∨ f = 22 ∨ f = 24)) ∨ a = 518 ∨ (519 ≤ a ∧ a ≤ 580) ∨ (621 ≤ a ∧ a ≤ 624)) → B2.D a f = B.D a f ∧ B2.P a f = B.P a f) : RBs A2 B2 p p2 w w2 um kT U F := by
  obtain ⟨r1, r2, r3, r4, r5, r6, r7, r8, r9, r10, r11, r12⟩ := h
  have ws := r1.ws
  have xA : ∀ a f, ((a = 0 ∧ 4 ≤ f ∧ f ≤ 8) ∨ (a = 1 ∧ (f = 1 ∨ f = 4 ∨ f = 5)) ∨ a = 2 ∨ a = 7 ∨ (a = 11 ∧ (f = 2 ∨ f = 3 ∨ f = 5)) ∨ a = 115 ∨ (a = 131 ∧ f = 1) ∨ a = 132) → A2.D a f = A.D a f ∧ A2.P a f = A.P a f := fun a f y => dA a f (by omega) (by unfold refR; omega) y
  have xB : ∀ a f, ((a = 517 ∧ (f = 2 ∨ f = 3 ∨ f = 4 ∨ f = 5 ∨ f = 6 ∨ f = 7 ∨ f = 10 ∨ f = 12 ∨ f = 13 ∨ f = 20 ∨ f = 22 ∨ f = 24)) ∨ a = 518 ∨ (519 ≤ a ∧ a ≤ 580) ∨ (621 ≤ a ∧ a ≤ 624)) → B2.D a f = B.D a f ∧ B2.P a f = B.P a f := fun a f y => dB a f (by omega) y
  refine ⟨r1.fr (xA _ _ (by omega)).2 (xA _ _ (by omega)).2 (xB _ _ (by omega)).2 (xB _ _ (by omega)).2 (xB _ _ (by omega)).1 (xB _ _ (by omega)).1, by rw [(xB _ _ (by omega)).2]; exact r2, r3.fr (fun a f y => (xA _ _ (by omega)).1) (fun a f y => (xB _ _ (by omega)).1), r4.fr (fun a f y => (xA _ _ (by omega)).1) (fun a f y => (xB _ _ (by omega)).1), ⟨?_, ?_, ?_⟩, r6.fr (fun a f y => (xA _ _ (by omega)).1) (fun a f y => (xB _ _ (by omega)).1), fun x hx => by rw [(xA 7 x (by omega)).1]; exact r7 x hx, r8.fr (fun a f y => (xA _ _ (by omega)).1) (fun a f y => (xB _ _ (by omega)).1), r9.fr (fun a f y => (xA _ _ (by omega)).1) (fun a f y => (xB _ _ (by omega)).1), by rw [(xB _ _ (by omega)).1]; exact r10, r11.fr (gr_T hG w ws.2.2.2.2.1) (xB _ _ (by omega)).1, r12.fr (gr_T hG w2 ws.2.2.2.2.2) (xB _ _ (by omega)).1⟩
  · rw [(xA 11 2 (by omega)).1, (xB 517 12 (by omega)).1]; exact r5.1
  · rw [(xA 11 3 (by omega)).1, (xB 517 13 (by omega)).1]; exact r5.2.1
  · rw [(xA 0 6 (by omega)).1, (xB 517 5 (by omega)).1]; exact r5.2.2
theorem RM.fr {s0 z k : Nat} {A A2 : Hp} (h : RM s0 A z k) (e : A2.D 1 1 = A.D 1 1) (l : A2.sh = A.sh) (s : A2.sl = A.sl) : RM s0 A2 z k := by
  obtain ⟨T, h1, h2, h3, h4⟩ := h
  exact ⟨T, h1, by rw [e]; exact h2, by rw [l]; exact h3, by rw [s]; exact h4⟩
theorem RM.up {s0 z k : Nat} {A : Hp} (h : RM s0 A z k) : RM s0 A z (k + 1) := by
  obtain ⟨T, h1, h2, h3, h4⟩ := h
  exact ⟨T, h1, h2, by omega, by omega⟩
/-- the heap of the reference may change where the class is -/
theorem RR.mvB {N s0 k : Nat} {A B B2 : Hp} (h : RR N s0 k A B) (hG : Gr B2) (hg : gw clsR B B2) : RR N s0 k A B2 := by
  obtain ⟨p, p2, cs, w, w2, M, ty, mn, nu, cd, E, Nm, Pv, S, nb, b, t0, la, z, us, un, um, c, n, kT, U, F, h1, h2, h3, h4, h5, h6⟩ := h
  have hl := h1.1.2.1.len
  have hun := lU_le h1.2.1.2.1
  have hus := lU_le h1.2.1.1
  have ws := h4.1.ws
  refine ⟨p, p2, cs, w, w2, M, ty, mn, nu, cd, E, Nm, Pv, S, nb, b, t0, la, z, us, un, um, c, n, kT, U, F, h1.gw h2.1.1 h1.1.1 hG (gw.rf (R := fun _ _ => False)) hg (fun a f y => absurd y id) (fun a f y z => by unfold clsR at y; unfold nB cU at z; omega), h2, h3, h4.fr hG (fun _ _ _ _ _ => ⟨rfl, rfl⟩) (fun a f y1 y2 => hg.2 a f (by omega) (by unfold clsR; omega)), h5, h6⟩
/-- the heap of the class may change where the reference is -/
theorem RR.mvA {N s0 k : Nat} {A B A2 : Hp} (h : RR N s0 k A B) (hG : Gr A2) (hg : gw refR A A2) (hs : A2.sh = A.sh) (hsl : A2.sl = A.sl) : RR N s0 k A2 B := by
  obtain ⟨p, p2, cs, w, w2, M, ty, mn, nu, cd, E, Nm, Pv, S, nb, b, t0, la, z, us, un, um, c, n, kT, U, F, h1, h2, h3, h4, h5, h6⟩ := h
  have hl := h1.1.1.len
  have ws := h4.1.ws
  refine ⟨p, p2, cs, w, w2, M, ty, mn, nu, cd, E, Nm, Pv, S, nb, b, t0, la, z, us, un, um, c, n, kT, U, F, h1.gw h2.1.1 hG h1.1.2.1 hg (gw.rf (R := fun _ _ => False)) (fun a f y z => by unfold refR at y; unfold nA at z; omega) (fun a f y => absurd y id), h2, h3, h4.fr h1.1.2.1 (fun a f y1 y2 _ => hg.2 a f (by omega) y2) (fun _ _ _ _ => ⟨rfl, rfl⟩), h5, h6.fr (hg.2 1 1 (by omega) (by unfold refR; omega)).1 hs hsl⟩
theorem RR.gr {N s0 k : Nat} {A B : Hp} (h : RR N s0 k A B) : Gr A ∧ Gr B := by
  obtain ⟨p, p2, cs, w, w2, M, ty, mn, nu, cd, E, Nm, Pv, S, nb, b, t0, la, z, us, un, um, c, n, kT, U, F, h1, -⟩ := h
  exact ⟨h1.1.1, h1.1.2.1⟩
/-- both sides do a call alike -/
def JC (α : Type) (N s0 k : Nat) (FW FM : Hp → Option (α × Hp)) : Prop := ∀ A B, RR N s0 k A B → ∃ r A2 B2, FW A = some (r, A2) ∧ FM B = some (r, B2) ∧ RR N s0 (k + 1) A2 B2 ∧ gw clsR A A2 ∧ gw refR B B2 ∧ B2.sh = B.sh ∧ B2.sl = B.sl
/-- on one heap, one behind the other -/
def OC (α : Type) (N s0 k : Nat) (FW FM : Hp → Option (α × Hp)) : Prop := ∀ H, RR N s0 k H H → ∃ r A2 B2, FW H = some (r, A2) ∧ FM A2 = some (r, B2) ∧ RR N s0 (k + 1) B2 B2 ∧ B2.sh = A2.sh ∧ B2.sl = A2.sl ∧ gw clsR H A2 ∧ gw refR A2 B2
theorem JC.one {α : Type} {N s0 k : Nat} {FW FM : Hp → Option (α × Hp)} (h : JC α N s0 k FW FM) : OC α N s0 k FW FM := by
  intro H hr
  obtain ⟨r, A2, B0, h1, -, h3, h4, -⟩ := h H H hr
  have gA2 := h3.gr.1
  obtain ⟨r', A2', B2, k1, k2, k3, -, k5, k6, k7⟩ := h H A2 (hr.mvB gA2 h4)
  rw [h1] at k1
  obtain ⟨e1, e2⟩ := Prod.mk.inj (Option.some.inj k1)
  subst e1
  subst e2
  exact ⟨r, A2, B2, h1, k2, k3.mvA k3.gr.2 k5 k6 k7, k6, k7, h4, k5⟩
