/-! ===== one tick ahead, both sides ===== -/
theorem wb_m : ∀ k, k < 16 → 19 + 6 * k ∈ lW := by decide
theorem rf0_18 : ∀ k, k < 16 → (18, k, 19 + 6 * k) ∈ rf0 := by decide +kernel
theorem rP_18 {A : Hp} (h : Gr A) {k : Nat} (hk : k < 16) : A.P 18 k = .ref (19 + 6 * k) := h.2 (18, k, 19 + 6 * k) (rf0_18 k hk)
/-- the class's world behind tick t, when it is at tick n -/
def wt (n t : Nat) : Nat := if t = n then 12 else 19 + 6 * (t % 16)
theorem wt_m {n t : Nat} : wt n t ∈ lW := by
  unfold wt
  split
  · decide
  · exact wb_m _ (by omega)
theorem inF_eq {cm bt ls cm2 bt2 ls2 : Nat → Int32} {c pl : Nat} (hp : pl < 4) (h1 : ∀ x, x < 256 → cm x = cm2 x ∧ (¬ cm x = 0 → bt x = bt2 x)) (h2 : ∀ x, x < 4 → ls x = ls2 x) : ∀ t, inF cm bt ls c pl t = inF cm2 bt2 ls2 c pl t := by
  intro t
  induction t with
  | zero => exact h2 pl hp
  | succ t ih =>
    obtain ⟨k1, k2⟩ := h1 (64 * pl + (t + 1) % 64) (by omega)
    rw [inF_s, inF_s, h2 pl hp, ih, ← k1]
    by_cases y : cm (64 * pl + (t + 1) % 64) = 0
    · rw [if_pos y, if_pos y]
    · rw [if_neg y, if_neg y, k2 y]
/-- what came, on both sides -/
def CAM (A B : Hp) : Prop := (∀ x, x < 256 → A.D 125 x = B.D 617 x ∧ (¬ A.D 125 x = 0 → A.D 126 x = B.D 616 x)) ∧ ∀ x, x < 4 → A.D 127 x = B.D 619 x
theorem CAM.ip {A B : Hp} (h : CAM A B) {sv : Int32} {c pl t : Nat} (hp : pl < 4) : ipV sv (A.D 125) (A.D 126) (A.D 127) c pl t = ipV sv (B.D 617) (B.D 616) (B.D 619) c pl t := by
  unfold ipV
  rw [inF_eq hp h.1 h.2 t]
/-- both sides between ticks: confirmed c, now n -/
def PLI (N p cs w M : Nat) (ty mn nu cd : Nat → Int32) (E : Nat → Nat → Nat) (Nm : Nat → Nat → List Nat) (Pv : Nat → Nat → Int32) (S : Nat → Nat) (b t0 : Nat) (A : Hp) (la z : Nat) (B : Hp) (us un c n : Nat) : Prop :=
  (Gr A ∧ Gr B ∧ TXF A p B w cs M ty mn nu cd E Nm Pv ∧ LST A la z) ∧
  (us ∈ lU ∧ un ∈ lU ∧ us ≠ un ∧ B.P 517 8 = .ref us ∧ B.P 517 9 = .ref un ∧ B.P 517 3 = .ref w) ∧
  (t0 ≤ c ∧ c ≤ n ∧ n ≤ c + 16 ∧ n < 2000000000 ∧ A.D 11 1 = nI c ∧ B.D us 0 = nI c ∧ A.D 12 0 = nI n) ∧
  (∃ Q, WPR A 12 B un E Q ∧ RVB S E Q B un ∧ GNV S (b + 16 * (n - t0)) Q) ∧
  (∃ Q, WPR A (wt n c) B us E Q ∧ RVB S E Q B us ∧ GNV S (b + 16 * (c - t0)) Q) ∧
  (∀ t, c ≤ t → t < n → LNK N p cs w M ty mn nu cd E Nm Pv A (wt n t) (wt n (t + 1)) (fun x => A.D 129 (4 * ((t + 1) % 16) + x))) ∧
  (∀ t, c < t → t ≤ n → (∀ x, x < 4 → A.D 129 (4 * (t % 16) + x) = ipV (A.D 128 (t % 16)) (A.D 125) (A.D 126) (A.D 127) c x t) ∧ A.D 128 (t % 16) = B.D 618 (t % 64)) ∧
  CAM A B
def AHA (n a f : Nat) : Prop := TGA 12 a f ∨ cW (19 + 6 * (n % 16)) a f ∨ a = 129 ∨ a = 130
def AHB (un a f : Nat) : Prop := TGB un a f ∨ a = 620
section Par
variable {N p wo inp cs w u ir M K0 : Nat} {s pl : Int32} {ty mn nu cd : Nat → Int32} {E Q : Nat → Nat → Nat} {V : Nat → Nat → Int32} {nL lc : Nat} {lk : Nat → Nat} {hd : Nat → Int32}
theorem LNK.ii {A : Hp} {wa wb : Nat} {I J : Nat → Int32} {Nm : Nat → Nat → List Nat} {Pv : Nat → Nat → Int32} (h : LNK N p cs w M ty mn nu cd E Nm Pv A wa wb I) (hI : ∀ x, x < 4 → I x = J x) : LNK N p cs w M ty mn nu cd E Nm Pv A wa wb J := by
  obtain ⟨A1, A4, B0, w1, inp, la, z, h1, h2, h3, h4, h5, h6, h7⟩ := h
  exact ⟨A1, A4, B0, w1, inp, la, z, h1, h2, h3, h4, h5, fun x hx => by rw [h6 x hx, hI x hx], h7⟩
theorem ahead_jo {S : Nat → Nat} {nb b t0 la z us un c n : Nat} {Nm : Nat → Nat → List Nat} {Pv : Nat → Nat → Int32} {A B : Hp} (h : PLI N p cs w M ty mn nu cd E Nm Pv S b t0 A la z B us un c n) (hn : n < c + 16) (hn2 : n + 1 < 2000000000) (hQ : TXQ M cs ty mn nu cd E Pv) (hM : M + 2 ≤ N) (hN : 2000000 ≤ N) (hb : BNS S nb) (hcn : nb + (b + 16 * (n - t0)) + 20 < 8388608) (hpl : A.D 128 ((n + 1) % 16) = B.D 618 ((n + 1) % 64)) : ∃ A1 A4 B1 B4 la4 z4, F_Play_prepareNext N 11 A = some ((), A1) ∧ F_Ticker_runTick N 116 p 12 130 A1 = some ((), A4) ∧ F_M_bitsOf N 517 (nI (n + 1)) B = some ((), B1) ∧ F_MRunner_tick N 611 w un 620 B1 = some ((), B4) ∧ PLI N p cs w M ty mn nu cd E Nm Pv S b t0 A4 la4 z4 B4 us un c (n + 1) ∧ exT (AHA n) A la z A4 la4 z4 ∧ smT (AHB un) B B4 ∧ Gr A1 ∧ Gr B1 ∧ (B1.P = B.P ∧ B1.sh = B.sh) := by
  obtain ⟨⟨hGA, hGB, hT, hL⟩, ⟨hus, hun, hne, b8, b9, b3⟩, ⟨n0, n1, n2, n3, n4, n5, n6⟩, ⟨Qn, x1, x2, x3⟩, ⟨Qs, y1, y2, y3⟩, hLk, hRw, hCm⟩ := h
  have hw12 : 12 ∈ lW := by decide
  have hwb := wb_m (n % 16) (by omega)
  have hne2 : 19 + 6 * (n % 16) ≠ 12 := by omega
  have W := gr_W hGA 12 hw12
  have dj := lU_dj hus hun hne
  have hu1 := lU_le hus
  have hu2 := lU_le hun
  have hlen := hGA.len
  have hla := hL.2.2.1
  -- class: a copy, and the inputs
  obtain ⟨Ac, c1, c2, c3⟩ := cp_eq (N := N) x1 hwb hw12 hne2 hGA
  have hGc : Gr Ac := c2.gr hGA
  have dc : ∀ a f, ¬ (19 + 6 * (n % 16) ≤ a ∧ a ≤ 19 + 6 * (n % 16) + 5) → Ac.D a f = A.D a f := fun a f y => c2.1 a f y
  have ec : ∀ a, ¬ (19 + 6 * (n % 16) ≤ a ∧ a ≤ 19 + 6 * (n % 16) + 5) → Ac.D a = A.D a := fun a y => funext fun f => dc a f y
  obtain ⟨A1, p1, p2, p3⟩ := ev_prep (N := N) (c := c) (t := n + 1) (by omega) (by omega) (by omega) (by omega) 4 N 0 Ac (by omega) (by omega) hGc (by rw [dc _ _ (by omega)]; exact n4)
  have hG1 : Gr A1 := p2.gr hGc
  have eP : F_Play_prepareNext N 11 A = some ((), A1) := by
    unfold F_Play_prepareNext
    rw [ck_t (rS_11 hGA), rf_t (rP_11_6 hGA), rf_t (rP_11_0 hGA), ck_t (rA_11_0 hGA), bnd_t, n6, ar_t (rA_11_6 hGA), nI_15 (by omega), rdP (show n % 16 < 16 by omega) (by decide), rf_t (rP_18 hGA (by omega)), rf_t (rP_11_0 hGA), ck_t (WS (gr_W hGA _ hwb)), bC_t c1, rf_t (rP_11_0 hGc), ck_t (rA_11_0 hGc), bnd_t, dc 12 0 (by omega), n6, nI_1, bnd_t]
    exact p1
  have d1 : ∀ a f, a ≠ 129 → a ≠ 130 → ¬ (19 + 6 * (n % 16) ≤ a ∧ a ≤ 19 + 6 * (n % 16) + 5) → A1.D a f = A.D a f := fun a f z1 z2 z3 => by rw [p2.1 a f (by omega), dc a f z3]
  -- reference: the inputs
  obtain ⟨B1, q1, q2, q3⟩ := ev_bitsOf (N := N) (u := us) (c := c) (t := n + 1) (by omega) hus (by omega) (by omega) (by omega) 4 N 0 B (by omega) (by omega) hGB b8 n5
  have hGB1 : Gr B1 := q2.gr hGB
  have e1 : ∀ a f, a ≠ 620 → B1.D a f = B.D a f := fun a f y => q2.1 a f (by omega)
  have hI : ∀ x, x < 4 → A1.D 130 x = A1.D 129 (4 * ((n + 1) % 16) + x) := fun x hx => by rw [(p3 x (by omega) hx).1, (p3 x (by omega) hx).2]
  have hI2 : ∀ x, x < 4 → B1.D 620 x = A1.D 129 (4 * ((n + 1) % 16) + x) := fun x hx => by
    rw [q3 x (by omega) hx, (p3 x (by omega) hx).2, dc 128 _ (by omega), ec 125 (by omega), ec 126 (by omega), ec 127 (by omega), hpl, hCm.ip hx]
  have exc : exT (AHA n) A la z A1 la z := ((c2.mono fun a f y => .inr (.inl y)).tr (p2.mono fun a f y => by unfold AHA; omega)).exS hL |>.exT
  have hT1 : TXF A1 p B1 w cs M ty mn nu cd E Nm Pv := hT.fw hQ.1 hGA hL exc (q2.smT) (fun a f y => by unfold AHA TGA TFA cW at y; omega) (fun a f y => by omega)
  have W1 : WPR A1 12 B1 un E Qn := x1.fr (fun a f z1 z2 => d1 a f (by omega) (by omega) (by omega)) (fun a f z1 z2 => e1 a f (by omega))
  have C1 : CEQ A1 (19 + 6 * (n % 16)) A1 12 := ((CEQ.fr (A := Ac) (A1 := A1) (wo := 19 + 6 * (n % 16)) fun a f z1 z2 => p2.1 a f (by omega)).tr c3).tr (CEQ.fr (A := A) (A1 := A1) (wo := 12) fun a f z1 z2 => d1 a f (by omega) (by omega) (by omega)).symm
  obtain ⟨A4, B4, Q4, la4, z4, r1, r2, r3, r4, r5, r6, r7, r8, r9⟩ := lnk_new (N := N) (inp := 130) (ir := 620) (I := fun x => A1.D 129 (4 * ((n + 1) % 16) + x)) hT1 hQ hM hN hw12 hwb hne2 hun hG1 hGB1 W1 C1 (exc.1) (rA_11_13 hG1) (rA_517_18 hGB1) hI hI2 hb hcn (x2.fr fun a f z1 z2 => e1 a f (by omega)) x3
  have hlen1 := hG1.len
  have hla1 := exc.1.2.2.1
  have d4 : ∀ a f, a < 626 → a ≠ 118 → ¬ TGA 12 a f → A4.D a f = A1.D a f := fun a f z1 z2 z3 => r6.2.2.1 a f (by omega) z3 (by omega)
  have e4 : ∀ a f, ¬ TGB un a f → B4.D a f = B1.D a f := fun a f y => r7.1 a f y
  have exx : exT (AHA n) A la z A4 la4 z4 := exc.tr (r6.mono fun a f y => .inl y)
  have smx : smT (AHB un) B B4 := ((q2.mono fun a f y => by unfold AHB; omega).smT).tr (r7.mono fun a f y => .inl y)
  have dd : ∀ a f, a < 626 → a ≠ 118 → ¬ AHA n a f → A4.D a f = A.D a f := fun a f z1 z2 z3 => exx.2.2.1 a f (by omega) z3 (by omega)
  have de : ∀ a, a = 125 ∨ a = 126 ∨ a = 127 ∨ a = 128 → A4.D a = A.D a := fun a y => funext fun f => dd a f (by omega) (by omega) (by unfold AHA TGA TFA cW; omega)
  have ee : ∀ a f, ¬ AHB un a f → B4.D a f = B.D a f := fun a f y => smx.1 a f y
  have row : ∀ t, c < t → t ≤ n → ∀ x, x < 4 → A4.D 129 (4 * (t % 16) + x) = A.D 129 (4 * (t % 16) + x) := fun t z1 z2 x hx => by
    rw [d4 _ _ (by omega) (by omega) (by unfold TGA TFA; omega), p2.1 _ _ (by omega), dc _ _ (by omega)]
  have rown : ∀ x, A4.D 129 x = A1.D 129 x := fun x => d4 _ _ (by omega) (by omega) (by unfold TGA TFA; omega)
  -- the worlds behind
  have wl : ∀ t, c ≤ t → t ≤ n → CEQ A4 (wt (n + 1) t) A (wt n t) := fun t z1 z2 => by
    unfold wt
    rw [if_neg (show ¬ t = n + 1 by omega)]
    by_cases y : t = n
    · rw [if_pos y, y]
      exact (CEQ.fr (A := Ac) (A1 := A4) (wo := 19 + 6 * (n % 16)) fun a f k1 k2 => by rw [d4 _ _ (by omega) (by omega) (by unfold TGA TFA; omega), p2.1 _ _ (by omega)]).tr c3
    · rw [if_neg y]
      exact CEQ.fr fun a f k1 k2 => dd a f (by omega) (by omega) (by unfold AHA TGA TFA cW; omega)
  refine ⟨A1, A4, B1, B4, la4, z4, eP, r1, q1, r2, ⟨⟨exx.gr hGA, smx.gr hGB, hT.fw hQ.1 hGA hL exx smx (fun a f y => by unfold AHA TGA TFA cW at y; omega) (fun a f y => by unfold AHB TGB TFB at y; omega), exx.1⟩, ⟨hus, hun, hne, by rw [smx.2.1 _ _ (by unfold lnkB; omega)]; exact b8, by rw [smx.2.1 _ _ (by unfold lnkB; omega)]; exact b9, by rw [smx.2.1 _ _ (by unfold lnkB; omega)]; exact b3⟩, ⟨n0, by omega, by omega, hn2, by rw [dd _ _ (by omega) (by omega) (by unfold AHA TGA TFA cW; omega)]; exact n4, by rw [ee _ _ (by unfold AHB TGB TFB; omega)]; exact n5, by rw [r8, d1 _ _ (by omega) (by omega) (by omega), n6, nI_1]⟩, ⟨Q4, r3, r4, by rw [show b + 16 * (n + 1 - t0) = b + 16 * (n - t0) + 16 by omega]; exact r5⟩, ⟨Qs, ?_, y2.fr fun a f z1 z2 => ee a f (by unfold AHB TGB TFB; omega), y3⟩, fun t z1 z2 => ?_, fun t z1 z2 => ?_, ?_⟩, exx, smx, hG1, hGB1, q2.2.1, q2.2.2.2.1⟩
  · exact ((wl c (by omega) n1).symm.wpr hQ.1 y1).fr (fun _ _ _ _ => rfl) (fun a f z1 z2 => ee a f (by unfold AHB TGB TFB; omega))
  · by_cases y : t = n
    · subst y
      unfold wt
      rw [if_neg (by omega), if_pos rfl]
      exact r9.ii (fun x hx => (rown _).symm)
    · exact ((hLk t z1 (by omega)).fr (wl t z1 (by omega)) (wl (t + 1) (by omega) (by omega)).symm).ii (fun x hx => (row (t + 1) (by omega) (by omega) x hx).symm)
  · rw [de 128 (by omega), de 125 (by omega), de 126 (by omega), de 127 (by omega), ee 618 _ (by unfold AHB TGB TFB; omega)]
    by_cases y : t = n + 1
    · rw [y]
      refine ⟨fun x hx => ?_, hpl⟩
      rw [rown, (p3 x (by omega) hx).2, dc 128 _ (by omega), ec 125 (by omega), ec 126 (by omega), ec 127 (by omega)]
    · obtain ⟨k1, k2⟩ := hRw t z1 (by omega)
      exact ⟨fun x hx => by rw [row t z1 (by omega) x hx]; exact k1 x hx, k2⟩
  · unfold CAM
    rw [de 125 (by omega), de 126 (by omega), de 127 (by omega)]
    refine ⟨fun x hx => ?_, fun x hx => ?_⟩
    · rw [ee 617 _ (by unfold AHB TGB TFB; omega), ee 616 _ (by unfold AHB TGB TFB; omega)]
      exact hCm.1 x hx
    · rw [ee 619 _ (by unfold AHB TGB TFB; omega)]
      exact hCm.2 x hx
end Par
