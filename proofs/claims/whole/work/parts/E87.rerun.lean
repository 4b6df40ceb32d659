/-! ===== ticks are run again ===== -/
/-- the reference has come to tick t again; the class's worlds are known below tick T -/
def PLR (N p cs w M : Nat) (ty mn nu cd : Nat → Int32) (E : Nat → Nat → Nat) (Nm : Nat → Nat → List Nat) (Pv : Nat → Nat → Int32) (S : Nat → Nat) (b t0 : Nat) (A : Hp) (la z : Nat) (B : Hp) (us un c n T t : Nat) : Prop :=
  (Gr A ∧ Gr B ∧ TXF A p B w cs M ty mn nu cd E Nm Pv ∧ LST A la z) ∧
  (us ∈ lU ∧ un ∈ lU ∧ us ≠ un ∧ B.P 517 8 = .ref us ∧ B.P 517 9 = .ref un ∧ B.P 517 3 = .ref w) ∧
  ((t0 ≤ c ∧ c ≤ t ∧ t < T ∧ T ≤ n ∧ n ≤ c + 16 ∧ n < 2000000000) ∧ A.D 11 1 = nI c ∧ B.D us 0 = nI c ∧ B.D un 0 = nI t) ∧
  (∃ Q, WPR A (wt n t) B un E Q ∧ RVB S E Q B un ∧ GNV S (b + 16 * (t - t0)) Q) ∧
  (∃ Q, WPR A (wt n c) B us E Q ∧ RVB S E Q B us ∧ GNV S (b + 16 * (c - t0)) Q) ∧
  (∀ x, c ≤ x → x + 1 < T → LNK N p cs w M ty mn nu cd E Nm Pv A (wt n x) (wt n (x + 1)) (fun y => A.D 129 (4 * ((x + 1) % 16) + y))) ∧
  ((∀ x, c < x → x < T → ∀ y, y < 4 → A.D 129 (4 * (x % 16) + y) = ipV (A.D 128 (x % 16)) (A.D 125) (A.D 126) (A.D 127) c y x) ∧ ∀ x, c < x → x ≤ n → A.D 128 (x % 16) = B.D 618 (x % 64)) ∧
  CAM A B
section Par
variable {N p wo inp cs w u ir M K0 : Nat} {s pl : Int32} {ty mn nu cd : Nat → Int32} {E Q : Nat → Nat → Nat} {V : Nat → Nat → Int32} {nL lc : Nat} {lk : Nat → Nat} {hd : Nat → Int32}
theorem rep_one {S : Nat → Nat} {nb b t0 la z us un c n T t : Nat} {Nm : Nat → Nat → List Nat} {Pv : Nat → Nat → Int32} {A B : Hp} (h : PLR N p cs w M ty mn nu cd E Nm Pv S b t0 A la z B us un c n T t) (ht : t + 1 < T) (hQ : TXQ M cs ty mn nu cd E Pv) (hM : M + 2 ≤ N) (hN : 2000000 ≤ N) (hb : BNS S nb) (hcn : nb + (b + 16 * (n - t0)) + 20 < 8388608) : ∃ B4, F_M_runs N 517 un B = some ((), B4) ∧ PLR N p cs w M ty mn nu cd E Nm Pv S b t0 A la z B4 us un c n T (t + 1) ∧ smT (AHB un) B B4 := by
  obtain ⟨⟨hGA, hGB, hT, hL⟩, ⟨hus, hun, hne, b8, b9, b3⟩, ⟨⟨n0, n1, n2, n3, n4, n5⟩, a11, b0, bt⟩, ⟨Qn, x1, x2, x3⟩, ⟨Qs, y1, y2, y3⟩, hLk, ⟨hRw, hSt⟩, hCm⟩ := h
  have hu1 := lU_le hus
  have hu2 := lU_le hun
  have dj := lU_dj hus hun hne
  obtain ⟨B1, q1, q2, q3⟩ := ev_bitsOf (N := N) (u := us) (c := c) (t := t + 1) (by omega) hus (by omega) (by omega) (by omega) 4 N 0 B (by omega) (by omega) hGB b8 b0
  have hGB1 : Gr B1 := q2.gr hGB
  have e1 : ∀ a f, a ≠ 620 → B1.D a f = B.D a f := fun a f y => q2.1 a f (by omega)
  have hT1 : TXF A p B1 w cs M ty mn nu cd E Nm Pv := hT.fw hQ.1 hGA hL (exS.rf (R := fun _ _ => False) hL).exT q2.smT (fun a f y => y.elim) (fun a f y => by omega)
  obtain ⟨B4, Q4, r1, r2, r3, r4, r5, r6⟩ := lnk_run (N := N) (ir := 620) (u := un) (hLk t n1 ht) hT1 hQ hM hN hun hGB1 (x1.fr (fun _ _ _ _ => rfl) (fun a f z1 z2 => e1 a f (by omega))) (rA_517_18 hGB1) (fun x hx => by
    rw [q3 x (by omega) hx, hRw (t + 1) (by omega) ht x hx, hSt (t + 1) (by omega) (by omega), hCm.ip hx]) hb (by omega) (x2.fr fun a f z1 z2 => e1 a f (by omega)) x3
  have smx : smT (AHB un) B B4 := ((q2.mono fun a f y => .inr y.1).smT).tr (r5.mono fun a f y => .inl y)
  have ee : ∀ a f, ¬ AHB un a f → B4.D a f = B.D a f := fun a f y => smx.1 a f y
  refine ⟨B4, ?_, ⟨⟨hGA, smx.gr hGB, hT.fw hQ.1 hGA hL (exS.rf (R := fun _ _ => False) hL).exT smx (fun a f y => y.elim) (fun a f y => by unfold AHB TGB TFB at y; omega), hL⟩, ⟨hus, hun, hne, by rw [smx.2.1 _ _ (by unfold lnkB; omega)]; exact b8, by rw [smx.2.1 _ _ (by unfold lnkB; omega)]; exact b9, by rw [smx.2.1 _ _ (by unfold lnkB; omega)]; exact b3⟩, ⟨⟨n0, by omega, ht, n3, n4, n5⟩, a11, by rw [ee _ _ (by unfold AHB TGB TFB; omega)]; exact b0, by rw [r6, e1 _ _ (by omega), bt, nI_1]⟩, ⟨Q4, r2, r3, by rw [show b + 16 * (t + 1 - t0) = b + 16 * (t - t0) + 16 by omega]; exact r4⟩, ⟨Qs, y1.fr (fun _ _ _ _ => rfl) (fun a f z1 z2 => ee a f (by unfold AHB TGB TFB; omega)), y2.fr (fun a f z1 z2 => ee a f (by unfold AHB TGB TFB; omega)), y3⟩, hLk, ⟨hRw, fun x z1 z2 => by rw [ee _ _ (by unfold AHB TGB TFB; omega)]; exact hSt x z1 z2⟩, fun x hx => by rw [ee 617 _ (by unfold AHB TGB TFB; omega), ee 616 _ (by unfold AHB TGB TFB; omega)]; exact hCm.1 x hx, fun x hx => by rw [ee 619 _ (by unfold AHB TGB TFB; omega)]; exact hCm.2 x hx⟩, smx⟩
  have hq : F_M_bitsOf N 517 (nI (t + 1)) B = some ((), B1) := q1
  unfold F_M_runs
  rw [ck_t (US (gr_U hGB un hun)), bnd_t, bt, nI_1, ck_t (rS_517 hGB), bC_t hq, rf_t (rP_517_11 hGB1), rf_t (show B1.P 517 3 = .ref w by rw [q2.2.1]; exact b3), rf_t (rP_517_18 hGB1), ck_t (rS_611 hGB1), bC_t r1]
/-- the reference comes up to tick T - 1 -/
theorem rep_jo {S : Nat → Nat} {nb b t0 la z us un c n T : Nat} {Nm : Nat → Nat → List Nat} {Pv : Nat → Nat → Int32} {A : Hp} (hQ : TXQ M cs ty mn nu cd E Pv) (hM : M + 2 ≤ N) (hN : 2000000 ≤ N) (hb : BNS S nb) (hcn : nb + (b + 16 * (n - t0)) + 20 < 8388608) : ∀ j t nB B, t + j + 1 = T → PLR N p cs w M ty mn nu cd E Nm Pv S b t0 A la z B us un c n T t → ∃ B2, B_M_runsAgain_19 N 517 (nB + j) (nI n) B = B_M_runsAgain_19 N 517 nB (nI n) B2 ∧ PLR N p cs w M ty mn nu cd E Nm Pv S b t0 A la z B2 us un c n T (T - 1) ∧ smT (AHB un) B B2 := by
  intro j
  induction j with
  | zero =>
    intro t nB B ht h
    rw [show T - 1 = t by omega]
    exact ⟨B, rfl, h, (same.rf (S := AHB un)).smT⟩
  | succ j ih =>
    intro t nB B ht h
    obtain ⟨B4, r1, r2, r3⟩ := rep_one (N := N) h (by omega) hQ hM hN hb hcn
    obtain ⟨B2, q1, q2, q3⟩ := ih (t + 1) nB B4 (by omega) r2
    refine ⟨B2, ?_, q2, r3.tr q3⟩
    obtain ⟨⟨hGA, hGB, -⟩, ⟨hus, hun, hne, b8, b9, b3⟩, ⟨⟨n0, n1, n2, n3, n4, n5⟩, a11, b0, bt⟩, -⟩ := h
    rw [show nB + (j + 1) = nB + j + 1 by omega, B_M_runsAgain_19, ck_t (rS_517 hGB), rf_t b9, ck_t (US (gr_U hGB un hun)), bnd_t, bt, if_neg (nI_ge (by omega) (by omega)), rf_t b9, bC_t r1]
    exact q1
/-- the class goes back to the world behind tick T - 1 -/
theorem PLR.pli {S : Nat → Nat} {b t0 la z us un c n T : Nat} {Nm : Nat → Nat → List Nat} {Pv : Nat → Nat → Int32} {A A2 B : Hp} (h : PLR N p cs w M ty mn nu cd E Nm Pv S b t0 A la z B us un c n T (T - 1)) (hE : WE E) (hA : same (cW 12) A A2) (hC : CEQ A2 12 A (wt n (T - 1))) : PLI N p cs w M ty mn nu cd E Nm Pv S b t0 A2 la z B us un c (T - 1) := by
  obtain ⟨⟨hGA, hGB, hT, hL⟩, ⟨hus, hun, hne, b8, b9, b3⟩, ⟨⟨n0, n1, n2, n3, n4, n5⟩, a11, b0, bt⟩, ⟨Qn, x1, x2, x3⟩, ⟨Qs, y1, y2, y3⟩, hLk, ⟨hRw, hSt⟩, hCm⟩ := h
  have dA : ∀ a f, ¬ (12 ≤ a ∧ a ≤ 17) → A2.D a f = A.D a f := fun a f y => hA.1 a f (by unfold cW; omega)
  have eA : ∀ a, ¬ (12 ≤ a ∧ a ≤ 17) → A2.D a = A.D a := fun a y => funext fun f => dA a f y
  have wl : ∀ t, t ≤ T - 1 → CEQ A2 (wt (T - 1) t) A (wt n t) := fun t ht => by
    by_cases y : t = T - 1
    · rw [show wt (T - 1) t = 12 from if_pos y, y]
      exact hC
    · rw [show wt (T - 1) t = 19 + 6 * (t % 16) from if_neg y, show wt n t = 19 + 6 * (t % 16) from if_neg (by omega)]
      exact CEQ.fr fun a f k1 k2 => dA a f (by omega)
  have W := hC.symm.wpr hE x1
  refine ⟨⟨hA.gr hGA, hGB, hT.fw hE hGA hL (hA.exS hL).exT (same.rf (S := fun _ _ => False)).smT (fun a f y => by unfold cW at y; omega) (fun a f y => y.elim), (hA.exS hL).1⟩, ⟨hus, hun, hne, b8, b9, b3⟩, ⟨n0, by omega, by omega, by omega, by rw [dA _ _ (by omega)]; exact a11, b0, by rw [W.2.1]; exact bt⟩, ⟨Qn, W, x2, x3⟩, ⟨Qs, (wl c (by omega)).symm.wpr hE y1, y2, y3⟩, fun t z1 z2 => ?_, fun t z1 z2 => ?_, ?_⟩
  · rw [eA 129 (by omega)]
    exact (hLk t z1 (by omega)).fr (wl t (by omega)) (wl (t + 1) (by omega)).symm
  · rw [eA 129 (by omega), eA 128 (by omega), eA 125 (by omega), eA 126 (by omega), eA 127 (by omega)]
    exact ⟨hRw t z1 (by omega), hSt t z1 (by omega)⟩
  · unfold CAM
    rw [eA 125 (by omega), eA 126 (by omega), eA 127 (by omega)]
    exact hCm
def ACA (a f : Nat) : Prop := (12 ≤ a ∧ a ≤ 124 ∧ a ≠ 18 ∧ a ≠ 115 ∧ a ≠ 116) ∨ a = 129 ∨ a = 130
theorem AHA.ac {n : Nat} : ∀ a f, AHA n a f → ACA a f := fun a f y => by
  unfold AHA TGA TFA cW at y
  unfold ACA
  omega
/-- both run the ticks from n' + 1 to n -/
theorem acc_lp {S : Nat → Nat} {nb b t0 us un c n k : Nat} {p2 p3 p4 : Int32} {Nm : Nat → Nat → List Nat} {Pv : Nat → Nat → Int32} (hQ : TXQ M cs ty mn nu cd E Pv) (hM : M + 2 ≤ N) (hN : 2000000 ≤ N) (hb : BNS S nb) (hcn : nb + (b + 16 * (n - t0)) + 20 < 8388608) (hnc : n ≤ c + 16) (hn2 : n < 2000000000) (hk : k ≤ 16) : ∀ j n' nA nB A B la z, n' + j = n → j ≤ k → j < nB → PLI N p cs w M ty mn nu cd E Nm Pv S b t0 A la z B us un c n' → (∀ x, n' < x → x ≤ n → A.D 128 (x % 16) = B.D 618 (x % 64)) → ∃ A2 B2 la2 z2, B_Play_accept_80 N 11 p p2 p3 p4 (nA + j) (nI k) (nI (k - j)) A = B_Play_accept_80 N 11 p p2 p3 p4 nA (nI k) (nI k) A2 ∧ B_M_runsAgain_19 N 517 nB (nI n) B = some ((), B2) ∧ PLI N p cs w M ty mn nu cd E Nm Pv S b t0 A2 la2 z2 B2 us un c n ∧ exT ACA A la z A2 la2 z2 ∧ smT (AHB un) B B2 := by
  intro j
  induction j with
  | zero =>
    intro n' nA nB A B la z hn hjk hB h hS
    obtain ⟨nB, rfl⟩ : ∃ y, nB = y + 1 := ⟨nB - 1, by omega⟩
    have hn' : n' = n := by omega
    subst hn'
    have h' := h
    obtain ⟨⟨hGA, hGB, hT, hL⟩, ⟨hus, hun, hne, b8, b9, b3⟩, ⟨n0, n1, n2, n3, n4, n5, n6⟩, ⟨Qn, x1, -⟩, -⟩ := h
    refine ⟨A, B, la, z, rfl, ?_, h', (exS.rf hL).exT, (same.rf (S := AHB un)).smT⟩
    rw [B_M_runsAgain_19, ck_t (rS_517 hGB), rf_t b9, ck_t (US (gr_U hGB un hun)), bnd_t, ← x1.2.1, n6, if_pos (nI_le (by omega) (by omega))]
  | succ j ih =>
    intro n' nA nB A B la z hn hjk hB h hS
    obtain ⟨nB, rfl⟩ : ∃ y, nB = y + 1 := ⟨nB - 1, by omega⟩
    have h' := h
    obtain ⟨⟨hGA, hGB, hT, hL⟩, ⟨hus, hun, hne, b8, b9, b3⟩, ⟨n0, n1, n2, n3, n4, n5, n6⟩, ⟨Qn, x1, -⟩, -⟩ := h
    have hu2 := lU_le hun
    obtain ⟨A1, A4, B1, B4, la4, z4, r1, r2, r3, r4, r5, r6, r7, r8, r9, r10, r11⟩ := ahead_jo (N := N) h' (by omega) (by omega) hQ hM hN hb (by omega) (hS (n' + 1) (by omega) (by omega))
    have hlen := hGA.len
    have hla := hL.2.2.1
    obtain ⟨A2, B2, la2, z2, q1, q2, q3, q4, q5⟩ := ih (n' + 1) nA nB A4 B4 la4 z4 (by omega) (by omega) (by omega) r5 (fun x z1 z2 => by
      rw [r6.2.2.1 128 _ (by omega) (by unfold AHA TGA TFA cW; omega) (by omega), r7.1 618 _ (by unfold AHB TGB TFB; omega)]
      exact hS x (by omega) z2)
    refine ⟨A2, B2, la2, z2, ?_, ?_, q3, (r6.mono AHA.ac).tr q4, r7.tr q5⟩
    · rw [show nA + (j + 1) = nA + j + 1 by omega, B_Play_accept_80, if_neg (nI_ge (by omega) (by omega)), ck_t (rS_11 hGA), bC_t r1, rf_t (rP_11_7 r8), rf_t (rP_11_0 r8), rf_t (rP_11_13 r8), ck_t (rS_116 r8), bC_t r2, nI_1, show k - (j + 1) + 1 = k - j by omega]
      exact q1
    · have er : F_M_runs N 517 un B = some ((), B4) := by
        unfold F_M_runs
        rw [ck_t (US (gr_U hGB un hun)), bnd_t, ← x1.2.1, n6, nI_1, ck_t (rS_517 hGB), bC_t r3, rf_t (rP_517_11 r9), rf_t (show B1.P 517 3 = .ref w by rw [r10]; exact b3), rf_t (rP_517_18 r9), ck_t (rS_611 r9), bC_t r4]
      rw [B_M_runsAgain_19, ck_t (rS_517 hGB), rf_t b9, ck_t (US (gr_U hGB un hun)), bnd_t, ← x1.2.1, n6, if_neg (nI_ge (by omega) (by omega)), rf_t b9, bC_t er]
      exact q2
end Par
