/-! ===== the call step ===== -/
def SPA (n a f : Nat) : Prop := GOA n a f ∨ CFA a f ∨ (a = 0 ∧ (f = 7 ∨ f = 8))
def SPB (us un a f : Nat) : Prop := GOB un a f ∨ CFB us a f ∨ a = 623 ∨ a = 624 ∨ (a = 517 ∧ f = 0)
section Par
variable {N p wo inp cs w u ir M K0 : Nat} {s pl : Int32} {ty mn nu cd : Nat → Int32} {E Q : Nat → Nat → Nat} {V : Nat → Nat → Int32} {nL lc : Nat} {lk : Nat → Nat} {hd : Nat → Int32}
theorem step_jo {S : Nat → Nat} {kT : Nat} {nb b t0 la z us un c n U F : Nat} {Nm : Nat → Nat → List Nat} {Pv : Nat → Nat → Int32} {A B : Hp} (h : PLI N p cs w M ty mn nu cd E Nm Pv S b t0 A la z B us un c n) (hTl : TLD kT A B) (hon : A.D 11 2 = B.D 517 12) (hw : WKR A B U F) (hh : A.D 0 6 = B.D 517 5) (hpr : A.P 0 4 = .ref p) (hn9 : n ≤ 1000000000) (hQ : TXQ M cs ty mn nu cd E Pv) (hM : M + 2 ≤ N) (hN : 2000000 ≤ N) (hb : BNS S nb) (hcn : nb + (b + 16 * (n + 1 - t0)) + 20 < 8388608) : ∃ r A2 B2 la2 z2 c2 n2 U2 F2, F_W_step N 0 A = some (r, A2) ∧ F_M_step N 517 B = some (r, B2) ∧ PLI N p cs w M ty mn nu cd E Nm Pv S b t0 A2 la2 z2 B2 us un c2 n2 ∧ TLD (kT + 32 * (c2 - c)) A2 B2 ∧ WKR A2 B2 U2 F2 ∧ n2 ≤ 1000000000 ∧ n2 ≤ n + 1 ∧ c ≤ c2 ∧ exT (SPA n) A la z A2 la2 z2 ∧ smT (SPB us un) B B2 := by
  have s0 : same PFB B (B.sD 517 0 0) := same.rf.sD (.inl rfl)
  have s0' : same (fun a f => a = 517 ∧ f = 0) B (B.sD 517 0 0) := same.rf.sD ⟨rfl, rfl⟩
  have h0 := h.fr hQ.1 same.rf s0
  have d0 : ∀ a f, ¬ (a = 517 ∧ f = 0) → (B.sD 517 0 0).D a f = B.D a f := fun a f y => rdnn y
  have hTl0 : TLD kT A (B.sD 517 0 0) := hTl.fr (fun _ _ _ => rfl) (fun a f y => d0 a f (by omega))
  have hon0 : A.D 11 2 = (B.sD 517 0 0).D 517 12 := by rw [d0 _ _ (by omega)]; exact hon
  have hh0 : A.D 0 6 = (B.sD 517 0 0).D 517 5 := by rw [d0 _ _ (by omega)]; exact hh
  obtain ⟨u1, u2, u3, u4, u5⟩ := hw
  have u50 : ∀ k, k < 8 → (B.sD 517 0 0).D 623 k = (if U / 2 ^ k % 2 = 1 then 1 else 0) ∧ (B.sD 517 0 0).D 624 k = (if F / 2 ^ k % 2 = 1 then 1 else 0) := fun k hk => by
    rw [d0 _ _ (by omega), d0 _ _ (by omega)]
    exact u5 k hk
  have hw0 : WKR A (B.sD 517 0 0) U F := ⟨u1, u2, u3, u4, u50⟩
  have hGB0 := h.1.2.1
  have x0 : (B.sD 517 0 0).P = B.P := rfl
  have eB0 : F_M_step N 517 B = rf ((B.sD 517 0 0).P 517 9) fun a3 => ck ((B.sD 517 0 0).sh[a3]? = some (13, 0)) <| bnd (((B.sD 517 0 0).D a3 0)) fun x6 => rf ((B.sD 517 0 0).P 517 8) fun a7 => ck ((B.sD 517 0 0).sh[a7]? = some (13, 0)) <| bnd (((B.sD 517 0 0).D a7 0)) fun x10 => if (x6 - x10) = (16 : Int32) then some ((-1), (B.sD 517 0 0)) else bC (F_M_workers N 517 (0 : Int32) (B.sD 517 0 0)) fun v13 H14 => if v13 = (0 : Int32) then some ((-2), H14) else bnd ((H14.D 517 5)) fun x16 => if x16 = (0 : Int32) then some ((-3), H14) else rf (H14.P 517 9) fun a18 => ck (H14.sh[a18]? = some (13, 0)) <| bnd ((H14.D a18 0)) fun x21 => if x21 = (1000000000 : Int32) then some ((-4), H14) else rf (H14.P 517 16) fun a23 => rf (H14.P 517 9) fun a25 => ck (H14.sh[a25]? = some (13, 0)) <| bnd ((H14.D a25 0)) fun x28 => bnd ((H14.D 517 12)) fun x29 => ar H14 100 a23 fun n30 => ck (inb ((x28 + (1 : Int32)) &&& (63 : Int32)) n30) <| bnd (H14.sD a23 (((x28 + (1 : Int32)) &&& (63 : Int32))).toNatClampNeg x29) fun H33 => rf (H33.P 517 9) fun a34 => bC (F_M_runs N 517 a34 H33) fun v37 H38 => B_M_step_94 N 517 N 0 H38 := by
    unfold F_M_step
    rw [ck_t (rS_517 hGB0), bnd_t]
  generalize B.sD 517 0 0 = B0 at *
  have h0' := h0
  obtain ⟨⟨hGA, hGB, hT, hL⟩, ⟨hus, hun, hne, b8, b9, b3⟩, ⟨n0, n1, n2, n3, n4, n5, n6⟩, ⟨Qn, w1, -, -⟩, -⟩ := h0
  have hu1 := lU_le hus
  have hu2 := lU_le hun
  have bn : B0.D un 0 = nI n := by rw [← w1.2.1]; exact n6
  have G33 : Gr (B0.sD 618 ((n + 1) % 64) (B0.D 517 12)) := hGB.sD
  have b99 : (B0.sD 618 ((n + 1) % 64) (B0.D 517 12)).P 517 9 = .ref un := b9
  rw [rf_t b9, ck_t (US (gr_U hGB un hun)), bnd_t, bn, rf_t b8, ck_t (US (gr_U hGB us hus)), bnd_t, n5, nI_dif n1, bC_t (ev_wk0 hGB hw0 (by omega)), bnd_t, rf_t b9, ck_t (US (gr_U hGB un hun)), bnd_t, bn, rf_t (rP_517_16 hGB), rf_t b9, ck_t (US (gr_U hGB un hun)), bnd_t, bn, bnd_t, ar_t (rA_517_16 hGB), nI_1, nI_63 (by omega), wrI (show (n + 1) % 64 < 64 by omega) (by decide), rf_t b99, ← hh0] at eB0
  have eA0 : F_W_step N 0 A = (if nI n < nI (c + 16) then (if nI (anN U F) = 0 then some ((-2), A) else if A.D 0 6 = 0 then some ((-3), A) else if nI n < (1000000000 : Int32) then bC (F_Play_goOn N 11 p A) fun v28 H29 => bnd ((H29.D 0 7)) fun x30 => bnd ((H29.D 0 8)) fun x31 => bnd (H29.sD 0 7 (x30 &&& (x31 ^^^ ((-1) : Int32)))) fun H32 => bnd (H32.sD 0 8 (0 : Int32)) fun H33 => rf (H33.P 0 2) fun a34 => ck (H33.sh[a34]? = some (10, 0)) <| rf (H33.P a34 0) fun a37 => ck (H33.sh[a37]? = some (7, 0)) <| bnd ((H33.D a37 0)) fun x40 => some (x40, H33) else some ((-4), A)) else some ((-1), A)) := by
    have ea : F_Play_isFullyAhead N 11 A = some (if nI n < nI (c + 16) then 0 else 1, A) := by
      unfold F_Play_isFullyAhead
      rw [ck_t (rS_11 hGA), rf_t (rP_11_0 hGA), ck_t (rA_11_0 hGA), bnd_t, n6, bnd_t, n4, show nI c + (16 : Int32) = nI (c + 16) from nI_ad c 16]
      split <;> rfl
    unfold F_W_step
    rw [ck_t (rS_0 hGA), rf_t (rP_0_2 hGA), ck_t (rS_11 hGA), bC_t ea]
    by_cases y : nI n < nI (c + 16)
    · rw [if_pos y, if_pos y, if_pos rfl, bnd_t, u3, bnd_t, u4, an_e u1, bnd_t, rf_t (rP_0_2 hGA), ck_t (rS_11 hGA), rf_t (rP_11_0 hGA), ck_t (rA_11_0 hGA), bnd_t, n6, rf_t (rP_0_2 hGA), rf_t hpr, ck_t (rS_11 hGA)]
    · rw [if_neg y, if_neg y, if_neg (by decide)]
  have sz : ∀ r, F_W_step N 0 A = some (r, A) → F_M_step N 517 B = some (r, B0) → ∃ r A2 B2 la2 z2 c2 n2 U2 F2, F_W_step N 0 A = some (r, A2) ∧ F_M_step N 517 B = some (r, B2) ∧ PLI N p cs w M ty mn nu cd E Nm Pv S b t0 A2 la2 z2 B2 us un c2 n2 ∧ TLD (kT + 32 * (c2 - c)) A2 B2 ∧ WKR A2 B2 U2 F2 ∧ n2 ≤ 1000000000 ∧ n2 ≤ n + 1 ∧ c ≤ c2 ∧ exT (SPA n) A la z A2 la2 z2 ∧ smT (SPB us un) B B2 := fun r k1 k2 => ⟨r, A, B0, la, z, c, n, U, F, k1, k2, h0', hTl0.mono (by omega), hw0, hn9, by omega, Nat.le_refl _, (same.rf.exS hL).exT, (s0'.mono fun a f y => .inr (.inr (.inr (.inr y)))).smT⟩
  have al := an_lt (F := F) u1
  have pz := pc8 ⟨anN U F, al⟩
  have pz1 : pcn 8 (anN U F) = 0 ↔ anN U F = 0 := pz.1
  have pz2 : pcn 8 (anN U F) ≤ 8 := pz.2.1
  by_cases y1 : n < c + 16
  · rw [if_pos (nI_lt y1 (by omega))] at eA0
    rw [if_neg (show ¬ nI (n - c) = (16 : Int32) from fun y => by have := (nI_eq (b := 16) (by omega) (by decide)).mp y; omega)] at eB0
    by_cases y2 : anN U F = 0
    · rw [y2, if_pos (show nI 0 = (0 : Int32) from rfl)] at eA0
      rw [pz1.mpr y2, if_pos (show nI 0 = (0 : Int32) from rfl)] at eB0
      exact sz _ eA0 eB0
    rw [if_neg (show ¬ nI (anN U F) = 0 from fun y => y2 ((nI_eq (b := 0) (by omega) (by decide)).mp y))] at eA0
    rw [if_neg (show ¬ nI (pcn 8 (anN U F)) = 0 from fun y => y2 (pz1.mp ((nI_eq (b := 0) (by omega) (by decide)).mp y)))] at eB0
    by_cases y3 : A.D 0 6 = 0
    · rw [if_pos y3] at eA0 eB0
      exact sz _ eA0 eB0
    rw [if_neg y3] at eA0 eB0
    by_cases y4 : n = 1000000000
    · rw [if_neg (show ¬ nI n < (1000000000 : Int32) from nI_nlt (b := 1000000000) (by omega) (by omega))] at eA0
      rw [if_pos (show nI n = (1000000000 : Int32) by rw [y4]; rfl)] at eB0
      exact sz _ eA0 eB0
    rw [if_pos (show nI n < (1000000000 : Int32) from nI_lt (b := 1000000000) (by omega) (by omega))] at eA0
    rw [if_neg (show ¬ nI n = (1000000000 : Int32) from fun y => y4 ((nI_eq (b := 1000000000) (by omega) (by decide)).mp y))] at eB0
    obtain ⟨A4, B4, la4, z4, r1, r2, r3, r4, r5, r6⟩ := go_jo (N := N) h0' y1 (by omega) hQ hM hN hb (by omega) hon0 hTl0
    have h4 : ∀ k, k < 8 → B4.D 623 k = B0.D 623 k ∧ B4.D 624 k = B0.D 624 k := fun k _ => ⟨r6.1 _ _ (by unfold GOB AHB TGB TFB; omega), r6.1 _ _ (by unfold GOB AHB TGB TFB; omega)⟩
    obtain ⟨B5, v1, v2, v3⟩ := st_wk (N := N) (U := U) (F := F) 8 0 N B4 (by omega) (by omega) r3.1.2.1 (fun i _ y => by rw [(h4 i y).1, (h4 i y).2]; exact u50 i y)
    have h5 : PLI N p cs w M ty mn nu cd E Nm Pv S b t0 A4 la4 z4 B5 us un c (n + 1) := r3.fr hQ.1 same.rf (v2.mono fun a f y => .inr (.inr (by omega)))
    have t5 : TLD kT A4 B5 := r4.fr (fun _ _ _ => rfl) (fun a f y => v2.1 a f (by omega))
    obtain ⟨A6, B6, c2, q1, q2, q3, q4, q5, q6, q7⟩ := conf_jo (N := N) hQ hM hN hb hcn (n + 1 - c) c 0 N N kT A4 B5 (by omega) (by omega) (by omega) (by omega) h5 t5
    have hlen := hGA.len
    have hla := hL.2.2.1
    have a6 : ∀ f, f = 7 ∨ f = 8 → A6.D 0 f = A.D 0 f := fun f y => by
      rw [q5.1 _ _ (by unfold CFA; omega), r5.2.2.1 _ _ (by omega) (by unfold GOA AHA TGA TFA cW; omega) (by omega)]
    have hG6 := q3.1.1
    have e9 : F_Play_goOn N 11 p A = some ((), A6) := by
      rw [r1]
      unfold F_Play_confirm
      rw [show (0 : Int32) = nI 0 from rfl, bC_t q1]
    have sF : same (fun a f => a = 0 ∧ (f = 7 ∨ f = 8)) A6 ((A6.sD 0 7 (nI (anN U F))).sD 0 8 0) := (same.rf.sD ⟨rfl, .inl rfl⟩).sD ⟨rfl, .inr rfl⟩
    have f7 : ((A6.sD 0 7 (nI (anN U F))).sD 0 8 0).D 0 7 = nI (anN U F) := by rw [rdf (by decide), rds]
    have f8 : ((A6.sD 0 7 (nI (anN U F))).sD 0 8 0).D 0 8 = 0 := rds
    have eA1 : F_W_step N 0 A = rf (((A6.sD 0 7 (nI (anN U F))).sD 0 8 0).P 0 2) fun a34 => ck (((A6.sD 0 7 (nI (anN U F))).sD 0 8 0).sh[a34]? = some (10, 0)) <| rf (((A6.sD 0 7 (nI (anN U F))).sD 0 8 0).P a34 0) fun a37 => ck (((A6.sD 0 7 (nI (anN U F))).sD 0 8 0).sh[a37]? = some (7, 0)) <| bnd ((((A6.sD 0 7 (nI (anN U F))).sD 0 8 0).D a37 0)) fun x40 => some (x40, ((A6.sD 0 7 (nI (anN U F))).sD 0 8 0)) := by
      rw [eA0, bC_t e9, bnd_t, a6 7 (.inl rfl), u3, bnd_t, a6 8 (.inr rfl), u4, an_e u1, bnd_t, bnd_t]
    generalize (A6.sD 0 7 (nI (anN U F))).sD 0 8 0 = A7 at *
    have h7 : PLI N p cs w M ty mn nu cd E Nm Pv S b t0 A7 la4 z4 B6 us un c2 (n + 1) := q3.fr hQ.1 (sF.mono fun a f y => .inl y.1) same.rf
    have hG7 := h7.1.1
    have n67 := h7.2.2.1.2.2.2.2.2.2
    obtain ⟨Q7, w7, -⟩ := h7.2.2.2.1
    have b6 : B6.D un 0 = nI (n + 1) := by rw [← w7.2.1]; exact n67
    have hL4 := r3.1.2.2.2
    refine ⟨nI (n + 1), A7, B6, la4, z4, c2, n + 1, anN U F, 0, ?_, ?_, h7, q4.fr (fun a f y => sF.1 a f (by omega)) (fun _ _ _ => rfl), ⟨al, by omega, f7, f8, fun k hk => ?_⟩, by omega, Nat.le_refl _, q7, ((r5.mono fun a f y => .inl y).tr ((q5.exS hL4).exT.mono fun a f y => .inr (.inl y))).tr ((sF.exS (q5.exS hL4).1).exT.mono fun a f y => .inr (.inr y)), ?_⟩
    · rw [eA1, rf_t (rP_0_2 hG7), ck_t (rS_11 hG7), rf_t (rP_11_0 hG7), ck_t (rA_11_0 hG7), bnd_t, n67]
    · have e94 : B_M_step_94 N 517 N 0 B4 = some (nI (n + 1), B6) := by
        rw [show (0 : Int32) = nI 0 from rfl, v1]
        unfold F_M_confirms
        rw [ck_t (rS_517 h5.1.2.1), bC_t q2, rf_t q3.2.1.2.2.2.2.1, ck_t (US (gr_U q3.1.2.1 un hun)), bnd_t, b6]
      rw [eB0, bC_t r2]
      exact e94
    · obtain ⟨k1, k2⟩ := v3 k (by omega) hk
      rw [q6.1 _ _ (by unfold CFB TGB TFB; omega), q6.1 _ _ (by unfold CFB TGB TFB; omega), k1, k2, if_neg (show ¬ 0 / 2 ^ k % 2 = 1 by rw [Nat.zero_div]; decide)]
      exact ⟨rfl, rfl⟩
    · exact (((s0'.mono fun a f y => .inr (.inr (.inr (.inr y)))).smT.tr (r6.mono fun a f y => .inl y)).tr (v2.mono fun a f y => by unfold SPB; omega).smT).tr (q6.mono fun a f y => .inr (.inl y))
  · rw [if_neg (nI_nlt (by omega) (by omega))] at eA0
    rw [if_pos (show nI (n - c) = (16 : Int32) by rw [show n - c = 16 by omega]; rfl)] at eB0
    exact sz _ eA0 eB0
end Par
