/-! ===== bytes are written, both sides ===== -/
def SWA (kp a f : Nat) : Prop := (a = 131 ∧ f = 4) ∨ (kp = 1 ∧ ((a = 131 ∧ f = 1) ∨ a = 132))
def SWB (kp a f : Nat) : Prop := (kp = 0 ∧ a = 517 ∧ f = 23) ∨ (kp = 1 ∧ ((a = 517 ∧ f = 22) ∨ a = 622))
/-- both writers: kept or summed only, len bytes so far -/
def WTR (kp len : Nat) (A B : Hp) : Prop := (kp = 0 ∨ kp = 1) ∧ A.D 131 3 = nI kp ∧ B.D 517 24 = nI (1 - kp) ∧ (kp = 0 → A.D 131 4 = B.D 517 23) ∧ (kp = 1 → A.D 131 1 = nI len ∧ B.D 517 22 = nI len ∧ ∀ i, i < len → A.D 132 i = B.D 622 i)
theorem lo8_255 (v : Int32) : lo8 (v &&& 255) = lo8 v := by
  rw [lo8_e]
  have h : lo8 v < 256 := lo8_lt
  show (nI (lo8 v)).toUInt32.toNat % 256 = lo8 v
  have e : (nI (lo8 v)).toUInt32.toNat = lo8 v := by
    show (nI (lo8 v)).toBitVec.toNat = lo8 v
    have e2 : (nI (lo8 v)).toBitVec = BitVec.ofNat 32 (lo8 v) := rfl
    rw [e2, BitVec.toNat_ofNat]
    omega
  rw [e]
  omega
theorem sh_0 (v : Int32) : v >>> (nI (8 * 0) &&& 31) = v := by
  apply Int32.toBitVec_inj.mp
  rw [Int32.toBitVec_shiftRight]
  have e : (nI (8 * 0) &&& 31).toBitVec.smod 32 = BitVec.ofNat 32 0 := by decide
  rw [e, BitVec.sshiftRight']
  show v.toBitVec.sshiftRight (BitVec.ofNat 32 0).toNat = v.toBitVec
  exact BitVec.sshiftRight_zero
section Par
variable {N p wo inp cs w u ir M K0 : Nat} {s pl : Int32} {ty mn nu cd : Nat → Int32} {E Q : Nat → Nat → Nat} {V : Nat → Nat → Int32} {nL lc : Nat} {lk : Nat → Nat} {hd : Nat → Int32}
/-- one byte -/
theorem bt_jo {kp len k : Nat} {v q : Int32} {A B : Hp} (hGA : Gr A) (hGB : Gr B) (h : WTR kp len A B) (hl : len < 58000) (hk : k < 4) : ∃ A2 B2, F_Store_writeByte N 131 (v >>> (nI (8 * k) &&& 31)) A = some ((), A2) ∧ (∀ n, B_M_puts_4 N 517 v q (n + 1) (nI k) B = B_M_puts_4 N 517 v q n (nI k + (-1)) B2) ∧ WTR kp (len + 1) A2 B2 ∧ same (SWA kp) A A2 ∧ same (SWB kp) B B2 := by
  obtain ⟨h0, h1, h2, h3, h4⟩ := h
  have ek : (8 : Int32) * nI k = nI (8 * k) := nI_mu 8 k
  have nk : ¬ nI k < (0 : Int32) := nI_nlt (b := 0) (by omega) (by omega)
  generalize hx : v >>> (nI (8 * k) &&& 31) = x
  have G3 : Gr (A.sD 131 4 ((31 : Int32) * A.D 131 4 + (x &&& 255))) := hGA.sD
  have eA : F_Store_writeByte N 131 x A = (if nI kp = (0 : Int32) then some ((), A.sD 131 4 ((31 : Int32) * A.D 131 4 + (x &&& 255))) else if (60000 : Int32) ≤ A.D 131 1 then some ((), A.sD 131 4 ((31 : Int32) * A.D 131 4 + (x &&& 255))) else ck (inb (A.D 131 1) 60000) <| bnd ((A.sD 131 4 ((31 : Int32) * A.D 131 4 + (x &&& 255))).sD 132 (A.D 131 1).toNatClampNeg (sx (lo8 x))) fun H14 => bnd ((H14.D 131 1)) fun x15 => bnd (H14.sD 131 1 (x15 + (1 : Int32))) fun H16 => some ((), H16)) := by
    unfold F_Store_writeByte
    rw [ck_t (rS_131 hGA), bnd_t, bnd_t, bnd_t, rdf (show (3 : Nat) ≠ 4 by decide), h1, bnd_t, rdf (show (1 : Nat) ≠ 4 by decide), rf_t (rP_131_0 G3), bnd_t, ar_t (rA_131_0 G3), ns_sx]
  have eB : ∀ n, B_M_puts_4 N 517 v q (n + 1) (nI k) B = (if nI (1 - kp) = (0 : Int32) then ck (inb (B.D 517 22) 58000) <| bnd (B.sD 622 (B.D 517 22).toNatClampNeg (sx (lo8 x))) fun H13 => bnd ((H13.D 517 22)) fun x14 => bnd (H13.sD 517 22 (x14 + (1 : Int32))) fun H15 => B_M_puts_4 N 517 v q n (nI k + (-1)) H15 else B_M_puts_4 N 517 v q n (nI k + (-1)) (B.sD 517 23 ((31 : Int32) * B.D 517 23 + (x &&& 255)))) := fun n => by
    rw [B_M_puts_4, if_neg nk, ek, hx, bnd_t, ck_t (rS_517 hGB), bnd_t, h2, rf_t (rP_517_21 hGB), bnd_t, ar_t (rA_517_21 hGB), ns_sx, lo8_255]
    rfl
  rcases h0 with rfl | rfl
  · rw [if_pos (show nI 0 = (0 : Int32) from rfl)] at eA
    refine ⟨_, _, eA, fun n => by rw [eB n, if_neg (by decide)], ⟨.inl rfl, by rw [rdf (by decide)]; exact h1, by rw [rdf (by decide)]; exact h2, fun _ => by rw [rds, rds, h3 rfl], fun y => absurd y (by decide)⟩, same.rf.sD (.inl ⟨rfl, rfl⟩), same.rf.sD (.inl ⟨rfl, rfl, rfl⟩)⟩
  · obtain ⟨k1, k2, k3⟩ := h4 rfl
    rw [if_neg (by decide), k1, if_neg (show ¬ (60000 : Int32) ≤ nI len from nI_ge (b := 60000) (by omega) (by decide)), wrI (show len < 60000 by omega) (by decide), bnd_t, rdw (by decide), rdf (by decide), k1, nI_1, bnd_t] at eA
    have eB2 : ∀ n, B_M_puts_4 N 517 v q (n + 1) (nI k) B = B_M_puts_4 N 517 v q n (nI k + (-1)) ((B.sD 622 len (sx (lo8 x))).sD 517 22 (nI (len + 1))) := fun n => by
      rw [eB n, if_pos (show nI (1 - 1) = (0 : Int32) from rfl), k2, wrI (show len < 58000 by omega) (by decide), bnd_t, rdw (by decide), k2, nI_1, bnd_t]
    refine ⟨_, _, eA, eB2, ⟨.inr rfl, by rw [rdf (by decide), rdw (by decide), rdf (by decide)]; exact h1, by rw [rdf (by decide), rdw (by decide)]; exact h2, fun y => absurd y (by decide), fun _ => ⟨rds, rds, fun i hi => ?_⟩⟩, ((same.rf.sD (.inl ⟨rfl, rfl⟩)).sD (.inr ⟨rfl, .inr rfl⟩)).sD (.inr ⟨rfl, .inl ⟨rfl, rfl⟩⟩), (same.rf.sD (.inr ⟨rfl, .inr rfl⟩)).sD (.inr ⟨rfl, .inl ⟨rfl, rfl⟩⟩)⟩
    rw [rdw (show (132 : Nat) ≠ 131 by decide), rdw (show (622 : Nat) ≠ 517 by decide)]
    by_cases y : i = len
    · rw [y, rds, rds]
    · rw [rdf y, rdf y, rdw (show (132 : Nat) ≠ 131 by decide)]
      exact k3 i (by omega)
theorem SWA.pf {kp a f : Nat} (h : SWA kp a f) : PFA a f := by
  unfold SWA at h
  unfold PFA
  omega
theorem SWB.pf {kp a f : Nat} (h : SWB kp a f) : PFB a f := by
  unfold SWB at h
  unfold PFB
  omega
theorem p_end {v q : Int32} {B : Hp} {n : Nat} : B_M_puts_4 N 517 v q (n + 1) (nI 0 + (-1)) B = some ((), B) := by
  rw [B_M_puts_4, if_pos (by decide)]
theorem p1_jo {kp len : Nat} {v : Int32} {A B : Hp} (hN : 300 ≤ N) (hGA : Gr A) (hGB : Gr B) (h : WTR kp len A B) (hl : len + 1 ≤ 58000) : ∃ A2 B2, F_Store_writeByte N 131 v A = some ((), A2) ∧ F_M_puts N 517 v 1 B = some ((), B2) ∧ WTR kp (len + 1) A2 B2 ∧ same (SWA kp) A A2 ∧ same (SWB kp) B B2 := by
  obtain ⟨A2, B2, r1, r2, r3, r4, r5⟩ := bt_jo (N := N) (v := v) (q := 1) (k := 0) hGA hGB h (by omega) (by omega)
  rw [sh_0] at r1
  refine ⟨A2, B2, r1, ?_, r3, r4, r5⟩
  obtain ⟨n, hn⟩ : ∃ n, N = n + 1 + 1 := ⟨N - 2, by omega⟩
  have e : B_M_puts_4 N 517 v 1 (n + 1 + 1) (nI 0) B = some ((), B2) := by rw [r2, p_end]
  rw [← hn] at e
  exact e
theorem p2_jo {kp len : Nat} {v : Int32} {A B : Hp} (hN : 300 ≤ N) (hGA : Gr A) (hGB : Gr B) (h : WTR kp len A B) (hl : len + 2 ≤ 58000) : ∃ A1 A2 B2, F_Store_writeByte N 131 (v >>> ((8 : Int32) &&& 31)) A = some ((), A1) ∧ F_Store_writeByte N 131 v A1 = some ((), A2) ∧ F_M_puts N 517 v 2 B = some ((), B2) ∧ WTR kp (len + 2) A2 B2 ∧ same (SWA kp) A A1 ∧ same (SWA kp) A A2 ∧ same (SWB kp) B B2 := by
  obtain ⟨A1, B1, r1, r2, r3, r4, r5⟩ := bt_jo (N := N) (v := v) (q := 2) (k := 1) hGA hGB h (by omega) (by omega)
  obtain ⟨A2, B2, s1, s2, s3, s4, s5⟩ := bt_jo (N := N) (v := v) (q := 2) (k := 0) (r4.gr hGA) (r5.gr hGB) r3 (by omega) (by omega)
  rw [sh_0] at s1
  refine ⟨A1, A2, B2, r1, s1, ?_, s3, r4, r4.tr s4, r5.tr s5⟩
  obtain ⟨n, hn⟩ : ∃ n, N = n + 1 + 1 + 1 := ⟨N - 3, by omega⟩
  have e : B_M_puts_4 N 517 v 2 (n + 1 + 1 + 1) (nI 1) B = some ((), B2) := by rw [r2, show nI 1 + (-1) = nI 0 by decide, s2, p_end]
  rw [← hn] at e
  exact e
theorem p4_jo {kp len : Nat} {v : Int32} {A B : Hp} (hN : 300 ≤ N) (hGA : Gr A) (hGB : Gr B) (h : WTR kp len A B) (hl : len + 4 ≤ 58000) : ∃ A2 B2, F_Store_writeInt N 131 v A = some ((), A2) ∧ F_M_puts N 517 v 4 B = some ((), B2) ∧ WTR kp (len + 4) A2 B2 ∧ same (SWA kp) A A2 ∧ same (SWB kp) B B2 := by
  obtain ⟨A1, B1, a1, a2, a3, a4, a5⟩ := bt_jo (N := N) (v := v) (q := 4) (k := 3) hGA hGB h (by omega) (by omega)
  have G1 := a4.gr hGA
  obtain ⟨A2, B2, b1, b2, b3, b4, b5⟩ := bt_jo (N := N) (v := v) (q := 4) (k := 2) G1 (a5.gr hGB) a3 (by omega) (by omega)
  have G2 := b4.gr G1
  obtain ⟨A3, B3, c1, c2, c3, c4, c5⟩ := bt_jo (N := N) (v := v) (q := 4) (k := 1) G2 (b5.gr (a5.gr hGB)) b3 (by omega) (by omega)
  have G3 := c4.gr G2
  obtain ⟨A4, B4, d1, d2, d3, d4, d5⟩ := bt_jo (N := N) (v := v) (q := 4) (k := 0) G3 (c5.gr (b5.gr (a5.gr hGB))) c3 (by omega) (by omega)
  refine ⟨A4, B4, ?_, ?_, d3, ((a4.tr b4).tr c4).tr d4, ((a5.tr b5).tr c5).tr d5⟩
  · obtain ⟨n, hn⟩ : ∃ n, N = n + 1 + 1 + 1 + 1 + 1 := ⟨N - 5, by omega⟩
    have e : B_Store_writeInt_3 N 131 v (n + 1 + 1 + 1 + 1 + 1) (nI (8 * 3)) A = some ((), A4) := by
      rw [B_Store_writeInt_3, if_neg (by decide), ck_t (rS_131 hGA), bC_t a1, show nI (8 * 3) + (-8) = nI (8 * 2) by decide, B_Store_writeInt_3, if_neg (by decide), ck_t (rS_131 G1), bC_t b1, show nI (8 * 2) + (-8) = nI (8 * 1) by decide, B_Store_writeInt_3, if_neg (by decide), ck_t (rS_131 G2), bC_t c1, show nI (8 * 1) + (-8) = nI (8 * 0) by decide, B_Store_writeInt_3, if_neg (by decide), ck_t (rS_131 G3), bC_t d1, B_Store_writeInt_3, if_pos (by decide)]
    rw [← hn] at e
    exact e
  · obtain ⟨n, hn⟩ : ∃ n, N = n + 1 + 1 + 1 + 1 + 1 := ⟨N - 5, by omega⟩
    have e : B_M_puts_4 N 517 v 4 (n + 1 + 1 + 1 + 1 + 1) (nI 3) B = some ((), B4) := by rw [a2, show nI 3 + (-1) = nI 2 by decide, b2, show nI 2 + (-1) = nI 1 by decide, c2, show nI 1 + (-1) = nI 0 by decide, d2, p_end]
    rw [← hn] at e
    exact e
end Par
