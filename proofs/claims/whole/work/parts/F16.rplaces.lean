/-! ===== all places are read, both sides ===== -/
theorem mOf_u2 {E : Nat → Nat → Nat} (hE : WE E) {c c2 m : Nat} (h : mOf E c m) (h2 : mOf E c2 m) : c = c2 := by
  obtain ⟨a1, a2, a3⟩ := h
  obtain ⟨b1, b2, b3⟩ := h2
  by_cases y : c < c2
  · have := e5_mo hE (c2 - (c + 1)) (c + 1) (by omega)
    rw [show c + 1 + (c2 - (c + 1)) = c2 by omega] at this
    omega
  · by_cases y2 : c2 < c
    · have := e5_mo hE (c - (c2 + 1)) (c2 + 1) (by omega)
      rw [show c2 + 1 + (c - (c2 + 1)) = c by omega] at this
      omega
    · omega
/-- the places, then the events, as one function that may throw -/
def rsP (N p0 p1 p2 : Nat) : Nat → Int32 → Hp → Option (Ot Unit × Hp)
  | 0, _, _ => none
  | n + 1, l3, H =>
    if (256 : Int32) ≤ l3 then
    ck (H.sh[p1]? = some (4, 0)) <|
    rf (H.P p1 3) fun a64 =>
    ck (H.sh[p0]? = some (11, 0)) <|
    bT (F_Store_readEvents N p0 a64 p2 H) fun _ H69 =>
    F_Store_readEnd N p0 H69
    else
    ck (H.sh[p1]? = some (4, 0)) <|
    rf (H.P p1 2) fun a78 =>
    ck (H.sh[p0]? = some (11, 0)) <|
    bT (F_Store_readPlace N p0 a78 p2 l3 H) fun _ H83 =>
    rsP N p0 p1 p2 n (l3 + 1) H83
section Par
variable {N p wo inp cs w u ir M K0 : Nat} {s pl : Int32} {ty mn nu cd : Nat → Int32} {E Q : Nat → Nat → Nat} {V : Nat → Nat → Int32} {nL lc : Nat} {lk : Nat → Nat} {hd : Nat → Int32}
theorem RDS.fr {T x : Nat} {A B A2 B2 : Hp} (h : RDS T x A B) (dA : ∀ a f, (a = 131 ∧ (f = 1 ∨ f = 5)) ∨ a = 132 → A2.D a f = A.D a f) (dB : ∀ a f, (a = 517 ∧ (f = 22 ∨ f = 27 ∨ f = 28)) ∨ a = 622 → B2.D a f = B.D a f) : RDS T x A2 B2 := by
  obtain ⟨t0, t1, t2, t3, t4, t5, t6, t7⟩ := h
  exact ⟨t0, t1, by rw [dA _ _ (by omega)]; exact t2, by rw [dB _ _ (by omega)]; exact t3, by rw [dA _ _ (by omega)]; exact t4, by rw [dB _ _ (by omega)]; exact t5, by rw [dB _ _ (by omega)]; exact t6, fun i hi => by rw [dA _ _ (by omega), dB _ _ (by omega)]; exact t7 i hi⟩
/-- a place without components -/
theorem dd_out {um q : Nat} {Nm : Nat → Nat → List Nat} {Pv : Nat → Nat → Int32} {A0 B0 B : Hp} {kq2 : Int32 → Hp → Option (Unit × Hp)} (hE : WE E) (hN : 300 ≤ N) (hD : LDT p cs w M ty mn nu cd E Nm Pv um A0 B0) (hq : q < 256) (sB : same (LDB um) B0 B) (h0 : B.D (um + 3) q = nI 0) : ∀ j c nB, c + j = E 4 0 → j < nB → B_M_getsPlaces_84 N 517 um kq2 nB (nI q) (nI c) B = kq2 (nI (q + 1)) B := by
  have e4 : E 4 0 ≤ 16 := hE.1
  have e48 := hE.2.2.2.1
  obtain ⟨-, hGB, ⟨-, ⟨-, ⟨b16, b12, b13, -⟩, -⟩, -, hwT, -⟩, hum, b3⟩ := hD.fr hE same.rf sB
  have TT := gr_T hGB w hwT
  have U := gr_U hGB um hum
  intro j
  induction j with
  | zero =>
    intro c nB hc hB
    obtain ⟨nB, rfl⟩ : ∃ y, nB = y + 1 := ⟨nB - 1, by omega⟩
    rw [B_M_getsPlaces_84, ck_t (rS_517 hGB), rf_t b3, ck_t (TS TT), bnd_t, b16, if_pos (nI_le (by omega) (by omega)), nI_1]
  | succ j ih =>
    intro c nB hc hB
    obtain ⟨nB, rfl⟩ : ∃ y, nB = y + 1 := ⟨nB - 1, by omega⟩
    obtain ⟨N1, hN1⟩ : ∃ y, N = y + 1 := ⟨N - 1, by omega⟩
    have e : B_M_getsPlaces_106 N 517 um kq2 (fun l2 l3 H => B_M_getsPlaces_84 N 517 um kq2 nB l2 l3 H) (N1 + 1) (nI q) (nI c) (nI (E 5 c)) B = B_M_getsPlaces_84 N 517 um kq2 nB (nI q) (nI (c + 1)) B := by
      rw [B_M_getsPlaces_106, ck_t (rS_517 hGB), rf_t b3, ck_t (TS TT), rf_t (TP_18 TT), ar_t (TA_18 TT), nI_1, rdI (show c + 1 < 17 by omega) (by decide), b12 (c + 1) (by omega), ck_t (US U), rf_t (UP_6 U), ar_t (UA_6 U), rdI hq (by decide), h0, if_neg (show ¬ ((nI 0 >>> (nI c &&& 31)) &&& (1 : Int32)) = 1 from fun y => by have := (nI_bit1 (m := 0) (c := c) (by omega) (by omega)).mp y; rw [Nat.zero_div] at this; exact absurd this (by decide))]
      unfold B_M_getsPlaces_168
      rw [nI_1, ite_self]
    rw [← hN1] at e
    rw [B_M_getsPlaces_84, ck_t (rS_517 hGB), rf_t b3, ck_t (TS TT), bnd_t, b16, if_neg (nI_ge (by omega) (by omega)), rf_t b3, ck_t (TS TT), rf_t (TP_18 TT), ar_t (TA_18 TT), rdI (show c < 17 by omega) (by decide), b12 c (by omega), e]
    exact ih (c + 1) nB (by omega) (by omega)
theorem pi_out {T um q : Nat} {Nm : Nat → Nat → List Nat} {Pv : Nat → Nat → Int32} {A0 B0 : Hp} {γ δ : Type} {kq2 : Int32 → Hp → Option (Unit × Hp)} {KA : Unit → Hp → Option (Ot γ × Hp)} {KB : Unit → Hp → Option (δ × Hp)} {Post : γ → Hp → δ → Hp → Prop} (hE : WE E) (hN : 300 ≤ N) (hD : LDT p cs w M ty mn nu cd E Nm Pv um A0 B0) (hq : q < 256) (al : Q 1 q = 1) (hz : ZK um B0 (fun H => bC (kq2 (nI (q + 1)) H) KB)) : ∀ j c nA nB A B, c + j = E 4 0 → j < nA → j < nB → same LDA A0 A → same (LDB um) B0 B → (∃ x, RDS T x A B) → WRV A 19 B um E Q q (E 5 c) → (∀ A' B', same LDA A A' → same (LDB um) B B' → (∀ f, f ≠ 9 → A'.D 19 f = A.D 19 f) → (∀ f, B'.D um f = B.D um f) → (∃ x, RDS T x A' B') → WRV A' 19 B' um E Q q (E 5 (E 4 0)) → LOut um A' B' (KA () A') (bC (kq2 (nI (q + 1)) B') KB) Post) → LOut um A B (bT (B_Store_readPlace_45 N 131 (p + 70) 19 (nI q) nA (nI (Q 2 q)) (nI c) A) KA) (bC (B_M_getsPlaces_84 N 517 um kq2 nB (nI q) (nI c) B) KB) Post := by
  have e4 : E 4 0 ≤ 16 := hE.1
  have e48 := hE.2.2.2.1
  intro j
  induction j with
  | zero =>
    intro c nA nB A B hc hA hB sA sB hR hV hk
    obtain ⟨nA, rfl⟩ : ∃ y, nA = y + 1 := ⟨nA - 1, by omega⟩
    obtain ⟨nB, rfl⟩ : ∃ y, nB = y + 1 := ⟨nB - 1, by omega⟩
    obtain ⟨hGA, hGB, ⟨⟨-, ⟨a3, a5, a6, -⟩, -⟩, ⟨-, ⟨b16, b12, b13, -⟩, -⟩, hp, hwT, -⟩, hum, b3⟩ := hD.fr hE sA sB
    have P := gr_P hGA hp
    have TT := gr_T hGB w hwT
    have : c = E 4 0 := by omega
    rw [this] at hV
    rw [B_Store_readPlace_45, ck_t (PrA_2 P), bnd_t, a3, if_pos (nI_le (by omega) (by omega)), bT_v, B_M_getsPlaces_84, ck_t (rS_517 hGB), rf_t b3, ck_t (TS TT), bnd_t, b16, if_pos (nI_le (by omega) (by omega)), nI_1]
    exact hk A B same.rf same.rf (fun _ _ => rfl) (fun _ => rfl) hR hV
  | succ j ih =>
    intro c nA nB A B hc hA hB sA sB hR hV hk
    obtain ⟨nA, rfl⟩ : ∃ y, nA = y + 1 := ⟨nA - 1, by omega⟩
    obtain ⟨nB, rfl⟩ : ∃ y, nB = y + 1 := ⟨nB - 1, by omega⟩
    obtain ⟨hGA, hGB, ⟨⟨-, ⟨a3, a5, a6, -⟩, -⟩, ⟨-, ⟨b16, b12, b13, -⟩, -⟩, hp, hwT, -⟩, hum, b3⟩ := hD.fr hE sA sB
    have P := gr_P hGA hp
    have TT := gr_T hGB w hwT
    have U := gr_U hGB um hum
    obtain ⟨m1, m2, m3⟩ := hE.2.2.1 c (by omega)
    have p5 := (hV.2.1 q hq).2.2.2.2 al
    have q2 := (hV.2.1 q hq).2.2.1
    have eA : B_Store_readPlace_45 N 131 (p + 70) 19 (nI q) (nA + 1) (nI (Q 2 q)) (nI c) A = (if ((nI (Q 2 q) >>> (nI c &&& 31)) &&& (1 : Int32)) = (1 : Int32) then B_Store_readPlace_74 N 131 (p + 70) 19 (nI q) (fun l4 l5 H => B_Store_readPlace_45 N 131 (p + 70) 19 (nI q) nA l4 l5 H) N (nI (Q 2 q)) (nI c) (nI (E 5 c)) A else B_Store_readPlace_45 N 131 (p + 70) 19 (nI q) nA (nI (Q 2 q)) (nI (c + 1)) A) := by
      rw [B_Store_readPlace_45, ck_t (PrA_2 P), bnd_t, a3, if_neg (nI_ge (by omega) (by omega)), rf_t (PcP_2 P), ar_t (PcA_2 P), rdI (show c < 17 by omega) (by decide), a5 c (by omega)]
      unfold B_Store_readPlace_115
      rw [nI_1]
    have eB : B_M_getsPlaces_84 N 517 um kq2 (nB + 1) (nI q) (nI c) B = B_M_getsPlaces_106 N 517 um kq2 (fun l2 l3 H => B_M_getsPlaces_84 N 517 um kq2 nB l2 l3 H) N (nI q) (nI c) (nI (E 5 c)) B := by
      rw [B_M_getsPlaces_84, ck_t (rS_517 hGB), rf_t b3, ck_t (TS TT), bnd_t, b16, if_neg (nI_ge (by omega) (by omega)), rf_t b3, ck_t (TS TT), rf_t (TP_18 TT), ar_t (TA_18 TT), rdI (show c < 17 by omega) (by decide), b12 c (by omega)]
    rw [eA, eB]
    by_cases bt : Q 2 q / 2 ^ c % 2 = 1
    · rw [if_pos ((nI_bit1 (by omega) (by omega)).mpr bt)]
      exact pi_in (N := N) (kqA := fun l4 l5 H => B_Store_readPlace_45 N 131 (p + 70) 19 (nI q) nA l4 l5 H) (kqB := fun l2 l3 H => B_M_getsPlaces_84 N 517 um kq2 nB l2 l3 H) hE hN hD (show c < E 4 0 by omega) hq al bt (zp_out (N := N) hE hN hD hq hz j (c + 1) nB (by omega) (by omega)) (E 5 (c + 1) - E 5 c) (E 5 c) N N A B (by omega) (Nat.le_refl _) (by omega) (by omega) sA sB hR hV (fun A' B' u1 u2 u3 u4 u5 u6 => ih (c + 1) nA nB A' B' (by omega) (by omega) (by omega) (sA.tr u1) (sB.tr u2) u5 u6 (fun A2 B2 v1 v2 v3 v4 v5 v6 => hk A2 B2 (u1.tr v1) (u2.tr v2) (fun f hf => by rw [v3 f hf, u3 f hf]) (fun f => by rw [v4 f, u4 f]) v5 v6))
    · rw [if_neg (fun y => bt ((nI_bit1 (by omega) (by omega)).mp y))]
      obtain ⟨N1, hN1⟩ : ∃ y, N = y + 1 := ⟨N - 1, by omega⟩
      have e : B_M_getsPlaces_106 N 517 um kq2 (fun l2 l3 H => B_M_getsPlaces_84 N 517 um kq2 nB l2 l3 H) (N1 + 1) (nI q) (nI c) (nI (E 5 c)) B = B_M_getsPlaces_84 N 517 um kq2 nB (nI q) (nI (c + 1)) B := by
        rw [B_M_getsPlaces_106, ck_t (rS_517 hGB), rf_t b3, ck_t (TS TT), rf_t (TP_18 TT), ar_t (TA_18 TT), nI_1, rdI (show c + 1 < 17 by omega) (by decide), b12 (c + 1) (by omega), ck_t (US U), rf_t (UP_6 U), ar_t (UA_6 U), rdI hq (by decide), p5, if_neg (fun y => bt ((nI_bit1 (by omega) (by omega)).mp y))]
        unfold B_M_getsPlaces_168
        rw [nI_1, ite_self]
      rw [← hN1] at e
      rw [e]
      refine ih (c + 1) nA nB A B (by omega) (by omega) (by omega) sA sB hR ⟨hV.1, hV.2.1, fun x c2 m y1 y2 y3 y4 y5 => hV.2.2.1 x c2 m y1 y2 y3 y4 (fun z => ?_), hV.2.2.2⟩ hk
      refine Decidable.byContradiction fun k => bt ?_
      have := mOf_u2 hE (c := c) (c2 := c2) (m := m) ⟨by omega, by omega, y5 z⟩ y4
      rw [this, ← z]
      exact y3
/-- once wrong: the places -/
theorem zq {um : Nat} {Nm : Nat → Nat → List Nat} {Pv : Nat → Nat → Int32} {A0 B0 : Hp} {δ : Type} {KB : Unit → Hp → Option (δ × Hp)} (hE : WE E) (hN : 300 ≤ N) (hD : LDT p cs w M ty mn nu cd E Nm Pv um A0 B0) (hz : ZK um B0 (fun H => KB () H)) : ∀ j q nB, q + j = 256 → j < nB → ZK um B0 (fun H => bC (B_M_getsPlaces_2 N 517 um nB (nI q) H) KB) := by
  have e4 : E 4 0 ≤ 16 := hE.1
  have hu := lU_le hD.2.2.2.1
  intro j
  induction j with
  | zero =>
    intro q nB hq hB H W hW sH h28
    obtain ⟨nB, rfl⟩ : ∃ y, nB = y + 1 := ⟨nB - 1, by omega⟩
    dsimp only
    rw [B_M_getsPlaces_2, if_pos (show (256 : Int32) ≤ nI q from nI_le (a := 256) (by omega) (by omega)), bC_v]
    exact hz H W hW sH h28
  | succ j ih =>
    intro q nB hq hB H W hW sH h28
    obtain ⟨nB, rfl⟩ : ∃ y, nB = y + 1 := ⟨nB - 1, by omega⟩
    have hum := hD.2.2.2.1
    have hGH := sH.gr hD.2.1
    have U := gr_U hGH um hum
    have G1 : Gr (H.sD (um + 1) q 0) := hGH.sD
    have U1 := gr_U G1 um hum
    have h1 : (H.sD (um + 1) q 0).D 517 28 = nI W := by rw [rdw (by omega)]; exact h28
    have G2 : Gr ((H.sD (um + 1) q 0).sD (um + 2) q 0) := G1.sD
    have U2 := gr_U G2 um hum
    have q6 : q < 256 := by omega
    have s3 : same (LDB um) H (((H.sD (um + 1) q 0).sD (um + 2) q 0).sD (um + 3) q 0) := ((same.rf.sD (.inr ⟨by omega, by omega⟩)).sD (.inr ⟨by omega, by omega⟩)).sD (.inr ⟨by omega, by omega⟩)
    have h3 : (((H.sD (um + 1) q 0).sD (um + 2) q 0).sD (um + 3) q 0).D 517 28 = nI W := by rw [rdw (by omega), rdw (by omega), rdw (by omega)]; exact h28
    dsimp only
    rw [B_M_getsPlaces_2, if_neg (show ¬ (256 : Int32) ≤ nI q from nI_ge (b := 256) (by omega) (by decide)), ck_t (US U), rf_t (UP_4 U), ck_t (rS_517 hGH), bC_t (gz hGH hW h28), ar_t (UA_4 U), wrI q6 (by decide), rf_t (UP_5 U1), bC_t (gz G1 hW h1), if_neg (by decide)]
    unfold B_M_getsPlaces_45
    rw [ar_t (UA_5 U1), wrI q6 (by decide), show vp_nar .boolean (0 : Int32) = (0 : Int32) from rfl, ck_t (US U2), rf_t (UP_6 U2), rf_t (UP_5 U2), ar_t (UA_5 U2), rdI q6 (by decide), rds, if_pos rfl]
    unfold B_M_getsPlaces_81
    rw [ar_t (UA_6 U2), wrI q6 (by decide)]
    obtain ⟨y, B2, z1, z2, z3⟩ := zp_out (N := N) (kq2 := fun l2 H => B_M_getsPlaces_2 N 517 um nB l2 H) hE hN hD q6 (ih (q + 1) nB (by omega) (by omega)) (E 4 0) 0 N (by omega) (by omega) _ W hW (sH.tr s3) h3
    exact ⟨y, B2, z1, z2, s3.tr z3⟩
end Par
