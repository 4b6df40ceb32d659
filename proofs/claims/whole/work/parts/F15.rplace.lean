/-! ===== the places are read, both sides ===== -/
theorem e5_mo {E : Nat → Nat → Nat} (hE : WE E) : ∀ j a, a + j ≤ E 4 0 → E 5 a ≤ E 5 (a + j) := by
  intro j
  induction j with
  | zero => intro a _; exact Nat.le_refl _
  | succ j ih =>
    intro a h
    have h1 := ih a (by omega)
    have h2 := (hE.2.2.1 (a + j) (by omega)).1
    rw [show a + (j + 1) = a + j + 1 by omega]
    omega
/-- as WRL, but of place q only the values below m0 -/
def WRV (A : Hp) (wo : Nat) (B : Hp) (u : Nat) (E Q : Nat → Nat → Nat) (q m0 : Nat) : Prop :=
  PPL Q A wo ∧ PPB Q B u ∧
  (∀ x c m, x < 256 → Q 1 x = 1 → Q 2 x / 2 ^ c % 2 = 1 → mOf E c m → (x = q → m < m0) → A.D (wo + 3) (x * Q 5 0 + m) = B.D (u + 4) (48 * x + m)) ∧
  (A.D wo 10 = nI (Q 5 0) ∧ Q 5 0 ≤ 48 ∧ ∀ c m, mOf E c m → m < Q 5 0) ∧
  (A.D wo 9 = nI (Q 5 1) ∧ Q 5 1 ≤ 256 ∧ ∀ q, Q 5 1 ≤ q → q < 256 → Q 1 q ≠ 1)
section Par
variable {N p wo inp cs w u ir M K0 : Nat} {s pl : Int32} {ty mn nu cd : Nat → Int32} {E Q : Nat → Nat → Nat} {V : Nat → Nat → Int32} {nL lc : Nat} {lk : Nat → Nat} {hd : Nat → Int32}
theorem WRV.fr {A B A2 B2 : Hp} {q m0 : Nat} (h : WRV A wo B u E Q q m0) (dA : ∀ a f, wo ≤ a → a ≤ wo + 5 → A2.D a f = A.D a f) (dB : ∀ a f, u ≤ a → a ≤ u + 9 → B2.D a f = B.D a f) : WRV A2 wo B2 u E Q q m0 := by
  obtain ⟨w1, w2, w3, w4, w5⟩ := h
  exact ⟨fun x hx => by rw [dA _ _ (by omega) (by omega), dA _ _ (by omega) (by omega)]; exact w1 x hx, fun x hx => by rw [dB _ _ (by omega) (by omega), dB _ _ (by omega) (by omega), dB _ _ (by omega) (by omega)]; exact w2 x hx, fun x c m y1 y2 y3 y4 y5 => by rw [dA _ _ (by omega) (by omega), dB _ _ (by omega) (by omega)]; exact w3 x c m y1 y2 y3 y4 y5, ⟨by rw [dA _ _ (by omega) (by omega)]; exact w4.1, w4.2⟩, ⟨by rw [dA _ _ (by omega) (by omega)]; exact w5.1, w5.2⟩⟩
/-- a member's value -/
theorem rm_lo {T um kd : Nat} {A B : Hp} (hN : 300 ≤ N) (hGA : Gr A) (hGB : Gr B) (h : ∃ c, RDS T c A B) (hk : kd ≤ 4) : LOut um A B (F_Store_readMember N 131 (nI kd) A) (F_M_getsOf N 517 (nI kd) B) (fun v A' y B' => y = v ∧ same RDA A A' ∧ same RDBb B B' ∧ ∃ c', RDS T c' A' B') := by
  obtain ⟨c, h⟩ := h
  have go : ∀ lo hi : Int32, LOut um A B (bT (F_Store_readNumber N 131 4 lo hi A) fun v H => some (.inl v, H)) (bC (F_M_gets N 517 4 lo hi B) fun v H => some (v, H)) (fun v A' y B' => y = v ∧ same RDA A A' ∧ same RDBb B B' ∧ ∃ c', RDS T c' A' B') := fun lo hi =>
    (rn_lo (N := N) (k := 4) (lo := lo) (hi := hi) (um := um) hN hGA hGB h (by omega)).bind (fun v A' y B' s1 s2 hp => .inr ⟨v, A', y, B', rfl, rfl, same.rf, same.rf, hp.1, hp.2.2.2.1, hp.2.2.2.2.1, hp.2.2.2.2.2⟩) (fun y H W hW sH h28 => ⟨y, H, rfl, h28, same.rf⟩)
  have e1 : (nI kd = (1 : Int32)) = (kd = 1) := propext (nI_eq (b := 1) (by omega) (by decide))
  have e3 : (nI kd = (3 : Int32)) = (kd = 3) := propext (nI_eq (b := 3) (by omega) (by decide))
  have e4 : (nI kd = (4 : Int32)) = (kd = 4) := propext (nI_eq (b := 4) (by omega) (by decide))
  unfold F_Store_readMember F_M_getsOf B_M_getsOf_42
  simp only [e1, e3, e4, ck_t (rS_131 hGA), ck_t (rS_517 hGB)]
  by_cases k1 : kd = 1
  · rw [if_pos k1, if_pos k1]
    exact go _ _
  · rw [if_neg k1, if_neg k1]
    by_cases k3 : kd = 3
    · rw [if_pos k3, if_pos k3]
      exact go _ _
    · rw [if_neg k3, if_neg k3]
      by_cases k4 : kd = 4
      · rw [if_pos k4, if_pos k4]
        exact go _ _
      · rw [if_neg k4, if_neg k4]
        exact go _ _
/-- once wrong: the members of a place -/
theorem zp_in {um c q : Nat} {Nm : Nat → Nat → List Nat} {Pv : Nat → Nat → Int32} {A0 B0 : Hp} {δ : Type} {kq2 : Int32 → Hp → Option (Unit × Hp)} {kqB : Int32 → Int32 → Hp → Option (Unit × Hp)} {KB : Unit → Hp → Option (δ × Hp)} (hE : WE E) (hD : LDT p cs w M ty mn nu cd E Nm Pv um A0 B0) (hc : c < E 4 0) (hq : q < 256) (hz : ZK um B0 (fun H => bC (kqB (nI q) (nI (c + 1)) H) KB)) : ∀ j m nB, m + j = E 5 (c + 1) → j < nB → ZK um B0 (fun H => bC (B_M_getsPlaces_106 N 517 um kq2 kqB nB (nI q) (nI c) (nI m) H) KB) := by
  have e4 : E 4 0 ≤ 16 := hE.1
  obtain ⟨m1, m2, m3⟩ := hE.2.2.1 c hc
  have e48 := hE.2.2.2.1
  have hu := lU_le hD.2.2.2.1
  intro j
  induction j with
  | zero =>
    intro m nB hm hB H W hW sH h28
    obtain ⟨nB, rfl⟩ : ∃ y, nB = y + 1 := ⟨nB - 1, by omega⟩
    obtain ⟨-, hGH, ⟨-, ⟨-, ⟨b16, b12, b13, -⟩, -⟩, -, hwT, -⟩, -, b3⟩ := hD.fr hE same.rf sH
    have TT := gr_T hGH w hwT
    dsimp only
    rw [B_M_getsPlaces_106, ck_t (rS_517 hGH), rf_t b3, ck_t (TS TT), rf_t (TP_18 TT), ar_t (TA_18 TT), nI_1, rdI (show c + 1 < 17 by omega) (by decide), b12 (c + 1) (by omega), if_pos (nI_le (by omega) (by omega))]
    unfold B_M_getsPlaces_168
    rw [nI_1]
    exact hz H W hW sH h28
  | succ j ih =>
    intro m nB hm hB H W hW sH h28
    obtain ⟨nB, rfl⟩ : ∃ y, nB = y + 1 := ⟨nB - 1, by omega⟩
    obtain ⟨-, hGH, ⟨-, ⟨-, ⟨b16, b12, b13, -⟩, -⟩, -, hwT, -⟩, hum, b3⟩ := hD.fr hE same.rf sH
    have TT := gr_T hGH w hwT
    have U := gr_U hGH um hum
    dsimp only
    rw [B_M_getsPlaces_106, ck_t (rS_517 hGH), rf_t b3, ck_t (TS TT), rf_t (TP_18 TT), ar_t (TA_18 TT), nI_1, rdI (show c + 1 < 17 by omega) (by decide), b12 (c + 1) (by omega), if_neg (nI_ge (by omega) (by omega)), ck_t (US U), rf_t (UP_6 U), ar_t (UA_6 U), rdI hq (by decide)]
    by_cases bt : ((H.D (um + 3) q >>> (nI c &&& 31)) &&& (1 : Int32)) = (1 : Int32)
    · rw [if_pos bt, rf_t (UP_7 U), rf_t b3, ck_t (TS TT), rf_t (TP_19 TT), ar_t (TA_19 TT), rdI (show m < 48 by omega) (by decide), (b13 m (by omega)).2, bC_t (gzo hGH hW h28), ar_t (UA_7 U), show (48 : Int32) * nI q + nI m = nI (48 * q + m) from nI_ma 48 q m, wrI (show 48 * q + m < 12288 by omega) (by decide), nI_1]
      have s1 : same (LDB um) H (H.sD (um + 4) (48 * q + m) 0) := same.rf.sD (.inr ⟨by omega, by omega⟩)
      obtain ⟨y, B2, z1, z2, z3⟩ := ih (m + 1) nB (by omega) (by omega) (H.sD (um + 4) (48 * q + m) 0) W hW (sH.tr s1) (by rw [rdw (by omega)]; exact h28)
      exact ⟨y, B2, z1, z2, s1.tr z3⟩
    · rw [if_neg bt]
      unfold B_M_getsPlaces_168
      rw [nI_1]
      exact hz H W hW sH h28
theorem zp_out {um q : Nat} {Nm : Nat → Nat → List Nat} {Pv : Nat → Nat → Int32} {A0 B0 : Hp} {δ : Type} {kq2 : Int32 → Hp → Option (Unit × Hp)} {KB : Unit → Hp → Option (δ × Hp)} (hE : WE E) (hN : 300 ≤ N) (hD : LDT p cs w M ty mn nu cd E Nm Pv um A0 B0) (hq : q < 256) (hz : ZK um B0 (fun H => bC (kq2 (nI (q + 1)) H) KB)) : ∀ j c nB, c + j = E 4 0 → j < nB → ZK um B0 (fun H => bC (B_M_getsPlaces_84 N 517 um kq2 nB (nI q) (nI c) H) KB) := by
  have e4 : E 4 0 ≤ 16 := hE.1
  have e48 := hE.2.2.2.1
  intro j
  induction j with
  | zero =>
    intro c nB hc hB H W hW sH h28
    obtain ⟨nB, rfl⟩ : ∃ y, nB = y + 1 := ⟨nB - 1, by omega⟩
    obtain ⟨-, hGH, ⟨-, ⟨-, ⟨b16, b12, b13, -⟩, -⟩, -, hwT, -⟩, -, b3⟩ := hD.fr hE same.rf sH
    have TT := gr_T hGH w hwT
    dsimp only
    rw [B_M_getsPlaces_84, ck_t (rS_517 hGH), rf_t b3, ck_t (TS TT), bnd_t, b16, if_pos (nI_le (by omega) (by omega)), nI_1]
    exact hz H W hW sH h28
  | succ j ih =>
    intro c nB hc hB H W hW sH h28
    obtain ⟨nB, rfl⟩ : ∃ y, nB = y + 1 := ⟨nB - 1, by omega⟩
    obtain ⟨-, hGH, ⟨-, ⟨-, ⟨b16, b12, b13, -⟩, -⟩, -, hwT, -⟩, -, b3⟩ := hD.fr hE same.rf sH
    have TT := gr_T hGH w hwT
    obtain ⟨m1, m2, m3⟩ := hE.2.2.1 c (by omega)
    dsimp only
    rw [B_M_getsPlaces_84, ck_t (rS_517 hGH), rf_t b3, ck_t (TS TT), bnd_t, b16, if_neg (nI_ge (by omega) (by omega)), rf_t b3, ck_t (TS TT), rf_t (TP_18 TT), ar_t (TA_18 TT), rdI (show c < 17 by omega) (by decide), b12 c (by omega)]
    exact zp_in (N := N) (kqB := fun l2 l3 H => B_M_getsPlaces_84 N 517 um kq2 nB l2 l3 H) hE hD (show c < E 4 0 by omega) hq (ih (c + 1) nB (by omega) (by omega)) (E 5 (c + 1) - E 5 c) (E 5 c) N (by omega) (by omega) H W hW sH h28
theorem pi_in {T um c q : Nat} {Nm : Nat → Nat → List Nat} {Pv : Nat → Nat → Int32} {A0 B0 : Hp} {γ δ : Type} {kqA : Int32 → Int32 → Hp → Option (Ot Unit × Hp)} {kq2 : Int32 → Hp → Option (Unit × Hp)} {kqB : Int32 → Int32 → Hp → Option (Unit × Hp)} {KA : Unit → Hp → Option (Ot γ × Hp)} {KB : Unit → Hp → Option (δ × Hp)} {Post : γ → Hp → δ → Hp → Prop} (hE : WE E) (hN : 300 ≤ N) (hD : LDT p cs w M ty mn nu cd E Nm Pv um A0 B0) (hc : c < E 4 0) (hq : q < 256) (al : Q 1 q = 1) (bt : Q 2 q / 2 ^ c % 2 = 1) (hz : ZK um B0 (fun H => bC (kqB (nI q) (nI (c + 1)) H) KB)) : ∀ j m nA nB A B, m + j = E 5 (c + 1) → E 5 c ≤ m → j < nA → j < nB → same LDA A0 A → same (LDB um) B0 B → (∃ x, RDS T x A B) → WRV A 19 B um E Q q m → (∀ A' B', same LDA A A' → same (LDB um) B B' → (∀ f, f ≠ 9 → A'.D 19 f = A.D 19 f) → (∀ f, B'.D um f = B.D um f) → (∃ x, RDS T x A' B') → WRV A' 19 B' um E Q q (E 5 (c + 1)) → LOut um A' B' (bT (kqA (nI (Q 2 q)) (nI (c + 1)) A') KA) (bC (kqB (nI q) (nI (c + 1)) B') KB) Post) → LOut um A B (bT (B_Store_readPlace_74 N 131 (p + 70) 19 (nI q) kqA nA (nI (Q 2 q)) (nI c) (nI m) A) KA) (bC (B_M_getsPlaces_106 N 517 um kq2 kqB nB (nI q) (nI c) (nI m) B) KB) Post := by
  have e4 : E 4 0 ≤ 16 := hE.1
  obtain ⟨m1, m2, m3⟩ := hE.2.2.1 c hc
  have e48 := hE.2.2.2.1
  have hu := lU_le hD.2.2.2.1
  intro j
  induction j with
  | zero =>
    intro m nA nB A B hm hm2 hA hB sA sB hR hV hk
    obtain ⟨nA, rfl⟩ : ∃ y, nA = y + 1 := ⟨nA - 1, by omega⟩
    obtain ⟨nB, rfl⟩ : ∃ y, nB = y + 1 := ⟨nB - 1, by omega⟩
    obtain ⟨hGA, hGB, ⟨⟨-, ⟨a3, a5, a6, -⟩, -⟩, ⟨-, ⟨b16, b12, b13, -⟩, -⟩, hp, hwT, -⟩, hum, b3⟩ := hD.fr hE sA sB
    have P := gr_P hGA hp
    have TT := gr_T hGB w hwT
    rw [B_Store_readPlace_74, ck_t (PrA_2 P), rf_t (PcP_2 P), ar_t (PcA_2 P), nI_1, rdI (show c + 1 < 17 by omega) (by decide), a5 (c + 1) (by omega), if_pos (nI_le (by omega) (by omega)), B_M_getsPlaces_106, ck_t (rS_517 hGB), rf_t b3, ck_t (TS TT), rf_t (TP_18 TT), ar_t (TA_18 TT), nI_1, rdI (show c + 1 < 17 by omega) (by decide), b12 (c + 1) (by omega), if_pos (nI_le (by omega) (by omega))]
    unfold B_Store_readPlace_115 B_M_getsPlaces_168
    rw [nI_1]
    have : m = E 5 (c + 1) := by omega
    rw [this] at hV
    exact hk A B same.rf same.rf (fun _ _ => rfl) (fun _ => rfl) hR hV
  | succ j ih =>
    intro m nA nB A B hm hm2 hA hB sA sB hR hV hk
    obtain ⟨nA, rfl⟩ : ∃ y, nA = y + 1 := ⟨nA - 1, by omega⟩
    obtain ⟨nB, rfl⟩ : ∃ y, nB = y + 1 := ⟨nB - 1, by omega⟩
    obtain ⟨hGA, hGB, ⟨⟨-, ⟨a3, a5, a6, -⟩, -⟩, ⟨-, ⟨b16, b12, b13, -⟩, -⟩, hp, hwT, -⟩, hum, b3⟩ := hD.fr hE sA sB
    have P := gr_P hGA hp
    have TT := gr_T hGB w hwT
    have U := gr_U hGB um hum
    have hM := PcM P m (by omega)
    have mE : m < E 5 (E 4 0) := by omega
    have hV' := hV
    obtain ⟨w1, w2, w3, w4, w5⟩ := hV
    have p5 := (w2 q hq).2.2.2.2 al
    have q2 := (w2 q hq).2.2.1
    rw [B_Store_readPlace_74, ck_t (PrA_2 P), rf_t (PcP_2 P), ar_t (PcA_2 P), nI_1, rdI (show c + 1 < 17 by omega) (by decide), a5 (c + 1) (by omega), if_neg (nI_ge (by omega) (by omega)), rf_t (PcP_1 P), ar_t (PcA_1 P), rdP (show m < 48 by omega) (by decide), rf_t hM.1, ck_t hM.2, bnd_t, (a6 m mE).2, ck_t (rS_131 hGA), bT_as, B_M_getsPlaces_106, ck_t (rS_517 hGB), rf_t b3, ck_t (TS TT), rf_t (TP_18 TT), ar_t (TA_18 TT), show nI c + (1 : Int32) = nI (c + 1) from nI_ad c 1, rdI (show c + 1 < 17 by omega) (by decide), b12 (c + 1) (by omega), if_neg (nI_ge (by omega) (by omega)), ck_t (US U), rf_t (UP_6 U), ar_t (UA_6 U), rdI hq (by decide), p5, if_pos ((nI_bit1 (by omega) (by omega)).mpr bt), rf_t (UP_7 U), rf_t b3, ck_t (TS TT), rf_t (TP_19 TT), ar_t (TA_19 TT), rdI (show m < 48 by omega) (by decide), (b13 m mE).2, bC_as]
    refine (rm_lo (N := N) (um := um) hN hGA hGB hR (hE.2.2.2.2.1 m mE)).bind (fun v A1 y B1 s1 s2 hp1 => ?_) (fun y H W hW sH h28 => ?_)
    · obtain ⟨rfl, r1, r2, hR1⟩ := hp1
      have hGA1 := s1.gr hGA
      have hGB1 := s2.gr hGB
      have W1 := gr_W hGA1 19 (by decide)
      have U1 := gr_U hGB1 um hum
      have hV1 := hV'.fr (A2 := A1) (B2 := B1) (fun a f z1 z2 => r1.1 _ _ (by unfold RDA; omega)) (fun a f z1 z2 => r2.1 _ _ (by unfold RDBb; omega))
      obtain ⟨v1, v2, v3, v4, v5⟩ := hV1
      have wd := v4.2.2 c m ⟨hc, hm2, by omega⟩
      rw [ck_t (WS W1), bC_t (ev_write W1 v4.1 v4.2.1 hq (show m < 48 by omega)), nI_1, ar_t (UA_7 U1), show (48 : Int32) * nI q + nI m = nI (48 * q + m) from nI_ma 48 q m, wrI (show 48 * q + m < 12288 by omega) (by decide)]
      have tA : same LDA A1 (A1.sD (19 + 3) (q * Q 5 0 + m) y) := same.rf.sD (.inr ⟨by omega, by omega⟩)
      have tB : same (LDB um) B1 (B1.sD (um + 4) (48 * q + m) y) := same.rf.sD (.inr ⟨by omega, by omega⟩)
      have gA : ∀ a f, a ≠ 22 → (A1.sD (19 + 3) (q * Q 5 0 + m) y).D a f = A1.D a f := fun a f z => rdw z
      have gB : ∀ a f, a ≠ um + 4 → (B1.sD (um + 4) (48 * q + m) y).D a f = B1.D a f := fun a f z => rdw z
      have hR2 : ∃ x, RDS T x (A1.sD (19 + 3) (q * Q 5 0 + m) y) (B1.sD (um + 4) (48 * q + m) y) := by
        obtain ⟨x, t0, t1, t2, t3, t4, t5, t6, t7⟩ := hR1
        exact ⟨x, t0, t1, by rw [gA _ _ (by omega)]; exact t2, by rw [gB _ _ (by omega)]; exact t3, by rw [gA _ _ (by omega)]; exact t4, by rw [gB _ _ (by omega)]; exact t5, by rw [gB _ _ (by omega)]; exact t6, fun i hi => by rw [gA _ _ (by omega), gB _ _ (by omega)]; exact t7 i hi⟩
      have hV2 : WRV (A1.sD (19 + 3) (q * Q 5 0 + m) y) 19 (B1.sD (um + 4) (48 * q + m) y) um E Q q (m + 1) := by
        refine ⟨fun x hx => by rw [gA _ _ (by omega), gA _ _ (by omega)]; exact v1 x hx, fun x hx => by rw [gB _ _ (by omega), gB _ _ (by omega), gB _ _ (by omega)]; exact v2 x hx, fun x c2 m2 y1 y2 y3 y4 y5 => ?_, ⟨by rw [gA _ _ (by omega)]; exact v4.1, v4.2⟩, ⟨by rw [gA _ _ (by omega)]; exact v5.1, v5.2⟩⟩
        have m2l := (mOf_lt hE y4).2.1
        by_cases k2 : x = q ∧ m2 = m
        · rw [k2.1, k2.2, rds, rds]
        · rw [rdf (fun y => k2 (ix_inj y wd (v4.2.2 c2 m2 y4))), rdf (fun y => k2 (by omega))]
          exact v3 x c2 m2 y1 y2 y3 y4 (fun z => by have := y5 z; omega)
      refine LOut.pre (ih (m + 1) nA nB _ _ (by omega) (by omega) (by omega) (by omega) ((sA.tr s1).tr tA) ((sB.tr s2).tr tB) hR2 hV2 (fun A' B' u1 u2 u3 u4 u5 u6 => hk A' B' ((s1.tr tA).tr u1) ((s2.tr tB).tr u2) (fun f hf => ?_) (fun f => ?_) u5 u6)) tA tB
      · rw [u3 f hf, gA _ _ (by omega), r1.1 _ _ (by unfold RDA; omega)]
      · rw [u4 f, gB _ _ (by omega), r2.1 _ _ (by unfold RDBb; omega)]
    · have hGH := sH.gr hGB
      have UH := gr_U hGH um hum
      rw [ar_t (UA_7 UH), show (48 : Int32) * nI q + nI m = nI (48 * q + m) from nI_ma 48 q m, wrI (show 48 * q + m < 12288 by omega) (by decide), nI_1]
      have s1 : same (LDB um) H (H.sD (um + 4) (48 * q + m) y) := same.rf.sD (.inr ⟨by omega, by omega⟩)
      obtain ⟨y2, B2, z1, z2, z3⟩ := zp_in (N := N) (kq2 := kq2) hE hD hc hq hz j (m + 1) nB (by omega) (by omega) (H.sD (um + 4) (48 * q + m) y) W hW ((sB.tr sH).tr s1) (by rw [rdw (by omega)]; exact h28)
      exact ⟨y2, B2, z1, z2, s1.tr z3⟩
end Par
