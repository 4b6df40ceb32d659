/-! ===== all pending events are read, both sides ===== -/
section Par
variable {N p wo inp cs w u ir M K0 : Nat} {s pl : Int32} {ty mn nu cd : Nat → Int32} {E Q : Nat → Nat → Nat} {V : Nat → Nat → Int32} {nL lc : Nat} {lk : Nat → Nat} {hd : Nat → Int32}
/-- once wrong, behind the event, the due tick, the target -/
theorem zd {um k e sz : Nat} {Nm : Nat → Nat → List Nat} {Pv : Nat → Nat → Int32} {A0 B0 : Hp} {δ : Type} {kq15 : Int32 → Hp → Option (Unit × Hp)} {KB : Unit → Hp → Option (δ × Hp)} (hE : WE E) (hN : 300 ≤ N) (hD : LDT p cs w M ty mn nu cd E Nm Pv um A0 B0) (hk : k < 256) (he : e < 8) (hsz : sz ≤ 4) (hev : B0.D (w + 16) e = nI sz) (hz : ZK um B0 (fun H => bC (kq15 (nI (k + 1)) H) KB)) (H : Hp) (W : Nat) (hW : W < 2 ^ 31) (sH : same (LDB um) B0 H) (h5 : H.D (um + 5) k = nI e) (h28 : H.D 517 28 = nI W) : (∃ y B2, bC (ar H 100 (um + 7) fun n42 => ck (inb (nI k) n42) <| bnd (H.sD (um + 7) ((nI k)).toNatClampNeg 0) fun H45 => B_M_getsPending_92 N 517 um kq15 N (nI k) 0 H45) KB = some (y, B2) ∧ B2.D 517 28 = nI W ∧ same (LDB um) H B2) ∧ (∃ y B2, bC (ar H 100 (um + 6) fun n33 => ck (inb (nI k) n33) <| bnd (H.sD (um + 6) ((nI k)).toNatClampNeg 0) fun H36 => rf (H36.P um 11) fun a37 => bC (F_M_gets N 517 (4 : Int32) ((-1) : Int32) (2147483647 : Int32) H36) fun v40 H41 => ar H41 100 a37 fun n42 => ck (inb (nI k) n42) <| bnd (H41.sD a37 ((nI k)).toNatClampNeg v40) fun H45 => B_M_getsPending_92 N 517 um kq15 N (nI k) 0 H45) KB = some (y, B2) ∧ B2.D 517 28 = nI W ∧ same (LDB um) H B2) := by
  have hum := hD.2.2.2.1
  have hu := lU_le hum
  have one : ∀ H, same (LDB um) B0 H → H.D (um + 5) k = nI e → H.D 517 28 = nI W → ∃ y B2, bC (ar H 100 (um + 7) fun n42 => ck (inb (nI k) n42) <| bnd (H.sD (um + 7) ((nI k)).toNatClampNeg 0) fun H45 => B_M_getsPending_92 N 517 um kq15 N (nI k) 0 H45) KB = some (y, B2) ∧ B2.D 517 28 = nI W ∧ same (LDB um) H B2 := fun H sH h5 h28 => by
    have hGH := sH.gr hD.2.1
    have U := gr_U hGH um hum
    rw [ar_t (UA_11 U), wrI hk (by decide)]
    have s1 : same (LDB um) H (H.sD (um + 7) k 0) := same.rf.sD (.inr ⟨by omega, by omega⟩)
    obtain ⟨y, B2, z1, z2, z3⟩ := z92 (N := N) (kq15 := kq15) hE hD hk he hsz hev hz sz 0 N (H.sD (um + 7) k 0) W (by omega) (by omega) hW (sH.tr s1) (by rw [rdw (by omega)]; exact h5) (by rw [rdw (by omega)]; exact h28)
    exact ⟨y, B2, z1, z2, s1.tr z3⟩
  refine ⟨one H sH h5 h28, ?_⟩
  have hGH := sH.gr hD.2.1
  have U := gr_U hGH um hum
  have s1 : same (LDB um) H (H.sD (um + 6) k 0) := same.rf.sD (.inr ⟨by omega, by omega⟩)
  have G1 := s1.gr hGH
  have U1 := gr_U G1 um hum
  have h1 : (H.sD (um + 6) k 0).D 517 28 = nI W := by rw [rdw (by omega)]; exact h28
  obtain ⟨y, B2, z1, z2, z3⟩ := one (H.sD (um + 6) k 0) (sH.tr s1) (by rw [rdw (by omega)]; exact h5) h1
  refine ⟨y, B2, ?_, z2, s1.tr z3⟩
  rw [ar_t (UA_10 U), wrI hk (by decide), rf_t (UP_11 U1), bC_t (gz G1 hW h1)]
  exact z1
theorem pv_out {T um cnt : Nat} {Nm : Nat → Nat → List Nat} {Pv : Nat → Nat → Int32} {A0 B0 : Hp} {γ δ : Type} {KA : Unit → Hp → Option (Ot γ × Hp)} {KB : Unit → Hp → Option (δ × Hp)} {Post : γ → Hp → δ → Hp → Prop} (hE : WE E) (hN : 300 ≤ N) (hD : LDT p cs w M ty mn nu cd E Nm Pv um A0 B0) (hc : cnt ≤ 256) (hEv : ∃ x, x ≤ 4 ∧ B0.D (w + 16) 0 = nI x) (hz : ZK um B0 (fun H => KB () H)) : ∀ j k nA nB A B, k + j = cnt → j < nA → j < nB → same LDA A0 A → same (LDB um) B0 B → (∃ x, RDS T x A B) → B.D um 8 = nI cnt → A.D 19 0 = B.D um 0 → (∀ i, i < k → PN1 A 19 B um E i) → (∀ A' B', same PVA A A' → same (PVB um) B B' → (∃ x, RDS T x A' B') → (∀ i, i < cnt → PN1 A' 19 B' um E i) → A'.D 19 13 = nI cnt → LOut um A' B' (KA () A') (KB () B') Post) → LOut um A B (bT (B_Store_readEvents_13 N 131 (p + 138) 19 nA (nI cnt) (nI k) A) KA) (bC (B_M_getsPending_15 N 517 um nB (nI k) B) KB) Post := by
  have e8 := hE.2.2.2.2.2.1
  have hum := hD.2.2.2.1
  have hu := lU_le hum
  intro j
  induction j with
  | zero =>
    intro k nA nB A B hk hA hB sA sB hR h8 ht hP hkk
    obtain ⟨nA, rfl⟩ : ∃ y, nA = y + 1 := ⟨nA - 1, by omega⟩
    obtain ⟨nB, rfl⟩ : ∃ y, nB = y + 1 := ⟨nB - 1, by omega⟩
    obtain ⟨hGA, hGB, -, -, -⟩ := hD.fr hE sA sB
    have W := gr_W hGA 19 (by decide)
    have U := gr_U hGB um hum
    have gA : ∀ a f, ¬ (a = 19 ∧ f = 13) → (A.sD 19 13 (nI cnt)).D a f = A.D a f := fun a f z => rdnn z
    obtain ⟨x, hR⟩ := hR
    rw [B_Store_readEvents_13, if_pos (nI_le (by omega) (by omega)), ck_t (WS W), bnd_t, bT_v, B_M_getsPending_15, ck_t (US U), bnd_t, h8, if_pos (nI_le (by omega) (by omega)), bC_v]
    have tA : same PVA A (A.sD 19 13 (nI cnt)) := same.rf.sD (.inr (.inr ⟨rfl, rfl⟩))
    refine LOut.pre (hkk (A.sD 19 13 (nI cnt)) B tA same.rf ⟨x, hR.fr (fun a f z => gA a f (by omega)) (fun _ _ _ => rfl)⟩ (fun i hi => ?_) rds) (tA.mono fun a f z => z.ld) same.rf
    obtain ⟨m0, m1, m2, m3, m4⟩ := hP i (by omega)
    exact ⟨by rw [gA _ _ (by omega)]; exact m0, by rw [gA _ _ (by omega)]; exact m1, by rw [gA _ _ (by omega)]; exact m2, fun e q y1 y2 y3 => by rw [gA _ _ (by omega)]; exact m3 e q y1 y2 y3, m4⟩
  | succ j ih =>
    intro k nA nB A B hk hA hB sA sB hR h8 ht hP hkk
    obtain ⟨nA, rfl⟩ : ∃ y, nA = y + 1 := ⟨nA - 1, by omega⟩
    obtain ⟨nB, rfl⟩ : ∃ y, nB = y + 1 := ⟨nB - 1, by omega⟩
    obtain ⟨n2, hn2⟩ : ∃ y, nB = y + 1 := ⟨nB - 1, by omega⟩
    obtain ⟨hGA, hGB, ⟨⟨-, -, ⟨a3, a11, a12, -⟩, -⟩, ⟨-, -, ⟨b21, b10, b17, -⟩, -⟩, hp, hwT, -⟩, -, b3⟩ := hD.fr hE sA sB
    have P := gr_P hGA hp
    have W := gr_W hGA 19 (by decide)
    have TT := gr_T hGB w hwT
    have U := gr_U hGB um hum
    have k6 : k < 256 := by omega
    have zk : ZK um B0 (fun H => bC (B_M_getsPending_15 N 517 um nB (nI (k + 1)) H) KB) := by rw [hn2]; exact z15 (N := N) hD hz
    have e7 : nI k * (7 : Int32) = nI (7 * k) := by rw [Nat.mul_comm]; exact nI_mu k 7
    obtain ⟨x0, hR0⟩ := hR
    have h28 := hR0.2.2.2.2.2.2.1
    rw [B_Store_readEvents_13, if_neg (nI_ge (by omega) (by omega)), e7, bnd_t, ck_t (PrA_3 P), bnd_t, a3, ck_t (rS_131 hGA), bT_as, B_M_getsPending_15, ck_t (US U), bnd_t, h8, if_neg (nI_ge (by omega) (by omega)), ck_t (rS_517 hGB), bnd_t, h28, if_neg (show ¬ (0 : Int32) ≤ -1 by decide), rf_t (UP_9 U), rf_t b3, ck_t (TS TT), bnd_t, b21, bC_as]
    refine (rn_raw (N := N) (k := 1) (lo := 0) (hi := nI (E 9 0) - 1) hN hGA hGB hR0 (by omega)).bd (fun v A1 y B1 r1 r2 hp1 => ?_) (fun H WW hW sH h28' => ?_)
    · obtain ⟨rfl, v1, v2, x1, hR1⟩ := hp1
      have m1 := nI_m1 (n := E 9 0) (by omega) y v1
      obtain ⟨e, he, rfl⟩ := nI_small (n := E 9 0) v1 (fun z => v2 (m1.mpr z)) (by omega)
      obtain ⟨q1, q2, q3⟩ := hE.2.2.2.2.2.2.2.1 e he
      have hev : B0.D (w + 16) e = nI (E 10 e) := hD.2.2.1.2.1.2.2.1.2.1 e he
      have hGA1 := r1.gr hGA
      have hGB1 := r2.gr hGB
      have W1 := gr_W hGA1 19 (by decide)
      have U1 := gr_U hGB1 um hum
      have pA1 : same PVA A A1 := r1.mono fun a f z => .inl z
      have pB1 : same (PVB um) B B1 := r2.mono fun a f z => .inl z
      have tA2 : same PVA A1 (A1.sD (19 + 4) (7 * k) (nI e)) := same.rf.sD (.inr (.inl rfl))
      have tB2 : same (PVB um) B1 (B1.sD (um + 5) k (nI e)) := same.rf.sD (.inr ⟨by omega, by omega⟩)
      have gA2 : ∀ a f, ¬ (a = 23 ∧ f = 7 * k) → (A1.sD (19 + 4) (7 * k) (nI e)).D a f = A1.D a f := fun a f z => rdnn z
      have gB2 : ∀ a f, ¬ (a = um + 5 ∧ f = k) → (B1.sD (um + 5) k (nI e)).D a f = B1.D a f := fun a f z => rdnn z
      have qA2 : (A1.sD (19 + 4) (7 * k) (nI e)).D 23 (7 * k) = nI e := rds
      have qB2 : (B1.sD (um + 5) k (nI e)).D (um + 5) k = nI e := rds
      have G2 : Gr (A1.sD (19 + 4) (7 * k) (nI e)) := hGA1.sD
      have H2 : Gr (B1.sD (um + 5) k (nI e)) := hGB1.sD
      rw [ck_t (WS W1), rf_t (WP_12 W1), ar_t (WA_12 W1), wrI (show 7 * k < 1792 by omega) (by decide), ar_t (UA_9 U1), wrI k6 (by decide)]
      generalize A1.sD (19 + 4) (7 * k) (nI e) = A2 at *
      generalize B1.sD (um + 5) k (nI e) = B2 at *
      have W2 := gr_W G2 19 (by decide)
      have U2 := gr_U H2 um hum
      have tk2 : A2.D 19 0 = B2.D um 0 := by rw [gA2 _ _ (by omega), gB2 _ _ (by omega), r1.1 _ _ (by unfold RDA; omega), r2.1 _ _ (by unfold RDBb; omega)]; exact ht
      have hR2 : RDS T x1 A2 B2 := hR1.fr (fun a f z => gA2 a f (by omega)) (fun a f z => gB2 a f (by omega))
      refine LOut.pre ?_ (tA2.mono fun a f z => z.ld) (tB2.mono fun a f z => z.ld)
      rw [rf_t (WP_12 W2), bnd_t, bnd_t, bT_as, rf_t (UP_10 U2), bnd_t, bnd_t, ← tk2, bC_as]
      refine (rn_raw (N := N) (k := 4) (lo := A2.D 19 0 + 1) (hi := A2.D 19 0 + 16) hN G2 H2 hR2 (by omega)).bd (fun v A3 y B3 r3 r4 hp3 => ?_) (fun H WW hW sH h28' => (zd (N := N) hE hN hD k6 (show e < 8 by omega) q1 hev zk H WW hW (((sB.tr (pB1.mono fun a f z => z.ld)).tr (tB2.mono fun a f z => z.ld)).tr (sH.mono fun a f z => .inl z)) (by rw [sH.1 _ _ (by unfold RDBb; omega)]; exact qB2) h28').2)
      obtain ⟨rfl, -, -, x3, hR3⟩ := hp3
      have hGA3 := r3.gr G2
      have hGB3 := r4.gr H2
      have W3 := gr_W hGA3 19 (by decide)
      have U3 := gr_U hGB3 um hum
      have pA3 : same PVA A2 A3 := r3.mono fun a f z => .inl z
      have pB3 : same (PVB um) B2 B3 := r4.mono fun a f z => .inl z
      have tA4 : same PVA A3 (A3.sD (19 + 4) (7 * k + 1) y) := same.rf.sD (.inr (.inl rfl))
      have tB4 : same (PVB um) B3 (B3.sD (um + 6) k y) := same.rf.sD (.inr ⟨by omega, by omega⟩)
      have gA4 : ∀ a f, ¬ (a = 23 ∧ f = 7 * k + 1) → (A3.sD (19 + 4) (7 * k + 1) y).D a f = A3.D a f := fun a f z => rdnn z
      have gB4 : ∀ a f, ¬ (a = um + 6 ∧ f = k) → (B3.sD (um + 6) k y).D a f = B3.D a f := fun a f z => rdnn z
      have qA4 : (A3.sD (19 + 4) (7 * k + 1) y).D 23 (7 * k + 1) = y := rds
      have qB4 : (B3.sD (um + 6) k y).D (um + 6) k = y := rds
      have G4 : Gr (A3.sD (19 + 4) (7 * k + 1) y) := hGA3.sD
      have H4 : Gr (B3.sD (um + 6) k y) := hGB3.sD
      rw [ar_t (WA_12 W3), nI_1, wrI (show 7 * k + 1 < 1792 by omega) (by decide), ar_t (UA_10 U3), wrI k6 (by decide)]
      generalize A3.sD (19 + 4) (7 * k + 1) y = A4 at *
      generalize B3.sD (um + 6) k y = B4 at *
      have W4 := gr_W G4 19 (by decide)
      have U4 := gr_U H4 um hum
      have hR4 : RDS T x3 A4 B4 := hR3.fr (fun a f z => gA4 a f (by omega)) (fun a f z => gB4 a f (by omega))
      have qB4' : B4.D (um + 5) k = nI e := by rw [gB4 _ _ (by omega), r4.1 _ _ (by unfold RDBb; omega)]; exact qB2
      refine LOut.pre ?_ (tA4.mono fun a f z => z.ld) (tB4.mono fun a f z => z.ld)
      rw [rf_t (WP_12 W4), bT_as, rf_t (UP_11 U4), bC_as]
      refine (rn_raw (N := N) (k := 4) (lo := -1) (hi := 2147483647) hN G4 H4 hR4 (by omega)).bd (fun v A5 y5 B5 r5 r6 hp5 => ?_) (fun H WW hW sH h28' => (zd (N := N) hE hN hD k6 (show e < 8 by omega) q1 hev zk H WW hW ((((((sB.tr (pB1.mono fun a f z => z.ld)).tr (tB2.mono fun a f z => z.ld)).tr (pB3.mono fun a f z => z.ld)).tr (tB4.mono fun a f z => z.ld))).tr (sH.mono fun a f z => .inl z)) (by rw [sH.1 _ _ (by unfold RDBb; omega)]; exact qB4') h28').1)
      obtain ⟨rfl, -, -, x5, hR5⟩ := hp5
      have hGA5 := r5.gr G4
      have hGB5 := r6.gr H4
      have W5 := gr_W hGA5 19 (by decide)
      have U5 := gr_U hGB5 um hum
      have pA5 : same PVA A4 A5 := r5.mono fun a f z => .inl z
      have pB5 : same (PVB um) B4 B5 := r6.mono fun a f z => .inl z
      have tA6 : same PVA A5 (A5.sD (19 + 4) (7 * k + 2) y5) := same.rf.sD (.inr (.inl rfl))
      have tB6 : same (PVB um) B5 (B5.sD (um + 7) k y5) := same.rf.sD (.inr ⟨by omega, by omega⟩)
      have gA6 : ∀ a f, ¬ (a = 23 ∧ f = 7 * k + 2) → (A5.sD (19 + 4) (7 * k + 2) y5).D a f = A5.D a f := fun a f z => rdnn z
      have gB6 : ∀ a f, ¬ (a = um + 7 ∧ f = k) → (B5.sD (um + 7) k y5).D a f = B5.D a f := fun a f z => rdnn z
      have qA6 : (A5.sD (19 + 4) (7 * k + 2) y5).D 23 (7 * k + 2) = y5 := rds
      have qB6 : (B5.sD (um + 7) k y5).D (um + 7) k = y5 := rds
      have G6 : Gr (A5.sD (19 + 4) (7 * k + 2) y5) := hGA5.sD
      rw [ar_t (WA_12 W5), show nI (7 * k) + (2 : Int32) = nI (7 * k + 2) from nI_ad _ 2, wrI (show 7 * k + 2 < 1792 by omega) (by decide), ar_t (UA_11 U5), wrI k6 (by decide)]
      generalize A5.sD (19 + 4) (7 * k + 2) y5 = A6 at *
      generalize B5.sD (um + 7) k y5 = B6 at *
      have sA6 : same PVA A A6 := ((((pA1.tr tA2).tr pA3).tr tA4).tr pA5).tr tA6
      have sB6 : same (PVB um) B B6 := ((((pB1.tr tB2).tr pB3).tr tB4).tr pB5).tr tB6
      have lA6 := sA6.mono fun a f (z : PVA a f) => z.ld
      have lB6 := sB6.mono fun a f (z : PVB um a f) => z.ld
      have oA : ∀ f, ¬ (7 * k ≤ f ∧ f ≤ 7 * k + 2) → A6.D 23 f = A.D 23 f := fun f z => by rw [gA6 _ _ (by omega), r5.1 _ _ (by unfold RDA; omega), gA4 _ _ (by omega), r3.1 _ _ (by unfold RDA; omega), gA2 _ _ (by omega), r1.1 _ _ (by unfold RDA; omega)]
      have oB : ∀ a f, um ≤ a → a ≤ um + 9 → f ≠ k ∨ a = um + 8 ∨ a = um → B6.D a f = B.D a f := fun a f z1 z2 z3 => by rw [gB6 _ _ (by omega), r6.1 _ _ (by unfold RDBb; omega), gB4 _ _ (by omega), r4.1 _ _ (by unfold RDBb; omega), gB2 _ _ (by omega), r2.1 _ _ (by unfold RDBb; omega)]
      have a60 : A6.D 23 (7 * k) = nI e := by rw [gA6 _ _ (by omega), r5.1 _ _ (by unfold RDA; omega), gA4 _ _ (by omega), r3.1 _ _ (by unfold RDA; omega)]; exact qA2
      have a61 : A6.D 23 (7 * k + 1) = y := by rw [gA6 _ _ (by omega), r5.1 _ _ (by unfold RDA; omega)]; exact qA4
      have b65 : B6.D (um + 5) k = nI e := by rw [gB6 _ _ (by omega), r6.1 _ _ (by unfold RDBb; omega)]; exact qB4'
      have b66 : B6.D (um + 6) k = y := by rw [gB6 _ _ (by omega), r6.1 _ _ (by unfold RDBb; omega)]; exact qB4
      have hR6 : RDS T x5 A6 B6 := hR5.fr (fun a f z => gA6 a f (by omega)) (fun a f z => gB6 a f (by omega))
      obtain ⟨-, -, ⟨⟨-, -, ⟨a36, a116, -⟩, -⟩, -⟩, -, -⟩ := hD.fr hE (sA.tr lA6) (sB.tr lB6)
      have P6 := gr_P G6 hp
      have esz : F_Shapes_sizeOf N (p + 138) (nI e) A6 = some (nI (E 11 (e + 1) - E 11 e), A6) := ev_sizeOf (fr := p + 181) (R := 9) (PrA_3 P6) (PeP_2 P6) (PeA_2 P6) (by decide) a36 (by omega) he (a116 e (by omega)) (a116 (e + 1) (by omega)) (by omega)
      rw [show E 11 (e + 1) - E 11 e = E 10 e by omega] at esz
      refine LOut.pre ?_ (tA6.mono fun a f z => z.ld) (tB6.mono fun a f z => z.ld)
      rw [bC_t esz]
      refine pv_in (N := N) (T := T) (k := k) (e := e) (cn := nI cnt) (kqA := fun l3 l4 H => B_Store_readEvents_13 N 131 (p + 138) 19 nA l3 l4 H) (kqB := fun l2 H => B_M_getsPending_15 N 517 um nB l2 H) hE hN hD k6 he zk (E 10 e) 0 N N A6 B6 (by omega) (by omega) (by omega) (sA.tr lA6) (sB.tr lB6) ⟨x5, hR6⟩ b65 (fun i hi => by omega) (fun A7 B7 u1 u2 u3 u4 => ?_)
      have uA : same PVA A6 A7 := u1.mono fun a f z => by rcases z with z | z; exact .inl z; exact .inr (.inl z.1)
      have uB : same (PVB um) B6 B7 := u2.mono fun a f z => by rcases z with z | z; exact .inl z; exact .inr (by omega)
      have vA : ∀ a f, ¬ (a = 131 ∧ (f = 2 ∨ f = 5)) → ¬ (a = 23 ∧ 7 * k + 3 ≤ f) → A7.D a f = A6.D a f := fun a f z1 z2 => u1.1 _ _ (by unfold RDA; omega)
      have vB : ∀ a f, ¬ (a = 517 ∧ (f = 27 ∨ f = 28)) → ¬ (a = um + 8 ∧ 4 * k ≤ f) → B7.D a f = B6.D a f := fun a f z1 z2 => u2.1 _ _ (by unfold RDBb; omega)
      refine ih (k + 1) nA nB A7 B7 (by omega) (by omega) (by omega) ((sA.tr lA6).tr (uA.mono fun a f z => z.ld)) ((sB.tr lB6).tr (uB.mono fun a f z => z.ld)) u3 (by rw [vB _ _ (by omega) (by omega), oB _ _ (by omega) (by omega) (by omega)]; exact h8) ?_ (fun i hi => ?_) (fun A' B' t1 t2 t3 t4 t5 => hkk A' B' ((sA6.tr uA).tr t1) ((sB6.tr uB).tr t2) t3 t4 t5)
      · rw [vA _ _ (by omega) (by omega), vB _ _ (by omega) (by omega), oB _ _ (by omega) (by omega) (by omega), gA6 _ _ (by omega), r5.1 _ _ (by unfold RDA; omega), gA4 _ _ (by omega), r3.1 _ _ (by unfold RDA; omega), gA2 _ _ (by omega), r1.1 _ _ (by unfold RDA; omega)]
        exact ht
      · by_cases z : i = k
        · subst z
          refine ⟨by rw [vA _ _ (by omega) (by omega), vB _ _ (by omega) (by omega), a60, b65], by rw [vA _ _ (by omega) (by omega), vB _ _ (by omega) (by omega), a61, b66], by rw [vA _ _ (by omega) (by omega), vB _ _ (by omega) (by omega), qA6, qB6], fun e2 q y1 y2 y3 => ?_, e, he, by rw [vB _ _ (by omega) (by omega)]; exact b65⟩
          rw [vB _ _ (by omega) (by omega), b65] at y1
          have ee : e = e2 := (nI_eq (by omega) (by omega)).mp y1
          rw [← ee] at y3
          exact u4 q y3
        · obtain ⟨m0, m1', m2, m3, m4⟩ := hP i (by omega)
          have f5 : B7.D (um + 5) i = B.D (um + 5) i := by rw [vB _ _ (by omega) (by omega), oB _ _ (by omega) (by omega) (by omega)]
          refine ⟨by rw [vA _ _ (by omega) (by omega), oA _ (by omega), f5]; exact m0, by rw [vA _ _ (by omega) (by omega), oA _ (by omega), vB _ _ (by omega) (by omega), oB _ _ (by omega) (by omega) (by omega)]; exact m1', by rw [vA _ _ (by omega) (by omega), oA _ (by omega), vB _ _ (by omega) (by omega), oB _ _ (by omega) (by omega) (by omega)]; exact m2, fun e2 q y1 y2 y3 => ?_, by rw [f5]; exact m4⟩
          rw [f5] at y1
          have q4 := (hE.2.2.2.2.2.2.2.1 e2 y2).1
          rw [vA _ _ (by omega) (by omega), oA _ (by omega), vB _ _ (by omega) (by omega), oB _ _ (by omega) (by omega) (by omega)]
          exact m3 e2 q y1 y2 y3
    · have hGH := sH.gr hGB
      have UH := gr_U hGH um hum
      have t1 : same (LDB um) H (H.sD (um + 5) k 0) := same.rf.sD (.inr ⟨by omega, by omega⟩)
      have G1 := t1.gr hGH
      have U1 := gr_U G1 um hum
      have h1 : (H.sD (um + 5) k 0).D 517 28 = nI WW := by rw [rdw (by omega)]; exact h28'
      obtain ⟨sz, hsz, hs0⟩ := hEv
      obtain ⟨y2, B2, z1, z2, z3⟩ := (zd (N := N) hE hN hD k6 (show 0 < 8 by omega) hsz hs0 zk (H.sD (um + 5) k 0) WW hW ((sB.tr (sH.mono fun a f z => .inl z)).tr t1) rds h1).2
      refine ⟨y2, B2, ?_, z2, t1.tr z3⟩
      rw [ar_t (UA_9 UH), wrI k6 (by decide), rf_t (UP_10 U1), bnd_t, bnd_t, bC_t (gz G1 hW h1)]
      exact z1
end Par
