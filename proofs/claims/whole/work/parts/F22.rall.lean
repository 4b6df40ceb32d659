/-! ===== the OUT is read as a whole, both sides ===== -/
def cNum (N p : Nat) (H35 : Hp) : Option (Ot Unit × Hp) :=
  bT (F_Store_readNumber N 131 (4 : Int32) (0 : Int32) (1000000000 : Int32) H35) fun v39 H40 =>
  bnd (H40.sD 19 0 v39) fun H43 =>
  bT (F_Store_readNumber N 131 (4 : Int32) ((-2147483648) : Int32) (2147483647 : Int32) H43) fun v45 H46 =>
  bnd (H46.sD 19 1 v45) fun H49 =>
  bT (F_Store_readNumber N 131 (4 : Int32) (0 : Int32) (1000000000 : Int32) H49) fun v51 H52 =>
  bnd (H52.sD 19 2 v51) fun H55 =>
  bT (F_Store_readNumber N 131 (4 : Int32) (0 : Int32) (1000000000 : Int32) H55) fun v57 H58 =>
  bnd (H58.sD 19 3 v57) fun H61 =>
  rsP N 131 p 19 N 0 H61
section Par
variable {N p wo inp cs w u ir M K0 : Nat} {s pl : Int32} {ty mn nu cd : Nat → Int32} {E Q : Nat → Nat → Nat} {V : Nat → Nat → Int32} {nL lc : Nat} {lk : Nat → Nat} {hd : Nat → Int32}
theorem nb_lo {T um f : Nat} {lo hi : Int32} {B0 A B : Hp} {γ : Type} {KA : Hp → Option (Ot γ × Hp)} {R : Hp → Option (Unit × Hp)} {Post : γ → Hp → Unit → Hp → Prop} (hN : 300 ≤ N) (hGA : Gr A) (hGB : Gr B) (hum : um ∈ lU) (sB : same (LDB um) B0 B) (hR : ∃ x, RDS T x A B) (hz : ZK um B0 R) (hk : ∀ v A' B', ¬ v < lo → ¬ hi < v → same LDA A A' → same (LDB um) B B' → (∃ x, RDS T x A' B') → A'.D 19 f = v → B'.D um f = v → (∀ a g, 19 ≤ a → a ≤ 24 → ¬ (a = 19 ∧ g = f) → A'.D a g = A.D a g) → (∀ a g, um ≤ a → a ≤ um + 9 → ¬ (a = um ∧ g = f) → B'.D a g = B.D a g) → LOut um A' B' (KA A') (R B') Post) : LOut um A B (bT (F_Store_readNumber N 131 (4 : Int32) lo hi A) fun v H => bnd (H.sD 19 f v) KA) (bC (F_M_gets N 517 (4 : Int32) lo hi B) fun v H => R (H.sD um f v)) Post := by
  have hu := lU_le hum
  obtain ⟨x0, hR0⟩ := hR
  refine (rn_lo (N := N) (k := 4) (lo := lo) (hi := hi) (um := um) hN hGA hGB hR0 (by omega)).bind (fun v A1 y B1 s1 s2 hp1 => ?_) (fun y => (zs hum hz).mv sB)
  obtain ⟨rfl, v1, v2, r1, r2, x1, hR1⟩ := hp1
  rw [bnd_t]
  have tA : same LDA A1 (A1.sD 19 f y) := same.rf.sD (.inr ⟨by omega, by omega⟩)
  have tB : same (LDB um) B1 (B1.sD um f y) := same.rf.sD (.inr ⟨by omega, by omega⟩)
  exact LOut.pre (hk y _ _ v1 v2 (s1.tr tA) (s2.tr tB) ⟨x1, hR1.fr (fun a g z => rdnn (by omega)) (fun a g z => rdnn (by omega))⟩ rds rds (fun a g z1 z2 z3 => by rw [rdnn z3, r1.1 _ _ (by unfold RDA; omega)]) (fun a g z1 z2 z3 => by rw [rdnn z3, r2.1 _ _ (by unfold RDBb; omega)])) tA tB
theorem restore_jo {T um wd : Nat} {Nm : Nat → Nat → List Nat} {Pv : Nat → Nat → Int32} {A0 B0 : Hp} (hE : WE E) (hN : 1000 ≤ N) (hD : LDT p cs w M ty mn nu cd E Nm Pv um A0 B0) (hEv : ∃ x, x ≤ 4 ∧ B0.D (w + 16) 0 = nI x) (hR : RDS T 0 A0 B0) (hV : WRV A0 19 B0 um E (Q0 wd) 256 0) (hs : A0.D 19 6 = 0 ∧ A0.D 19 15 = 0 ∧ B0.D um 13 = -1 ∧ B0.D um 16 = 0) : LOut um A0 B0 (rs0 N 131 p 19 A0) (gB N um B0) (fun _ A' _ B' => LPost E um A' B') := by
  have hum := hD.2.2.2.1
  have hu := lU_le hum
  have hp := hD.2.2.1.2.2.1
  have hwT := hD.2.2.1.2.2.2.1
  have e4 : E 4 0 ≤ 16 := hE.1
  have e8 := hE.2.2.2.2.2.1
  have z7' := z7 (N := N) hE (by omega) hD
  have z6 : ZK um B0 (Rq6 N um) := zg (N := N) hD.2.1 hum z7'
  have z5 : ZK um B0 (Rq5 N um) := zg (N := N) hD.2.1 hum z6
  have z4 : ZK um B0 (Rq4 N um) := zg (N := N) hD.2.1 hum z5
  have z3 : ZK um B0 (Rq3 N um) := zg (N := N) hD.2.1 hum z4
  obtain ⟨n3, hn3⟩ : ∃ y, N = y + 1 + 256 := ⟨N - 257, by omega⟩
  -- the numbers, the places
  have S3 : ∀ A B, same RDA A0 A → same RDBb B0 B → (∃ x, RDS T x A B) → LOut um A B (cNum N p A) (Rq3 N um B) (fun _ A' _ B' => LPost E um A' B') := fun A B rA rB hR => by
    have sA : same LDA A0 A := rA.mono fun a f z => .inl z
    have sB : same (LDB um) B0 B := rB.mono fun a f z => .inl z
    refine nb_lo (N := N) (um := um) (f := 0) (lo := 0) (hi := 1000000000) (by omega) (sA.gr hD.1) (sB.gr hD.2.1) hum sB hR z4 (fun v A1 B1 v1 v2 s1 s2 hR1 a1 b1 c1 d1 => ?_)
    obtain ⟨t, ht, rfl⟩ := nI_small (n := 1000000001) v1 (fun k => v2 (Decidable.byContradiction fun z => i32_nlt.mpr k ((i32_le (c := 1000000000) (by decide)).mp (i32_nlt.mp z)))) (by decide)
    refine nb_lo (N := N) (um := um) (f := 1) (lo := -2147483648) (hi := 2147483647) (by omega) ((sA.tr s1).gr hD.1) ((sB.tr s2).gr hD.2.1) hum (sB.tr s2) hR1 z5 (fun v A2 B2 _ _ s3 s4 hR2 a2 b2 c2 d2 => ?_)
    refine nb_lo (N := N) (um := um) (f := 2) (lo := 0) (hi := 1000000000) (by omega) (((sA.tr s1).tr s3).gr hD.1) (((sB.tr s2).tr s4).gr hD.2.1) hum ((sB.tr s2).tr s4) hR2 z6 (fun v3 A3 B3 _ _ s5 s6 hR3 a3 b3 c3 d3 => ?_)
    refine nb_lo (N := N) (um := um) (f := 3) (lo := 0) (hi := 1000000000) (by omega) ((((sA.tr s1).tr s3).tr s5).gr hD.1) ((((sB.tr s2).tr s4).tr s6).gr hD.2.1) hum (((sB.tr s2).tr s4).tr s6) hR3 z7' (fun v4 A4 B4 _ _ s7 s8 hR4 a4 b4 c4 d4 => ?_)
    have fA : ∀ a g, 19 ≤ a → a ≤ 24 → ¬ (a = 19 ∧ g < 4) → A4.D a g = A0.D a g := fun a g x1 x2 x3 => by rw [c4 _ _ x1 x2 (by omega), c3 _ _ x1 x2 (by omega), c2 _ _ x1 x2 (by omega), c1 _ _ x1 x2 (by omega), rA.1 _ _ (by unfold RDA; omega)]
    have fB : ∀ a g, um ≤ a → a ≤ um + 9 → ¬ (a = um ∧ g < 4) → B4.D a g = B0.D a g := fun a g x1 x2 x3 => by rw [d4 _ _ x1 x2 (by omega), d3 _ _ x1 x2 (by omega), d2 _ _ x1 x2 (by omega), d1 _ _ x1 x2 (by omega), rB.1 _ _ (by unfold RDBb; omega)]
    have hV4 : WRV A4 19 B4 um E (Q0 wd) 256 0 := hV.fr2 (fun a f y => fA a f (by omega) (by omega) (by omega)) (fun a f y1 y2 => fB a f (by omega) (by omega) (by omega))
    have z0 : ∀ x y, ¬ (x = 5 ∧ y = 0) → Q0 wd x y = 0 := fun x y h => if_neg h
    have sA4 := ((((sA.tr s1).tr s3).tr s5).tr s7)
    have sB4 := ((((sB.tr s2).tr s4).tr s6).tr s8)
    have pq := pq_lp (N := N) (T := T) (KB := fun _ H38 => Rq8 N um H38) (Post := fun _ A' _ B' => LPost E um A' B') hE (by omega) hD (z8 (by omega) hD) 256 0 n3 N A4 B4 (Q0 wd) (by omega) (by omega) sA4 sB4 hR4 hV4 (fun x _ _ y => by rw [z0 _ _ (by omega)] at y; exact absurd y (by decide)) (fun x _ => by rw [z0 _ _ (by omega)]; omega) (fun A5 B5 Q5 u1 u2 u3 u4 u5 u6 u7 => S8 (N := N) (Q := Q5) (t := t) hE (by omega) hD hEv (sA4.tr u1) (sB4.tr u2) u5 u6 u7 (by omega) ⟨by rw [u3 _ (by omega), c4 _ _ (by omega) (by omega) (by omega), c3 _ _ (by omega) (by omega) (by omega), c2 _ _ (by omega) (by omega) (by omega)]; exact a1, by rw [u4, d4 _ _ (by omega) (by omega) (by omega), d3 _ _ (by omega) (by omega) (by omega), d2 _ _ (by omega) (by omega) (by omega)]; exact b1⟩ (by rw [u3 _ (by omega), u4, c4 _ _ (by omega) (by omega) (by omega), c3 _ _ (by omega) (by omega) (by omega), d4 _ _ (by omega) (by omega) (by omega), d3 _ _ (by omega) (by omega) (by omega), a2, b2]) (by rw [u3 _ (by omega), u4, c4 _ _ (by omega) (by omega) (by omega), d4 _ _ (by omega) (by omega) (by omega), a3, b3]) (by rw [u3 _ (by omega), u4, a4, b4]) ⟨by rw [u3 _ (by omega), fA _ _ (by omega) (by omega) (by omega)]; exact hs.1, by rw [u3 _ (by omega), fA _ _ (by omega) (by omega) (by omega)]; exact hs.2.1, by rw [u4, fB _ _ (by omega) (by omega) (by omega)]; exact hs.2.2.1, by rw [u4, fB _ _ (by omega) (by omega) (by omega)]; exact hs.2.2.2⟩)
    rw [← hn3] at pq
    exact pq
  -- the events' shapes
  obtain ⟨n1, hn1⟩ : ∃ y, N = y + 1 + E 4 0 := ⟨N - 1 - E 4 0, by omega⟩
  have S2 : ∀ A B, same RDA A0 A → same RDBb B0 B → (∃ x, RDS T x A B) → LOut um A B (rf (A.P p 3) fun a31 => bT (F_Store_readShapes N 131 a31 A) fun _ H35 => cNum N p H35) (bC (B_M_getsTables_25 N 517 (n1 + 1) (nI (E 4 0)) B) fun _ H => Rq3 N um H) (fun _ A' _ B' => LPost E um A' B') ∧ ZK um B0 (fun H => bC (B_M_getsTables_25 N 517 (n1 + 1) (nI (E 4 0)) H) fun _ H => Rq3 N um H) := fun A B rA rB hR => by
    have sA : same LDA A0 A := rA.mono fun a f z => .inl z
    have sB : same (LDB um) B0 B := rB.mono fun a f z => .inl z
    obtain ⟨hGA, hGB, ⟨⟨-, -, ⟨a3, -⟩, -⟩, -⟩, -, -⟩ := hD.fr hE sA sB
    have P := gr_P hGA hp
    have eB : ∀ H, same (LDB um) B0 H → B_M_getsTables_25 N 517 (n1 + 1) (nI (E 4 0)) H = bC (F_M_getsExactly N 517 (nI (E 9 0)) H) fun _ H27 => B_M_getsTables_124 N 517 N (nI 0) H27 := fun H sH => by
      obtain ⟨-, hGH, ⟨-, ⟨-, ⟨b16, -⟩, ⟨b21, -⟩, -⟩, -, hwT, -⟩, -, b3⟩ := hD.fr hE same.rf sH
      have TT := gr_T hGH w hwT
      rw [B_M_getsTables_25, ck_t (rS_517 hGH), rf_t b3, ck_t (TS TT), bnd_t, b16, if_pos (nI_le (Nat.le_refl _) (by omega)), rf_t b3, ck_t (TS TT), bnd_t, b21]
      rfl
    have te : ∀ A' B', same RDA A0 A' → same RDBb B0 B' → (∃ x, RDS T x A' B') → _ := fun A' B' q1 q2 q3 => te_out (N := N) (T := T) (KA := fun _ H35 => cNum N p H35) (KB := fun _ H => Rq3 N um H) (Post := fun _ A' _ B' => LPost E um A' B') hE (by omega) hD (E 9 0) 0 N N A' B' (by omega) (by omega) (by omega) (q1.mono fun a f z => .inl z) (q2.mono fun a f z => .inl z) q3 (fun A2 B2 u1 u2 u3 => S3 A2 B2 (q1.tr u1) (q2.tr u2) u3) z3
    have zte := (te A0 B0 same.rf same.rf ⟨0, by assumption⟩).2
    have ztt : ZK um B0 (fun H => bC (B_M_getsTables_25 N 517 (n1 + 1) (nI (E 4 0)) H) fun _ H => Rq3 N um H) := fun H W hW sH h28 => by
      dsimp only
      rw [eB H sH, bC_as, bC_t (gzx (sH.gr hD.2.1) hW h28)]
      exact zte H W hW sH h28
    refine ⟨?_, ztt⟩
    rw [eB B sB, bC_as, rf_t (PrP_3 P)]
    unfold F_Store_readShapes
    rw [ck_t (PrA_3 P), bnd_t, bnd_t, a3, ck_t (rS_131 hGA), bT_as]
    exact ex_lo (N := N) (by omega) hGA hGB hR (fun x A' B' q1 q2 q3 => (te A' B' (rA.tr q1) (rB.tr q2) q3).1) (zte.mv sB)
  -- the components' shapes
  have ti : ∀ A' B', same RDA A0 A' → same RDBb B0 B' → (∃ x, RDS T x A' B') → _ := fun A' B' q1 q2 q3 => ti_out (N := N) (T := T) (KA := fun _ H28 => rf (H28.P p 3) fun a31 => bT (F_Store_readShapes N 131 a31 H28) fun _ H35 => cNum N p H35) (KB := fun _ H => Rq3 N um H) (Post := fun _ A' _ B' => LPost E um A' B') hE (by omega) hD (E 4 0) 0 N n1 A' B' (by omega) (by omega) (q1.mono fun a f z => .inl z) (q2.mono fun a f z => .inl z) q3 (fun A2 B2 u1 u2 u3 => (S2 A2 B2 (q1.tr u1) (q2.tr u2) u3).1) (S2 A0 B0 same.rf same.rf ⟨0, hR⟩).2
  rw [← hn1] at ti
  have zti := (ti A0 B0 same.rf same.rf ⟨0, hR⟩).2
  have eG : gB N um B0 = bC (F_M_getsExactly N 517 87 B0) fun _ H4 => bC (F_M_getsExactly N 517 69 H4) fun _ H7 => bC (rf (H7.P 517 3) fun a8 => ck (H7.sh[a8]? = some (14, 0)) <| bnd ((H7.D a8 16)) fun x11 => bC (F_M_getsExactly N 517 x11 H7) fun _ H14 => B_M_getsTables_25 N 517 N 0 H14) fun _ H => Rq3 N um H := by
    unfold gB F_M_getsTables
    rw [ck_t (rS_517 hD.2.1), bC_as]
    simp only [bC_as]
  have eT : ∀ H, same (LDB um) B0 H → (bC (rf (H.P 517 3) fun a8 => ck (H.sh[a8]? = some (14, 0)) <| bnd ((H.D a8 16)) fun x11 => bC (F_M_getsExactly N 517 x11 H) fun _ H14 => B_M_getsTables_25 N 517 N 0 H14) fun _ H => Rq3 N um H) = bC (F_M_getsExactly N 517 (nI (E 4 0)) H) fun _ H14 => bC (B_M_getsTables_25 N 517 N (nI 0) H14) fun _ H => Rq3 N um H := fun H sH => by
    obtain ⟨-, hGH, ⟨-, ⟨-, ⟨b16, -⟩, -⟩, -, hwT, -⟩, -, b3⟩ := hD.fr hE same.rf sH
    have TT := gr_T hGH w hwT
    rw [rf_t b3, ck_t (TS TT), bnd_t, b16, bC_as]
    rfl
  have zT : ZK um B0 (fun H => bC (rf (H.P 517 3) fun a8 => ck (H.sh[a8]? = some (14, 0)) <| bnd ((H.D a8 16)) fun x11 => bC (F_M_getsExactly N 517 x11 H) fun _ H14 => B_M_getsTables_25 N 517 N 0 H14) fun _ H => Rq3 N um H) := fun H W hW sH h28 => by
    dsimp only
    rw [eT H sH, bC_t (gzx (sH.gr hD.2.1) hW h28)]
    exact zti H W hW sH h28
  rw [eG]
  unfold rs0
  refine ex_lo (N := N) (by omega) hD.1 hD.2.1 ⟨0, hR⟩ (fun x1 A1 B1 q1 q2 q3 => ?_) (fun H W hW sH h28 => ?_)
  · refine ex_lo (N := N) (by omega) (q1.gr hD.1) (q2.gr hD.2.1) q3 (fun x2 A2 B2 q4 q5 q6 => ?_) (zT.mv (q2.mono fun a f z => .inl z))
    have rA := q1.tr q4
    have rB := q2.tr q5
    have sA : same LDA A0 A2 := rA.mono fun a f z => .inl z
    have sB : same (LDB um) B0 B2 := rB.mono fun a f z => .inl z
    obtain ⟨hGA, hGB, ⟨⟨-, ⟨a3, -⟩, -⟩, -⟩, -, -⟩ := hD.fr hE sA sB
    have P := gr_P hGA hp
    rw [eT B2 sB, rf_t (PrP_2 P)]
    have eS : F_Store_readShapes N 131 (p + 70) A2 = bT (F_Store_readNumber N 131 1 (nI (E 4 0)) (nI (E 4 0)) A2) fun _ H7 => B_Store_readShapes_16 N 131 (p + 70) N (nI 0) H7 := by
      unfold F_Store_readShapes
      rw [ck_t (PrA_2 P), bnd_t, bnd_t, a3, ck_t (rS_131 hGA)]
      rfl
    rw [eS, bT_as]
    exact ex_lo (N := N) (by omega) hGA hGB q6 (fun x3 A3 B3 q7 q8 q9 => (ti A3 B3 (rA.tr q7) (rB.tr q8) q9).1) (zti.mv sB)
  · rw [bC_t (gzx (sH.gr hD.2.1) hW h28)]
    exact zT H W hW sH h28
end Par
