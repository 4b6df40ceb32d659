/-! ===== a place is read, both sides ===== -/
section Par
variable {N p wo inp cs w u ir M K0 : Nat} {s pl : Int32} {ty mn nu cd : Nat → Int32} {E Q : Nat → Nat → Nat} {V : Nat → Nat → Int32} {nL lc : Nat} {lk : Nat → Nat} {hd : Nat → Int32}
theorem z81 {um q : Nat} {v : Int32} {Nm : Nat → Nat → List Nat} {Pv : Nat → Nat → Int32} {A0 B0 : Hp} {δ : Type} {kq2 : Int32 → Hp → Option (Unit × Hp)} {KB : Unit → Hp → Option (δ × Hp)} (hE : WE E) (hN : 300 ≤ N) (hD : LDT p cs w M ty mn nu cd E Nm Pv um A0 B0) (q6 : q < 256) (hz : ZK um B0 (fun H => bC (kq2 (nI (q + 1)) H) KB)) : ZK um B0 (fun H => bC (B_M_getsPlaces_81 N 517 um kq2 (nI q) (um + 3) (nI q) v H) KB) := fun H W hW sH h28 => by
  have hum := hD.2.2.2.1
  have hu := lU_le hum
  have e4 : E 4 0 ≤ 16 := hE.1
  have hGH := sH.gr hD.2.1
  have U := gr_U hGH um hum
  have s3 : same (LDB um) H (H.sD (um + 3) q v) := same.rf.sD (.inr ⟨by omega, by omega⟩)
  dsimp only
  unfold B_M_getsPlaces_81
  rw [ar_t (UA_6 U), wrI q6 (by decide)]
  obtain ⟨y, B2, z1, z2, z3⟩ := zp_out (N := N) (kq2 := kq2) hE hN hD q6 hz (E 4 0) 0 N (by omega) (by omega) _ W hW (sH.tr s3) (by rw [rdw (by omega)]; exact h28)
  exact ⟨y, B2, z1, z2, s3.tr z3⟩
theorem z45 {um q : Nat} {v : Int32} {Nm : Nat → Nat → List Nat} {Pv : Nat → Nat → Int32} {A0 B0 : Hp} {δ : Type} {kq2 : Int32 → Hp → Option (Unit × Hp)} {KB : Unit → Hp → Option (δ × Hp)} (hE : WE E) (hN : 300 ≤ N) (hD : LDT p cs w M ty mn nu cd E Nm Pv um A0 B0) (q6 : q < 256) (hz : ZK um B0 (fun H => bC (kq2 (nI (q + 1)) H) KB)) (hv : v = 0 ∨ v = 1) : ZK um B0 (fun H => bC (B_M_getsPlaces_45 N 517 um kq2 (nI q) (um + 2) (nI q) v H) KB) := fun H W hW sH h28 => by
  have hum := hD.2.2.2.1
  have hu := lU_le hum
  have hGH := sH.gr hD.2.1
  have U := gr_U hGH um hum
  have s3 : same (LDB um) H (H.sD (um + 2) q v) := same.rf.sD (.inr ⟨by omega, by omega⟩)
  have nv : vp_nar .boolean v = v := by rcases hv with rfl | rfl <;> rfl
  have G1 : Gr (H.sD (um + 2) q v) := hGH.sD
  have U1 := gr_U G1 um hum
  have h1 : (H.sD (um + 2) q v).D 517 28 = nI W := by rw [rdw (by omega)]; exact h28
  obtain ⟨-, -, ⟨-, ⟨-, ⟨b16, b12, b13, -⟩, -⟩, -, hwT, -⟩, -, b3⟩ := hD.fr hE same.rf (sH.tr s3)
  have TT := gr_T G1 w hwT
  have dn : ∃ y B2, bC (B_M_getsPlaces_81 N 517 um kq2 (nI q) (um + 3) (nI q) 0 (H.sD (um + 2) q v)) KB = some (y, B2) ∧ B2.D 517 28 = nI W ∧ same (LDB um) (H.sD (um + 2) q v) B2 := z81 (N := N) (v := 0) hE hN hD q6 hz _ W hW (sH.tr s3) h1
  obtain ⟨y, B2, z1, z2, z3⟩ := dn
  refine ⟨y, B2, ?_, z2, s3.tr z3⟩
  dsimp only
  unfold B_M_getsPlaces_45
  rw [ar_t (UA_5 U), wrI q6 (by decide), nv, ck_t (US U1), rf_t (UP_6 U1), rf_t (UP_5 U1), ar_t (UA_5 U1), rdI q6 (by decide), rds]
  rcases hv with rfl | rfl
  · rw [if_pos rfl]
    exact z1
  · rw [if_neg (by decide), ck_t (rS_517 G1), rf_t b3, ck_t (TS TT), bnd_t, bC_t (gz G1 hW h1)]
    exact z1
/-- places -/
theorem pq_lp {T um : Nat} {Nm : Nat → Nat → List Nat} {Pv : Nat → Nat → Int32} {A0 B0 : Hp} {δ : Type} {KB : Unit → Hp → Option (δ × Hp)} {Post : Unit → Hp → δ → Hp → Prop} (hE : WE E) (hN : 300 ≤ N) (hD : LDT p cs w M ty mn nu cd E Nm Pv um A0 B0) (hz : ZK um B0 (fun H => KB () H)) : ∀ j q nA nB A B Q, q + j = 256 → j < nB → same LDA A0 A → same (LDB um) B0 B → (∃ x, RDS T x A B) → WRV A 19 B um E Q 256 0 → (∀ x, q ≤ x → x < 256 → Q 1 x ≠ 1) → (∀ x, x < 256 → Q 0 x ≤ 8000000) → (∀ A' B' Q', same LDA A A' → same (LDB um) B B' → (∀ f, f ≠ 9 → A'.D 19 f = A.D 19 f) → (∀ f, B'.D um f = B.D um f) → (∃ x, RDS T x A' B') → WRV A' 19 B' um E Q' 256 0 → (∀ x, x < 256 → Q' 0 x ≤ 8000000) → LOut um A' B' (rsP N 131 p 19 (nA + 1) (nI 256) A') (KB () B') Post) → LOut um A B (rsP N 131 p 19 (nA + 1 + j) (nI q) A) (bC (B_M_getsPlaces_2 N 517 um nB (nI q) B) KB) Post := by
  have e4 : E 4 0 ≤ 16 := hE.1
  have e48 := hE.2.2.2.1
  have e50 := hE.2.1
  have hu := lU_le hD.2.2.2.1
  have hum := hD.2.2.2.1
  intro j
  induction j with
  | zero =>
    intro q nA nB A B Q hq hB sA sB hR hV hd hg hk
    obtain ⟨nB, rfl⟩ : ∃ y, nB = y + 1 := ⟨nB - 1, by omega⟩
    have : q = 256 := by omega
    subst this
    rw [B_M_getsPlaces_2, if_pos (show (256 : Int32) ≤ nI 256 by decide), bC_v]
    exact hk A B Q same.rf same.rf (fun _ _ => rfl) (fun _ => rfl) hR hV hg
  | succ j ih =>
    intro q nA nB A B Q hq hB sA sB hR hV hd hg hk
    obtain ⟨nB, rfl⟩ : ∃ y, nB = y + 1 := ⟨nB - 1, by omega⟩
    have q6 : q < 256 := by omega
    obtain ⟨hGA, hGB, ⟨-, -, hp, hwT, -⟩, -, b3⟩ := hD.fr hE sA sB
    have P := gr_P hGA hp
    have W := gr_W hGA 19 (by decide)
    have U := gr_U hGB um hum
    have zk2 : ZK um B0 (fun H => bC (B_M_getsPlaces_2 N 517 um nB (nI (q + 1)) H) KB) := zq (N := N) hE hN hD hz j (q + 1) nB (by omega) (by omega)
    have nal := hd q (Nat.le_refl _) q6
    rw [show nA + 1 + (j + 1) = nA + 1 + j + 1 by omega, rsP, if_neg (show ¬ (256 : Int32) ≤ nI q from nI_ge (b := 256) (by omega) (by decide)), ck_t (PrS P), rf_t (PrP_2 P), ck_t (rS_131 hGA), nI_1]
    unfold F_Store_readPlace
    rw [ck_t (WS W), rf_t (WP_7 W), ck_t (rS_131 hGA), bT_as, B_M_getsPlaces_2, if_neg (show ¬ (256 : Int32) ≤ nI q from nI_ge (b := 256) (by omega) (by decide)), ck_t (US U), rf_t (UP_4 U), ck_t (rS_517 hGB), bC_as]
    obtain ⟨x0, hR0⟩ := hR
    refine (rn_lo (N := N) (k := 4) (lo := 0) (hi := 8000000) (um := um) hN hGA hGB hR0 (by omega)).bind (fun v A1 y B1 s1 s2 hp1 => ?_) (fun y H WW hW sH h28 => ?_)
    · obtain ⟨rfl, v1, v2, r1, r2, hR1⟩ := hp1
      obtain ⟨g, hg8, rfl⟩ := nI_small (n := 8000001) v1 (fun k => v2 (Decidable.byContradiction fun z => i32_nlt.mpr k ((i32_le (c := 8000000) (by decide)).mp (i32_nlt.mp z)))) (by decide)
      have hGA1 := s1.gr hGA
      have hGB1 := s2.gr hGB
      have W1 := gr_W hGA1 19 (by decide)
      have U1 := gr_U hGB1 um hum
      have hV1 := hV.fr (A2 := A1) (B2 := B1) (fun a f z1 z2 => r1.1 _ _ (by unfold RDA; omega)) (fun a f z1 z2 => r2.1 _ _ (by unfold RDBb; omega))
      have tA : same LDA A1 (A1.sD (19 + 1) q (nI g)) := same.rf.sD (.inr ⟨by omega, by omega⟩)
      have tB : same (LDB um) B1 (B1.sD (um + 1) q (nI g)) := same.rf.sD (.inr ⟨by omega, by omega⟩)
      have gA : ∀ a f, ¬ (a = 20 ∧ f = q) → (A1.sD (19 + 1) q (nI g)).D a f = A1.D a f := fun a f z => rdnn z
      have gB : ∀ a f, ¬ (a = um + 1 ∧ f = q) → (B1.sD (um + 1) q (nI g)).D a f = B1.D a f := fun a f z => rdnn z
      have gq : (A1.sD (19 + 1) q (nI g)).D 20 q = nI g := rds
      have hq' : (B1.sD (um + 1) q (nI g)).D (um + 1) q = nI g := rds
      have G2 : Gr (A1.sD (19 + 1) q (nI g)) := hGA1.sD
      have H2 : Gr (B1.sD (um + 1) q (nI g)) := hGB1.sD
      rw [ar_t (WA_7 W1), wrI q6 (by decide), bT_as, ar_t (UA_4 U1), wrI q6 (by decide)]
      generalize A1.sD (19 + 1) q (nI g) = A2 at *
      generalize B1.sD (um + 1) q (nI g) = B2 at *
      have U2 := gr_U H2 um hum
      -- the place with its generation
      have o0 : ∀ x, x ≠ q → upR Q 0 q g 0 x = Q 0 x := fun x z => upR_n z
      have s0 : upR Q 0 q g 0 q = g := upR_s
      have oo : ∀ x, x ≠ 0 → upR Q 0 q g x = Q x := fun x z => upR_o z
      generalize upR Q 0 q g = Q1 at o0 s0 oo
      have hV2 : WRV A2 19 B2 um E Q1 256 0 := by
        obtain ⟨u1, u2, u3, u4, u5⟩ := hV1
        unfold WRV PPL PPB
        rw [oo 1 (by decide), oo 2 (by decide), oo 5 (by decide)]
        refine ⟨fun x hx => ?_, fun x hx => ?_, fun x c m y1 y2 y3 y4 y5 => by rw [gA _ _ (by omega), gB _ _ (by omega)]; exact u3 x c m y1 y2 y3 y4 y5, ⟨by rw [gA _ _ (by omega)]; exact u4.1, u4.2⟩, ⟨by rw [gA _ _ (by omega)]; exact u5.1, u5.2⟩⟩
        · obtain ⟨k1, k2, k3, k4⟩ := u1 x hx
          rw [gA (19 + 2) x (by omega)]
          by_cases z : x = q
          · subst z
            rw [s0, gq]
            exact ⟨rfl, by omega, k3, k4⟩
          · rw [o0 x z, gA _ _ (by omega)]
            exact ⟨k1, k2, k3, k4⟩
        · obtain ⟨k1, k2, k3, k4, k5⟩ := u2 x hx
          rw [gB (um + 2) x (by omega), gB (um + 3) x (by omega)]
          by_cases z : x = q
          · subst z
            rw [s0, hq']
            exact ⟨rfl, by omega, k3, k4, k5⟩
          · rw [o0 x z, gB _ _ (by omega)]
            exact ⟨k1, k2, k3, k4, k5⟩
      have hg1 : ∀ x, x < 256 → Q1 0 x ≤ 8000000 := fun x hx => by
        by_cases z : x = q
        · rw [z, s0]; omega
        · rw [o0 x z]; exact hg x hx
      obtain ⟨x1, hR1'⟩ := hR1
      have hR2 : RDS T x1 A2 B2 := hR1'.fr (fun a f z => gA a f (by omega)) (fun a f z => gB a f (by omega))
      have fA2 : ∀ f, A2.D 19 f = A.D 19 f := fun f => by rw [gA _ _ (by omega), r1.1 _ _ (by unfold RDA; omega)]
      have fB2 : ∀ f, B2.D um f = B.D um f := fun f => by rw [gB _ _ (by omega), r2.1 _ _ (by unfold RDBb; omega)]
      have sA2 : same LDA A A2 := s1.tr tA
      have sB2 : same (LDB um) B B2 := s2.tr tB
      refine LOut.pre ?_ tA tB
      rw [rf_t (UP_5 U2), bC_as]
      refine (rn_lo (N := N) (k := 1) (lo := 0) (hi := 1) (um := um) hN G2 H2 hR2 (by omega)).bind (fun v A3 y B3 s3 s4 hp3 => ?_) (fun y H WW hW sH h28 => ?_)
      · obtain ⟨rfl, v3, v4, r3, r4, x3, hR3⟩ := hp3
        obtain ⟨bb, hbb, rfl⟩ := nI_small (n := 2) v3 (fun k => v4 (Decidable.byContradiction fun z => i32_nlt.mpr k ((i32_le (c := 1) (by decide)).mp (i32_nlt.mp z)))) (by decide)
        have G3 := s3.gr G2
        have H3 := s4.gr H2
        have U3 := gr_U H3 um hum
        have W3 := gr_W G3 19 (by decide)
        have hV3 := hV2.fr (A2 := A3) (B2 := B3) (fun a f z1 z2 => r3.1 _ _ (by unfold RDA; omega)) (fun a f z1 z2 => r4.1 _ _ (by unfold RDBb; omega))
        have fA3 : ∀ f, A3.D 19 f = A.D 19 f := fun f => by rw [r3.1 _ _ (by unfold RDA; omega)]; exact fA2 f
        have fB3 : ∀ f, B3.D um f = B.D um f := fun f => by rw [r4.1 _ _ (by unfold RDBb; omega)]; exact fB2 f
        by_cases c0 : bb = 0
        · -- no entity
          subst c0
          rw [if_pos (show nI 0 = (0 : Int32) from rfl), bT_v, if_neg (show ¬ nI 0 = (1 : Int32) by decide)]
          have K1 : Gr (B3.sD (um + 2) q 0) := H3.sD
          have UK := gr_U K1 um hum
          have tC : same (LDB um) B3 ((B3.sD (um + 2) q 0).sD (um + 3) q 0) := (same.rf.sD (.inr ⟨by omega, by omega⟩)).sD (.inr ⟨by omega, by omega⟩)
          have gC : ∀ a f, ¬ (a = um + 2 ∧ f = q) → ¬ (a = um + 3 ∧ f = q) → ((B3.sD (um + 2) q 0).sD (um + 3) q 0).D a f = B3.D a f := fun a f z1 z2 => by rw [rdnn z2, rdnn z1]
          have c2q : ((B3.sD (um + 2) q 0).sD (um + 3) q 0).D (um + 2) q = 0 := by rw [rdw (by omega), rds]
          have c3q : ((B3.sD (um + 2) q 0).sD (um + 3) q 0).D (um + 3) q = nI 0 := rds
          have ee : B_M_getsPlaces_45 N 517 um (fun l2 H => B_M_getsPlaces_2 N 517 um nB l2 H) (nI q) (um + 2) (nI q) 0 B3 = B_M_getsPlaces_84 N 517 um (fun l2 H => B_M_getsPlaces_2 N 517 um nB l2 H) N (nI q) (nI 0) ((B3.sD (um + 2) q 0).sD (um + 3) q 0) := by
            unfold B_M_getsPlaces_45
            rw [ar_t (UA_5 U3), wrI q6 (by decide), show vp_nar .boolean (0 : Int32) = (0 : Int32) from rfl, ck_t (US UK), rf_t (UP_6 UK), rf_t (UP_5 UK), ar_t (UA_5 UK), rdI q6 (by decide), rds, if_pos rfl]
            unfold B_M_getsPlaces_81
            rw [ar_t (UA_6 UK), wrI q6 (by decide)]
            rfl
          rw [ee, dd_out (N := N) (kq2 := fun l2 H => B_M_getsPlaces_2 N 517 um nB l2 H) hE hN hD q6 (((sB.tr sB2).tr s4).tr tC) c3q (E 4 0) 0 N (by omega) (by omega)]
          generalize (B3.sD (um + 2) q 0).sD (um + 3) q 0 = B4 at *
          have hV4 : WRV A3 19 B4 um E Q1 256 0 := by
            obtain ⟨u1, u2, u3, u4, u5⟩ := hV3
            refine ⟨u1, fun x hx => ?_, fun x c m y1 y2 y3 y4 y5 => by rw [gC _ _ (by omega) (by omega)]; exact u3 x c m y1 y2 y3 y4 y5, u4, u5⟩
            obtain ⟨k1, k2, k3, k4, k5⟩ := u2 x hx
            rw [gC (um + 1) x (by omega) (by omega)]
            by_cases z : x = q
            · rw [z, c2q, oo 1 (by decide), if_neg nal]
              rw [z] at k1 k2 k3
              exact ⟨k1, k2, k3, rfl, fun y => absurd y nal⟩
            · rw [gC _ _ (by omega) (by omega), gC _ _ (by omega) (by omega)]
              exact ⟨k1, k2, k3, k4, k5⟩
          refine LOut.pre (ih (q + 1) nA nB A3 B4 Q1 (by omega) (by omega) ((sA.tr sA2).tr s3) (((sB.tr sB2).tr s4).tr tC) ⟨x3, hR3.fr (fun _ _ _ => rfl) (fun a f z => gC a f (by omega) (by omega))⟩ hV4 (fun x z1 z2 => by rw [oo 1 (by decide)]; exact hd x (by omega) z2) hg1 (fun A' B' Q' t1 t2 t3 t4 t5 t6 t7 => hk A' B' Q' ((sA2.tr s3).tr t1) (((sB2.tr s4).tr tC).tr t2) (fun f hf => by rw [t3 f hf]; exact fA3 f) (fun f => by rw [t4 f, gC _ _ (by omega) (by omega)]; exact fB3 f) t5 t6 t7)) same.rf tC
        · -- an entity
          have c1 : bb = 1 := by omega
          subst c1
          have P3 := gr_P G3 hp
          obtain ⟨-, -, ⟨⟨-, ⟨a3, -⟩, -⟩, -⟩, -, -⟩ := hD.fr hE ((sA.tr sA2).tr s3) ((sB.tr sB2).tr s4)
          have tC : same (LDB um) B3 (B3.sD (um + 2) q 1) := same.rf.sD (.inr ⟨by omega, by omega⟩)
          have K1 : Gr (B3.sD (um + 2) q 1) := H3.sD
          have UK := gr_U K1 um hum
          have gC : ∀ a f, ¬ (a = um + 2 ∧ f = q) → (B3.sD (um + 2) q 1).D a f = B3.D a f := fun a f z => rdnn z
          have c2q : (B3.sD (um + 2) q 1).D (um + 2) q = 1 := rds
          obtain ⟨-, -, ⟨-, ⟨-, ⟨b16, -⟩, -⟩, -⟩, -, b33⟩ := hD.fr hE same.rf (((sB.tr sB2).tr s4).tr tC)
          have TK := gr_T K1 w hwT
          have ee : B_M_getsPlaces_45 N 517 um (fun l2 H => B_M_getsPlaces_2 N 517 um nB l2 H) (nI q) (um + 2) (nI q) 1 B3 = bC (F_M_gets N 517 (2 : Int32) (0 : Int32) (((1 : Int32) <<< (nI (E 4 0) &&& 31)) - (1 : Int32)) (B3.sD (um + 2) q 1)) fun v151 H152 => B_M_getsPlaces_81 N 517 um (fun l2 H => B_M_getsPlaces_2 N 517 um nB l2 H) (nI q) (um + 3) (nI q) v151 H152 := by
            unfold B_M_getsPlaces_45
            rw [ar_t (UA_5 U3), wrI q6 (by decide), show vp_nar .boolean (1 : Int32) = (1 : Int32) from rfl, ck_t (US UK), rf_t (UP_6 UK), rf_t (UP_5 UK), ar_t (UA_5 UK), rdI q6 (by decide), rds, if_neg (by decide), ck_t (rS_517 K1), rf_t b33, ck_t (TS TK), bnd_t, b16]
          rw [if_neg (show ¬ nI 1 = (0 : Int32) by decide), ck_t (PrA_2 P3), bnd_t, a3]
          unfold F_Store_readParts
          rw [ck_t (rS_131 G3), bT_as, bT_as, if_pos (show nI 1 = (1 : Int32) from rfl), ee, bC_as]
          generalize B3.sD (um + 2) q 1 = B4 at *
          have hR4 : RDS T x3 A3 B4 := hR3.fr (fun _ _ _ => rfl) (fun a f z => gC a f (by omega))
          have fB4 : ∀ f, B4.D um f = B.D um f := fun f => by rw [gC _ _ (by omega)]; exact fB3 f
          have pw : ((1 : Int32) <<< (nI (E 4 0) &&& 31)) - (1 : Int32) = nI (2 ^ E 4 0 - 1) := by
            rw [nI_shl (by omega)]
            exact nI_dif (b := 1) (Nat.one_le_two_pow)
          have p16 : 2 ^ E 4 0 ≤ 65536 := Nat.pow_le_pow_right (n := 2) (by decide) e4
          have p1 : 1 ≤ 2 ^ E 4 0 := Nat.one_le_two_pow
          rw [pw]
          refine LOut.pre ?_ same.rf tC
          refine (rn_lo (N := N) (k := 2) (lo := 0) (hi := nI (2 ^ E 4 0 - 1)) (um := um) hN G3 K1 hR4 (by omega)).bind (fun v A5 y B5 s5 s6 hp5 => ?_) (fun y H WW hW sH h28 => z81 (N := N) (v := y) hE hN hD q6 zk2 H WW hW ((((sB.tr sB2).tr s4).tr tC).tr sH) h28)
          obtain ⟨rfl, v5, v6, r5, r6, x5, hR5⟩ := hp5
          obtain ⟨bits, hbits, rfl⟩ := nI_small (n := 2 ^ E 4 0) v5 (fun k => v6 (Decidable.byContradiction fun z => i32_nlt.mpr k (by have := (i32_le (c := 2 ^ E 4 0 - 1) (by omega)).mp (i32_nlt.mp z); rw [show 2 ^ E 4 0 - 1 + 1 = 2 ^ E 4 0 by omega] at this; exact this))) (by omega)
          have G5 := s5.gr G3
          have K5 := s6.gr K1
          have W5 := gr_W G5 19 (by decide)
          have U5 := gr_U K5 um hum
          have hV3' : PPL Q1 A3 19 := hV3.1
          have top3 := hV3.2.2.2.2
          have rA5 : ∀ a f, 19 ≤ a → a ≤ 24 → A5.D a f = A3.D a f := fun a f z1 z2 => r5.1 _ _ (by unfold RDA; omega)
          have rB5 : ∀ a f, um ≤ a → a ≤ um + 9 → B5.D a f = B4.D a f := fun a f z1 z2 => r6.1 _ _ (by unfold RDBb; omega)
          have tD : same LDA A5 ((A5.sD (19 + 2) q (nI bits)).sD 19 9 (nI (if Q1 5 1 < q + 1 then q + 1 else Q1 5 1))) := (same.rf.sD (.inr ⟨by omega, by omega⟩)).sD (.inr ⟨by omega, by omega⟩)
          have gD : ∀ a f, ¬ (a = 21 ∧ f = q) → ¬ (a = 19 ∧ f = 9) → ((A5.sD (19 + 2) q (nI bits)).sD 19 9 (nI (if Q1 5 1 < q + 1 then q + 1 else Q1 5 1))).D a f = A5.D a f := fun a f z1 z2 => by rw [rdnn z2, rdnn z1]
          have d21 : ((A5.sD (19 + 2) q (nI bits)).sD 19 9 (nI (if Q1 5 1 < q + 1 then q + 1 else Q1 5 1))).D 21 q = nI bits := by rw [rdw (by decide), rds]
          have d9 : ((A5.sD (19 + 2) q (nI bits)).sD 19 9 (nI (if Q1 5 1 < q + 1 then q + 1 else Q1 5 1))).D 19 9 = nI (if Q1 5 1 < q + 1 then q + 1 else Q1 5 1) := rds
          have eO : F_World_occupy N 19 (nI q) (nI bits) A5 = some ((), (A5.sD (19 + 2) q (nI bits)).sD 19 9 (nI (if Q1 5 1 < q + 1 then q + 1 else Q1 5 1))) := by
            have t9 : A5.D 19 9 = nI (Q1 5 1) := by rw [rA5 _ _ (by omega) (by omega)]; exact top3.1
            have eM : ∀ H, F_Math_max N (nI (Q1 5 1)) (nI (q + 1)) H = some (nI (if Q1 5 1 < q + 1 then q + 1 else Q1 5 1), H) := fun H => by
              have t6 := top3.2.1
              unfold F_Math_max
              by_cases z : Q1 5 1 < q + 1
              · rw [if_pos (nI_lt z (by omega)), if_pos z]
              · rw [if_neg (nI_nlt (by omega) (by omega)), if_neg z]
            unfold F_World_occupy
            rw [ck_t (WS W5), rf_t (WP_8 W5), ar_t (WA_8 W5), wrI q6 (by decide), bnd_t, rdw (by decide), t9, nI_1, bC_t (eM _), bnd_t]
          have tE : same (LDB um) B5 (B5.sD (um + 3) q (nI bits)) := same.rf.sD (.inr ⟨by omega, by omega⟩)
          have gE : ∀ a f, ¬ (a = um + 3 ∧ f = q) → (B5.sD (um + 3) q (nI bits)).D a f = B5.D a f := fun a f z => rdnn z
          have c3q : (B5.sD (um + 3) q (nI bits)).D (um + 3) q = nI bits := rds
          have tp1 : Q1 5 1 ≤ (if Q1 5 1 < q + 1 then q + 1 else Q1 5 1) ∧ q + 1 ≤ (if Q1 5 1 < q + 1 then q + 1 else Q1 5 1) ∧ (if Q1 5 1 < q + 1 then q + 1 else Q1 5 1) ≤ 256 := by
            have := top3.2.1
            split <;> omega
          rw [bT_v, bC_t eO]
          unfold B_M_getsPlaces_81
          rw [ar_t (UA_6 U5), wrI q6 (by decide)]
          generalize (if Q1 5 1 < q + 1 then q + 1 else Q1 5 1) = tp at *
          generalize (A5.sD (19 + 2) q (nI bits)).sD 19 9 (nI tp) = A6 at *
          generalize B5.sD (um + 3) q (nI bits) = B6 at *
          have p0 : ∀ x, x ≠ 1 → x ≠ 2 → x ≠ 5 → upR (upR (upR Q1 1 q 1) 2 q bits) 5 1 tp x = Q1 x := fun x z1 z2 z5 => by rw [upR_o z5, upR_o z2, upR_o z1]
          have p1' : ∀ x, x ≠ q → upR (upR (upR Q1 1 q 1) 2 q bits) 5 1 tp 1 x = Q1 1 x := fun x z => by rw [upR_o (by decide), upR_o (by decide), upR_n z]
          have p1s : upR (upR (upR Q1 1 q 1) 2 q bits) 5 1 tp 1 q = 1 := by rw [upR_o (by decide), upR_o (by decide), upR_s]
          have p2 : ∀ x, x ≠ q → upR (upR (upR Q1 1 q 1) 2 q bits) 5 1 tp 2 x = Q1 2 x := fun x z => by rw [upR_o (by decide), upR_n z, upR_o (by decide)]
          have p2s : upR (upR (upR Q1 1 q 1) 2 q bits) 5 1 tp 2 q = bits := by rw [upR_o (by decide), upR_s]
          have p5 : ∀ x, x ≠ 1 → upR (upR (upR Q1 1 q 1) 2 q bits) 5 1 tp 5 x = Q1 5 x := fun x z => by rw [upR_n z, upR_o (by decide), upR_o (by decide)]
          have p5s : upR (upR (upR Q1 1 q 1) 2 q bits) 5 1 tp 5 1 = tp := upR_s
          generalize upR (upR (upR Q1 1 q 1) 2 q bits) 5 1 tp = Q2 at p0 p1' p1s p2 p2s p5 p5s
          have hV6 : WRV A6 19 B6 um E Q2 q 0 := by
            obtain ⟨u1, u2, u3, u4, u5⟩ := hV3
            unfold WRV PPL PPB
            rw [p0 0 (by decide) (by decide) (by decide), p5 0 (by decide), p5s]
            refine ⟨fun x hx => ?_, fun x hx => ?_, fun x c m y1 y2 y3 y4 y5 => ?_, ⟨by rw [gD _ _ (by omega) (by omega), rA5 _ _ (by omega) (by omega)]; exact u4.1, u4.2⟩, ⟨d9, tp1.2.2, fun x z1 z2 => by rw [p1' x (by omega)]; exact u5.2.2 x (by omega) z2⟩⟩
            · obtain ⟨k1, k2, k3, k4⟩ := u1 x hx
              rw [gD (19 + 1) x (by omega) (by omega), rA5 _ _ (by omega) (by omega)]
              by_cases z : x = q
              · subst z
                rw [p1s, p2s, if_pos rfl]
                exact ⟨k1, k2, by omega, d21⟩
              · rw [p1' x z, p2 x z, gD _ _ (by omega) (by omega), rA5 _ _ (by omega) (by omega)]
                exact ⟨k1, k2, k3, k4⟩
            · obtain ⟨k1, k2, k3, k4, k5⟩ := u2 x hx
              rw [gE (um + 1) x (by omega), rB5 _ _ (by omega) (by omega), gC _ _ (by omega), gE (um + 2) x (by omega), rB5 _ _ (by omega) (by omega)]
              by_cases z : x = q
              · subst z
                rw [p1s, p2s, c2q, if_pos rfl]
                exact ⟨k1, k2, by omega, rfl, fun _ => c3q⟩
              · rw [p1' x z, p2 x z, gC _ _ (by omega), gE _ _ (by omega), rB5 _ _ (by omega) (by omega), gC _ _ (by omega)]
                exact ⟨k1, k2, k3, k4, k5⟩
            · have z : x ≠ q := fun z => by have := y5 z; omega
              rw [p1' x z] at y2
              rw [p2 x z] at y3
              rw [gD _ _ (by omega) (by omega), rA5 _ _ (by omega) (by omega), gE _ _ (by omega), rB5 _ _ (by omega) (by omega), gC _ _ (by omega)]
              exact u3 x c m y1 y2 y3 y4 (fun z2 => by omega)
          have hR6 : RDS T x5 A6 B6 := hR5.fr (fun a f z => gD a f (by omega) (by omega)) (fun a f z => gE a f (by omega))
          have fA6 : ∀ f, f ≠ 9 → A6.D 19 f = A.D 19 f := fun f hf => by rw [gD _ _ (by omega) (by omega), rA5 _ _ (by omega) (by omega)]; exact fA3 f
          have fB6 : ∀ f, B6.D um f = B.D um f := fun f => by rw [gE _ _ (by omega), rB5 _ _ (by omega) (by omega)]; exact fB4 f
          have sA6 : same LDA A A6 := ((sA2.tr s3).tr s5).tr tD
          have sB6 : same (LDB um) B B6 := (((sB2.tr s4).tr tC).tr s6).tr tE
          refine LOut.pre ?_ tD tE
          have pp := pi_out (N := N) (T := T) (Q := Q2) (q := q) (kq2 := fun l2 H => B_M_getsPlaces_2 N 517 um nB l2 H) (KA := fun _ H83 => rsP N 131 p 19 (nA + 1 + j) (nI (q + 1)) H83) (KB := KB) (Post := Post) hE hN hD q6 p1s zk2 (E 4 0) 0 N N A6 B6 (by omega) (by omega) (by omega) (sA.tr sA6) (sB.tr sB6) ⟨x5, hR6⟩ (by rw [e50]; exact hV6) (fun A7 B7 u1 u2 u3 u4 u5 u6 => ih (q + 1) nA nB A7 B7 Q2 (by omega) (by omega) ((sA.tr sA6).tr u1) ((sB.tr sB6).tr u2) u5 ⟨u6.1, u6.2.1, fun x c m y1 y2 y3 y4 y5 => u6.2.2.1 x c m y1 y2 y3 y4 (fun _ => (mOf_lt hE y4).1), u6.2.2.2⟩ (fun x z1 z2 => by rw [p1' x (by omega), oo 1 (by decide)]; exact hd x (by omega) z2) (fun x hx => by rw [p0 0 (by decide) (by decide) (by decide)]; exact hg1 x hx) (fun A' B' Q' t1 t2 t3 t4 t5 t6 t7 => hk A' B' Q' ((sA6.tr u1).tr t1) ((sB6.tr u2).tr t2) (fun f hf => by rw [t3 f hf, u3 f hf]; exact fA6 f hf) (fun f => by rw [t4 f, u4 f]; exact fB6 f) t5 t6 t7))
          rw [p2s] at pp
          exact pp
      · by_cases k : y = (1 : Int32)
        · rw [if_pos k]
          exact z45 (N := N) (v := 1) hE hN hD q6 zk2 (.inr rfl) H WW hW ((sB.tr sB2).tr sH) h28
        · rw [if_neg k]
          exact z45 (N := N) (v := 0) hE hN hD q6 zk2 (.inl rfl) H WW hW ((sB.tr sB2).tr sH) h28
    · have hGH := sH.gr hGB
      have UH := gr_U hGH um hum
      have G1 : Gr (H.sD (um + 1) q y) := hGH.sD
      have U1 := gr_U G1 um hum
      have t1 : same (LDB um) H (H.sD (um + 1) q y) := same.rf.sD (.inr ⟨by omega, by omega⟩)
      have h1 : (H.sD (um + 1) q y).D 517 28 = nI WW := by rw [rdw (by omega)]; exact h28
      obtain ⟨y2, B2, z1, z2, z3⟩ := z45 (N := N) (v := 0) hE hN hD q6 zk2 (.inl rfl) (H.sD (um + 1) q y) WW hW ((sB.tr sH).tr t1) h1
      refine ⟨y2, B2, ?_, z2, t1.tr z3⟩
      rw [ar_t (UA_4 UH), wrI q6 (by decide), rf_t (UP_5 U1), bC_t (gz G1 hW h1), if_neg (by decide)]
      exact z1
end Par
