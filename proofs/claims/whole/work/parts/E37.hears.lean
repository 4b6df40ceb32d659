/-! ===== hear: the statement ===== -/
theorem sD_id {H : Hp} {a f : Nat} {v : Int32} (h : H.D a f = v) : H.sD a f v = H := by
  have e : up2 H.D a f v = H.D := by
    funext x y
    by_cases q : x = a ∧ y = f
    · rw [q.1, q.2, up2_eq]
      exact h.symm
    · rw [up2_ne q]
  unfold Hp.sD
  rw [e]
  rfl
section Par
variable {N p wo inp cs w u ir M K0 : Nat} {s pl : Int32} {ty mn nu cd : Nat → Int32} {E Q : Nat → Nat → Nat} {V : Nat → Nat → Int32} {nL lc : Nat} {lk : Nat → Nat} {hd : Nat → Int32}
theorem FRA.ep {base l n : Nat} (hl : lc ≤ l) : ∀ a f, EXP l n a f → FRA wo base E lc a f := fun a f y => by
  unfold EXP at y
  unfold FRA
  rcases y with y | y | y
  · exact .inl ⟨y.1, by omega⟩
  · exact .inr (.inr (.inr (.inl ⟨y.1, by omega⟩)))
  · exact .inr (.inr (.inl y.1))
theorem FRA.e1 {base : Nat} : ∀ a f, EXO 121 lc a f → FRA wo base E lc a f := fun a f y => by
  unfold EXO at y
  unfold FRA
  rcases y with y | y
  · exact .inl ⟨y.1, by omega⟩
  · exact .inr (.inr (.inr (.inl ⟨y.1, by omega⟩)))
theorem FRA.eq {base : Nat} : ∀ a f, EXO 117 12 a f → FRA wo base E lc a f := fun a f y => by
  unfold EXO at y
  exact .inl ⟨by omega, by omega⟩
/-- a change of the class's loops and pc alone -/
theorem SIN.ls {i a a2 h h2 mk st la z : Nat} {R : Nat → Nat → Prop} {dr : Int32} {A A2 B : Hp} (hF : (FIX N p wo w u K0 M E)) (hI : (SIN p wo inp cs w u ir M ty mn nu cd E Q V nL lc hd K0 i a h A la z B mk st dr)) (hs : same R A A2) (hR : ∀ a f, R a f → (a = 117 ∧ (f = 6 ∨ f = 12)) ∨ (a = 121 ∧ lc ≤ f) ∨ (a = 122) ∨ (a = 120 ∧ nL ≤ f)) (hc : CS A2 a2 h2) : (SIN p wo inp cs w u ir M ty mn nu cd E Q V nL lc hd K0 i a2 h2 A2 la z B mk st dr) := by
  obtain ⟨i1, i2, i3, i4, i5⟩ := hI
  exact ⟨i1.of hF.1 hF.2.2.2.1 hF.2.2.2.2.1 i5.1 (hs.exS i5.1) (fun a f y => by have := hR a f y; omega), i2, hc, i4, i5.fr hs (S := fun _ _ => False) same.rf (fun a f y => by have := hR a f y; omega) (fun a f y => y.elim)⟩
theorem s_her {dp i j a c e : Nat} (hF : (FIX N p wo w u K0 M E)) (h0 : ty i = 221) (h2 : mn (i + 1) = nI e) (he : e < E 9 0) (c0 : cd a = 6) (c1 : cd (a + 1) = nI lc) (c2 : cd (a + 2) = 10) (c3 : cd (a + 3) = nI lc) (c4 : cd (a + 4) = nI e) (c5 : cd (a + 5) = nI (c + 2)) (c6 : cd (a + 6) = 1) (hdp : dp < 20) (h : (SP2 N s pl p wo inp cs w u ir M ty mn nu cd E K0 nL (lc + 1) (uph hd lc (nI e)) (dp + 1) (i + 2) j (a + 7) c)) (hcc : cd c = 2) (hcc1 : cd (c + 1) = nI (a + 2)) : (SP0 N s pl p wo inp cs w u ir M ty mn nu cd E K0 nL lc hd dp i j a (c + 2) nL hd) := by
  obtain ⟨⟨j1, rfl, hmj⟩, q1, q2, gB⟩ := h
  have e8 : e < 8 := by have := hF.1.2.2.2.2.2.1; omega
  refine ⟨by omega, by omega, by omega, fun d Q V0 A0 la0 z0 B0 mk0 st0 dr0 hI0 k1 k2 k3 k4 k5 => ?_⟩
  obtain ⟨d, rfl⟩ : ∃ e, d = e + 1 := ⟨d - 1, by omega⟩
  have hcs : cs ≤ 12000 := hI0.1.1.1.2.2.2.2.2.2.2.2
  have hN := hF.2.2.1
  have hlc : lc < 21 := by omega
  have hu := lU_le hF.2.2.2.2.2.2.1
  have hwo := lW_le hF.2.2.2.2.1
  generalize hbf : B0.D 615 e = bf
  have lp : ∀ r k0 g st A la z B V mk dr i0, Q 5 2 - k0 ≤ r → k0 ≤ Q 5 2 → Q 5 2 - k0 < g → (SIN p wo inp cs w u ir M ty mn nu cd E Q V nL lc (hdE hd e) K0 i0 (a + 2) 0 A la z B mk st dr) → A.D 121 lc + 1 = nI k0 → (SOK N s pl p wo inp cs w u ir M ty mn nu cd E Q V lc (hdE hd e) K0 (B_MRunner_hears_38 N (X_RunS N (d + 1)) 611 g (nI e) (nI (i + 2)) bf (nI k0) B) (j1 + 1) (a + 2) (c + 2) nL A la z (B.sD 615 e bf) st) ∨ (SFL N s pl wo (Q 4 0 * Q 5 0) E (V 0 0) lc K0 (B_MRunner_hears_38 N (X_RunS N (d + 1)) 611 g (nI e) (nI (i + 2)) bf (nI k0) B) (a + 2) (c + 2) A la z (B.sD 615 e bf) st) := by
    intro r
    induction r with
    | zero =>
      intro k0 g st A la z B V mk dr i0 hr hk hg hI hcur
      have hk' : k0 = Q 5 2 := by omega
      subst hk'
      have i1 := hI.1
      have i2 := hI.2.1
      have hC := i1.2.1.2.1
      obtain ⟨g, rfl⟩ : ∃ e, g = e + 1 := ⟨g - 1, by omega⟩
      rcases op_10 (N := N) (s := s) (pl := pl) hN hlc ((i1.1.at_cd (by omega)).trans c3) ((i1.1.at_cd (by omega)).trans c4) ((i1.1.at_cd (by omega)).trans c5) i1.1.2.2.2.1.1 i1.1.2.2.2.1.2.1 hcur (Nat.le_refl _) hC.1 hC.2 i1.1.1 hI.2.2.1 (by omega) i1.1.2.1 ((i1.1.at_cd (by omega)).trans c2) with ⟨k', x1, x2, _⟩ | ⟨_, A2, x1, x2, x3⟩
      · omega
      · have e1 := (hr_stop (N := N) (o := X_RunS N (d + 1)) (e := e) (op := i + 2) (g := g) (bf := bf) i2.1.1 i2.2.1.1 hC.2 hC.2 (.inl (Nat.le_refl _))).trans (hr_end i2.1.1 e8 (by omega) hmj)
        have hI2 := (hI.h15 (x := bf) hF e8).ls hF x2 (fun a f y => by unfold EXO at y; omega) x3
        have p1 : (PRE N s pl wo (Q 4 0 * Q 5 0) E lc V V (a + 2) (c + 2) A la z A2 la z (B.sD 615 e bf) (B.sD 615 e bf) st st) := ⟨1, by omega, by omega, x1, (x2.mono FRA.eq).exS hI.2.2.2.2.1, same.rf, fun _ _ _ => rfl⟩
        have hI3 := hI2.to (j := i + 2) hF
        exact .inl ⟨A2, la, z, _, V, st, mk, dr, (p1.tr (PRE.at hI2.2.2.2.2)).tr (PRE.at hI3.2.2.2.2), e1, hI3.to hF⟩
    | succ r ih =>
      intro k0 g st A la z B V mk dr i0 hr hk hg hI hcur
      have i1 := hI.1
      have i2 := hI.2.1
      have hC := i1.2.1.2.1
      have hs4 := hI.2.2.2.1
      have mA : ∀ x, x < Q 5 2 → (mH A wo e ((256 : Int32) * A.D (wo + 1) (Q 4 0) + nI (Q 4 0)) x ↔ (B.D (u + 5) x = nI e ∧ B.D (u + 6) x = B.D u 0 ∧ B.D (u + 7) x = B.D 611 6)) := fun x hx => by
        obtain ⟨y1, y2, y3, -⟩ := i1.2.1.2.2.2 x hx
        obtain ⟨z1, z2, z3, -⟩ := i2.2.1.2 x hx
        unfold mH
        rw [y1, y2, y3, z1, z2, z3, i1.1.2.2.2.1.2.2.1, i1.1.2.2.2.1.2.2.2.2.1, i2.1.2.2.2.1.1, i2.1.2.2.2.1.2.2.1]
      rcases op_10 (N := N) (s := s) (pl := pl) hN hlc ((i1.1.at_cd (by omega)).trans c3) ((i1.1.at_cd (by omega)).trans c4) ((i1.1.at_cd (by omega)).trans c5) i1.1.2.2.2.1.1 i1.1.2.2.2.1.2.1 hcur hk hC.1 hC.2 i1.1.1 hI.2.2.1 (by omega) i1.1.2.1 ((i1.1.at_cd (by omega)).trans c2) with ⟨k', x1, x2, x3, x4, A2, y1, y2', y3, y4, y5⟩ | ⟨x0, A2, x1, x2, x3⟩
      · -- row k' is heard
        have hh := (mA k' x2).mp x3
        have y2 : same (EXO 121 lc) A A2 := ⟨fun a f y => by
          by_cases q : a = 120 ∧ f = 0
          · rw [q.1, q.2]; exact y5
          · exact y2'.1 a f (fun z => by unfold EXP at z; unfold EXO at y; omega), y2'.2⟩
        have hV20 : V 20 k' = nI e := by rw [← (i2.2.1.2 k' x2).1]; exact hh.1
        obtain ⟨g1, hg1⟩ : ∃ g1, g = g1 + 1 + 1 + (k' - k0) := ⟨g - 2 - (k' - k0), by omega⟩
        have e0 := hr_run (N := N) (o := X_RunS N (d + 1)) (e := e) (op := i + 2) (bf := bf) i2.1.1 i2.2.1.1 hC.2 hs4.2.1 (k' - k0) k0 (g1 + 1 + 1) (by omega) (fun x z1 z2 => fun z3 => x4 x z1 (by omega) ((mA x (by omega)).mpr z3))
        rw [← hg1, show k0 + (k' - k0) = k' by omega] at e0
        have hI2 : (SIN p wo inp cs w u ir M ty mn nu cd E Q V nL lc (hdE hd e) K0 i0 (a + 6) 0 A2 la z B mk st dr) := hI.ls hF y2 (fun a f y => by unfold EXO at y; omega) y3
        have c8 := hI.2.2.2.2.2.2.2.2.2.2.2.2.2.2.1
        have c7 := hI.2.2.2.2.2.2.2.2.2.2.1
        by_cases qs : st < 120
        · obtain ⟨A3, v1, v2, v3⟩ := hI2.step1 (N := N) (s := s) (pl := pl) hF c6 qs (by omega)
          have hG1 : Gr (B.sD 611 8 (nI (st + 1))) := i2.1.1.1
          rw [hr_hit i2.1.1 e8 i2.2.1.1 hC.2 x2 hs4.2.1 hh (ev_cnt i2.1.1.1 c8 qs) hG1, rdf (by decide), hs4.2.1, if_pos rfl] at e0
          have hI3 := (v3.h15 (x := nI k') hF e8).to (j := i + 2) hF
          have a3 : A3.D 121 lc = nI k' := by rw [v2.1 121 lc (by unfold EXO; omega)]; exact y4
          have hI4 := hI3.hin hF he hlc a3 (by show ((((B.sD 611 8 (nI (st + 1))).sD 615 e (nI k')).sD 611 11 (nI (i + 2))).D 615 e) = _; rw [rdw (by decide), rds]) x2 hV20
          rcases gB d (upQ Q lc k') V A3 la z _ mk (st + 1) dr hI4 (by omega) (by omega) (by omega) k4 (by omega) with t | t
          · obtain ⟨A5, la5, z5, B5, V5, st5, mk5, dr5, t1, t2, t3⟩ := t
            have t4 := t3.hout hF (by omega) he
            obtain ⟨A6, u1, u2, u3⟩ := s_jp (N := N) (s := s) (pl := pl) hF t4 hcc hcc1 (by omega)
            rw [bC_t t2] at e0
            rw [upQ_o (by decide), upQ_o (by decide)] at t1
            obtain ⟨n6, w1, w2, w3, w4, w5, w6⟩ := t1
            have v0 : V5 0 0 = V 0 0 := by rw [w6 0 (by decide) (by decide)]
            have sB : same (fun a f => FRB E a f ∨ (a = 615 ∧ f = e)) B B5 := (same.sD (same.sD (same.sD same.rf (.inl (.inl ⟨rfl, by omega⟩))) (.inr ⟨rfl, rfl⟩)) (.inl (.inl ⟨rfl, by omega⟩))).tr (w5.mono (fun a f y => .inl y))
            have a5 : A6.D 121 lc + 1 = nI (k' + 1) := by
              have hlen := v3.1.1.1.1.len
              have hla := v3.2.2.2.2.1.2.2.1
              rw [u2.1 121 lc (by unfold EXA; omega), w4.2.2.1 121 lc (by omega) (by unfold FRA; omega) (by omega), a3, nI_1]
            have p5 : (PRE N s pl wo (Q 4 0 * Q 5 0) E lc V V5 (a + 2) (a + 2) A la z A6 la5 z5 (B.sD 615 e bf) (B5.sD 615 e bf) st st5) := ⟨1 + 1 + n6 + 1, by omega, by omega, ((y1.tr v1).tr w3).tr u1, ((((y2.mono FRA.e1).exS hI.2.2.2.2.1).tr ((v2.mono FRA.eo).exS hI2.2.2.2.2.1)).tr (w4.mono (FRA.up (Nat.le_succ lc)))).tr ((u2.mono FRA.ea).exS t4.2.2.2.2.1), same_r sB, w6⟩
            rw [e0]
            rcases ih (k' + 1) (g1 + 1) st5 A6 la5 z5 B5 V5 mk5 dr5 _ (by omega) (by omega) (by omega) u3 a5 with x | x
            · exact .inl (x.pre p5)
            · rw [v0] at x
              exact .inr (x.pre p5)
          · rw [upQ_o (by decide), upQ_o (by decide)] at t
            have p4 : (PRE N s pl wo (Q 4 0 * Q 5 0) E lc V V (a + 2) (a + 7) A la z A3 la z (B.sD 615 e bf) (B.sD 615 e bf) st (st + 1)) := ⟨1 + 1, by omega, by omega, y1.tr v1, ((y2.mono FRA.e1).exS hI.2.2.2.2.1).tr ((v2.mono FRA.eo).exS hI2.2.2.2.2.1), same.rf, fun _ _ _ => rfl⟩
            refine .inr (SFL.pre p4 ((t.up (Nat.le_succ lc)).thenb (by omega) (fun B5 u1 u2 u3 => ⟨atB (atB (B5.sD 615 e bf) (i + 2)) (j1 + 1), ?_, ?_, ?_⟩)))
            · have hr5 := RBf hF hI3.2.1.1.1 u3
              have h8 : B5.D u 8 = nI (Q 5 2) := by rw [u3.1 u 8 (by unfold FRB; omega)]; exact hI3.2.1.2.1.1
              have n5 : ¬ B5.D 611 10 = 0 := fun z => by rw [z] at u2; exact absurd u2 (by decide)
              rw [e0, bC_t u1, hr_stop hr5 h8 hC.2 (by omega) (.inr n5), hr_end hr5 e8 (by omega) hmj]
            · exact same.sD (same.sD (same.sD same.rf (.inr rfl)) (.inl ⟨rfl, rfl⟩)) (.inl ⟨rfl, rfl⟩)
            · have sB : same (fun a f => FRB E a f ∨ (a = 615 ∧ f = e)) B B5 := (same.sD (same.sD (same.sD same.rf (.inl (.inl ⟨rfl, by omega⟩))) (.inr ⟨rfl, rfl⟩)) (.inl (.inl ⟨rfl, by omega⟩))).tr (u3.mono (fun a f y => .inl y))
              exact (same_r sB).tr ((atB_s.tr atB_s).mono FRB.eb)
        · have : st = 120 := by omega
          subst this
          have hG1 : Gr ((B.sD 611 10 5).sD 611 8 (nI 121)) := i2.1.1.1
          have n5 : ¬ ((B.sD 611 10 5).sD 611 8 (nI 121)).D 611 10 = 0 := by rw [rdf (by decide), rds]; decide
          rw [hr_hit i2.1.1 e8 i2.2.1.1 hC.2 x2 hs4.2.1 hh (ev_cnf i2.1.1.1 c8 hs4.2.1) hG1, if_neg n5] at e0
          have sB5 : same (fun a f => FRB E a f ∨ (a = 615 ∧ f = e)) B (atB (((B.sD 611 10 5).sD 611 8 (nI 121)).sD 615 e (nI k')) (i + 2)) := same.sD (same.sD (same.sD (same.sD same.rf (.inl (.inl ⟨rfl, by omega⟩))) (.inl (.inl ⟨rfl, by omega⟩))) (.inr ⟨rfl, rfl⟩)) (.inl (.inl ⟨rfl, by omega⟩))
          have hr5 : RB (atB (((B.sD 611 10 5).sD 611 8 (nI 121)).sD 615 e (nI k')) (i + 2)) w u ir M ty mn nu := i2.1.1.sm sB5 (fun i => by
            have := lT_le hF.2.2.2.2.2.1
            unfold FRB
            omega)
          have n6 : ¬ (atB (((B.sD 611 10 5).sD 611 8 (nI 121)).sD 615 e (nI k')) (i + 2)).D 611 10 = 0 := by
            show ¬ ((((B.sD 611 10 5).sD 611 8 (nI 121)).sD 615 e (nI k')).sD 611 11 (nI (i + 2))).D 611 10 = 0
            rw [rdf (by decide), rdw (by decide)]
            exact n5
          have h8 : (atB (((B.sD 611 10 5).sD 611 8 (nI 121)).sD 615 e (nI k')) (i + 2)).D u 8 = nI (Q 5 2) := by rw [sB5.1 u 8 (by unfold FRB; omega)]; exact i2.2.1.1
          rw [hr_stop hr5 h8 hC.2 (by omega) (.inr n6), hr_end hr5 e8 (by omega) hmj] at e0
          have p4 : (PRE N s pl wo (Q 4 0 * Q 5 0) E lc V V (a + 2) (a + 6) A la z A2 la z (B.sD 615 e bf) (B.sD 615 e bf) 120 120) := ⟨1, by omega, by omega, y1, (y2.mono FRA.e1).exS hI.2.2.2.2.1, same.rf, fun _ _ _ => rfl⟩
          refine .inr (SFL.pre p4 ((hI2.h15 (x := bf) hF e8).over c6 (by omega) e0 ?_ ?_ (by omega)))
          · refine ⟨fun a f y => ?_, rfl, rfl, rfl, rfl⟩
            have y1 : ¬ (a = 611 ∧ f = 11) := fun z => y (.inl z)
            have y2 : a ≠ 615 := fun z => y (.inr (.inl z))
            show (((((((B.sD 611 10 5).sD 611 8 (nI 121)).sD 615 e (nI k')).sD 611 11 (nI (i + 2))).sD 615 e bf).sD 611 11 (nI (i + 2))).sD 611 11 (nI (j1 + 1))).D a f = (((B.sD 615 e bf).sD 611 10 5).sD 611 8 (nI 121)).D a f
            by_cases q : a = 611
            · subst q
              have q11 : f ≠ 11 := fun z => y1 ⟨rfl, z⟩
              rw [rdf q11, rdf q11, rdw (by decide), rdf q11, rdw (by decide)]
              by_cases q8 : f = 8
              · subst q8; rw [rds, rds]
              · rw [rdf q8, rdf q8]
                by_cases q10 : f = 10
                · subst q10; rw [rds, rds]
                · rw [rdf q10, rdf q10, rdw (by decide)]
            · rw [rdw q, rdw q, rdw y2, rdw q, rdw y2, rdw q, rdw q, rdw q, rdw q, rdw y2]
          · exact (same_r sB5).tr ((atB_s.tr atB_s).mono FRB.eb)
      · -- no row is left
        obtain ⟨g1, hg1⟩ : ∃ g1, g = g1 + 1 + (Q 5 2 - k0) := ⟨g - 1 - (Q 5 2 - k0), by omega⟩
        have e0 := hr_run (N := N) (o := X_RunS N (d + 1)) (e := e) (op := i + 2) (bf := bf) i2.1.1 i2.2.1.1 hC.2 hs4.2.1 (Q 5 2 - k0) k0 (g1 + 1) (by omega) (fun x z1 z2 => fun z3 => x0 x z1 (by omega) ((mA x (by omega)).mpr z3))
        rw [← hg1, show k0 + (Q 5 2 - k0) = Q 5 2 by omega, hr_stop i2.1.1 i2.2.1.1 hC.2 hC.2 (.inl (Nat.le_refl _)), hr_end i2.1.1 e8 (by omega) hmj] at e0
        have hI2 := (hI.h15 (x := bf) hF e8).ls hF x2 (fun a f y => by unfold EXO at y; omega) x3
        have p1 : (PRE N s pl wo (Q 4 0 * Q 5 0) E lc V V (a + 2) (c + 2) A la z A2 la z (B.sD 615 e bf) (B.sD 615 e bf) st st) := ⟨1, by omega, by omega, x1, (x2.mono FRA.eq).exS hI.2.2.2.2.1, same.rf, fun _ _ _ => rfl⟩
        have hI3 := hI2.to (j := i + 2) hF
        exact .inl ⟨A2, la, z, _, V, st, mk, dr, (p1.tr (PRE.at hI2.2.2.2.2)).tr (PRE.at hI3.2.2.2.2), e0, hI3.to hF⟩
  have hB1 := (hI0.to (j := i + 1) hF)
  have hB2 := (hB1.to (j := i + 2) hF)
  have hr1 := hB1.2.1.1.1
  obtain ⟨t0, t1, t2, t3, t4, t5, t6⟩ := hr1.T
  have hM := hr1.2.2.2.2.2.2.2.1
  have eD : dsp N (X_RunS N (d + 1)) B0 = B_MRunner_hears_38 N (X_RunS N (d + 1)) 611 N (nI e) (nI (i + 2)) bf (nI 0) (atB (atB B0 (i + 1)) (i + 2)) := by
    rw [dsp_h hI0.2.1.1.1 (by omega) hI0.2.2.2.1.1, h0, dsq_221]
    unfold F_MRunner_hears
    rw [ck_t (rS_611 hr1.1), rf_t hr1.2.2.2.1, ck_t t0, rf_t t5, bnd_t, hB1.2.2.2.1.1, ar_t t6, rdI (show i + 1 < 6002 by omega) (by decide), (hr1.2.2.2.2.2.2.2.2 (i + 1) (by omega)).2.1, h2, bnd_t, nI_1, bnd_t, show (atB B0 (i + 1)).sD 611 11 (nI (i + 1 + 1)) = atB (atB B0 (i + 1)) (i + 2) from rfl, bnd_t, rf_t (rP_611_15 hB2.2.1.1.1.1), ar_t (rA_611_15 hB2.2.1.1.1.1), rdI e8 (by decide), show (atB (atB B0 (i + 1)) (i + 2)).D 615 e = bf from by show (((B0.sD 611 11 (nI (i + 1))).sD 611 11 (nI (i + 2))).D 615 e) = bf; rw [rdw (by decide), rdw (by decide)]; exact hbf, hB2.2.2.2.1.1]
    rfl
  obtain ⟨A1, r1, r2, r3, r4⟩ := op_6 (N := N) (s := s) (pl := pl) hlc ((hI0.1.1.at_cd (by omega)).trans c1) hI0.1.1.1 hI0.2.2.1 (by omega) hI0.1.1.2.1 ((hI0.1.1.at_cd (by omega)).trans c0)
  have hI1 : (SIN p wo inp cs w u ir M ty mn nu cd E Q V0 nL lc hd K0 (i + 2) (a + 2) 0 A1 la0 z0 (atB (atB B0 (i + 1)) (i + 2)) mk0 st0 dr0) := hB2.ls hF r2 (fun a f y => by unfold EXO at y; omega) r3
  have b15 : (atB (atB B0 (i + 1)) (i + 2)).sD 615 e bf = atB (atB B0 (i + 1)) (i + 2) := sD_id (by show (((B0.sD 611 11 (nI (i + 1))).sD 611 11 (nI (i + 2))).D 615 e) = bf; rw [rdw (by decide), rdw (by decide)]; exact hbf)
  have p0 : (PRE N s pl wo (Q 4 0 * Q 5 0) E lc V0 V0 a (a + 2) A0 la0 z0 A1 la0 z0 B0 (atB (atB B0 (i + 1)) (i + 2)) st0 st0) := ⟨1, by omega, by omega, r1, (r2.mono FRA.e1).exS hI0.2.2.2.2.1, (atB_s.tr atB_s).mono FRB.eb, fun _ _ _ => rfl⟩
  rw [eD]
  rcases lp (Q 5 2) 0 N st0 A1 la0 z0 _ V0 mk0 dr0 _ (by omega) (by omega) (by have := hI0.1.2.1.2.1.2; omega) (hI1.he hF e8) (by rw [r4]; rfl) with x | x
  · rw [b15] at x
    obtain ⟨A5, la5, z5, B5, V5, st5, mk5, dr5, w1, w2, w3⟩ := x
    have w4 := p0.tr w1
    obtain ⟨n, y1, y2, y3, y4, y5, y6⟩ := w4
    exact .inl ⟨A5, la5, z5, B5, V5, st5, mk5, dr5, ⟨n, y1, y2, y3, y4, y5, y6⟩, w2, hI0.back hF w3 y4 y5 y6 (fun n _ z => by
      rw [show hdE hd e (100 + n) = if hd (100 + n) = nI e then -1 else hd (100 + n) from rfl, z, if_neg (fun z2 => by
        have := (nI_eq (a := 1004) (b := e) (by omega) (by omega)).mp z2
        omega)])⟩
  · rw [b15] at x
    exact .inr (x.pre p0)
end Par
