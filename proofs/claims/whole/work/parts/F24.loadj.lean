/-! ===== the call load, both sides ===== -/
section Par
variable {N p wo inp cs w u ir M K0 : Nat} {s pl : Int32} {ty mn nu cd : Nat → Int32} {E Q : Nat → Nat → Nat} {V : Nat → Nat → Int32} {nL lc : Nat} {lk : Nat → Nat} {hd : Nat → Int32}
theorem load_jo {S : Nat → Nat} {b t0 la z us un um c n : Nat} {Nm : Nat → Nat → List Nat} {Pv : Nat → Nat → Int32} {A B : Hp} (h : PLI N p cs w M ty mn nu cd E Nm Pv S b t0 A la z B us un c n) (hE : WE E) (hN : 2000000 ≤ N) (hpr : A.P 0 4 = .ref p) (h10 : B.P 517 10 = .ref um) (hum : um ∈ lU) (hm1 : um ≠ us) (hm2 : um ≠ un) (h6 : A.D 0 6 = B.D 517 5) (hO : OUTR A B) (hEv : ∃ x, x ≤ 4 ∧ B.D (w + 16) 0 = nI x) : ∃ r A2 B2, F_W_load N 0 A = some (r, A2) ∧ F_M_load N 517 B = some (r, B2) ∧ OUTR A2 B2 ∧ gw LOA A A2 ∧ A2.P = A.P ∧ gw (LOB us um) B B2 ∧ (A2.sh.length ≤ A.sh.length + 1 ∧ A2.sl ≤ A.sl + 6) ∧ (B2.sh = B.sh ∧ B2.sl = B.sl) ∧ ((PLI N p cs w M ty mn nu cd E Nm Pv S b t0 A2 la z B2 us un c n ∧ B2.P = B.P) ∨ ∃ S' t, BNS S' 13312 ∧ t ≤ 1000000000 ∧ PLI N p cs w M ty mn nu cd E Nm Pv S' 8000000 t A2 la z B2 us um t t ∧ B2.P 517 10 = .ref un) := by
  have h0 := h.th (x := 0) hE
  have s0 : same (fun a f => a = 517 ∧ f = 0) B (B.sD 517 0 0) := same.rf.sD ⟨rfl, rfl⟩
  have hGA := h.1.1
  have eB0 : F_M_load N 517 B = bC (F_M_isQuiet N 517 (B.sD 517 0 0)) fun v4 H5 => if v4 = (0 : Int32) then some ((-1000000), H5) else bnd ((H5.D 517 5)) fun x7 => if x7 = (0 : Int32) then some ((-2000000), H5) else bnd (H5.sD 517 27 (0 : Int32)) fun H9 => bnd (H9.sD 517 28 ((-1) : Int32)) fun H10 => rf (H10.P 517 10) fun a11 => ck (H10.sh[a11]? = some (13, 0)) <| bC (F_MWorld_begin N a11 H10) fun _ H16 => bC (gB N a11 H16) fun _ H => B_M_load_137 N 517 a11 H := by
    rw [ml_eq, ck_t (rS_517 h.1.2.1), bnd_t]
  generalize B.sD 517 0 0 = B0 at *
  obtain ⟨qa, qb⟩ := qt_A h0
  have d0 : ∀ a f, ¬ (a = 517 ∧ f = 0) → B0.D a f = B.D a f := s0.1
  have hGB := h0.1.2.1
  obtain ⟨T, t1, t2, t3, t4⟩ := hO
  have hO0 : OUTR A B0 := ⟨T, t1, t2, by rw [d0 _ _ (by omega)]; exact t3, fun i hi => by rw [d0 _ _ (by omega)]; exact t4 i hi⟩
  have l0 : same (LOB us um) B B0 := s0.mono fun a f y => .inl ⟨y.1, .inl y.2⟩
  have b5 : B0.D 517 5 = A.D 0 6 := by rw [d0 _ _ (by omega)]; exact h6.symm
  have h10' : B0.P 517 10 = .ref um := by rw [s0.2.1]; exact h10
  rw [bC_t qb] at eB0
  have eA0 : F_W_load N 0 A = if n = c then (if A.D 0 6 = (0 : Int32) then some ((-2000000), A) else bC (F_Store_restore N 131 p 19 A) fun v24 H25 => if v24 = (0 : Int32) then rf (H25.P 0 3) fun a33 => ck (H25.sh[a33]? = some (11, 0)) <| bnd ((H25.D a33 2)) fun x36 => some (((-1) : Int32) - x36, H25) else rf (H25.P 0 2) fun a27 => ck (H25.sh[a27]? = some (10, 0)) <| bC (F_Play_adopt N a27 19 H25) fun v31 H32 => some (0, H32)) else some ((-1000000), A) := by
    have eS : F_Play_scratch N 11 A = some (some 19, A) := by
      unfold F_Play_scratch
      rw [ck_t (rS_11 hGA), rf_t (rP_11_6 hGA), ar_t (rA_11_6 hGA), ck_t (show inb (0 : Int32) 16 by decide), rf_t (show A.P 18 ((0 : Int32)).toNatClampNeg = .ref 19 from rP_18 (k := 0) hGA (by omega))]
    unfold F_W_load
    rw [ck_t (rS_0 hGA), rf_t (rP_0_2 hGA), ck_t (rS_11 hGA), bC_t qa]
    by_cases y : n = c
    · rw [if_pos y, if_pos y, if_neg (by decide), bnd_t]
      by_cases y6 : A.D 0 6 = 0
      · rw [if_pos y6, if_pos y6]
      · rw [if_neg y6, if_neg y6, rf_t (rP_0_2 hGA), ck_t (rS_11 hGA), bC_t eS]
        show (rf (A.P 0 3) fun a18 => _) = _
        rw [rf_t (rP_0_3 hGA), rf_t hpr, ck_t (rS_131 hGA)]
    · rw [if_neg y, if_neg y, if_pos rfl]
  by_cases y : n = c
  · rw [if_pos y] at eA0 eB0
    rw [if_neg (by decide), bnd_t, b5] at eB0
    by_cases y6 : A.D 0 6 = 0
    · rw [if_pos y6] at eA0 eB0
      exact ⟨_, A, B0, eA0, eB0, hO0, gw.rf, rfl, l0.gw, ⟨by omega, by omega⟩, ⟨s0.2.2.2.1, s0.2.2.2.2⟩, .inl ⟨h0, s0.2.1⟩⟩
    · rw [if_neg y6] at eA0 eB0
      rw [bnd_t, bnd_t] at eB0
      have hp := h0.1.2.2.1.2.2.1
      have hwT := h0.1.2.2.1.2.2.2.1
      have hu := lU_le hum
      have hw' := lT_le hwT
      have hp' := h0.1.2.2.1
      -- reference: a world begins
      have s1 : same RDBb B0 ((B0.sD 517 27 0).sD 517 28 (-1)) := (same.rf.sD ⟨rfl, .inl rfl⟩).sD ⟨rfl, .inr rfl⟩
      have v27 : ((B0.sD 517 27 0).sD 517 28 (-1)).D 517 27 = 0 := by rw [rdf (by decide), rds]
      have v28 : ((B0.sD 517 27 0).sD 517 28 (-1)).D 517 28 = -1 := rds
      generalize (B0.sD 517 27 0).sD 517 28 (-1) = B1 at *
      have hG1 := s1.gr hGB
      obtain ⟨B2, m1, m2, m3, m4⟩ := bg_B (N := N) (by omega) (gr_U hG1 um hum)
      have hG2 := m2.gr hG1
      rw [rf_t (show B1.P 517 10 = .ref um by rw [s1.2.1]; exact h10'), ck_t (US (gr_U hG1 um hum)), bC_t m1] at eB0
      have sB2 : same (LDB um) B0 B2 := (s1.mono fun a f z => .inl z).tr (m2.mono fun a f z => .inr z)
      -- class: a world begins
      have hE5 : E 4 0 ≤ 16 := hE.1
      have e48 := hE.2.2.2.1
      have tA := h0.1.2.2.1.1.2.1
      have r5 : same LDA A (A.sD 131 5 0) := same.rf.sD (.inl ⟨rfl, .inr rfl⟩)
      have f5 : ∀ a f, ¬ (a = 131 ∧ f = 5) → (A.sD 131 5 0).D a f = A.D a f := fun a f z => rdnn z
      have v5 : (A.sD 131 5 0).D 131 5 = 0 := rds
      have eR : F_Store_restore N 131 p 19 A = rf ((A.sD 131 5 0).P p 2) fun a4 => ck ((A.sD 131 5 0).sh[a4]? = some (3, 0)) <| bC (F_Shapes_total N a4 (A.sD 131 5 0)) fun v8 H9 => ck (H9.sh[19]? = some (7, 0)) <| bC (F_World_clear N 19 (0 : Int32) v8 H9) fun _ H13 => bH (rs0 N 131 p 19 H13) (fun _ H => some (1, H)) (fun x H => ck (H.sh[x]? = some (17, 0)) <| B_Store_restore_143 N 131 p 19 x H) := by
        rw [rs_eq, ck_t (rS_131 hGA), bnd_t, ck_t (PrS (gr_P (show Gr (A.sD 131 5 0) from hGA.sD) hp))]
      have hG5 : Gr (A.sD 131 5 0) := hGA.sD
      generalize A.sD 131 5 0 = A5 at *
      have P5 := gr_P hG5 hp
      have eT : F_Shapes_total N (p + 70) A5 = some (nI (E 5 (E 4 0)), A5) := by
        unfold F_Shapes_total
        rw [ck_t (PrA_2 P5), rf_t (PcP_2 P5), bnd_t, f5 (p + 70) 3 (by omega), tA.1, ar_t (PcA_2 P5), rdI (show E 4 0 < 17 by omega) (by decide), f5 (p + 137) _ (by omega), tA.2.1 _ (Nat.le_refl _)]
      obtain ⟨A6, c1, c2, c3, c4⟩ := cl_A (N := N) (sd := 0) (wd := E 5 (E 4 0)) (by omega) (gr_W hG5 19 (by decide))
      have hG6 := c2.gr hG5
      rw [rf_t (PrP_2 P5), ck_t (PrA_2 P5), bC_t eT, ck_t (WS (gr_W hG5 19 (by decide))), bC_t c1] at eR
      have sA6 : same LDA A A6 := r5.tr (c2.mono fun a f z => .inr z)
      have hmo : ∀ c m, mOf E c m → m < E 5 (E 4 0) := fun c m y => (mOf_lt hE y).1
      obtain ⟨W1, -, -⟩ := nw_wp (E := E) (wo := 19) (u := um) (A := A6) (B := B2) (wd := E 5 (E 4 0)) e48 hmo ⟨c3.1, c3.2.2.1, c3.2.2.2.1, c3.2.2.2.2.1, c3.2.2.2.2.2.1, c3.2.2.2.2.2.2.1, c3.2.2.2.2.2.2.2.1, c3.2.2.2.2.2.2.2.2⟩ c4 ⟨m3.1, m3.2.2.1, m3.2.2.2.1, m3.2.2.2.2.1, m3.2.2.2.2.2.1, m3.2.2.2.2.2.2⟩ (fun q hq => ⟨(m4 q hq).1, (m4 q hq).2.1⟩) (by rw [c3.2.1, m3.2.1])
      have hV : WRV A6 19 B2 um E (Q0 (E 5 (E 4 0))) 256 0 := ⟨W1.1.1, W1.1.2.1, fun x c m y1 y2 y3 y4 y5 => W1.1.2.2.1 x c m y1 y2 y3 y4, W1.1.2.2.2.1, W1.1.2.2.2.2.1⟩
      have hD0 : LDT p cs w M ty mn nu cd E Nm Pv um A B0 := ⟨hGA, hGB, h0.1.2.2.1, hum, h0.2.1.2.2.2.2.2⟩
      have hD := hD0.fr hE sA6 sB2
      have hR : RDS T 0 A6 B2 := ⟨t1, Nat.zero_le _, by rw [sA6.1 _ _ (by unfold LDA RDA cW; omega)]; exact t2, by rw [sB2.1 _ _ (by unfold LDB RDBb cU; omega), d0 _ _ (by omega)]; exact t3, by rw [c2.1 _ _ (by unfold cW; omega)]; exact v5, by rw [m2.1 _ _ (by unfold cU; omega)]; exact v27, by rw [m2.1 _ _ (by unfold cU; omega)]; exact v28, fun i hi => by rw [sA6.1 _ _ (by unfold LDA RDA cW; omega), sB2.1 _ _ (by unfold LDB RDBb cU; omega), d0 _ _ (by omega)]; exact t4 i hi⟩
      have hEv2 : ∃ x, x ≤ 4 ∧ B2.D (w + 16) 0 = nI x := by
        obtain ⟨x, x1, x2⟩ := hEv
        exact ⟨x, x1, by rw [sB2.1 _ _ (by unfold LDB RDBb cU; omega), d0 _ _ (by omega)]; exact x2⟩
      have dj1 := lU_dj hum h0.2.1.1 hm1
      have dj2 := lU_dj hum h0.2.1.2.1 hm2
      have hr := restore_jo (N := N) hE (by omega) hD hEv2 hR hV ⟨c3.2.2.2.2.1, c3.2.2.2.2.2.2.2.2, m3.2.2.2.2.2.1, m3.2.2.2.2.2.2⟩
      have hlen := hGA.len
      have hlenB : 626 ≤ B.sh.length := h.1.2.1.len
      have oT : ∀ A' B', gw LOA A A' → gw (LOB us um) B B' → OUTR A' B' := fun A' B' gA gB => by
        have hu1 := lU_le h0.2.1.1
        exact ⟨T, t1, by rw [(gA.2 131 1 (by omega) (by unfold LOA LDA RDA cW; omega)).1]; exact t2, by rw [(gB.2 517 22 (by omega) (by unfold LOB LDB RDBb cU; omega)).1]; exact t3, fun i hi => by rw [(gA.2 132 i (by omega) (by unfold LOA LDA RDA cW; omega)).1, (gB.2 622 i (by omega) (by unfold LOB LDB RDBb cU; omega)).1]; exact t4 i hi⟩
      rcases hr with ⟨x, A', y', B', W, e1, e2, e3, e4, e5, e6, e7, e8, e9, e10⟩ | ⟨v, A', y', B', e1, e2, e3, e4, e5⟩
      · have gA : gw LDA A A' := sA6.gw.tr e7.1
        have gA2 : gw LOA A A' := gA.mono fun a f z => .inl z
        have gB2 : gw (LOB us um) B B' := l0.gw.tr ((sB2.tr e10).gw.mono fun a f z => .inr (.inl z))
        have hGA' := e7.gr hG6
        have hGB' := e10.gr hG2
        have l11 := h0.1.2.2.2.2.2.1
        have hu1 := lU_le h0.2.1.1
        have hu2 := lU_le h0.2.1.2.1
        rw [e1] at eR
        have eR' : F_Store_restore N 131 p 19 A = some (0, A') := by
          rw [eR]
          show (ck (A'.sh[x]? = some (17, 0)) <| B_Store_restore_143 N 131 p 19 x A') = some (0, A')
          rw [ck_t e3]
          rfl
        refine ⟨-1 - nI W, A', B', ?_, ?_, oT A' B' gA2 gB2, gA2, by rw [e7.2, sA6.2.1], gB2, ⟨by rw [e8, sA6.2.2.2.1]; omega, by rw [e9, sA6.2.2.2.2]; omega⟩, ⟨by rw [e10.2.2.2.1, sB2.2.2.2.1, s0.2.2.2.1], by rw [e10.2.2.2.2, sB2.2.2.2.2, s0.2.2.2.2]⟩, .inl ⟨?_, by rw [e10.2.1, sB2.2.1, s0.2.1]⟩⟩
        · rw [eA0, bC_t eR', if_pos rfl, rf_t (rP_0_3 hGA'), ck_t (rS_131 hGA'), bnd_t, e4]
        · rw [eB0, bC_t e2]
          unfold B_M_load_137
          rw [ck_t (rS_517 hGB'), bnd_t, e5, if_neg (show ¬ nI W < (0 : Int32) from i32_nlt.mpr (nI_le (a := 0) (by omega) e6)), bnd_t]
        · refine pli_q h0 y hE hGA' hGB' gA (sB2.tr e10).gw (fun a f z => ?_) (fun a f z => ?_)
          · unfold LDA RDA cW at z
            unfold nQ
            omega
          · unfold LDB RDBb cU at z
            unfold nB cU
            omega
      · obtain ⟨Q, t, W2, R2, V2, ht, a0, b28⟩ := e5.wp hE
        have hGA' := e3.gr hG6
        have hGB' := e4.gr hG2
        have hus := h0.2.1.1
        have hun := h0.2.1.2.1
        have hu1 := lU_le hus
        have hu2 := lU_le hun
        rw [e1] at eR
        have eR' : F_Store_restore N 131 p 19 A = some (1, A') := eR
        have sA' := sA6.tr e3
        have sB' := sB2.tr e4
        -- class
        obtain ⟨A8, f1, f2, f3⟩ := W2.cpA (N := N) (wo := 12) (by decide) (by decide) (by decide) hGA' hE
        have hG8 := f2.gr hGA'
        obtain ⟨A9, g1, g2, g3, g4, g5⟩ := fg_A (N := N) (by omega) hG8
        have hG9 := g2.gr hG8
        have eP : F_Play_adopt N 11 19 A' = some ((), A9) := by
          unfold F_Play_adopt
          rw [ck_t (rS_11 hGA'), rf_t (rP_11_0 hGA'), ck_t (rA_11_0 hGA'), bC_t f1, bC_t g1]
        have sA9 : same LOA A A9 := ((sA'.mono fun a f z => .inl z).tr (f2.mono fun a f z => .inr (.inl z))).tr (g2.mono fun a f z => by
          unfold LOA
          omega)
        -- reference
        have p9 : B'.P 517 9 = .ref un := by rw [sB'.2.1]; exact h0.2.1.2.2.2.2.1
        have p8 : B'.P 517 8 = .ref us := by rw [sB'.2.1]; exact h0.2.1.2.2.2.1
        have p3 : B'.P 517 3 = .ref w := by rw [sB'.2.1]; exact h0.2.1.2.2.2.2.2
        have H8 : Gr ((B'.sP 517 10 (.ref un)).sP 517 9 (.ref um)) := (hGB'.sP2 (by omega)).sP2 (by omega)
        have gP : gw (fun a f => a = 517 ∧ (f = 9 ∨ f = 10)) B' ((B'.sP 517 10 (.ref un)).sP 517 9 (.ref um)) := (gw.rf.sP ⟨rfl, by omega⟩).sP ⟨rfl, by omega⟩
        have x9 : ((B'.sP 517 10 (.ref un)).sP 517 9 (.ref um)).P 517 9 = .ref um := sP_s
        have x10 : ((B'.sP 517 10 (.ref un)).sP 517 9 (.ref um)).P 517 10 = .ref un := by rw [sP_o (by omega), sP_s]
        have x8 : ((B'.sP 517 10 (.ref un)).sP 517 9 (.ref um)).P 517 8 = .ref us := by rw [sP_o (by omega), sP_o (by omega)]; exact p8
        have x3 : ((B'.sP 517 10 (.ref un)).sP 517 9 (.ref um)).P 517 3 = .ref w := by rw [sP_o (by omega), sP_o (by omega)]; exact p3
        have xD : ∀ a f, ((B'.sP 517 10 (.ref un)).sP 517 9 (.ref um)).D a f = B'.D a f := fun a f => rfl
        have xs : ((B'.sP 517 10 (.ref un)).sP 517 9 (.ref um)).sh = B'.sh ∧ ((B'.sP 517 10 (.ref un)).sP 517 9 (.ref um)).sl = B'.sl := ⟨rfl, rfl⟩
        have eL : B_M_load_137 N 517 um B' = rf (((B'.sP 517 10 (.ref un)).sP 517 9 (.ref um)).P 517 8) fun a51 => rf (((B'.sP 517 10 (.ref un)).sP 517 9 (.ref um)).P 517 9) fun a53 => ck (((B'.sP 517 10 (.ref un)).sP 517 9 (.ref um)).sh[a51]? = some (13, 0)) <| bC (F_MWorld_copies N a51 a53 ((B'.sP 517 10 (.ref un)).sP 517 9 (.ref um))) fun v57 H58 => bC (F_M_forgets N 517 H58) fun v60 H61 => some (0, H61) := by
          unfold B_M_load_137
          rw [ck_t (rS_517 hGB'), bnd_t, b28, if_pos (by decide), rf_t p9, bnd_t, bnd_t]
        generalize (B'.sP 517 10 (.ref un)).sP 517 9 (.ref um) = B8 at *
        have W8 : WPR A9 12 B8 um E Q := f3.fr (fun a f z1 z2 => g2.1 _ _ (by omega)) (fun a f _ _ => xD a f)
        have R8 : RVB (hdS B' um) E Q B8 um := R2.fr (fun a f _ _ => xD a f)
        obtain ⟨B9, j1, j2, j3, j4⟩ := W8.cpB (N := N) hN hus hum (Ne.symm hm1) H8 hE
        have H9 := j2.gr H8
        obtain ⟨B10, k1, k2, k3, k4⟩ := fg_B (N := N) (by omega) H9
        have H10 := k2.gr H9
        have gB10 : gw (LOB us um) B B10 := ((l0.gw.tr (sB'.gw.mono fun a f z => .inr (.inl z))).tr (gP.mono fun a f z => .inl ⟨z.1, by omega⟩)).tr (((j2.mono fun a f z => .inr (.inr (.inl z))).tr (k2.mono fun a f z => .inr (.inr (.inr z)))).gw)
        have hP10 : B10.P = B8.P := by rw [k2.2.1, j2.2.1]
        have uU : ∀ a f, um ≤ a → a ≤ um + 9 → B10.D a f = B8.D a f := fun a f z1 z2 => by rw [k2.1 _ _ (by omega), j2.1 _ _ (by unfold cU; omega)]
        have uS : ∀ a f, us ≤ a → a ≤ us + 9 → B10.D a f = B9.D a f := fun a f z1 z2 => k2.1 _ _ (by omega)
        have tx : TXF A9 p B10 w cs M ty mn nu cd E Nm Pv := TXF.gw (la := la) (z := z) h.1.2.2.1 hE hGA h.1.2.1 h.1.2.2.2.2.1 sA9.gw gB10 (fun a f z => by unfold LOA LDA RDA cW at z; omega) (fun a f z => by unfold LOB LDB RDBb cU at z; omega)
        have hL9 : LST A9 la z := h.1.2.2.2.gw sA9.gw hlen (by unfold LOA LDA RDA cW; omega)
        have a12 : A9.D 12 0 = nI t := by rw [W8.2.1, xD, ← W2.2.1]; exact a0
        have pli : PLI N p cs w M ty mn nu cd E Nm Pv (hdS B' um) 8000000 t A9 la z B10 us um t t := PLI.nw (n := t) hG9 H10 tx hL9 hus hum (Ne.symm hm1) (by rw [hP10]; exact x8) (by rw [hP10]; exact x9) (by rw [hP10]; exact x3) (by omega) (by rw [g3, f3.2.1, ← W2.2.1]; exact a0) a12 (W8.fr (fun _ _ _ _ => rfl) uU) (R8.fr uU) V2 (j3.fr (fun _ _ _ _ => rfl) uS) ((j4 _ R8).fr uS) (fun q hq => ⟨g4 q hq, k3 q hq⟩) (fun q hq => ⟨g5 q hq, k4 q hq⟩)
        refine ⟨0, A9, B10, ?_, ?_, oT A9 B10 sA9.gw gB10, sA9.gw, sA9.2.1, gB10, ⟨by rw [sA9.2.2.2.1]; omega, by rw [sA9.2.2.2.2]; omega⟩, ⟨by rw [k2.2.2.2.1, j2.2.2.2.1, xs.1, sB'.2.2.2.1, s0.2.2.2.1], by rw [k2.2.2.2.2, j2.2.2.2.2, xs.2, sB'.2.2.2.2, s0.2.2.2.2]⟩, .inr ⟨_, t, hdS_b, ht, pli, by rw [hP10]; exact x10⟩⟩
        · rw [eA0, bC_t eR', if_neg (by decide), rf_t (rP_0_2 hGA'), ck_t (rS_11 hGA'), bC_t eP]
        · rw [eB0, bC_t e2, eL, rf_t x8, rf_t x9, ck_t (US (gr_U H8 us hus)), bC_t j1, bC_t k1]
  · rw [if_neg y] at eA0 eB0
    rw [if_pos rfl] at eB0
    exact ⟨_, A, B0, eA0, eB0, hO0, gw.rf, rfl, l0.gw, ⟨by omega, by omega⟩, ⟨s0.2.2.2.1, s0.2.2.2.2⟩, .inl ⟨h0, s0.2.1⟩⟩
end Par
