/-! ===== the call text, with the sizes of events ===== -/
section Par
variable {N p wo inp cs w u ir M K0 : Nat} {s pl : Int32} {ty mn nu cd : Nat → Int32} {E Q : Nat → Nat → Nat} {V : Nat → Nat → Int32} {nL lc : Nat} {lk : Nat → Nat} {hd : Nat → Int32}
theorem text_jo2 {S : Nat → Nat} {b t0 la z us un c n p2 w2 : Nat} {sd : Int32} {Nm : Nat → Nat → List Nat} {Pv : Nat → Nat → Int32} {A B : Hp} (h : PLI N p cs w M ty mn nu cd E Nm Pv S b t0 A la z B us un c n) (hPg : PRG A B p p2 w w2) (hE : WE E) (hR : RTP A B) (hSt : StA A) (hN : 2000000 ≤ N) : ∃ T, T ≤ 6000 ∧ A.D 1 1 = nI T ∧ ∃ r A2 B2, F_W_text N 0 sd A = some (r, A2) ∧ F_M_text N 517 sd B = some (r, B2) ∧ RTP A2 B2 ∧ StA A2 ∧ FLT A2 B2 ∧ A2.D 1 1 = 0 ∧ gw (TXU p2) A A2 ∧ (A2.sh.length ≤ A.sh.length + 8 * (T + 2) ∧ A2.sl ≤ A.sl + 80 * (T + 2)) ∧ gw (TXV w2 us un) B B2 ∧ (B2.sh = B.sh ∧ B2.sl = B.sl) ∧ (IE B w2 → IE B2 w2) ∧
    ((PLI N p cs w M ty mn nu cd E Nm Pv S b t0 A2 la z B2 us un c n ∧ PRG A2 B2 p p2 w w2 ∧ gw (fun a f => SRA p2 a f = true) A A2 ∧ gw (fun a f => RDB w2 a f ∨ (a = 517 ∧ f = 0)) B B2) ∨
    ∃ (cs' M' : Nat) (ty' mn' nu' cd' : Nat → Int32) (E' : Nat → Nat → Nat) (Nm' : Nat → Nat → List Nat) (Pv' : Nat → Nat → Int32), PLI N p2 cs' w2 M' ty' mn' nu' cd' E' Nm' Pv' (fun _ => 0) 0 0 A2 la z B2 us un 0 0 ∧ (TXQ M' cs' ty' mn' nu' cd' E' Pv' ∧ NMQ E' Nm') ∧ PRG A2 B2 p2 p w2 w ∧ (A2.D 11 5 = 0 ∧ B2.D 517 20 = 0) ∧ (A2.D 11 3 = 0 ∧ B2.D 517 13 = 0) ∧ A2.D 0 6 = 1 ∧ B2.D 517 5 = 1) := by
  have h0 := h.th (x := 0) hE
  have s0 : same (fun a f => a = 517 ∧ f = 0) B (B.sD 517 0 0) := same.rf.sD ⟨rfl, rfl⟩
  have d0 : ∀ a f, ¬ (a = 517 ∧ f = 0) → (B.sD 517 0 0).D a f = B.D a f := fun a f y => rdnn y
  have hPg0 : PRG A (B.sD 517 0 0) p p2 w w2 := by
    obtain ⟨k1, k2, k3, k4, k5, k6, k7, k8⟩ := hPg
    exact ⟨k1, k2, k3, k4, k5, k6, by rw [d0 _ _ (by omega)]; exact k7, by rw [d0 _ _ (by omega)]; exact k8⟩
  have hR0 : RTP A (B.sD 517 0 0) := hR.fr (fun _ _ _ => rfl) (fun a f y => d0 a f (by omega))
  have eB : F_M_text N 517 sd B = bC (F_M_reads N 517 (B.sD 517 0 0)) fun v4 H5 => if v4 = (0 : Int32) then bnd ((H5.D 517 6)) fun x37 => some (-x37, H5) else bC (F_M_takes N 517 H5) fun v8 H9 => rf (H9.P 517 9) fun a10 => ck (H9.sh[a10]? = some (13, 0)) <| bC (F_MWorld_begin N a10 H9) fun v14 H15 => rf (H15.P 517 9) fun a16 => ck (H15.sh[a16]? = some (13, 0)) <| bnd (H15.sD a16 1 sd) fun H19 => rf (H19.P 517 8) fun a20 => rf (H19.P 517 9) fun a22 => ck (H19.sh[a20]? = some (13, 0)) <| bC (F_MWorld_copies N a20 a22 H19) fun v26 H27 => bC (F_M_forgets N 517 H27) fun v29 H30 => bnd (H30.sD 517 20 (0 : Int32)) fun H31 => bnd (H31.sD 517 13 (0 : Int32)) fun H32 => rf (H32.P 517 3) fun a33 => ck (H32.sh[a33]? = some (14, 0)) <| bnd ((H32.D a33 29)) fun x36 => some (x36, H32) := by
    unfold F_M_text
    rw [ck_t (rS_517 h.1.2.1), bnd_t]
  have i0 : ∀ w, w ∈ lT → IE B w → IE (B.sD 517 0 0) w := fun w hw y => y.w (by have := lT_le hw; omega)
  generalize B.sD 517 0 0 = B0 at *
  obtain ⟨w2m, p2m, wm, pm⟩ := hPg0.w2m
  obtain ⟨g1, g2, g3, g4, g5, g6, g7, g8⟩ := hPg0
  have h0' := h0
  obtain ⟨⟨hGA, hGB, hT, hL⟩, ⟨hus, hun, hne, b8, b9, b3⟩, -⟩ := h0
  have hu1 := lU_le hus
  have hu2 := lU_le hun
  have dj := lU_dj hus hun hne
  have hlen := hGA.len
  have hlenB := hGB.len
  obtain ⟨T, hT6, hT1, hrd⟩ := rd_jo (N := N) (p := p2) (w := w2) p2m w2m hGA hGB hR0 hSt g4 g8 (by omega)
  have eA : ∀ v A', F_Reader_readAll N 8 p2 A = some (v, A') → F_W_text N 0 sd A = if v = (0 : Int32) then rf (A'.P 0 0) fun a33 => ck (A'.sh[a33]? = some (1, 0)) <| bnd ((A'.D a33 4)) fun x36 => some (-x36, A') else bC (F_W_exchangePrograms N 0 A') fun v12 H13 => rf (H13.P 0 2) fun a14 => rf (H13.P 0 4) fun a16 => ck (H13.sh[a16]? = some (4, 0)) <| rf (H13.P a16 2) fun a19 => ck (H13.sh[a19]? = some (3, 0)) <| bC (F_Shapes_total N a19 H13) fun v23 H24 => ck (H24.sh[a14]? = some (10, 0)) <| bC (F_Play_begin N a14 sd v23 H24) fun v27 H28 => rf (H28.P 0 4) fun a29 => ck (H28.sh[a29]? = some (4, 0)) <| bnd ((H28.D a29 7)) fun x32 => some (x32, H28) := fun v A' k1 => by
    unfold F_W_text
    rw [ck_t (rS_0 hGA), rf_t (rP_0_1 hGA), rf_t g2, ck_t (rS_8 hGA), bC_t k1]
  refine ⟨T, hT6, hT1, ?_⟩
  rcases hrd with ⟨A', B', k, p0, k0, k00, k1, k2, k3, k4, k5, k6, k7, k8, k9, k10, k11⟩ | ⟨A', B', cs', M', ty', mn', nu', cd', E', Nm', Pv', k1, k2, k3, k5, k6, kT, kQ, k7, k8, k9, k10, k11⟩
  · have hG' := SRA_gr p2m k7 hGA
    have hGB' := k8.gr hGB
    have gA := k7.gw
    have gB := k8.gw
    have dA : ∀ a f, a < 626 → ¬ SRA p2 a f = true → A'.D a f = A.D a f ∧ A'.P a f = A.P a f := fun a f y1 y2 => gA.2 a f (by omega) y2
    have dB : ∀ a f, ¬ RDB w2 a f → B'.D a f = B0.D a f := fun a f y => k8.1 a f y
    refine ⟨-nI k, A', B', ?_, ?_, ⟨0, fun _ => 0, by omega, k9, k10, fun _ => (by decide : (0 : Nat) < 256), fun i hi => by omega⟩, fun x hx => ?_, .inr ⟨?_, by rw [k5, k3], by rw [k6, k4]⟩, k9, gA.mono fun a f y => .inl y, ?_, ((s0.gw).mono fun a f y => .inr (.inl ⟨y.1, .inl y.2⟩)).tr (gB.mono fun a f y => .inl y), ⟨by rw [k8.2.2.2.1, s0.2.2.2.1], by rw [k8.2.2.2.2, s0.2.2.2.2]⟩, fun y => e_Mreads (by have := lT_le w2m; omega) g4 k2 (i0 w2 w2m y), .inl ⟨?_, ?_, gA, ((s0.gw).mono fun a f y => .inr y).tr (gB.mono fun a f y => .inl y)⟩⟩
    · rw [eA 0 A' k1, if_pos rfl, rf_t (rP_0_0 hG'), ck_t (rS_1 hG'), bnd_t, k3]
    · rw [eB, bC_t k2, if_pos rfl, bnd_t, k5]
    · rw [(dA 7 x (by omega) (fun y => by have := SRA_le y; omega)).1]
      exact hSt x hx
    · rw [k3]
      exact fun y => by have := (nI_eq (b := 0) (by omega) (by decide)).mp y; omega
    · obtain ⟨⟨l, l1, l2⟩, l3, l4, -⟩ := k7
      rw [l1, List.length_append]
      omega
    · exact h0'.gw hE hG' hGB' gA gB (fun a f y z => by have := SRA_le y; have l3 := hL.2.2.1; unfold nA at z; omega) (fun a f y z => by have := RDB_le y; unfold nB cU at z; omega)
    · refine ⟨by rw [(dA 0 4 (by omega) (fun y => by have := SRA_le y; omega)).2]; exact g1, by rw [(dA 0 5 (by omega) (fun y => by have := SRA_le y; omega)).2]; exact g2, by rw [k8.2.1]; exact g3, by rw [k8.2.1]; exact g4, g5, g6, ?_, k11⟩
      rw [dB _ _ (fun y => by have := RDB_le y; omega)]
      exact g7
  · -- a good text
    have hE' := kQ.1.1
    have e4 : E' 4 0 ≤ 16 := hE'.1
    have e48 := hE'.2.2.2.1
    have hG' := SRA_gr p2m k7 hGA
    have hGB' := k8.gr hGB
    have gA := k7.gw
    have gB := k8.gw
    have dA : ∀ a f, a < 626 → ¬ SRA p2 a f = true → A'.D a f = A.D a f ∧ A'.P a f = A.P a f := fun a f y1 y2 => gA.2 a f (by omega) y2
    have p4 : A'.P 0 4 = .ref p := by rw [(dA 0 4 (by omega) (fun y => by have := SRA_le y; omega)).2]; exact g1
    have p5 : A'.P 0 5 = .ref p2 := by rw [(dA 0 5 (by omega) (fun y => by have := SRA_le y; omega)).2]; exact g2
    -- class: programs are exchanged
    have eX : F_W_exchangePrograms N 0 A' = some ((), ((A'.sP 0 5 (.ref p)).sP 0 4 (.ref p2)).sD 0 6 1) := by
      unfold F_W_exchangePrograms
      rw [ck_t (rS_0 hG'), rf_t p5, rf_t p4, bnd_t, bnd_t, bnd_t]
    have G8 : Gr (((A'.sP 0 5 (.ref p)).sP 0 4 (.ref p2)).sD 0 6 1) := ((hG'.sP2 (by omega)).sP2 (by omega)).sD
    have gX : gw (fun a f => a = 0 ∧ (f = 4 ∨ f = 5 ∨ f = 6)) A' (((A'.sP 0 5 (.ref p)).sP 0 4 (.ref p2)).sD 0 6 1) := ((gw.rf.sP ⟨rfl, by omega⟩).sP ⟨rfl, by omega⟩).sD ⟨rfl, by omega⟩
    have x4 : (((A'.sP 0 5 (.ref p)).sP 0 4 (.ref p2)).sD 0 6 1).P 0 4 = .ref p2 := sP_s
    have x5 : (((A'.sP 0 5 (.ref p)).sP 0 4 (.ref p2)).sD 0 6 1).P 0 5 = .ref p := by
      show ((A'.sP 0 5 (.ref p)).sP 0 4 (.ref p2)).P 0 5 = .ref p
      rw [sP_o (by omega), sP_s]
    have x6 : (((A'.sP 0 5 (.ref p)).sP 0 4 (.ref p2)).sD 0 6 1).D 0 6 = 1 := rds
    have xs : (((A'.sP 0 5 (.ref p)).sP 0 4 (.ref p2)).sD 0 6 1).sh = A'.sh ∧ (((A'.sP 0 5 (.ref p)).sP 0 4 (.ref p2)).sD 0 6 1).sl = A'.sl := ⟨rfl, rfl⟩
    generalize ((A'.sP 0 5 (.ref p)).sP 0 4 (.ref p2)).sD 0 6 1 = A8 at *
    have P8 := gr_P G8 p2m
    have kT' := kT
    obtain ⟨⟨-, ⟨ta3, ta5, -⟩, -, -, ⟨ta7, -⟩, -⟩, ⟨-, -, -, -, tb29, -⟩, -⟩ := kT
    have hlen' : 626 ≤ A'.sh.length := hG'.len
    have d8 : ∀ a f, a < 626 → ¬ (a = 0 ∧ (f = 4 ∨ f = 5 ∨ f = 6)) → A8.D a f = A'.D a f := fun a f y1 y2 => (gX.2 a f (by omega) y2).1
    have eT : F_Shapes_total N (p2 + 70) A8 = some (nI (E' 5 (E' 4 0)), A8) := by
      unfold F_Shapes_total
      rw [ck_t (PrA_2 P8), rf_t (PcP_2 P8), bnd_t, d8 (p2 + 70) 3 (by omega) (by omega), ta3, ar_t (PcA_2 P8), rdI (show E' 4 0 < 17 by omega) (by decide), d8 (p2 + 137) _ (by omega) (by omega), ta5 _ (Nat.le_refl _)]
    -- class: the play begins
    obtain ⟨A9, c1, c2, c3, c4⟩ := cl_A (N := N) (sd := sd) (wd := E' 5 (E' 4 0)) (by omega) (gr_W G8 12 (by decide))
    have G9 := c2.gr G8
    have s10 : same (fun a f => a = 11 ∧ (f = 3 ∨ f = 5)) A9 ((A9.sD 11 5 0).sD 11 3 0) := (same.rf.sD ⟨rfl, .inr rfl⟩).sD ⟨rfl, .inl rfl⟩
    have v5 : ((A9.sD 11 5 0).sD 11 3 0).D 11 5 = 0 := by rw [rdf (by decide), rds]
    have v3 : ((A9.sD 11 5 0).sD 11 3 0).D 11 3 = 0 := rds
    have eP : F_Play_begin N 11 sd (nI (E' 5 (E' 4 0))) A8 = bC (F_Play_forgetInputs N 11 ((A9.sD 11 5 0).sD 11 3 0)) fun v11 H12 => some ((), H12) := by
      unfold F_Play_begin
      rw [ck_t (rS_11 G8), rf_t (rP_11_0 G8), ck_t (rA_11_0 G8), bC_t c1, bnd_t, bnd_t]
    generalize (A9.sD 11 5 0).sD 11 3 0 = A10 at *
    have G10 := s10.gr G9
    obtain ⟨A11, f1, f2, f3, f4, f5⟩ := fg_A (N := N) (by omega) G10
    have G11 := f2.gr G10
    have sA : same (fun a f => (a = 11 ∧ (f = 1 ∨ f = 3 ∨ f = 5)) ∨ cW 12 a f ∨ a = 125 ∨ a = 127) A8 A11 := ((c2.mono fun a f y => .inr (.inl y)).tr (s10.mono fun a f y => by omega)).tr (f2.mono fun a f y => by omega)
    have w12 : ∀ a f, 12 ≤ a → a ≤ 17 → A11.D a f = A9.D a f := fun a f y1 y2 => by rw [f2.1 _ _ (by omega), s10.1 _ _ (by omega)]
    have gXA : gw (fun a f => (a = 0 ∧ (f = 4 ∨ f = 5 ∨ f = 6)) ∨ (a = 11 ∧ (f = 1 ∨ f = 3 ∨ f = 5)) ∨ cW 12 a f ∨ a = 125 ∨ a = 127) A' A11 := (gX.mono fun a f y => .inl y).tr (sA.gw.mono fun a f y => .inr y)
    have dd : ∀ a f, a < 626 → ¬ ((a = 0 ∧ (f = 4 ∨ f = 5 ∨ f = 6)) ∨ (a = 11 ∧ (f = 1 ∨ f = 3 ∨ f = 5)) ∨ cW 12 a f ∨ a = 125 ∨ a = 127) → A11.D a f = A'.D a f := fun a f y1 y2 => (gXA.2 a f (by omega) y2).1
    -- reference: texts are exchanged
    have q3 : B'.P 517 3 = .ref w := by rw [k8.2.1]; exact g3
    have q4 : B'.P 517 4 = .ref w2 := by rw [k8.2.1]; exact g4
    have eY : F_M_takes N 517 B' = some ((), ((B'.sP 517 3 (.ref w2)).sP 517 4 (.ref w)).sD 517 5 1) := by
      unfold F_M_takes
      rw [ck_t (rS_517 hGB'), rf_t q3, rf_t q4, bnd_t, bnd_t, bnd_t]
    have H8 : Gr (((B'.sP 517 3 (.ref w2)).sP 517 4 (.ref w)).sD 517 5 1) := ((hGB'.sP2 (by omega)).sP2 (by omega)).sD
    have gY : gw (fun a f => a = 517 ∧ (f = 3 ∨ f = 4 ∨ f = 5)) B' (((B'.sP 517 3 (.ref w2)).sP 517 4 (.ref w)).sD 517 5 1) := ((gw.rf.sP ⟨rfl, by omega⟩).sP ⟨rfl, by omega⟩).sD ⟨rfl, by omega⟩
    have y3 : (((B'.sP 517 3 (.ref w2)).sP 517 4 (.ref w)).sD 517 5 1).P 517 3 = .ref w2 := by
      show ((B'.sP 517 3 (.ref w2)).sP 517 4 (.ref w)).P 517 3 = .ref w2
      rw [sP_o (by omega), sP_s]
    have y4 : (((B'.sP 517 3 (.ref w2)).sP 517 4 (.ref w)).sD 517 5 1).P 517 4 = .ref w := sP_s
    have y5 : (((B'.sP 517 3 (.ref w2)).sP 517 4 (.ref w)).sD 517 5 1).D 517 5 = 1 := rds
    have y8 : (((B'.sP 517 3 (.ref w2)).sP 517 4 (.ref w)).sD 517 5 1).P 517 8 = .ref us := by
      show ((B'.sP 517 3 (.ref w2)).sP 517 4 (.ref w)).P 517 8 = .ref us
      rw [sP_o (by omega), sP_o (by omega), k8.2.1]
      exact b8
    have y9 : (((B'.sP 517 3 (.ref w2)).sP 517 4 (.ref w)).sD 517 5 1).P 517 9 = .ref un := by
      show ((B'.sP 517 3 (.ref w2)).sP 517 4 (.ref w)).P 517 9 = .ref un
      rw [sP_o (by omega), sP_o (by omega), k8.2.1]
      exact b9
    have ys : (((B'.sP 517 3 (.ref w2)).sP 517 4 (.ref w)).sD 517 5 1).sh = B'.sh ∧ (((B'.sP 517 3 (.ref w2)).sP 517 4 (.ref w)).sD 517 5 1).sl = B'.sl := ⟨rfl, rfl⟩
    generalize ((B'.sP 517 3 (.ref w2)).sP 517 4 (.ref w)).sD 517 5 1 = B8 at *
    obtain ⟨B9, m1, m2, m3, m4⟩ := bg_B (N := N) (by omega) (gr_U H8 un hun)
    have H9 := m2.gr H8
    have s11 : same (fun a f => a = un ∧ f = 1) B9 (B9.sD un 1 sd) := same.rf.sD ⟨rfl, rfl⟩
    have u1 : (B9.sD un 1 sd).D un 1 = sd := rds
    generalize hB10 : B9.sD un 1 sd = B10 at *
    have H10 := s11.gr H9
    have hmo : ∀ c m, mOf E' c m → m < E' 5 (E' 4 0) := fun c m y => (mOf_lt hE' y).1
    obtain ⟨W1, R1, V1⟩ := nw_wp (E := E') (wo := 12) (u := un) (A := A11) (B := B10) (wd := E' 5 (E' 4 0)) e48 hmo (by
      rw [w12 _ _ (by omega) (by omega), w12 _ _ (by omega) (by omega), w12 _ _ (by omega) (by omega), w12 _ _ (by omega) (by omega), w12 _ _ (by omega) (by omega), w12 _ _ (by omega) (by omega), w12 _ _ (by omega) (by omega), w12 _ _ (by omega) (by omega)]
      exact ⟨c3.1, c3.2.2.1, c3.2.2.2.1, c3.2.2.2.2.1, c3.2.2.2.2.2.1, c3.2.2.2.2.2.2.1, c3.2.2.2.2.2.2.2.1, c3.2.2.2.2.2.2.2.2⟩) (fun q hq => by rw [w12 _ _ (by omega) (by omega), w12 _ _ (by omega) (by omega)]; exact c4 q hq) (by
      rw [s11.1 _ _ (by omega), s11.1 _ _ (by omega), s11.1 _ _ (by omega), s11.1 _ _ (by omega), s11.1 _ _ (by omega), s11.1 _ _ (by omega)]
      exact ⟨m3.1, m3.2.2.1, m3.2.2.2.1, m3.2.2.2.2.1, m3.2.2.2.2.2.1, m3.2.2.2.2.2.2⟩) (fun q hq => by rw [s11.1 _ _ (by omega), s11.1 _ _ (by omega)]; exact ⟨(m4 q hq).1, (m4 q hq).2.1⟩) (by rw [w12 _ _ (by omega) (by omega), c3.2.1, u1])
    obtain ⟨B11, n1, n2, n3, n4⟩ := W1.cpB (N := N) hN hus hun hne H10 hE'
    have H11 := n2.gr H10
    obtain ⟨B12, o1, o2, o3, o4⟩ := fg_B (N := N) (by omega) H11
    have H12 := o2.gr H11
    have s13 : same (fun a f => a = 517 ∧ (f = 13 ∨ f = 20)) B12 ((B12.sD 517 20 0).sD 517 13 0) := (same.rf.sD ⟨rfl, .inr rfl⟩).sD ⟨rfl, .inl rfl⟩
    have z20 : ((B12.sD 517 20 0).sD 517 13 0).D 517 20 = 0 := by rw [rdf (by decide), rds]
    have z13 : ((B12.sD 517 20 0).sD 517 13 0).D 517 13 = 0 := rds
    have eF : ∀ X, (bnd (B12.sD 517 20 (0 : Int32)) fun H31 => bnd (H31.sD 517 13 (0 : Int32)) fun H32 => rf (H32.P 517 3) fun a33 => ck (H32.sh[a33]? = some (14, 0)) <| bnd ((H32.D a33 29)) fun x36 => some (x36, H32)) = X → (rf (((B12.sD 517 20 0).sD 517 13 0).P 517 3) fun a33 => ck (((B12.sD 517 20 0).sD 517 13 0).sh[a33]? = some (14, 0)) <| bnd ((((B12.sD 517 20 0).sD 517 13 0).D a33 29)) fun x36 => some (x36, ((B12.sD 517 20 0).sD 517 13 0))) = X := fun X y => y
    have eG : (bnd (B12.sD 517 20 (0 : Int32)) fun H31 => bnd (H31.sD 517 13 (0 : Int32)) fun H32 => rf (H32.P 517 3) fun a33 => ck (H32.sh[a33]? = some (14, 0)) <| bnd ((H32.D a33 29)) fun x36 => some (x36, H32)) = (rf (((B12.sD 517 20 0).sD 517 13 0).P 517 3) fun a33 => ck (((B12.sD 517 20 0).sD 517 13 0).sh[a33]? = some (14, 0)) <| bnd ((((B12.sD 517 20 0).sD 517 13 0).D a33 29)) fun x36 => some (x36, ((B12.sD 517 20 0).sD 517 13 0))) := rfl
    clear eF
    generalize (B12.sD 517 20 0).sD 517 13 0 = B13 at *
    have H13 := s13.gr H12
    have sB : same (fun a f => (a = 517 ∧ (f = 13 ∨ f = 20)) ∨ cU us a f ∨ cU un a f ∨ a = 617 ∨ a = 619) B8 B13 := ((((m2.mono fun a f y => .inr (.inr (.inl y))).tr (s11.mono fun a f y => by unfold cU; omega)).tr (n2.mono fun a f y => .inr (.inl y))).tr (o2.mono fun a f y => by omega)).tr (s13.mono fun a f y => .inl y)
    have gYB : gw (fun a f => (a = 517 ∧ (f = 3 ∨ f = 4 ∨ f = 5 ∨ f = 13 ∨ f = 20)) ∨ cU us a f ∨ cU un a f ∨ a = 617 ∨ a = 619) B' B13 := (gY.mono fun a f y => .inl ⟨y.1, by omega⟩).tr (sB.gw.mono fun a f y => by
      rcases y with y | y
      · exact .inl ⟨y.1, by omega⟩
      · exact .inr y)
    have de : ∀ a f, a < 626 → ¬ ((a = 517 ∧ (f = 3 ∨ f = 4 ∨ f = 5 ∨ f = 13 ∨ f = 20)) ∨ cU us a f ∨ cU un a f ∨ a = 617 ∨ a = 619) → B13.D a f = B'.D a f := fun a f y1 y2 => (gYB.2 a f (by have : B'.sh = B0.sh := k8.2.2.2.1; rw [this]; omega) y2).1
    have uB : ∀ u a f, u = us ∨ u = un → u ≤ a → a ≤ u + 9 → B13.D a f = B11.D a f := fun u a f y0 y1 y2 => by rw [s13.1 _ _ (by omega), o2.1 _ _ (by omega)]
    have hP13 : B13.P = B8.P := by rw [s13.2.1, o2.2.1, n2.2.1, s11.2.1, m2.2.1]
    have hP11 : A11.P = A8.P := by rw [f2.2.1, s10.2.1, c2.2.1]
    have l3 := hL.2.2.1
    have tx : TXF A11 p2 B13 w2 cs' M' ty' mn' nu' cd' E' Nm' Pv' := TXF.gw (la := la) (z := z) kT' hE' hG' hGB' (gA.get hL.2.1) gXA gYB (fun a f y => by unfold cW at y; omega) (fun a f y => by unfold cU at y; omega)
    have hL11 : LST A11 la z := (hL.gw gA hlen (fun y => by have := SRA_le y; omega)).gw gXA hlen' (by unfold cW; omega)
    have pli : PLI N p2 cs' w2 M' ty' mn' nu' cd' E' Nm' Pv' (fun _ => 0) 0 0 A11 la z B13 us un 0 0 := PLI.nw (n := 0) G11 H13 tx hL11 hus hun hne (by rw [hP13]; exact y8) (by rw [hP13]; exact y9) (by rw [hP13]; exact y3) (by decide) (by rw [f3, s10.1 _ _ (by omega)]; exact c3.1) (by rw [w12 _ _ (by omega) (by omega)]; exact c3.1) (W1.fr (fun _ _ _ _ => rfl) (fun a f y1 y2 => by rw [uB un a f (.inr rfl) y1 y2, n2.1 _ _ (by unfold cU; omega)])) (R1.fr (fun a f y1 y2 => by rw [uB un a f (.inr rfl) y1 y2, n2.1 _ _ (by unfold cU; omega)])) V1 (n3.fr (fun _ _ _ _ => rfl) (fun a f y1 y2 => uB us a f (.inl rfl) y1 y2)) ((n4 _ R1).fr (fun a f y1 y2 => uB us a f (.inl rfl) y1 y2)) (fun q hq => ⟨f4 q hq, by rw [s13.1 _ _ (by omega)]; exact o3 q hq⟩) (fun q hq => ⟨f5 q hq, by rw [s13.1 _ _ (by omega)]; exact o4 q hq⟩)
    refine ⟨nI (E' 17 0), A11, B13, ?_, ?_, ⟨0, fun _ => 0, by omega, ?_, ?_, fun _ => (by decide : (0 : Nat) < 256), fun i hi => by omega⟩, fun x hx => ?_, .inl ⟨?_, ?_, ?_⟩, ?_, (gA.mono fun a f y => .inl y).tr (gXA.mono fun a f y => .inr y), ?_, (((s0.gw).mono fun a f y => .inr (.inl ⟨y.1, .inl y.2⟩)).tr (gB.mono fun a f y => .inl y)).tr (gYB.mono fun a f y => by
      rcases y with y | y
      · exact .inr (.inl ⟨y.1, by omega⟩)
      · exact .inr (.inr y)), ⟨?_, ?_⟩, fun y => ?_, .inr ⟨cs', M', ty', mn', nu', cd', E', Nm', Pv', pli, kQ, ⟨by rw [hP11]; exact x4, by rw [hP11]; exact x5, by rw [hP13]; exact y3, by rw [hP13]; exact y4, by omega, by omega, ?_, ?_⟩, ⟨?_, z20⟩, ⟨?_, z13⟩, ?_, ?_⟩⟩
    · have P11 := gr_P G11 p2m
      have eq := eP.trans (bC_t f1)
      rw [eA 1 A' k1, if_neg (by decide), bC_t eX, rf_t (rP_0_2 G8), rf_t x4, ck_t (PrS P8), rf_t (PrP_2 P8), ck_t (PrA_2 P8), bC_t eT, ck_t (rS_11 G8), bC_t eq, rf_t (show A11.P 0 4 = .ref p2 by rw [hP11]; exact x4), ck_t (PrS P11), bnd_t, dd p2 7 (by omega) (by unfold cW; omega), ta7]
    · have T13 := gr_T H13 w2 w2m
      have hw2' := lT_le w2m
      have b99 : B9.P 517 9 = .ref un := by rw [m2.2.1]; exact y9
      have b10_8 : B10.P 517 8 = .ref us := by rw [s11.2.1, m2.2.1]; exact y8
      have b10_9 : B10.P 517 9 = .ref un := by rw [s11.2.1, m2.2.1]; exact y9
      rw [eB, bC_t k2, if_neg (by decide), bC_t eY, rf_t y9, ck_t (US (gr_U H8 un hun)), bC_t m1, rf_t b99, ck_t (US (gr_U H9 un hun)), bnd_t, hB10, rf_t b10_8, rf_t b10_9, ck_t (US (gr_U H10 us hus)), bC_t n1, bC_t o1, eG, rf_t (show B13.P 517 3 = .ref w2 by rw [hP13]; exact y3), ck_t (TS T13), bnd_t, de w2 29 (by omega) (by unfold cU; omega), tb29]
    · rw [dd 1 1 (by omega) (by unfold cW; omega)]; exact k9
    · rw [de 517 2 (by omega) (by unfold cU; omega)]; exact k10
    · rw [dd 7 x (by omega) (by unfold cW; omega), (dA 7 x (by omega) (fun y => by have := SRA_le y; omega)).1]
      exact hSt x hx
    · rw [dd 1 4 (by omega) (by unfold cW; omega)]; exact k3
    · rw [de 517 6 (by omega) (by unfold cU; omega)]; exact k5
    · rw [de 517 7 (by omega) (by unfold cU; omega)]; exact k6
    · rw [dd 1 1 (by omega) (by unfold cW; omega)]; exact k9
    · have e1 : A11.sh = A'.sh := by rw [f2.2.2.2.1, s10.2.2.2.1, c2.2.2.2.1]; exact xs.1
      have e2 : A11.sl = A'.sl := by rw [f2.2.2.2.2, s10.2.2.2.2, c2.2.2.2.2]; exact xs.2
      obtain ⟨⟨l, l1, l2⟩, l3, l4, -⟩ := k7
      rw [e1, e2, l1, List.length_append]
      omega
    · rw [sB.2.2.2.1, ys.1, k8.2.2.2.1, s0.2.2.2.1]
    · rw [sB.2.2.2.2, ys.2, k8.2.2.2.2, s0.2.2.2.2]
    · obtain ⟨x, xa, xb⟩ := (e_Mreads (by have := lT_le w2m; omega) g4 k2 (i0 w2 w2m y)).2
      have := lT_le w2m
      exact ⟨gr_T H13 w2 w2m, x, xa, by rw [de (w2 + 16) 0 (by omega) (by unfold cU; omega)]; exact xb⟩
    · rw [de w2 37 (by omega) (by unfold cU; omega)]; exact k11
    · rw [de w 37 (by omega) (by unfold cU; omega), k8.1 _ _ (fun y => by have := RDB_le y; omega)]; exact g7
    · rw [f2.1 _ _ (by omega)]; exact v5
    · rw [f2.1 _ _ (by omega)]; exact v3
    · rw [sA.1 _ _ (by unfold cW; omega)]; exact x6
    · rw [sB.1 _ _ (by unfold cU; omega)]; exact y5
end Par
