/-! ===== the call swap ===== -/
def SWU (p2 a f : Nat) : Prop := SRA p2 a f = true ∨ (a = 0 ∧ (f = 4 ∨ f = 5 ∨ f = 6)) ∨ cW 12 a f ∨ cW 19 a f
def SWV (w2 us um a f : Nat) : Prop := RDB w2 a f ∨ (a = 517 ∧ (f = 0 ∨ f = 3 ∨ f = 4 ∨ f = 5 ∨ f = 9 ∨ f = 10)) ∨ cU us a f ∨ cU um a f
section Par
variable {N p wo inp cs w u ir M K0 : Nat} {s pl : Int32} {ty mn nu cd : Nat → Int32} {E Q : Nat → Nat → Nat} {V : Nat → Nat → Int32} {nL lc : Nat} {lk : Nat → Nat} {hd : Nat → Int32}
theorem swap_jo {S : Nat → Nat} {b t0 la z us un um c n p2 w2 : Nat} {Nm : Nat → Nat → List Nat} {Pv : Nat → Nat → Int32} {A B : Hp} (h : PLI N p cs w M ty mn nu cd E Nm Pv S b t0 A la z B us un c n) (hPg : PRG A B p p2 w w2) (hE : WE E) (hQ : NMQ E Nm) (hR : RTP A B) (hSt : StA A) (h10 : B.P 517 10 = .ref um) (hum : um ∈ lU) (hm1 : um ≠ us) (hm2 : um ≠ un) (hN : 2000000 ≤ N) : ∃ T, T ≤ 6000 ∧ A.D 1 1 = nI T ∧ ∃ r A2 B2, F_W_swap N 0 A = some (r, A2) ∧ F_M_swap N 517 B = some (r, B2) ∧ gw (SWU p2) A A2 ∧ (A2.sh.length ≤ A.sh.length + 8 * (T + 2) ∧ A2.sl ≤ A.sl + 80 * (T + 2)) ∧ gw (SWV w2 us um) B B2 ∧ (B2.sh = B.sh ∧ B2.sl = B.sl) ∧ (∀ f : Nat, f = 16 → IE B w2 → IE B2 w2) ∧
    ((A2 = A ∧ B2 = B.sD 517 0 0) ∨ (RTP A2 B2 ∧ StA A2 ∧ FLT A2 B2 ∧ A2.D 1 1 = 0 ∧
    ((PLI N p cs w M ty mn nu cd E Nm Pv S b t0 A2 la z B2 us un c n ∧ PRG A2 B2 p p2 w w2 ∧ gw (fun a f => SRA p2 a f = true) A A2 ∧ gw (fun a f => RDB w2 a f ∨ (a = 517 ∧ f = 0)) B B2) ∨
    ∃ (cs' M' : Nat) (ty' mn' nu' cd' : Nat → Int32) (E' : Nat → Nat → Nat) (Nm' : Nat → Nat → List Nat) (Pv' : Nat → Nat → Int32), c = n ∧ PLI N p2 cs' w2 M' ty' mn' nu' cd' E' Nm' Pv' S b t0 A2 la z B2 us um n n ∧ (TXQ M' cs' ty' mn' nu' cd' E' Pv' ∧ NMQ E' Nm') ∧ PRG A2 B2 p2 p w2 w ∧ A2.D 0 6 = 1 ∧ B2.D 517 5 = 1 ∧ B2.P 517 10 = .ref un))) := by
  have h0 := h.th (x := 0) hE
  have qq := qt_A (N := N) h0
  have s0 : same (fun a f => a = 517 ∧ f = 0) B (B.sD 517 0 0) := same.rf.sD ⟨rfl, rfl⟩
  have d0 : ∀ a f, ¬ (a = 517 ∧ f = 0) → (B.sD 517 0 0).D a f = B.D a f := fun a f y => rdnn y
  have hPg0 : PRG A (B.sD 517 0 0) p p2 w w2 := by
    obtain ⟨k1, k2, k3, k4, k5, k6, k7, k8⟩ := hPg
    exact ⟨k1, k2, k3, k4, k5, k6, by rw [d0 _ _ (by omega)]; exact k7, by rw [d0 _ _ (by omega)]; exact k8⟩
  have hR0 : RTP A (B.sD 517 0 0) := hR.fr (fun _ _ _ => rfl) (fun a f y => d0 a f (by omega))
  have i0 : ∀ w, w ∈ lT → IE B w → IE (B.sD 517 0 0) w := fun w hw y => y.w (by have := lT_le hw; omega)
  have h10' : (B.sD 517 0 0).P 517 10 = .ref um := h10
  have eB : F_M_swap N 517 B = bC (F_M_isQuiet N 517 (B.sD 517 0 0)) fun v4 H5 => if v4 = (0 : Int32) then some ((-10), H5) else bC (F_M_reads N 517 H5) fun v8 H9 => if v8 = (0 : Int32) then bnd ((H9.D 517 6)) fun x35 => some (-x35, H9) else bC (F_M_carries N 517 H9) fun v12 H13 => bC (F_M_takes N 517 H13) fun v15 H16 => rf (H16.P 517 9) fun a17 => rf (H16.P 517 10) fun a19 => bnd (H16.sP 517 9 (.ref a19)) fun H21 => bnd (H21.sP 517 10 (.ref a17)) fun H22 => rf (H22.P 517 8) fun a23 => rf (H22.P 517 9) fun a25 => ck (H22.sh[a23]? = some (13, 0)) <| bC (F_MWorld_copies N a23 a25 H22) fun v29 H30 => rf (H30.P 517 3) fun a31 => ck (H30.sh[a31]? = some (14, 0)) <| bnd ((H30.D a31 29)) fun x34 => some (x34, H30) := by
    unfold F_M_swap
    rw [ck_t (rS_517 h.1.2.1), bnd_t]
  generalize hB0 : B.sD 517 0 0 = B0 at *
  obtain ⟨w2m, p2m, wm, pm⟩ := hPg0.w2m
  obtain ⟨g1, g2, g3, g4, g5, g6, g7, g8⟩ := hPg0
  have h0' := h0
  obtain ⟨⟨hGA, hGB, hT, hL⟩, ⟨hus, hun, hne, b8, b9, b3⟩, ⟨n0, n1, n2, n3, n4, n5, n6⟩, ⟨Qn, x1, x2, x3⟩, ⟨Qs, y1, y2, y3⟩, hLk, hRw, hCm⟩ := h0
  have hu1 := lU_le hus
  have hu2 := lU_le hun
  have hu3 := lU_le hum
  have dj := lU_dj hus hun hne
  have dj2 := lU_dj hum hus hm1
  have dj3 := lU_dj hum hun hm2
  have hlen := hGA.len
  have hlenB := hGB.len
  obtain ⟨T, hT6, hT1, hrd⟩ := rd_jo (N := N) (p := p2) (w := w2) p2m w2m hGA hGB hR0 hSt g4 g8 (by omega)
  refine ⟨T, hT6, hT1, ?_⟩
  by_cases hq : n = c
  · rw [if_pos hq] at qq
    have eA : ∀ v A', F_Reader_readAll N 8 p2 A = some (v, A') → F_W_swap N 0 A = if v = (0 : Int32) then rf (A'.P 0 0) fun a35 => ck (A'.sh[a35]? = some (1, 0)) <| bnd ((A'.D a35 4)) fun x38 => some (-x38, A') else bC (F_W_exchangePrograms N 0 A') fun v19 H20 => rf (H20.P 0 2) fun a21 => rf (H20.P 0 5) fun a23 => rf (H20.P 0 4) fun a25 => ck (H20.sh[a21]? = some (10, 0)) <| bC (F_Play_carry N a21 a23 a25 H20) fun v29 H30 => rf (H30.P 0 4) fun a31 => ck (H30.sh[a31]? = some (4, 0)) <| bnd ((H30.D a31 7)) fun x34 => some (x34, H30) := fun v A' k1 => by
      unfold F_W_swap
      rw [ck_t (rS_0 hGA), rf_t (rP_0_2 hGA), ck_t (rS_11 hGA), bC_t qq.1, if_neg (by decide), rf_t (rP_0_1 hGA), rf_t g2, ck_t (rS_8 hGA), bC_t k1]
    rw [bC_t qq.2, if_neg (by decide)] at eB
    rcases hrd with ⟨A', B', k, p0, k0, k00, k1, k2, k3, k4, k5, k6, k7, k8, k9, k10, k11⟩ | ⟨A', B', cs', M', ty', mn', nu', cd', E', Nm', Pv', k1, k2, k3, k5, k6, kT, kQ, k7, k8, k9, k10, k11⟩
    · have hG' := SRA_gr p2m k7 hGA
      have hGB' := k8.gr hGB
      have gA := k7.gw
      have gB := k8.gw
      have dA : ∀ a f, a < 626 → ¬ SRA p2 a f = true → A'.D a f = A.D a f ∧ A'.P a f = A.P a f := fun a f y1 y2 => gA.2 a f (by omega) y2
      have dB : ∀ a f, ¬ RDB w2 a f → B'.D a f = B0.D a f := fun a f y => k8.1 a f y
      refine ⟨-nI k, A', B', ?_, ?_, gA.mono fun a f y => .inl y, ?_, ((s0.gw).mono fun a f y => .inr (.inl ⟨y.1, .inl y.2⟩)).tr (gB.mono fun a f y => .inl y), ⟨by rw [k8.2.2.2.1, s0.2.2.2.1], by rw [k8.2.2.2.2, s0.2.2.2.2]⟩, fun _ _ y => e_Mreads (by have := lT_le w2m; omega) g4 k2 (i0 w2 w2m y), .inr ⟨⟨0, fun _ => 0, by omega, k9, k10, fun _ => (by decide : (0 : Nat) < 256), fun i hi => by omega⟩, fun x hx => ?_, .inr ⟨?_, by rw [k5, k3], by rw [k6, k4]⟩, k9, .inl ⟨?_, ?_, gA, ((s0.gw).mono fun a f y => .inr y).tr (gB.mono fun a f y => .inl y)⟩⟩⟩
      · rw [eA 0 A' k1, if_pos rfl, rf_t (rP_0_0 hG'), ck_t (rS_1 hG'), bnd_t, k3]
      · rw [eB, bC_t k2, if_pos rfl, bnd_t, k5]
      · obtain ⟨⟨l, l1, l2⟩, l3, l4, -⟩ := k7
        rw [l1, List.length_append]
        omega
      · rw [(dA 7 x (by omega) (fun y => by have := SRA_le y; omega)).1]
        exact hSt x hx
      · rw [k3]
        exact fun y => by have := (nI_eq (b := 0) (by omega) (by decide)).mp y; omega
      · exact h0'.gw hE hG' hGB' gA gB (fun a f y z => by have := SRA_le y; have l3 := hL.2.2.1; unfold nA at z; omega) (fun a f y z => by have := RDB_le y; unfold nB cU at z; omega)
      · refine ⟨by rw [(dA 0 4 (by omega) (fun y => by have := SRA_le y; omega)).2]; exact g1, by rw [(dA 0 5 (by omega) (fun y => by have := SRA_le y; omega)).2]; exact g2, by rw [k8.2.1]; exact g3, by rw [k8.2.1]; exact g4, g5, g6, ?_, k11⟩
        rw [dB _ _ (fun y => by have := RDB_le y; omega)]
        exact g7
    · have hE' := kQ.1.1
      have hG' := SRA_gr p2m k7 hGA
      have hGB' := k8.gr hGB
      have gA := k7.gw
      have gB := k8.gw
      have dA : ∀ a f, a < 626 → ¬ SRA p2 a f = true → A'.D a f = A.D a f ∧ A'.P a f = A.P a f := fun a f y1 y2 => gA.2 a f (by omega) y2
      have dB : ∀ a f, ¬ RDB w2 a f → B'.D a f = B0.D a f := fun a f y => k8.1 a f y
      have p4 : A'.P 0 4 = .ref p := by rw [(dA 0 4 (by omega) (fun y => by have := SRA_le y; omega)).2]; exact g1
      have p5 : A'.P 0 5 = .ref p2 := by rw [(dA 0 5 (by omega) (fun y => by have := SRA_le y; omega)).2]; exact g2
      have hTo : TXF A' p B' w cs M ty mn nu cd E Nm Pv := TXF.gw (la := la) (z := z) hT hE hGA hGB hL.2.1 gA gB (fun a f y => by have := SRA_le y; have l3 := hL.2.2.1; omega) (fun a f y => by have := RDB_le y; omega)
      have eX : F_W_exchangePrograms N 0 A' = some ((), ((A'.sP 0 5 (.ref p)).sP 0 4 (.ref p2)).sD 0 6 1) := by
        unfold F_W_exchangePrograms
        rw [ck_t (rS_0 hG'), rf_t p5, rf_t p4, bnd_t, bnd_t, bnd_t]
      have G8 : Gr (((A'.sP 0 5 (.ref p)).sP 0 4 (.ref p2)).sD 0 6 1) := ((hG'.sP2 (by omega)).sP2 (by omega)).sD
      have gX : gw (fun a f => a = 0 ∧ (f = 4 ∨ f = 5 ∨ f = 6)) A' (((A'.sP 0 5 (.ref p)).sP 0 4 (.ref p2)).sD 0 6 1) := ((gw.rf.sP ⟨rfl, by omega⟩).sP ⟨rfl, by omega⟩).sD ⟨rfl, by omega⟩
      have x4 : (((A'.sP 0 5 (.ref p)).sP 0 4 (.ref p2)).sD 0 6 1).P 0 4 = .ref p2 := sP_s
      have x5 : (((A'.sP 0 5 (.ref p)).sP 0 4 (.ref p2)).sD 0 6 1).P 0 5 = .ref p := by
        show ((A'.sP 0 5 (.ref p)).sP 0 4 (.ref p2)).P 0 5 = .ref p
        rw [sP_o (by omega), sP_s]
      have x6 : (((A'.sP 0 5 (.ref p)).sP 0 4 (.ref p2)).sD 0 6 1).D 0 6 = 1 := rds
      have xs : (((A'.sP 0 5 (.ref p)).sP 0 4 (.ref p2)).sD 0 6 1).sh = A'.sh ∧ (((A'.sP 0 5 (.ref p)).sP 0 4 (.ref p2)).sD 0 6 1).sl = A'.sl := ⟨rfl, rfl⟩
      generalize ((A'.sP 0 5 (.ref p)).sP 0 4 (.ref p2)).sD 0 6 1 = A8 at *
      have hlen' : 626 ≤ A'.sh.length := hG'.len
      have gA8 : gw (fun a f => SRA p2 a f = true ∨ (a = 0 ∧ (f = 4 ∨ f = 5 ∨ f = 6))) A A8 := (gA.mono fun a f y => .inl y).tr (gX.mono fun a f y => .inr y)
      have dA8 : ∀ a f, a < 626 → ¬ (SRA p2 a f = true ∨ (a = 0 ∧ (f = 4 ∨ f = 5 ∨ f = 6))) → A8.D a f = A.D a f := fun a f y1 y2 => (gA8.2 a f (by omega) y2).1
      have tx1 : TXF A8 p B' w cs M ty mn nu cd E Nm Pv := TXF.gw (la := la) (z := z) hTo hE hG' hGB' (gA.get hL.2.1) gX gw.rf (fun a f y => by omega) (fun a f (y : False) => absurd y id)
      have tx2 : TXF A8 p2 B' w2 cs' M' ty' mn' nu' cd' E' Nm' Pv' := TXF.gw (la := la) (z := z) kT hE' hG' hGB' (gA.get hL.2.1) gX gw.rf (fun a f y => by omega) (fun a f (y : False) => absurd y id)
      have P' : B'.P = B0.P := k8.2.1
      have W8 : WPR A8 12 B' un E Qn := x1.fr (fun a f y1 y2 => dA8 a f (by omega) (fun y => by
        rcases y with y | y
        · have := SRA_le y; omega
        · omega)) (fun a f y1 y2 => dB a f (fun y => by have := RDB_le y; omega))
      have R8 : RVB S E Qn B' un := x2.fr (fun a f y1 y2 => dB a f (fun y => by have := RDB_le y; omega))
      obtain ⟨A9, B9, Q2, c1, c2, c3, c4, c5, c6, c7, c8⟩ := carry_jo (N := N) (u := un) (uk := um) (wk := w2) G8 hGB' tx1 tx2 hE hE' hQ kQ.2 hun hum (fun y => hm2 y.symm) (by rw [P']; exact b9) (by rw [P']; exact h10') (by rw [P']; exact g3) (by rw [P']; exact g4) W8 R8 hN
      have G9 := c3.gr G8
      have H9 := c4.gr hGB'
      have P9 : B9.P = B0.P := by rw [c4.2.1, P']
      -- reference: texts and worlds are exchanged
      have q3 : B9.P 517 3 = .ref w := by rw [P9]; exact g3
      have q4 : B9.P 517 4 = .ref w2 := by rw [P9]; exact g4
      have eY : F_M_takes N 517 B9 = some ((), ((B9.sP 517 3 (.ref w2)).sP 517 4 (.ref w)).sD 517 5 1) := by
        unfold F_M_takes
        rw [ck_t (rS_517 H9), rf_t q3, rf_t q4, bnd_t, bnd_t, bnd_t]
      have y9 : (((B9.sP 517 3 (.ref w2)).sP 517 4 (.ref w)).sD 517 5 1).P 517 9 = .ref un := by
        show ((B9.sP 517 3 (.ref w2)).sP 517 4 (.ref w)).P 517 9 = .ref un
        rw [sP_o (by omega), sP_o (by omega), P9]
        exact b9
      have y10 : (((B9.sP 517 3 (.ref w2)).sP 517 4 (.ref w)).sD 517 5 1).P 517 10 = .ref um := by
        show ((B9.sP 517 3 (.ref w2)).sP 517 4 (.ref w)).P 517 10 = .ref um
        rw [sP_o (by omega), sP_o (by omega), P9]
        exact h10'
      have y8 : (((B9.sP 517 3 (.ref w2)).sP 517 4 (.ref w)).sD 517 5 1).P 517 8 = .ref us := by
        show ((B9.sP 517 3 (.ref w2)).sP 517 4 (.ref w)).P 517 8 = .ref us
        rw [sP_o (by omega), sP_o (by omega), P9]
        exact b8
      have z3 : (((B9.sP 517 3 (.ref w2)).sP 517 4 (.ref w)).sD 517 5 1).P 517 3 = .ref w2 := by
        show ((B9.sP 517 3 (.ref w2)).sP 517 4 (.ref w)).P 517 3 = .ref w2
        rw [sP_o (by omega), sP_s]
      have z4 : (((B9.sP 517 3 (.ref w2)).sP 517 4 (.ref w)).sD 517 5 1).P 517 4 = .ref w := sP_s
      have z5 : (((B9.sP 517 3 (.ref w2)).sP 517 4 (.ref w)).sD 517 5 1).D 517 5 = 1 := rds
      have g10 : gw (fun a f => a = 517 ∧ (f = 3 ∨ f = 4 ∨ f = 5)) B9 (((B9.sP 517 3 (.ref w2)).sP 517 4 (.ref w)).sD 517 5 1) := ((gw.rf.sP ⟨rfl, by omega⟩).sP ⟨rfl, by omega⟩).sD ⟨rfl, by omega⟩
      have G10 : Gr (((B9.sP 517 3 (.ref w2)).sP 517 4 (.ref w)).sD 517 5 1) := ((H9.sP2 (by omega)).sP2 (by omega)).sD
      have zs : (((B9.sP 517 3 (.ref w2)).sP 517 4 (.ref w)).sD 517 5 1).sh = B9.sh ∧ (((B9.sP 517 3 (.ref w2)).sP 517 4 (.ref w)).sD 517 5 1).sl = B9.sl := ⟨rfl, rfl⟩
      generalize ((B9.sP 517 3 (.ref w2)).sP 517 4 (.ref w)).sD 517 5 1 = B10 at *
      have g12 : gw (fun a f => a = 517 ∧ (f = 9 ∨ f = 10)) B10 ((B10.sP 517 9 (.ref um)).sP 517 10 (.ref un)) := (gw.rf.sP ⟨rfl, by omega⟩).sP ⟨rfl, by omega⟩
      have G12 : Gr ((B10.sP 517 9 (.ref um)).sP 517 10 (.ref un)) := (G10.sP2 (by omega)).sP2 (by omega)
      have v10 : ((B10.sP 517 9 (.ref um)).sP 517 10 (.ref un)).P 517 10 = .ref un := sP_s
      have v9 : ((B10.sP 517 9 (.ref um)).sP 517 10 (.ref un)).P 517 9 = .ref um := by rw [sP_o (by omega), sP_s]
      have v8 : ((B10.sP 517 9 (.ref um)).sP 517 10 (.ref un)).P 517 8 = .ref us := by rw [sP_o (by omega), sP_o (by omega)]; exact y8
      have v3 : ((B10.sP 517 9 (.ref um)).sP 517 10 (.ref un)).P 517 3 = .ref w2 := by rw [sP_o (by omega), sP_o (by omega)]; exact z3
      have v4 : ((B10.sP 517 9 (.ref um)).sP 517 10 (.ref un)).P 517 4 = .ref w := by rw [sP_o (by omega), sP_o (by omega)]; exact z4
      have vD : ((B10.sP 517 9 (.ref um)).sP 517 10 (.ref un)).D = B10.D := rfl
      have vs : ((B10.sP 517 9 (.ref um)).sP 517 10 (.ref un)).sh = B10.sh ∧ ((B10.sP 517 9 (.ref um)).sP 517 10 (.ref un)).sl = B10.sl := ⟨rfl, rfl⟩
      have eZ : ∀ X, (rf (((B10.sP 517 9 (.ref um)).sP 517 10 (.ref un)).P 517 8) fun a23 => rf (((B10.sP 517 9 (.ref um)).sP 517 10 (.ref un)).P 517 9) fun a25 => ck (((B10.sP 517 9 (.ref um)).sP 517 10 (.ref un)).sh[a23]? = some (13, 0)) <| bC (F_MWorld_copies N a23 a25 ((B10.sP 517 9 (.ref um)).sP 517 10 (.ref un))) fun v29 H30 => rf (H30.P 517 3) fun a31 => ck (H30.sh[a31]? = some (14, 0)) <| bnd ((H30.D a31 29)) fun x34 => some (x34, H30)) = X → (rf (B10.P 517 9) fun a17 => rf (B10.P 517 10) fun a19 => bnd (B10.sP 517 9 (.ref a19)) fun H21 => bnd (H21.sP 517 10 (.ref a17)) fun H22 => rf (H22.P 517 8) fun a23 => rf (H22.P 517 9) fun a25 => ck (H22.sh[a23]? = some (13, 0)) <| bC (F_MWorld_copies N a23 a25 H22) fun v29 H30 => rf (H30.P 517 3) fun a31 => ck (H30.sh[a31]? = some (14, 0)) <| bnd ((H30.D a31 29)) fun x34 => some (x34, H30)) = X := fun X y => by
        rw [rf_t y9, rf_t y10, bnd_t, bnd_t]
        exact y
      generalize (B10.sP 517 9 (.ref um)).sP 517 10 (.ref un) = B12 at *
      have d10 : ∀ a f, a < 626 → ¬ (a = 517 ∧ (f = 3 ∨ f = 4 ∨ f = 5)) → B10.D a f = B9.D a f := fun a f y1 y2 => (g10.2 a f (by rw [c4.2.2.2.1, k8.2.2.2.1]; omega) y2).1
      have d12 : ∀ a f, a < 626 → ¬ (a = 517 ∧ (f = 3 ∨ f = 4 ∨ f = 5)) → B12.D a f = B9.D a f := fun a f y1 y2 => by rw [vD]; exact d10 a f y1 y2
      have W12 : WPR A9 12 B12 um E' Q2 := c5.fr (fun _ _ _ _ => rfl) (fun a f y1 y2 => d12 a f (by omega) (by omega))
      have R12 : RVB S E' Q2 B12 um := c6.fr (fun a f y1 y2 => d12 a f (by omega) (by omega))
      obtain ⟨B13, m1, m2, m3, m4⟩ := W12.cpB (N := N) (u := us) hN hus hum (fun y => hm1 y.symm) G12 hE'
      have H13 := m2.gr G12
      have P13 : B13.P = B12.P := m2.2.1
      have d13 : ∀ a f, a < 626 → ¬ (a = 517 ∧ (f = 3 ∨ f = 4 ∨ f = 5)) → ¬ cU us a f → B13.D a f = B9.D a f := fun a f y1 y2 y3 => by rw [m2.1 _ _ y3]; exact d12 a f y1 y2
      have gB13 : gw (fun a f => cU um a f ∨ (a = 517 ∧ (f = 3 ∨ f = 4 ∨ f = 5 ∨ f = 9 ∨ f = 10)) ∨ cU us a f) B' B13 := (((c4.gw).mono fun a f y => .inl y).tr (g10.mono fun a f y => .inr (.inl ⟨y.1, by omega⟩))).tr ((g12.mono fun a f y => .inr (.inl ⟨y.1, by omega⟩)).tr ((m2.gw).mono fun a f y => .inr (.inr y)))
      have gA9 : gw (fun a f => cW 12 a f ∨ cW 19 a f) A8 A9 := c3.gw
      have P9A : A9.P = A8.P := c3.2.1
      have dA9 : ∀ a f, a < 626 → ¬ cW 12 a f → ¬ cW 19 a f → A9.D a f = A8.D a f := fun a f _ y2 y3 => c3.1 _ _ (fun y => y.elim y2 y3)
      have hL9 : LST A9 la z := (hL.gw gA8 hlen (fun y => by
        rcases y with y | y
        · have := SRA_le y; omega
        · omega)).gw gA9 (G8.len) (by unfold cW; omega)
      have tx9 : TXF A9 p2 B13 w2 cs' M' ty' mn' nu' cd' E' Nm' Pv' := TXF.gw (la := la) (z := z) tx2 hE' G8 hGB' (gA8.get hL.2.1) gA9 gB13 (fun a f y => by unfold cW at y; omega) (fun a f y => by have := lT_le w2m; unfold cU at y; omega)
      have sN : ∀ a f, ¬ (1 ≤ a ∧ a ≤ 10 ∧ a ≠ 7 ∧ a ≠ 2) → ¬ (p2 ≤ a ∧ a ≤ p2 + 191) → a ≠ 0 → ¬ (SRA p2 a f = true ∨ (a = 0 ∧ (f = 4 ∨ f = 5 ∨ f = 6))) := fun a f y1 y2 y3 y => by
        rcases y with y | y
        · have := SRA_le y; omega
        · omega
      have dAf : ∀ a f, a < 626 → ¬ (1 ≤ a ∧ a ≤ 10 ∧ a ≠ 7 ∧ a ≠ 2) → ¬ (p2 ≤ a ∧ a ≤ p2 + 191) → a ≠ 0 → ¬ cW 12 a f → ¬ cW 19 a f → A9.D a f = A.D a f := fun a f y1 y2 y3 y4 y5 y6 => by rw [dA9 a f y1 y5 y6]; exact dA8 a f y1 (sN a f y2 y3 y4)
      have dBf : ∀ a f, a < 626 → ¬ RDB w2 a f → ¬ (a = 517 ∧ (f = 3 ∨ f = 4 ∨ f = 5)) → ¬ cU us a f → ¬ cU um a f → B13.D a f = B0.D a f := fun a f y1 y2 y3 y4 y5 => by rw [d13 a f y1 y3 y4, c4.1 _ _ y5]; exact dB a f y2
      have t12 : A9.D 12 0 = nI n := by rw [c8, dA8 12 0 (by omega) (sN 12 0 (by omega) (by omega) (by decide))]; exact n6
      have W13 : WPR A9 12 B13 um E' Q2 := W12.fr (fun _ _ _ _ => rfl) (fun a f y1 y2 => m2.1 _ _ (by unfold cU; omega))
      have R13 : RVB S E' Q2 B13 um := R12.fr (fun a f y1 y2 => m2.1 _ _ (by unfold cU; omega))
      have GN : GNV S (b + 16 * (n - t0)) Q2 := fun q hq' => by rw [c7]; exact x3 q hq'
      have rw2 : ∀ a f, 616 ≤ a → ¬ RDB w2 a f := fun a f y z => by have := RDB_le z; have := lT_le w2m; omega
      have pli : PLI N p2 cs' w2 M' ty' mn' nu' cd' E' Nm' Pv' S b t0 A9 la z B13 us um n n := by
        refine ⟨⟨G9, H13, tx9, hL9⟩, ⟨hus, hum, fun y => hm1 y.symm, by rw [P13]; exact v8, by rw [P13]; exact v9, by rw [P13]; exact v3⟩, ⟨by omega, Nat.le_refl _, by omega, n3, ?_, ?_, t12⟩, ⟨Q2, W13, R13, GN⟩, ⟨Q2, ?_, m4 S R12, GN⟩, fun t y1 y2 => by omega, fun t y1 y2 => by omega, fun x hx => ?_, fun x hx => ?_⟩
        · rw [dAf 11 1 (by omega) (by omega) (by omega) (by decide) (by unfold cW; omega) (by unfold cW; omega), hq]; exact n4
        · rw [← m3.2.1]; exact t12
        · rw [wt, if_pos rfl]; exact m3
        · rw [dAf 125 x (by omega) (by omega) (by omega) (by decide) (by unfold cW; omega) (by unfold cW; omega), dAf 126 x (by omega) (by omega) (by omega) (by decide) (by unfold cW; omega) (by unfold cW; omega), dBf 617 x (by omega) (rw2 _ _ (by omega)) (by omega) (by unfold cU; omega) (by unfold cU; omega), dBf 616 x (by omega) (rw2 _ _ (by omega)) (by omega) (by unfold cU; omega) (by unfold cU; omega)]
          exact hCm.1 x hx
        · rw [dAf 127 x (by omega) (by omega) (by omega) (by decide) (by unfold cW; omega) (by unfold cW; omega), dBf 619 x (by omega) (rw2 _ _ (by omega)) (by omega) (by unfold cU; omega) (by unfold cU; omega)]
          exact hCm.2 x hx
      have tx9' := tx9
      obtain ⟨⟨-, -, -, -, ⟨ta7, -⟩, -⟩, ⟨-, -, -, -, tb29, -⟩, -⟩ := tx9
      have k2' := k2
      refine ⟨nI (E' 17 0), A9, B13, ?_, ?_, (gA8.mono fun a f y => y.elim .inl (fun z => .inr (.inl z))).tr (gA9.mono fun a f y => .inr (.inr y)), ?_, (((s0.gw).mono fun a f y => .inr (.inl ⟨y.1, .inl y.2⟩)).tr (gB.mono fun a f y => .inl y)).tr (gB13.mono fun a f y => by
        rcases y with y | y | y
        · exact .inr (.inr (.inr y))
        · exact .inr (.inl ⟨y.1, by omega⟩)
        · exact .inr (.inr (.inl y))), ⟨?_, ?_⟩, fun _ _ y => ?_, .inr ⟨⟨0, fun _ => 0, by omega, ?_, ?_, fun _ => (by decide : (0 : Nat) < 256), fun i hi => by omega⟩, fun x hx => ?_, .inl ⟨?_, ?_, ?_⟩, ?_, .inr ⟨cs', M', ty', mn', nu', cd', E', Nm', Pv', hq.symm, pli, kQ, ⟨by rw [P9A]; exact x4, by rw [P9A]; exact x5, by rw [P13]; exact v3, by rw [P13]; exact v4, by omega, by omega, ?_, ?_⟩, ?_, ?_, by rw [P13]; exact v10⟩⟩⟩
      · rw [eA 1 A' k1, if_neg (by decide), bC_t eX, rf_t (rP_0_2 G8), rf_t x5, rf_t x4, ck_t (rS_11 G8), bC_t c1, rf_t (show A9.P 0 4 = .ref p2 by rw [P9A]; exact x4), ck_t (PrS (gr_P G9 p2m)), bnd_t, ta7]
      · rw [eB, bC_t k2, if_neg (by decide), bC_t c2, bC_t eY]
        refine eZ _ ?_
        rw [rf_t v8, rf_t v9, ck_t (US (gr_U G12 us hus)), bC_t m1, rf_t (show B13.P 517 3 = .ref w2 by rw [P13]; exact v3), ck_t (TS (gr_T H13 w2 w2m)), bnd_t, tb29]
      · have e1 : A9.sh = A'.sh := by rw [c3.2.2.2.1]; exact xs.1
        have e2 : A9.sl = A'.sl := by rw [c3.2.2.2.2]; exact xs.2
        obtain ⟨⟨l, l1, l2⟩, l3, l4, -⟩ := k7
        rw [e1, e2, l1, List.length_append]
        omega
      · rw [m2.2.2.2.1, vs.1, zs.1, c4.2.2.2.1, k8.2.2.2.1, s0.2.2.2.1]
      · rw [m2.2.2.2.2, vs.2, zs.2, c4.2.2.2.2, k8.2.2.2.2, s0.2.2.2.2]
      · obtain ⟨x, xa, xb⟩ := (e_Mreads (by have := lT_le w2m; omega) g4 k2 (i0 w2 w2m y)).2
        have := lT_le w2m
        exact ⟨gr_T H13 w2 w2m, x, xa, by rw [d13 _ _ (by omega) (by omega) (by unfold cU; omega), c4.1 _ _ (by unfold cU; omega)]; exact xb⟩
      · rw [dA9 1 1 (by omega) (by unfold cW; omega) (by unfold cW; omega), (gX.2 1 1 (by omega) (by omega)).1]; exact k9
      · rw [d13 517 2 (by omega) (by omega) (by unfold cU; omega), c4.1 _ _ (by unfold cU; omega)]; exact k10
      · rw [dAf 7 x (by omega) (by omega) (by omega) (by decide) (by unfold cW; omega) (by unfold cW; omega)]
        exact hSt x hx
      · rw [dA9 1 4 (by omega) (by unfold cW; omega) (by unfold cW; omega), (gX.2 1 4 (by omega) (by omega)).1]; exact k3
      · rw [d13 517 6 (by omega) (by omega) (by unfold cU; omega), c4.1 _ _ (by unfold cU; omega)]; exact k5
      · rw [d13 517 7 (by omega) (by omega) (by unfold cU; omega), c4.1 _ _ (by unfold cU; omega)]; exact k6
      · rw [dA9 1 1 (by omega) (by unfold cW; omega) (by unfold cW; omega), (gX.2 1 1 (by omega) (by omega)).1]; exact k9
      · have := lT_le w2m
        rw [d13 w2 37 (by omega) (by omega) (by unfold cU; omega), c4.1 _ _ (by unfold cU; omega)]; exact k11
      · have := lT_le wm
        rw [d13 w 37 (by omega) (by omega) (by unfold cU; omega), c4.1 _ _ (by unfold cU; omega), k8.1 _ _ (fun y => by have := RDB_le y; omega)]; exact g7
      · rw [dA9 0 6 (by omega) (by unfold cW; omega) (by unfold cW; omega)]; exact x6
      · rw [m2.1 _ _ (by unfold cU; omega), vD]; exact z5
  · rw [if_neg hq] at qq
    rw [bC_t qq.2, if_pos rfl] at eB
    refine ⟨-10, A, B0, ?_, eB, gw.rf, ⟨by omega, by omega⟩, (s0.gw).mono fun a f y => .inr (.inl ⟨y.1, .inl y.2⟩), ⟨s0.2.2.2.1, s0.2.2.2.2⟩, fun _ _ y => i0 w2 w2m y, .inl ⟨rfl, rfl⟩⟩
    unfold F_W_swap
    rw [ck_t (rS_0 hGA), rf_t (rP_0_2 hGA), ck_t (rS_11 hGA), bC_t qq.1, if_pos rfl]
end Par
