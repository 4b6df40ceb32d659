/-! ===== get, shown; calls on one heap ===== -/
def JG (N s0 k : Nat) (FW : Hp → Option (Ot Int32 × Hp)) (FM : Hp → Option (Int32 × Hp)) : Prop := ∀ A B, RR N s0 k A B → ∃ A2 B2, RR N s0 (k + 1) A2 B2 ∧ gw clsR A A2 ∧ gw refR B B2 ∧ B2.sh = B.sh ∧ B2.sl = B.sl ∧ B2.L = B.L ∧ ((∃ r, FW A = some (.inl r, A2) ∧ FM B = some (r, B2) ∧ B2.D 517 0 = 0) ∨ (FW A = some (.inr A.sh.length, A2) ∧ FM B = some (0, B2) ∧ B2.D 517 0 = 1 ∧ A2.sh[A.sh.length]? = some (18, 0)))
def OG (N s0 k : Nat) (FW : Hp → Option (Ot Int32 × Hp)) (FM : Hp → Option (Int32 × Hp)) : Prop := ∀ H, RR N s0 k H H → ∃ A2 B2, RR N s0 (k + 1) B2 B2 ∧ B2.sh = A2.sh ∧ B2.sl = A2.sl ∧ B2.L = A2.L ∧ gw clsR H A2 ∧ gw refR A2 B2 ∧ ((∃ r, FW H = some (.inl r, A2) ∧ FM A2 = some (r, B2) ∧ B2.D 517 0 = 0) ∨ (FW H = some (.inr H.sh.length, A2) ∧ FM A2 = some (0, B2) ∧ B2.D 517 0 = 1 ∧ A2.sh[H.sh.length]? = some (18, 0)))
theorem JG.one {N s0 k : Nat} {FW : Hp → Option (Ot Int32 × Hp)} {FM : Hp → Option (Int32 × Hp)} (h : JG N s0 k FW FM) : OG N s0 k FW FM := by
  intro H hr
  obtain ⟨A2, B0, h3, h4, -, -, -, -, h1⟩ := h H H hr
  have gA2 := h3.gr.1
  obtain ⟨A2', B2, k3, -, k5, k6, k7, k8, k1⟩ := h H A2 (hr.mvB gA2 h4)
  rcases h1 with ⟨r, h1, -⟩ | ⟨h1, -⟩
  · rcases k1 with ⟨r', k1, k2⟩ | ⟨k1, -⟩
    · rw [h1] at k1
      obtain ⟨e1, e2⟩ := Prod.mk.inj (Option.some.inj k1)
      cases e1
      subst e2
      exact ⟨A2, B2, k3.mvA k3.gr.2 k5 k6 k7, k6, k7, k8, h4, k5, .inl ⟨r, h1, k2⟩⟩
    · rw [h1] at k1
      obtain ⟨e1, e2⟩ := Prod.mk.inj (Option.some.inj k1)
      cases e1
  · rcases k1 with ⟨r', k1, -⟩ | ⟨k1, k2⟩
    · rw [h1] at k1
      obtain ⟨e1, e2⟩ := Prod.mk.inj (Option.some.inj k1)
      cases e1
    · rw [h1] at k1
      obtain ⟨e1, e2⟩ := Prod.mk.inj (Option.some.inj k1)
      subst e2
      exact ⟨A2, B2, k3.mvA k3.gr.2 k5 k6 k7, k6, k7, k8, h4, k5, .inr ⟨h1, k2⟩⟩
theorem Gr.nx {H : Hp} {s : Nat × Nat} {k : Nat} (h : Gr H) : Gr (H.nx s k) := by
  obtain ⟨⟨l, h1⟩, h2⟩ := h
  exact ⟨⟨l ++ [s], by show H.sh ++ [s] = _; rw [h1, List.append_assoc]⟩, h2⟩
theorem gw_nx {R : Nat → Nat → Prop} {H : Hp} {s : Nat × Nat} {k : Nat} : gw R H (H.nx s k) := ⟨⟨[s], rfl⟩, fun _ _ _ _ => ⟨rfl, rfl⟩⟩
/-- something was thrown -/
theorem RR.th {N s0 k : Nat} {A B : Hp} {x : Int32} (h : RR N s0 k A B) : RR N s0 (k + 1) (A.nx (18, 0) 6) (B.sD 517 0 x) := by
  obtain ⟨p, p2, cs, w, w2, M, ty, mn, nu, cd, E, Nm, Pv, S, nb, b, t0, la, z, us, un, um, c, n, kT, U, F, h1, h2, h3, h4, h5, T, m1, m2, m3, m4⟩ := h
  have h1' := h1.th (x := x) h2.1.1
  have hl : (A.nx (18, 0) 6).sh.length = A.sh.length + 1 := by show (A.sh ++ [(18, 0)]).length = _; rw [List.length_append]; rfl
  have hs : (A.nx (18, 0) 6).sl = A.sl + 6 := rfl
  exact ⟨p, p2, cs, w, w2, M, ty, mn, nu, cd, E, Nm, Pv, S, nb, b, t0, la, z, us, un, um, c, n, kT, U, F, h1'.gw h2.1.1 h1'.1.1.nx h1'.1.2.1 (gw_nx (R := fun _ _ => False)) (gw.rf (R := fun _ _ => False)) (fun a f y => absurd y id) (fun a f y => absurd y id), h2, h3, h4.fr h1'.1.2.1 (fun _ _ _ _ _ => ⟨rfl, rfl⟩) (fun a f y1 y2 => ⟨rdnn (by omega), rfl⟩), ⟨by omega, h5.2.1, h5.2.2.1, by omega⟩, T, m1, m2, by rw [hl]; omega, by rw [hs]; omega⟩
theorem jg_get {N s0 k : Nat} {x1 x2 x3 : Int32} : JG N s0 k (fun H => F_W_get N 0 x1 x2 x3 H) (fun H => F_M_get N 517 x1 x2 x3 H) := by
  intro A B h
  have hq := h
  obtain ⟨p, p2, cs, w, w2, M, ty, mn, nu, cd, E, Nm, Pv, S, nb, b, t0, la, z, us, un, um, c, n, kT, U, F, h1, h2, h3, h4, h5, h6⟩ := h
  obtain ⟨Q, hW, hV, -⟩ := h1.2.2.2.1
  rcases get_jo (N := N) (e := x1) (q := x2) (i := x3) h1.1.2.2.1 h2.1.1 h1.1.1 h1.1.2.1 h4.1.1 h4.1.2.2.1 h1.2.1.2.1 h1.2.1.2.2.2.2.1 hW.1 with ⟨r, e1, e2⟩ | ⟨e1, e2⟩
  · exact ⟨A, B.sD 517 0 0, RR.q hq, gw.rf, RR.qg, rfl, rfl, rfl, .inl ⟨r, e1, e2, rds⟩⟩
  · exact ⟨A.nx (18, 0) 6, B.sD 517 0 1, RR.th hq, gw_nx, RR.qg, rfl, rfl, rfl, .inr ⟨e1, e2, rds, by show (A.sh ++ [(18, 0)])[A.sh.length]? = _; rw [List.getElem?_append_right (Nat.le_refl _), Nat.sub_self]; rfl⟩⟩
theorem jg_shown {N s0 k : Nat} {x1 : Int32} (hk : k ≤ 600) : JG N s0 k (fun H => F_W_shown N 0 x1 H) (fun H => F_M_shown N 517 x1 H) := by
  intro A B h
  have hq := h
  obtain ⟨p, p2, cs, w, w2, M, ty, mn, nu, cd, E, Nm, Pv, S, nb, b, t0, la, z, us, un, um, c, n, kT, U, F, h1, h2, h3, h4, h5, h6⟩ := h
  rcases shown_jo (N := N) (q := x1) h1.1.1 h1.1.2.1 h4.2.2.1 (by omega) with ⟨r, e1, e2⟩ | ⟨e1, e2⟩
  · exact ⟨A, B.sD 517 0 0, RR.q hq, gw.rf, RR.qg, rfl, rfl, rfl, .inl ⟨r, e1, e2, rds⟩⟩
  · exact ⟨A.nx (18, 0) 6, B.sD 517 0 1, RR.th hq, gw_nx, RR.qg, rfl, rfl, rfl, .inr ⟨e1, e2, rds, by show (A.sh ++ [(18, 0)])[A.sh.length]? = _; rw [List.getElem?_append_right (Nat.le_refl _), Nat.sub_self]; rfl⟩⟩
/-- a call on one heap, of which the whole change is known -/
theorem one_ag {N s0 k : Nat} {FW FM : Hp → Option (Int32 × Hp)} {Sf : Nat → Nat → Prop} {Po : Hp → Prop} (hS : ∀ a f, Sf a f → (a = 131 ∧ f = 1) ∨ a = 132 ∨ (a = 517 ∧ (f = 0 ∨ f = 22)) ∨ a = 622) (hP : ∀ H, Po H → rOut H.D) (hj : ∀ H, Gr H → rOut H.D → rFault H.D → agree (FW H) FM Sf H Po) : ∀ H, RR N s0 k H H → ∃ r A2 B2, FW H = some (r, A2) ∧ FM A2 = some (r, B2) ∧ RR N s0 (k + 1) B2 B2 ∧ B2.sh = H.sh ∧ B2.sl = H.sl := by
  intro H h
  obtain ⟨p, p2, cs, w, w2, M, ty, mn, nu, cd, E, Nm, Pv, S, nb, b, t0, la, z, us, un, um, c, n, kT, U, F, h1, h2, h3, h4, h5, h6⟩ := h
  have hus := lU_le h1.2.1.1
  have hun := lU_le h1.2.1.2.1
  have ws := h4.1.ws
  obtain ⟨r1, r2, r3, r4, r5, r6, r7, r8, r9, r10, r11, r12⟩ := h4
  obtain ⟨v, A2, B2, e1, e2, hs, hp⟩ := hj H h1.1.1 r9 r8
  have g2 := hs.gr h1.1.1
  have e : ∀ a f, ¬ ((a = 131 ∧ f = 1) ∨ a = 132 ∨ (a = 517 ∧ (f = 0 ∨ f = 22)) ∨ a = 622) → B2.D a f = H.D a f ∧ B2.P a f = H.P a f := fun a f y => ⟨hs.1 _ _ (fun z => y (hS a f z)), by rw [hs.2.1]⟩
  have hla := h1.1.2.2.2.2.2.1
  refine ⟨v, A2, B2, e1, e2, ⟨p, p2, cs, w, w2, M, ty, mn, nu, cd, E, Nm, Pv, S, nb, b, t0, la, z, us, un, um, c, n, kT, U, F, h1.gw h2.1.1 g2 g2 (hs.gw.mono hS) (hs.gw.mono hS) (fun a f y z => by unfold nA at z; omega) (fun a f y z => by unfold nB cU at z; omega), h2, h3, ⟨r1.fr (e _ _ (by omega)).2 (e _ _ (by omega)).2 (e _ _ (by omega)).2 (e _ _ (by omega)).2 (e _ _ (by omega)).1 (e _ _ (by omega)).1, by rw [(e _ _ (by omega)).2]; exact r2, r3.fr (fun a f y => (e _ _ (by omega)).1) (fun a f y => (e _ _ (by omega)).1), r4.fr (fun a f y => (e _ _ (by omega)).1) (fun a f y => (e _ _ (by omega)).1), ⟨by rw [(e 11 2 (by omega)).1, (e 517 12 (by omega)).1]; exact r5.1, by rw [(e 11 3 (by omega)).1, (e 517 13 (by omega)).1]; exact r5.2.1, by rw [(e 0 6 (by omega)).1, (e 517 5 (by omega)).1]; exact r5.2.2⟩, r6.fr (fun a f y => (e _ _ (by omega)).1) (fun a f y => (e _ _ (by omega)).1), fun x hx => by rw [(e 7 x (by omega)).1]; exact r7 x hx, r8.fr (fun a f y => (e _ _ (by omega)).1) (fun a f y => (e _ _ (by omega)).1), hP B2 hp, by rw [(e 517 24 (by omega)).1]; exact r10, r11.fr (gr_T g2 w ws.2.2.2.2.1) (e _ _ (by omega)).1, r12.fr (gr_T g2 w2 ws.2.2.2.2.2) (e _ _ (by omega)).1⟩, ⟨by omega, h5.2.1, h5.2.2.1, by omega⟩, (h6.fr (e 1 1 (by omega)).1 hs.2.2.2.1 hs.2.2.2.2).up⟩, hs.2.2.2.1, hs.2.2.2.2⟩
theorem oc_fault {N s0 k : Nat} {x1 : Int32} : ∀ H, RR N s0 k H H → ∃ r A2 B2, F_W_fault N 0 x1 H = some (r, A2) ∧ F_M_fault N 517 x1 A2 = some (r, B2) ∧ RR N s0 (k + 1) B2 B2 ∧ B2.sh = H.sh ∧ B2.sl = H.sl := one_ag (FW := fun H => F_W_fault N 0 x1 H) (FM := fun H => F_M_fault N 517 x1 H) (Po := fun K => rFault K.D ∧ rOut K.D) (Sf := fun a f => a = 517 ∧ f = 0) (fun a f y => by omega) (fun H y => y.2) (fun H hG ho hf => by
  obtain ⟨v, A2, B2, e1, e2, e3, e4⟩ := fault_ok (N := N) (n := x1) hG hf
  refine ⟨v, A2, B2, e1, e2, e3, e4, ?_⟩
  obtain ⟨T, t1, t2, t3, t4⟩ := ho
  exact ⟨T, t1, by rw [e3.1 _ _ (by omega)]; exact t2, by rw [e3.1 _ _ (by omega)]; exact t3, fun i hi => by rw [e3.1 _ _ (by omega), e3.1 _ _ (by omega)]; exact t4 i hi⟩)
theorem oc_cut {N s0 k : Nat} {x1 : Int32} : ∀ H, RR N s0 k H H → ∃ r A2 B2, F_W_cut N 0 x1 H = some (r, A2) ∧ F_M_cut N 517 x1 A2 = some (r, B2) ∧ RR N s0 (k + 1) B2 B2 ∧ B2.sh = H.sh ∧ B2.sl = H.sl := one_ag (FW := fun H => F_W_cut N 0 x1 H) (FM := fun H => F_M_cut N 517 x1 H) (fun a f y => by omega) (fun H y => y) (fun H hG ho _ => cut_ok (N := N) (n := x1) hG ho)
theorem oc_byteOut {N s0 k : Nat} {x1 : Int32} : ∀ H, RR N s0 k H H → ∃ r A2 B2, F_W_byteOut N 0 x1 H = some (r, A2) ∧ F_M_byteOut N 517 x1 A2 = some (r, B2) ∧ RR N s0 (k + 1) B2 B2 ∧ B2.sh = H.sh ∧ B2.sl = H.sl := one_ag (FW := fun H => F_W_byteOut N 0 x1 H) (FM := fun H => F_M_byteOut N 517 x1 H) (fun a f y => by omega) (fun H y => y) (fun H hG ho _ => byteOut_ok (N := N) (n := x1) hG ho)
theorem oc_bend {N s0 k : Nat} {x1 x2 : Int32} : ∀ H, RR N s0 k H H → ∃ r A2 B2, F_W_bend N 0 x1 x2 H = some (r, A2) ∧ F_M_bend N 517 x1 x2 A2 = some (r, B2) ∧ RR N s0 (k + 1) B2 B2 ∧ B2.sh = H.sh ∧ B2.sl = H.sl := one_ag (FW := fun H => F_W_bend N 0 x1 x2 H) (FM := fun H => F_M_bend N 517 x1 x2 H) (fun a f y => by omega) (fun H y => y) (fun H hG ho _ => bend_ok (N := N) (n := x1) (m := x2) hG ho)
