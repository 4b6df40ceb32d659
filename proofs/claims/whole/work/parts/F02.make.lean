/-! ===== the calls make, change, set ===== -/
def addS (S : Nat → Nat) (y : Nat) : Nat → Nat := fun x => if x = y then 1 else S x
theorem addS_1 {S : Nat → Nat} {y : Nat} : addS S y y = 1 := if_pos rfl
theorem addS_o {S : Nat → Nat} {y x : Nat} (h : S x = 1) : addS S y x = 1 := by
  unfold addS
  split
  · rfl
  · exact h
theorem BNS.add {S : Nat → Nat} {n y : Nat} (h : BNS S n) : BNS (addS S y) (n + 1) := by
  obtain ⟨F, h⟩ := h
  refine ⟨fun k => if k = n then y else F k, fun x hx => ?_⟩
  by_cases z : x = y
  · exact ⟨n, by omega, by rw [z]; exact if_pos rfl⟩
  · unfold addS at hx
    rw [if_neg z] at hx
    obtain ⟨k, k1, k2⟩ := h x hx
    exact ⟨k, by omega, by show (if k = n then y else F k) = x; rw [if_neg (by omega)]; exact k2⟩
theorem BNS.mono {S : Nat → Nat} {n m : Nat} (h : BNS S n) (hn : n ≤ m) : BNS S m := by
  obtain ⟨F, h⟩ := h
  refine ⟨F, fun x hx => ?_⟩
  obtain ⟨k, k1, k2⟩ := h x hx
  exact ⟨k, by omega, k2⟩
theorem cnS_ad {S : Nat → Nat} {q y : Nat} : ∀ x, cnS S q x ≤ cnS (addS S y) q x := by
  intro x
  induction x with
  | zero => exact Nat.le_refl _
  | succ x ih =>
    rw [cnS_s, cnS_s]
    by_cases z : S (256 * x + q) = 1
    · rw [if_pos z, if_pos (addS_o z)]
      omega
    · rw [if_neg z]
      omega
theorem KN.add {S : Nat → Nat} {Q : Nat → Nat → Nat} {x y : Nat} (h : KN S Q x) : KN (addS S y) Q x := by
  rcases h with h | h | h
  · exact .inl h
  · exact .inr (.inl (addS_o h))
  · exact .inr (.inr h)
theorem GNV.add {S : Nat → Nat} {c y : Nat} {Q : Nat → Nat → Nat} (h : GNV S c Q) : GNV (addS S y) c Q := fun q hq => by
  have := h q hq
  have := cnS_ad (S := S) (q := q) (y := y) (Q 0 q)
  omega
theorem GNV.mono {S : Nat → Nat} {c c2 : Nat} {Q : Nat → Nat → Nat} (h : GNV S c Q) (hc : c ≤ c2) : GNV S c2 Q := fun q hq => by
  have := h q hq
  omega
def EDB (us un a f : Nat) : Prop := (a = 517 ∧ f = 0) ∨ cU us a f ∨ cU un a f
section Par
variable {N p wo inp cs w u ir M K0 : Nat} {s pl : Int32} {ty mn nu cd : Nat → Int32} {E Q : Nat → Nat → Nat} {V : Nat → Nat → Int32} {nL lc : Nat} {lk : Nat → Nat} {hd : Nat → Int32}
theorem RVB.lkc {S : Nat → Nat} {B : Hp} (h : RVB S E Q B u) : LKC (sE E (Sof S Q)) Q B u := ⟨SVx_k.mpr (by rw [ixv_m]; exact .inl rfl), fun q c m y1 y2 y3 y4 y5 => SVx_k.mpr (h.1 q c m y1 y2 y3 y4 y5), fun k hk e q y1 y2 y3 y4 => SVx_k.mpr (h.2.1 k hk e q y1 y2 y3 y4), h.2.2⟩
theorem LKC.rvb {S : Nat → Nat} {Q2 : Nat → Nat → Nat} {B : Hp} (h : LKC (sE E (Sof S Q)) Q2 B u) (hm : ∀ q, q < 256 → Q 0 q ≤ Q2 0 q) : RVB S E Q2 B u := ⟨fun q c m y1 y2 y3 y4 y5 => (SVx_k.mp (h.2.1 q c m y1 y2 y3 y4 y5)).mono hm, fun k hk e q y1 y2 y3 y4 => (SVx_k.mp (h.2.2.1 k hk e q y1 y2 y3 y4)).mono hm, h.2.2.2⟩
theorem EDR.all {S : Nat → Nat} {A B A2 B2 : Hp} {Q2 : Nat → Nat → Nat} (hW : WPR A wo B u E Q) (hR : RVB S E Q B u) (hd : EDR wo u (sE E (Sof S Q)) Q A B A2 B2 Q2) (hm : ∀ q, q < 256 → Q 0 q ≤ Q2 0 q) : WPR A2 wo B2 u E Q2 ∧ RVB S E Q2 B2 u := by
  obtain ⟨h1, h2, h3, h4⟩ := hd
  obtain ⟨-, a0, a1, a3, a15⟩ := hW
  have dA : ∀ f, f < 9 → A2.D wo f = A.D wo f := fun f y => h1.1 _ _ (by unfold WCA; omega)
  have dB : ∀ f, f < 8 ∨ (8 < f ∧ f < 16) → B2.D u f = B.D u f := fun f y => h2.1 _ _ (by unfold WCB; omega)
  refine ⟨⟨h3, by rw [dA _ (by omega), dB _ (by omega)]; exact a0, by rw [dA _ (by omega), dB _ (by omega)]; exact a1, by rw [dA _ (by omega), dB _ (by omega)]; exact a3, ?_⟩, (h4 hR.lkc).rvb hm⟩
  unfold FLR
  rw [dA 2 (by omega), dA 4 (by omega), dA 5 (by omega), dA 6 (by omega), dB 2 (by omega), dB 13 (by omega), dB 14 (by omega), dB 15 (by omega)]
  exact a15
/-- a quiet world was changed; the reference copies it -/
theorem PLI.ed {S S' : Nat → Nat} {b b' t0 la z us un n : Nat} {Nm : Nat → Nat → List Nat} {Pv : Nat → Nat → Int32} {A B A' B' : Hp} (h : PLI N p cs w M ty mn nu cd E Nm Pv S b t0 A la z B us un n n) (hE : WE E) (hN : 2000000 ≤ N) (hA : same (cW 12) A A') (hB : same (cU un) B B') (hW : WPR A' 12 B' un E Q) (hR : RVB S' E Q B' un) (hG : GNV S' (b' + 16 * (n - t0)) Q) (h0 : A'.D 12 0 = nI n) : ∃ B2, F_MWorld_copies N us un B' = some ((), B2) ∧ PLI N p cs w M ty mn nu cd E Nm Pv S' b' t0 A' la z B2 us un n n ∧ same (cU us) B' B2 := by
  obtain ⟨⟨hGA, hGB, hT, hL⟩, ⟨hus, hun, hne, b8, b9, b3⟩, ⟨n0, n1, n2, n3, n4, n5, n6⟩, -, -, -, -, hCm⟩ := h
  have hGB' := hB.gr hGB
  have hu1 := lU_le hus
  have hu2 := lU_le hun
  have dj := lU_dj hus hun hne
  obtain ⟨B2, r1, r2, r3, r4⟩ := hW.cpB (N := N) hN hus hun hne hGB' hE
  have ew : wt n n = 12 := if_pos rfl
  have sB : same (fun a f => cU un a f ∨ cU us a f) B B2 := (hB.mono fun a f y => .inl y).tr (r2.mono fun a f y => .inr y)
  have dA : ∀ a f, ¬ (12 ≤ a ∧ a ≤ 17) → A'.D a f = A.D a f := fun a f y => hA.1 a f (by unfold cW; omega)
  have dB : ∀ a f, a < 581 ∨ 610 < a → B2.D a f = B.D a f := fun a f y => sB.1 a f (by unfold cU; omega)
  have du : ∀ a f, un ≤ a → a ≤ un + 9 → B2.D a f = B'.D a f := fun a f y1 y2 => r2.1 a f (by unfold cU; omega)
  refine ⟨B2, r1, ⟨⟨hA.gr hGA, r2.gr hGB', hT.fw hE hGA hL (hA.exS hL).exT sB.smT (fun a f y => by unfold cW at y; omega) (fun a f y => by unfold cU at y; omega), (hA.exS hL).1⟩, ⟨hus, hun, hne, by rw [sB.2.1]; exact b8, by rw [sB.2.1]; exact b9, by rw [sB.2.1]; exact b3⟩, ⟨n0, n1, n2, n3, by rw [dA _ _ (by omega)]; exact n4, by rw [← r3.2.1]; exact h0, h0⟩, ⟨Q, hW.fr (fun _ _ _ _ => rfl) du, hR.fr du, hG⟩, ⟨Q, by rw [ew]; exact r3, r4 S' hR, hG⟩, fun t z1 z2 => by omega, fun t z1 z2 => by omega, ?_⟩, r2⟩
  refine ⟨fun x hx => ?_, fun x hx => ?_⟩
  · rw [dA _ _ (by omega), dA _ _ (by omega), dB _ _ (by omega), dB _ _ (by omega)]
    exact hCm.1 x hx
  · rw [dA _ _ (by omega), dB _ _ (by omega)]
    exact hCm.2 x hx
theorem qt_A {S : Nat → Nat} {b t0 la z us un c n : Nat} {Nm : Nat → Nat → List Nat} {Pv : Nat → Nat → Int32} {A B : Hp} (h : PLI N p cs w M ty mn nu cd E Nm Pv S b t0 A la z B us un c n) : F_Play_isQuiet N 11 A = some (if n = c then 1 else 0, A) ∧ F_M_isQuiet N 517 B = some (if n = c then 1 else 0, B) := by
  obtain ⟨⟨hGA, hGB, hT, hL⟩, ⟨hus, hun, hne, b8, b9, b3⟩, ⟨n0, n1, n2, n3, n4, n5, n6⟩, ⟨Qn, x1, -⟩, -⟩ := h
  have bn : B.D un 0 = nI n := by rw [← x1.2.1]; exact n6
  have e : (nI n = nI c) = (n = c) := propext (nI_eq (by omega) (by omega))
  refine ⟨?_, ?_⟩
  · unfold F_Play_isQuiet
    rw [ck_t (rS_11 hGA), rf_t (rP_11_0 hGA), ck_t (rA_11_0 hGA), bnd_t, n6, bnd_t, n4]
    simp only [e]
    split <;> rfl
  · unfold F_M_isQuiet
    rw [ck_t (rS_517 hGB), rf_t b9, ck_t (US (gr_U hGB un hun)), bnd_t, bn, rf_t b8, ck_t (US (gr_U hGB us hus)), bnd_t, n5]
    simp only [e]
    split <;> rfl
theorem make_jo {S : Nat → Nat} {b t0 la z us un c n : Nat} {q : Int32} {Nm : Nat → Nat → List Nat} {Pv : Nat → Nat → Int32} {A B : Hp} (h : PLI N p cs w M ty mn nu cd E Nm Pv S b t0 A la z B us un c n) (hpr : A.P 0 4 = .ref p) (hQ : TXQ M cs ty mn nu cd E Pv) (hN : 2000000 ≤ N) : ∃ r A2 B2, F_W_make N 0 q A = some (r, A2) ∧ F_M_make N 517 q B = some (r, B2) ∧ PLI N p cs w M ty mn nu cd E Nm Pv S b t0 A2 la z B2 us un c n ∧ same (cW 12) A A2 ∧ same (EDB us un) B B2 := by
  have hE := hQ.1
  have h0 := h.th (x := 0) hE
  have s0 : same (EDB us un) B (B.sD 517 0 0) := same.rf.sD (.inl ⟨rfl, rfl⟩)
  have eB : F_M_make N 517 q B = bC (F_M_isQuiet N 517 (B.sD 517 0 0)) fun v4 H5 => if v4 = (0 : Int32) then some ((-10), H5) else rf (H5.P 517 3) fun a7 => ck (H5.sh[a7]? = some (14, 0)) <| bnd ((H5.D a7 26)) fun x10 => bC (F_M_in N (q.toInt64) (0 : Int64) ((x10 - (1 : Int32)).toInt64) H5) fun v12 H13 => if v12 = (0 : Int32) then some ((-1), H13) else rf (H13.P 517 9) fun a15 => rf (H13.P 517 3) fun a17 => ck (H13.sh[a15]? = some (13, 0)) <| bC (F_MWorld_spawns N a15 a17 q H13) fun v21 H22 => rf (H22.P 517 8) fun a23 => rf (H22.P 517 9) fun a25 => ck (H22.sh[a23]? = some (13, 0)) <| bC (F_MWorld_copies N a23 a25 H22) fun v29 H30 => if (0 : Int32) ≤ v21 then rf (H30.P 517 9) fun a32 => ck (H30.sh[a32]? = some (13, 0)) <| bC (F_MWorld_number N a32 v21 H30) fun v36 H37 => some (v36, H37) else some ((-2), H30) := by
    unfold F_M_make
    rw [ck_t (rS_517 h.1.2.1), bnd_t]
  generalize B.sD 517 0 0 = B0 at *
  obtain ⟨qa, qb⟩ := qt_A h0
  have h0' := h0
  obtain ⟨⟨hGA, hGB, hT, hL⟩, ⟨hus, hun, hne, b8, b9, b3⟩, ⟨n0, n1, n2, n3, n4, n5, n6⟩, ⟨Qn, x1, x2, x3⟩, -⟩ := h0
  obtain ⟨⟨-, -, -, ha4, -⟩, ⟨-, -, -, hb4, -⟩, hp, hwT, -⟩ := hT
  have e15 := hE.2.2.2.2.2.2.2.2.2.1
  have hP := gr_P hGA hp
  have T := gr_T hGB w hwT
  have hu1 := lU_le hus
  have hu2 := lU_le hun
  have dj := lU_dj hus hun hne
  have eA : F_W_make N 0 q A = (if n = c then (if q < 0 then some ((-1), A) else if q < nI (E 15 0) then bC (F_World_bear N 12 p q A) fun v24 H25 => if (0 : Int32) ≤ v24 then rf (H25.P 0 2) fun a27 => ck (H25.sh[a27]? = some (10, 0)) <| rf (H25.P a27 0) fun a30 => ck (H25.sh[a30]? = some (7, 0)) <| bC (F_World_numberAt N a30 v24 H25) fun v34 H35 => some (v34, H35) else some ((-2), H25) else some ((-1), A)) else some ((-10), A)) := by
    unfold F_W_make
    rw [ck_t (rS_0 hGA), rf_t (rP_0_2 hGA), ck_t (rS_11 hGA), bC_t qa]
    by_cases y : n = c
    · rw [if_pos y, if_pos y, if_neg (by decide), rf_t hpr, ck_t (PrS hP), bnd_t, ha4.1, rf_t (rP_0_2 hGA), ck_t (rS_11 hGA), rf_t (rP_11_0 hGA), rf_t hpr, ck_t (rA_11_0 hGA)]
    · rw [if_neg y, if_neg y, if_pos rfl]
  rw [bC_t qb] at eB
  by_cases y : n = c
  · rw [if_pos y] at eA
    rw [if_pos y, if_neg (by decide), rf_t b3, ck_t (TS T), bnd_t, hb4.1, bC_t (ev_in (a := (0 : Int64)) (b := (nI (E 15 0) - 1).toInt64) (lo := 0) (hi := nI (E 15 0) - 1) rfl rfl)] at eB
    subst y
    by_cases q1 : q < 0
    · rw [if_pos q1] at eA
      rw [if_pos q1, if_pos rfl] at eB
      exact ⟨_, A, B0, eA, eB, h0', same.rf, s0⟩
    have m1 := nI_m1 (n := E 15 0) (by omega) q q1
    rw [if_neg q1] at eA eB
    by_cases q2 : q < nI (E 15 0)
    · obtain ⟨fb, hfb, rfl⟩ := nI_small (n := E 15 0) q1 (fun y => i32_nlt.mpr y q2) (by omega)
      rw [if_pos q2] at eA
      rw [if_neg (fun y => i32_nlt.mpr (m1.mp y) q2), if_neg (by decide), rf_t b9, rf_t b3, ck_t (US (gr_U hGB un hun))] at eB
      rcases mk_co (N := N) (wo := 12) (u := un) (p := p) (w := w) (E := sE E (Sof S Qn)) (Q := Qn) (Pv := Pv) (fb := fb) hQ.2.2.1 (by omega) hE hGA hGB (by decide) hun hp hwT ha4 hb4 x1.1 hfb with ⟨qq, hq, A2, B2, Q2, k1, k2, k3, k4⟩ | ⟨k1, k2⟩
      · obtain ⟨g1, g2⟩ := k3.all x1 x2 (fun q _ => by rw [k4]; exact Nat.le_refl _)
        have sA2 : same (cW 12) A A2 := k3.1.mono fun a f y => by unfold WCA at y; unfold cW; omega
        have sB2 : same (cU un) B0 B2 := k3.2.1.mono fun a f y => by unfold WCB at y; unfold cU; omega
        have a20 : A2.D 12 0 = nI n := by rw [k3.1.1 _ _ (by unfold WCA; omega)]; exact n6
        obtain ⟨B3, c1, c2, c3⟩ := h0'.ed hE hN sA2 sB2 g1 g2 (fun q hq => by rw [k4]; exact x3 q hq) a20
        have G2 : Gr A2 := c2.1.1
        have hPB : PPB Q2 B3 un := fun x hx => by
          have := lU_dj hus hun hne
          rw [c3.1 _ _ (by unfold cU; omega), c3.1 _ _ (by unfold cU; omega), c3.1 _ _ (by unfold cU; omega)]
          exact g1.1.2.1 x hx
        refine ⟨nmQ Q2 qq, A2, B3, ?_, ?_, c2, sA2, (s0.tr (sB2.mono fun a f y => .inr (.inr y))).tr (c3.mono fun a f y => .inr (.inl y))⟩
        · rw [eA, bC_t k1, if_pos (show (0 : Int32) ≤ nI qq from nI_le (a := 0) (by omega) (by omega)), rf_t (rP_0_2 G2), ck_t (rS_11 G2), rf_t (rP_11_0 G2), ck_t (rA_11_0 G2), bC_t (ev_numAt (gr_W G2 12 (by decide)) hq), (g1.1.1 qq hq).1]
          rfl
        · have GB2 := sB2.gr hGB
          rw [eB, bC_t k2, rf_t (show B2.P 517 8 = .ref us by rw [sB2.2.1]; exact b8), rf_t (show B2.P 517 9 = .ref un by rw [sB2.2.1]; exact b9), ck_t (US (gr_U GB2 us hus)), bC_t c1, if_pos (show (0 : Int32) ≤ nI qq from nI_le (a := 0) (by omega) (by omega)), rf_t c2.2.1.2.2.2.2.1, ck_t (US (gr_U c2.1.2.1 un hun)), bC_t (ev_nmB (gr_U c2.1.2.1 un hun) hPB hq)]
      · obtain ⟨B3, c1, c2, c3⟩ := h0'.ed hE hN same.rf same.rf x1 x2 x3 n6
        refine ⟨-2, A, B3, ?_, ?_, c2, same.rf, s0.tr (c3.mono fun a f y => .inr (.inl y))⟩
        · rw [eA, bC_t k1, if_neg (by decide)]
        · rw [eB, bC_t k2, rf_t b8, rf_t b9, ck_t (US (gr_U hGB us hus)), bC_t c1, if_neg (by decide)]
    · rw [if_neg q2] at eA
      rw [if_pos (m1.mpr (i32_nlt.mp q2)), if_pos rfl] at eB
      exact ⟨_, A, B0, eA, eB, h0', same.rf, s0⟩
  · rw [if_neg y] at eA
    rw [if_neg y, if_pos rfl] at eB
    exact ⟨_, A, B0, eA, eB, h0', same.rf, s0⟩
theorem PLI.bm {S : Nat → Nat} {b b2 t0 la z us un c n : Nat} {Nm : Nat → Nat → List Nat} {Pv : Nat → Nat → Int32} {A B : Hp} (h : PLI N p cs w M ty mn nu cd E Nm Pv S b t0 A la z B us un c n) (hb : b ≤ b2) : PLI N p cs w M ty mn nu cd E Nm Pv S b2 t0 A la z B us un c n := by
  obtain ⟨h1, h2, h3, ⟨Qn, x1, x2, x3⟩, ⟨Qs, y1, y2, y3⟩, h4⟩ := h
  exact ⟨h1, h2, h3, ⟨Qn, x1, x2, x3.mono (by omega)⟩, ⟨Qs, y1, y2, y3.mono (by omega)⟩, h4⟩
theorem change_jo {S : Nat → Nat} {nb b t0 la z us un c n : Nat} {how e q : Int32} {Nm : Nat → Nat → List Nat} {Pv : Nat → Nat → Int32} {A B : Hp} (h : PLI N p cs w M ty mn nu cd E Nm Pv S b t0 A la z B us un c n) (hpr : A.P 0 4 = .ref p) (hQ : TXQ M cs ty mn nu cd E Pv) (hN : 2000000 ≤ N) (hb : BNS S nb) (hcn : nb + (b + 16 * (n - t0)) + 20 < 8388608) : ∃ r A2 B2, F_W_change N 0 how e q A = some (r, A2) ∧ F_M_change N 517 how e q B = some (r, B2) ∧ PLI N p cs w M ty mn nu cd E Nm Pv S (b + 1) t0 A2 la z B2 us un c n ∧ same (cW 12) A A2 ∧ same (EDB us un) B B2 := by
  have hE := hQ.1
  have h0 := h.th (x := 0) hE
  have s0 : same (EDB us un) B (B.sD 517 0 0) := same.rf.sD (.inl ⟨rfl, rfl⟩)
  have eB : F_M_change N 517 how e q B = bC (F_M_isQuiet N 517 (B.sD 517 0 0)) fun v4 H5 => if v4 = (0 : Int32) then some ((-10), H5) else bC (F_M_in N (how.toInt64) (0 : Int64) (2 : Int64) H5) fun v8 H9 => if v8 = (0 : Int32) then some ((-1), H9) else rf (H9.P 517 9) fun a11 => ck (H9.sh[a11]? = some (13, 0)) <| bC (F_MWorld_isAlive N a11 e H9) fun v15 H16 => if v15 = (0 : Int32) then some ((-1), H16) else if how ≤ (0 : Int32) then B_M_change_52 N 517 how e q H16 else bC (F_M_isComponent N 517 q H16) fun v90 H91 => if v90 = (0 : Int32) then some ((-1), H91) else B_M_change_52 N 517 how e q H91 := by
    unfold F_M_change
    rw [ck_t (rS_517 h.1.2.1), bnd_t]
  generalize B.sD 517 0 0 = B0 at *
  obtain ⟨qa, qb⟩ := qt_A h0
  have h0' := h0
  obtain ⟨⟨hGA, hGB, hT, hL⟩, ⟨hus, hun, hne, b8, b9, b3⟩, ⟨n0, n1, n2, n3, n4, n5, n6⟩, ⟨Qn, x1, x2, x3⟩, -⟩ := h0
  obtain ⟨⟨-, ⟨a3, a5, a6, -⟩, -, ha4, -⟩, ⟨-, ⟨b16, b12, b13, -⟩, -, hb4, -⟩, hp, hwT, -⟩ := hT
  have e4 : E 4 0 ≤ 16 := hE.1
  have hP := gr_P hGA hp
  have T := gr_T hGB w hwT
  have W := gr_W hGA 12 (by decide)
  have U := gr_U hGB un hun
  have hu1 := lU_le hus
  have hu2 := lU_le hun
  have l8 : lo8 e < 256 := lo8_lt
  have no : ∀ r, F_W_change N 0 how e q A = some (r, A) → F_M_change N 517 how e q B = some (r, B0) → ∃ r A2 B2, F_W_change N 0 how e q A = some (r, A2) ∧ F_M_change N 517 how e q B = some (r, B2) ∧ PLI N p cs w M ty mn nu cd E Nm Pv S (b + 1) t0 A2 la z B2 us un c n ∧ same (cW 12) A A2 ∧ same (EDB us un) B B2 := fun r k1 k2 => ⟨r, A, B0, k1, k2, h0'.bm (by omega), same.rf, s0⟩
  have eA : F_W_change N 0 how e q A = (if n = c then (if how < (0 : Int32) then some ((-1), A) else if (2 : Int32) < how then some ((-1), A) else if (0 : Int32) ≤ (if liv Qn e then nI (lo8 e) else -1) then (if how = (0 : Int32) then bC (F_World_remove N 12 (if liv Qn e then nI (lo8 e) else -1) A) fun v62 H63 => some (0, H63) else if q < (0 : Int32) then some ((-1), A) else if q < nI (E 4 0) then bC (F_World_owns N 12 (if liv Qn e then nI (lo8 e) else -1) q A) fun v32 H33 => if how = (1 : Int32) then B_W_change_97 N 0 how e q 12 (if liv Qn e then nI (lo8 e) else -1) v32 1 H33 else B_W_change_97 N 0 how e q 12 (if liv Qn e then nI (lo8 e) else -1) v32 0 H33 else some ((-1), A)) else some ((-1), A)) else some ((-10), A)) := by
    unfold F_W_change
    rw [ck_t (rS_0 hGA), rf_t (rP_0_2 hGA), ck_t (rS_11 hGA), bC_t qa]
    by_cases y : n = c
    · rw [if_pos y, if_pos y, if_neg (by decide), rf_t (rP_0_2 hGA), ck_t (rS_11 hGA), rf_t (rP_11_0 hGA), ck_t (rA_11_0 hGA), bC_t (ev_placeOf W x1.1.1), rf_t hpr, ck_t (PrS hP), rf_t (PrP_2 hP), ck_t (PrA_2 hP), bnd_t, a3]
    · rw [if_neg y, if_neg y, if_pos rfl]
  rw [bC_t qb] at eB
  by_cases y : n = c
  · rw [if_pos y] at eA
    rw [if_pos y, if_neg (by decide), bC_t (ev_in (a := (0 : Int64)) (b := (2 : Int64)) (lo := 0) (hi := 2) rfl rfl)] at eB
    subst y
    by_cases o1 : how < 0
    · rw [if_pos o1] at eA
      rw [if_pos o1, if_pos rfl] at eB
      exact no _ eA eB
    rw [if_neg o1] at eA eB
    by_cases o2 : (2 : Int32) < how
    · rw [if_pos o2] at eA
      rw [if_pos o2, if_pos rfl] at eB
      exact no _ eA eB
    rw [if_neg o2] at eA
    rw [if_neg o2, if_neg (by decide), rf_t b9, ck_t (US U), bC_t (ev_malive U x1.1.2.1)] at eB
    obtain ⟨ho, hho, rfl⟩ := nI_small (n := 3) o1 (fun y => o2 (Decidable.byContradiction fun z => i32_nlt.mpr y ((i32_le (c := 2) (by decide)).mp (i32_nlt.mp z)))) (by decide)
    by_cases a : liv Qn e
    · rw [if_pos a, if_pos (show (0 : Int32) ≤ nI (lo8 e) from nI_le (a := 0) (by omega) (by omega))] at eA
      rw [if_pos a, if_neg (by decide)] at eB
      -- the end of the reference's
      have fin : ∀ A2 B2 Q2 (v : Int32), EDR 12 un (sE E (Sof S Qn)) Qn A B0 A2 B2 Q2 → (∀ q, q < 256 → Qn 0 q ≤ Q2 0 q) → GNV S (b + 1 + 16 * (n - t0)) Q2 → ¬ v = 0 → F_W_change N 0 (nI ho) e q A = some (0, A2) → F_M_change N 517 (nI ho) e q B = B_M_change_97 N 517 (nI ho) e q v B2 → ∃ r A2 B2, F_W_change N 0 (nI ho) e q A = some (r, A2) ∧ F_M_change N 517 (nI ho) e q B = some (r, B2) ∧ PLI N p cs w M ty mn nu cd E Nm Pv S (b + 1) t0 A2 la z B2 us un n n ∧ same (cW 12) A A2 ∧ same (EDB us un) B B2 := fun A2 B2 Q2 v k3 hm hg hv k1 k2 => by
        obtain ⟨g1, g2⟩ := k3.all x1 x2 hm
        have sA2 : same (cW 12) A A2 := k3.1.mono fun a f y => by unfold WCA at y; unfold cW; omega
        have sB2 : same (cU un) B0 B2 := k3.2.1.mono fun a f y => by unfold WCB at y; unfold cU; omega
        have a20 : A2.D 12 0 = nI n := by rw [k3.1.1 _ _ (by unfold WCA; omega)]; exact n6
        obtain ⟨B3, c1, c2, c3⟩ := h0'.ed hE hN sA2 sB2 g1 g2 hg a20
        have GB2 := sB2.gr hGB
        refine ⟨0, A2, B3, k1, ?_, c2, sA2, (s0.tr (sB2.mono fun a f y => .inr (.inr y))).tr (c3.mono fun a f y => .inr (.inl y))⟩
        rw [k2]
        unfold B_M_change_97
        rw [ck_t (rS_517 GB2), rf_t (show B2.P 517 8 = .ref us by rw [sB2.2.1]; exact b8), rf_t (show B2.P 517 9 = .ref un by rw [sB2.2.1]; exact b9), ck_t (US (gr_U GB2 us hus)), bC_t c1, if_neg hv]
      have fin2 : F_W_change N 0 (nI ho) e q A = some (-2, A) → F_M_change N 517 (nI ho) e q B = B_M_change_97 N 517 (nI ho) e q 0 B0 → ∃ r A2 B2, F_W_change N 0 (nI ho) e q A = some (r, A2) ∧ F_M_change N 517 (nI ho) e q B = some (r, B2) ∧ PLI N p cs w M ty mn nu cd E Nm Pv S (b + 1) t0 A2 la z B2 us un n n ∧ same (cW 12) A A2 ∧ same (EDB us un) B B2 := fun k1 k2 => by
        obtain ⟨B3, c1, c2, c3⟩ := h0'.ed hE hN same.rf same.rf x1 x2 x3 n6
        refine ⟨-2, A, B3, k1, ?_, c2.bm (by omega), same.rf, s0.tr (c3.mono fun a f y => .inr (.inl y))⟩
        rw [k2]
        unfold B_M_change_97
        rw [ck_t (rS_517 hGB), rf_t b8, rf_t b9, ck_t (US (gr_U hGB us hus)), bC_t c1, if_pos rfl]
      by_cases z0 : ho = 0
      · subst z0
        rw [if_pos (show nI 0 = (0 : Int32) from rfl)] at eA
        rw [if_pos (show nI 0 ≤ (0 : Int32) by decide)] at eB
        have gq := x3 (lo8 e) l8
        have gb := cnS_bn (q := lo8 e) (x := Qn 0 (lo8 e)) nb S hb
        obtain ⟨A2, B2, Q2, k1, k2, k3, k4, k5⟩ := dr_co (N := N) (wo := 12) (u := un) (E := sE E (Sof S Qn)) (Q := Qn) (v := e) hGA hGB (by decide) hun x1.1 a (by omega)
        have hm : ∀ q, Qn 0 q ≤ Q2 0 q := fun q => by
          by_cases y : q = lo8 e
          · rw [y, k4]; omega
          · rw [k5 q y]; exact Nat.le_refl _
        refine fin A2 B2 Q2 1 k3 (fun q _ => hm q) ?_ (by decide) ?_ ?_
        · have g0 : GNV S (b + 16 * (n - t0) + 1) Q2 := x3.up (fun q hq => (k3.2.2.1.1 q hq).2.1) (fun q => ⟨hm q, fun i i1 i2 => by
            by_cases y : q = lo8 e
            · rw [y, k4] at i2; rw [y] at i1; omega
            · rw [k5 q y] at i2; omega⟩)
          exact g0.mono (by omega)
        · rw [eA, bC_t k1]
        · rw [eB]
          unfold B_M_change_52
          rw [if_pos (show nI 0 = (0 : Int32) from rfl), ck_t (rS_517 hGB), rf_t b9, ck_t (US U), bC_t k2]
      rw [if_neg (show ¬ nI ho = (0 : Int32) from fun y => z0 ((nI_eq (b := 0) (by omega) (by decide)).mp y))] at eA
      have ic : F_M_isComponent N 517 q B0 = some (if q < 0 then (0 : Int32) else if nI (E 4 0) - 1 < q then 0 else 1, B0) := by
        unfold F_M_isComponent
        rw [ck_t (rS_517 hGB), rf_t b3, ck_t (TS T), bnd_t, b16, bC_t (ev_in (a := (0 : Int64)) (b := (nI (E 4 0) - 1).toInt64) (lo := 0) (hi := nI (E 4 0) - 1) rfl rfl), ck_t (by split; decide; split <;> decide)]
      rw [if_neg (show ¬ nI ho ≤ (0 : Int32) from nI_ge (a := 0) (by omega) (by omega)), bC_t ic] at eB
      by_cases q1 : q < 0
      · rw [if_pos q1] at eA
        rw [if_pos q1, if_pos rfl] at eB
        exact no _ eA eB
      rw [if_neg q1] at eA eB
      have m1 := nI_m1 (n := E 4 0) (by omega) q q1
      by_cases q2 : q < nI (E 4 0)
      · obtain ⟨cc, hc, rfl⟩ := nI_small (n := E 4 0) q1 (fun y => i32_nlt.mpr y q2) (by omega)
        rw [if_pos q2, bC_t (ev_owns W x1.1.1 l8 (by omega) a.1)] at eA
        rw [if_neg (fun y => i32_nlt.mpr (m1.mp y) q2), if_neg (by decide)] at eB
        unfold B_W_change_97 at eA
        unfold B_M_change_52 at eB
        rw [if_neg (show ¬ nI ho = (0 : Int32) from fun y => z0 ((nI_eq (b := 0) (by omega) (by decide)).mp y))] at eB
        by_cases z1 : ho = 1
        · subst z1
          rw [if_pos (show nI 1 = (1 : Int32) from rfl)] at eA eB
          by_cases bb : Qn 2 (lo8 e) / 2 ^ cc % 2 = 1
          · rw [if_pos bb, if_pos rfl] at eA
            refine fin2 eA ?_
            rw [eB, ck_t (rS_517 hGB), rf_t b9, rf_t b3, ck_t (US U)]
            unfold F_MWorld_gives
            rw [ck_t (US U), bC_t (ev_malive U x1.1.2.1), if_pos a, if_neg (by decide), bC_t (ev_mhas U x1.1.2.1 (by omega)), if_pos (show liv Qn e ∧ Qn 2 (lo8 e) / 2 ^ cc % 2 = 1 from ⟨a, bb⟩), if_neg (by decide), bC_v]
          · rw [if_neg bb, if_neg (by decide), if_pos (show nI 1 = (1 : Int32) from rfl), ck_t (rS_0 hGA), rf_t hpr, ck_t (rA_11_0 hGA)] at eA
            obtain ⟨A2, B2, Q2, k1, k2, k3, k4⟩ := gv_co (N := N) (wo := 12) (u := un) (p := p) (w := w) (E := sE E (Sof S Qn)) (Q := Qn) (v := e) (c := cc) (by omega) hE hGA hGB (by decide) hun hp hwT a5 (fun m hm => (a6 m hm).2) ⟨b12, fun m hm => (b13 m hm).2⟩ x1.1 hc a bb
            refine fin A2 B2 Q2 1 k3 (fun q _ => by rw [k4]; exact Nat.le_refl _) (fun q hq => by rw [k4]; exact (x3.mono (by omega)) q hq) (by decide) ?_ ?_
            · rw [eA, bC_t k1]
            · rw [eB, ck_t (rS_517 hGB), rf_t b9, rf_t b3, ck_t (US U), bC_t k2]
        · have z2 : ho = 2 := by omega
          subst z2
          rw [if_neg (show ¬ nI 2 = (1 : Int32) by decide)] at eA eB
          by_cases bb : Qn 2 (lo8 e) / 2 ^ cc % 2 = 1
          · rw [if_pos bb, if_neg (by decide), if_neg (show ¬ nI 2 = (1 : Int32) by decide), ck_t (rA_11_0 hGA)] at eA
            obtain ⟨A2, B2, Q2, k1, k2, k3, k4⟩ := tk_co (N := N) (wo := 12) (u := un) (E := sE E (Sof S Qn)) (Q := Qn) (v := e) (c := cc) hGA hGB (by decide) hun x1.1 (by omega) a bb
            refine fin A2 B2 Q2 1 k3 (fun q _ => by rw [k4]; exact Nat.le_refl _) (fun q hq => by rw [k4]; exact (x3.mono (by omega)) q hq) (by decide) ?_ ?_
            · rw [eA, bC_t k1]
            · rw [eB, ck_t (rS_517 hGB), rf_t b9, ck_t (US U), bC_t k2]
          · rw [if_neg bb, if_pos rfl] at eA
            refine fin2 eA ?_
            rw [eB, ck_t (rS_517 hGB), rf_t b9, ck_t (US U)]
            unfold F_MWorld_takes
            rw [ck_t (US U), bC_t (ev_mhas U x1.1.2.1 (by omega)), if_neg (show ¬ (liv Qn e ∧ Qn 2 (lo8 e) / 2 ^ cc % 2 = 1) from fun y => bb y.2), if_pos rfl, bC_v]
      · rw [if_neg q2] at eA
        rw [if_pos (m1.mpr (i32_nlt.mp q2)), if_pos rfl] at eB
        exact no _ eA eB
    · rw [if_neg a, if_neg (by decide)] at eA
      rw [if_neg a, if_pos rfl] at eB
      exact no _ eA eB
  · rw [if_neg y] at eA
    rw [if_neg y, if_pos rfl] at eB
    exact no _ eA eB
end Par
