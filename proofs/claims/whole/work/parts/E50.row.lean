/-! ===== a row: its start, its end ===== -/
section Par
variable {N p wo inp cs w u ir M : Nat} {s pl : Int32} {ty mn nu : Nat → Int32}
theorem ev_ncx {A : Hp} (h : VS0 A p wo inp cs) (hp : p ≠ 117) : ∃ c, F_Row_nextCode N 117 A = some (c, A.sD 117 12 (A.D 117 12 + 1)) := by
  obtain ⟨hG, hP, hW, k1, k2, k3, k4, k5, k6⟩ := h
  unfold F_Row_nextCode
  rw [ck_t (rS_117 hG), bnd_t, bnd_t, bnd_t]
  by_cases q : A.D 117 12 < 0
  · rw [if_pos q]
    exact ⟨_, rfl⟩
  · rw [if_neg q, sD_P, rf_t k1, ck_t (show (A.sD 117 12 (A.D 117 12 + 1)).sh[p]? = some (4, 0) from (PrS hP : A.sh[p]? = some (4, 0))), bnd_t, rdw hp, k5]
    by_cases q2 : nI cs ≤ A.D 117 12
    · rw [if_pos q2]
      exact ⟨_, rfl⟩
    · obtain ⟨k, hk, e⟩ := nI_small q q2 (by omega)
      rw [if_neg q2, rf_t k1, ck_t (show (A.sD 117 12 (A.D 117 12 + 1)).sh[p]? = some (4, 0) from (PrS hP : A.sh[p]? = some (4, 0))), rf_t (PrP_16 hP), ar_sD, ar_t (PrA_16 hP)]
      rw [e]
      rw [rdI (show k < 12000 by omega) (by decide)]
      exact ⟨_, rfl⟩
theorem Lp_end {A : Hp} {fu t b : Nat} (h : VS0 A p wo inp cs) (hp : p ≠ 117) (h12 : A.D 117 12 = nI b) (hb : b < cs) (hc : A.D (p + 191) b = 0) (h16 : A.D 117 16 = 0) : Lp N s pl (fu + 1) t A = some ((), A.sD 117 12 (nI (b + 1))) := by
  have hG : Gr (A.sD 117 12 (nI (b + 1))) := h.1
  have e : B_Row_runRow_183 N 117 s pl (A.sD 117 12 (nI (b + 1))) = some ((), A.sD 117 12 (nI (b + 1))) := by
    unfold B_Row_runRow_183
    rw [ck_t (rS_117 hG), bnd_t, rdf (by decide), h16, if_pos rfl]
  unfold Lp
  rw [bC_t (ev_code h h12 hb hp), hc, B_Row_runRow_93]
  by_cases q : (4000000 : Int32) ≤ nI t
  · rw [if_pos q, e]
  · rw [if_neg q, if_pos rfl, e]
theorem Lp_fail {A : Hp} {fu t : Nat} (h : VS0 A p wo inp cs) (hp : p ≠ 117) (h16 : ¬ A.D 117 16 = 0) : Lp N s pl (fu + 1) t A = B_Row_runRow_183 N 117 s pl (A.sD 117 12 (A.D 117 12 + 1)) := by
  obtain ⟨c, e⟩ := ev_ncx (N := N) h hp
  have hG : Gr (A.sD 117 12 (A.D 117 12 + 1)) := h.1
  unfold Lp
  rw [bC_t e, B_Row_runRow_93]
  by_cases q : (4000000 : Int32) ≤ nI t
  · rw [if_pos q]
  · rw [if_neg q]
    by_cases q2 : c = 0
    · rw [if_pos q2]
    · rw [if_neg q2, ck_t (rS_117 hG), bnd_t, rdf (by decide), if_neg h16]
/-- a failed row's end: the values come back, its commands go, the failure is noted -/
theorem ev_183f {A : Hp} {q wd K0 mk : Nat} {y : Int32} (h : VS0 A p wo inp cs) (h18 : A.D 117 18 = nI q) (hq : q < 256) (hw : A.D wo 10 = nI wd) (hwd : wd ≤ 48) (h1 : A.D 117 1 = nI (K0 + mk)) (h15 : A.D 117 15 = nI mk) (h16 : A.D 117 16 = y) (hy : ¬ y = 0) (hwo : wo ≤ 109) : ∃ A2, B_Row_runRow_183 N 117 s pl A = some ((), A2) ∧ same (fun a f => (a = wo + 3 ∧ q * wd ≤ f ∧ f < q * wd + wd) ∨ (a = 117 ∧ f = 1) ∨ (a = wo ∧ (f = 2 ∨ f = 4 ∨ f = 5 ∨ f = 6))) A A2 ∧ (∀ x, x < wd → A2.D (wo + 3) (q * wd + x) = A.D 124 x) ∧ A2.D 117 1 = nI K0 ∧ A2.D wo 2 = A.D wo 2 + 1 ∧ (A.D wo 6 = 0 → A2.D wo 4 = A.D 117 17 ∧ A2.D wo 5 = (256 : Int32) * A.D (wo + 1) q + nI q ∧ A2.D wo 6 = y) ∧ (¬ A.D wo 6 = 0 → A2.D wo 4 = A.D wo 4 ∧ A2.D wo 5 = A.D wo 5 ∧ A2.D wo 6 = A.D wo 6) := by
  obtain ⟨hG, hP, hW, k1, k2, k3, k4, k5, k6⟩ := h
  have hb : q * wd + wd ≤ 12288 := by
    have : q * wd ≤ 255 * 48 := Nat.mul_le_mul (by omega) hwd
    omega
  have hm : nI q * nI wd = nI (q * wd) := nI_mu q wd
  generalize hH : A.cpy 124 (wo + 3) 0 (q * wd) wd = H
  have dH : ∀ a f, a ≠ wo + 3 → H.D a f = A.D a f := fun a f z => by rw [← hH, cpy_Dq, if_neg z]
  have hGH : Gr H := by rw [← hH]; exact hG
  have hWH : isW H wo := by rw [← hH]; exact hW
  have PH : H.P = A.P := by rw [← hH]; rfl
  have sH : same (fun a f => a = wo + 3 ∧ q * wd ≤ f ∧ f < q * wd + wd) A H := by
    refine ⟨fun a f z => ?_, PH, by rw [← hH]; rfl, by rw [← hH]; rfl, by rw [← hH]; rfl⟩
    rw [← hH, cpy_Dq]
    by_cases z2 : a = wo + 3
    · rw [if_pos z2]
      unfold va_cpy
      rw [if_neg (fun y => z ⟨z2, by omega, by omega⟩), z2]
    · rw [if_neg z2]
  have vH : ∀ x, x < wd → H.D (wo + 3) (q * wd + x) = A.D 124 x := fun x hx => by
    rw [← hH, cpy_Dq, if_pos rfl]
    unfold va_cpy
    rw [if_pos (by omega), show 0 + (q * wd + x - q * wd) = x by omega]
  generalize hJ : H.sD 117 1 (nI K0) = J
  have hGJ : Gr J := by rw [← hJ]; exact hGH
  have hWJ : isW J wo := by rw [← hJ]; exact hWH
  have PJ : J.P 117 3 = .ref wo := by rw [← hJ, sD_P, PH]; exact k2
  have dJ : ∀ a f, ¬ (a = 117 ∧ f = 1) → J.D a f = H.D a f := fun a f z => by
    rw [← hJ]
    by_cases z2 : a = 117
    · rw [z2, rdf (fun y => z ⟨z2, y⟩)]
    · rw [rdw z2]
  have base : B_Row_runRow_183 N 117 s pl A = bC (F_World_noteFailure N wo (A.D 117 17) ((256 : Int32) * A.D (wo + 1) q + nI q) y J) fun _ H96 => some ((), H96) := by
    unfold B_Row_runRow_183
    rw [ck_t (rS_117 hG), bnd_t, h16, if_neg hy, rf_t (rP_117_11 hG), rf_t k2, ck_t (WS hW), rf_t (WP_11 hW), bnd_t, h18, rf_t k2, ck_t (WS hW), bnd_t, hw, rf_t k2, ck_t (WS hW), bnd_t, hw, ar_t (rA_117_11 hG), ar_t (WA_11 hW), hm, ck_t (by decide), ck_t (show ¬ nI (q * wd) < (0 : Int32) from nI_nlt (b := 0) (by omega) (by omega)), ck_t (show ¬ nI wd < (0 : Int32) from nI_nlt (b := 0) (by omega) (by omega)), c0, cN (by omega), cN (by omega), ck_t (by omega), ck_t (by omega), bnd_t, hH, bnd_t, dH 117 1 (by omega), h1, bnd_t, dH 117 15 (by omega), h15, nI_dif (by omega), show K0 + mk - mk = K0 by omega, bnd_t, hJ, rf_t PJ, bnd_t, dJ 117 17 (by omega), dH 117 17 (by omega), rf_t PJ, bnd_t, dJ 117 18 (by omega), dH 117 18 (by omega), h18, ck_t (WS hWJ), bC_t (ev_numAt hWJ hq), dJ (wo + 1) q (by omega), dH (wo + 1) q (by omega), bnd_t, dJ 117 16 (by omega), dH 117 16 (by omega), h16, ck_t (WS hWJ)]
  have sJ : same (fun a f => (a = wo + 3 ∧ q * wd ≤ f ∧ f < q * wd + wd) ∨ (a = 117 ∧ f = 1) ∨ (a = wo ∧ (f = 2 ∨ f = 4 ∨ f = 5 ∨ f = 6))) A J := by
    rw [← hJ]
    exact same.sD (sH.mono (fun a f z => .inl z)) (.inr (.inl ⟨rfl, rfl⟩))
  have w2 : J.D wo 2 = A.D wo 2 := by rw [dJ wo 2 (by omega), dH wo 2 (by omega)]
  have w6 : J.D wo 6 = A.D wo 6 := by rw [dJ wo 6 (by omega), dH wo 6 (by omega)]
  have w4 : J.D wo 4 = A.D wo 4 := by rw [dJ wo 4 (by omega), dH wo 4 (by omega)]
  have w5 : J.D wo 5 = A.D wo 5 := by rw [dJ wo 5 (by omega), dH wo 5 (by omega)]
  have l1 : J.D 117 1 = nI K0 := by rw [← hJ, rds]
  have vJ : ∀ x, x < wd → J.D (wo + 3) (q * wd + x) = A.D 124 x := fun x hx => by rw [dJ (wo + 3) _ (by omega)]; exact vH x hx
  unfold F_World_noteFailure at base
  rw [ck_t (WS hWJ), bnd_t, w2, bnd_t, bnd_t, rdf (by decide), w6] at base
  by_cases q6 : A.D wo 6 = 0
  · rw [if_pos q6, bnd_t, bnd_t, bnd_t, bC_v] at base
    refine ⟨_, base, same.sD (same.sD (same.sD (same.sD sJ (.inr (.inr ⟨rfl, by omega⟩))) (.inr (.inr ⟨rfl, by omega⟩))) (.inr (.inr ⟨rfl, by omega⟩))) (.inr (.inr ⟨rfl, by omega⟩)), fun x hx => ?_, ?_, ?_, fun _ => ⟨?_, ?_, rds⟩, fun z => absurd q6 z⟩
    · rw [rdw (by omega), rdw (by omega), rdw (by omega), rdw (by omega)]; exact vJ x hx
    · rw [rdw (by omega), rdw (by omega), rdw (by omega), rdw (by omega)]; exact l1
    · rw [rdf (by decide), rdf (by decide), rdf (by decide), rds]
    · rw [rdf (by decide), rdf (by decide), rds]
    · rw [rdf (by decide), rds]
  · rw [if_neg q6, bC_v] at base
    refine ⟨_, base, same.sD sJ (.inr (.inr ⟨rfl, by omega⟩)), fun x hx => ?_, ?_, rds, fun z => absurd z q6, fun _ => ⟨?_, ?_, ?_⟩⟩
    · rw [rdw (by omega)]; exact vJ x hx
    · rw [rdw (by omega)]; exact l1
    · rw [rdf (by decide)]; exact w4
    · rw [rdf (by decide)]; exact w5
    · rw [rdf (by decide)]; exact w6
/-- a row's start -/
theorem row_start {A : Hp} {sy q wd a : Nat} (h : VS0 A p wo inp cs) (hp : p = 133 ∨ p = 325) (hwo : wo ≤ 109) (hs16 : sy < 16) (hq : q < 256) (hw : A.D wo 10 = nI wd) (hwd : wd ≤ 48) (hst : A.D (p + 189) sy = nI a) : ∃ A0, F_Row_runRow N 117 (nI sy) (nI q) A = Lp N (nI sy) (nI q) N 0 A0 ∧ same (fun a f => (a = 117 ∧ (f = 6 ∨ (12 ≤ f ∧ f ≤ 18))) ∨ a = 124) A A0 ∧ (A0.D 117 12 = nI a ∧ A0.D 117 6 = 0 ∧ A0.D 117 13 = 0 ∧ A0.D 117 14 = 0 ∧ A0.D 117 15 = 0 ∧ A0.D 117 16 = 0 ∧ A0.D 117 17 = nI sy ∧ A0.D 117 18 = nI q) ∧ ∀ x, x < wd → A0.D 124 x = A.D (wo + 3) (q * wd + x) := by
  obtain ⟨hG, hP, hW, k1, k2, k3, k4, k5, k6⟩ := h
  have hb : q * wd + wd ≤ 12288 := by
    have : q * wd ≤ 255 * 48 := Nat.mul_le_mul (by omega) hwd
    omega
  have hm : nI q * nI wd = nI (q * wd) := nI_mu q wd
  generalize h3 : (A.sD 117 17 (nI sy)).sD 117 18 (nI q) = H3
  have g3 : Gr H3 := by rw [← h3]; exact hG
  have p3 : H3.P = A.P := by rw [← h3]; rfl
  have d3 : ∀ a f, a ≠ 117 → H3.D a f = A.D a f := fun a f z => by rw [← h3, rdw z, rdw z]
  have s17 : H3.D 117 17 = nI sy := by rw [← h3, rdf (by decide), rds]
  have s18 : H3.D 117 18 = nI q := by rw [← h3, rds]
  have P3' : isP H3 p := by rw [← h3]; exact hP
  have sm3 : same (fun a f => (a = 117 ∧ (f = 6 ∨ (12 ≤ f ∧ f ≤ 18))) ∨ a = 124) A H3 := by
    rw [← h3]
    exact same.sD (same.sD same.rf (.inl ⟨rfl, by omega⟩)) (.inl ⟨rfl, by omega⟩)
  generalize h9 : (((((H3.sD 117 12 (nI a)).sD 117 6 0).sD 117 13 0).sD 117 14 0).sD 117 15 0).sD 117 16 0 = H9
  have g9 : Gr H9 := by rw [← h9]; exact g3
  have W9 : isW H9 wo := by rw [← h9, ← h3]; exact hW
  have p9 : H9.P 117 3 = .ref wo := by rw [← h9]; show H3.P 117 3 = _; rw [p3]; exact k2
  have d9 : ∀ a f, a ≠ 117 → H9.D a f = A.D a f := fun a f z => by rw [← h9, rdw z, rdw z, rdw z, rdw z, rdw z, rdw z]; exact d3 a f z
  have sm9 : same (fun a f => (a = 117 ∧ (f = 6 ∨ (12 ≤ f ∧ f ≤ 18))) ∨ a = 124) A H9 := by
    rw [← h9]
    exact same.sD (same.sD (same.sD (same.sD (same.sD (same.sD sm3 (.inl ⟨rfl, by omega⟩)) (.inl ⟨rfl, by omega⟩)) (.inl ⟨rfl, by omega⟩)) (.inl ⟨rfl, by omega⟩)) (.inl ⟨rfl, by omega⟩)) (.inl ⟨rfl, by omega⟩)
  have f9 : H9.D 117 12 = nI a ∧ H9.D 117 6 = 0 ∧ H9.D 117 13 = 0 ∧ H9.D 117 14 = 0 ∧ H9.D 117 15 = 0 ∧ H9.D 117 16 = 0 ∧ H9.D 117 17 = nI sy ∧ H9.D 117 18 = nI q := by
    rw [← h9]
    refine ⟨?_, ?_, ?_, ?_, ?_, rds, ?_, ?_⟩
    · rw [rdf (by decide), rdf (by decide), rdf (by decide), rdf (by decide), rdf (by decide), rds]
    · rw [rdf (by decide), rdf (by decide), rdf (by decide), rdf (by decide), rds]
    · rw [rdf (by decide), rdf (by decide), rdf (by decide), rds]
    · rw [rdf (by decide), rdf (by decide), rds]
    · rw [rdf (by decide), rds]
    · rw [rdf (by decide), rdf (by decide), rdf (by decide), rdf (by decide), rdf (by decide), rdf (by decide)]; exact s17
    · rw [rdf (by decide), rdf (by decide), rdf (by decide), rdf (by decide), rdf (by decide), rdf (by decide)]; exact s18
  refine ⟨H9.cpy (wo + 3) 124 (q * wd) 0 wd, ?_, ?_, ?_, fun x hx => ?_⟩
  · unfold F_Row_runRow
    rw [ck_t (rS_117 hG), bnd_t, bnd_t, h3, rf_t (by rw [p3]; exact k1), ck_t (PrS P3'), rf_t (PrP_13 P3'), bnd_t, s17, ar_t (PrA_13 P3'), rdI hs16 (by decide), d3 (p + 189) sy (by omega), hst, bnd_t, bnd_t, bnd_t, bnd_t, bnd_t, bnd_t, h9, rf_t p9, ck_t (WS W9), rf_t (WP_11 W9), bnd_t, f9.2.2.2.2.2.2.2, rf_t p9, ck_t (WS W9), bnd_t, d9 wo 10 (by omega), hw, rf_t (rP_117_11 g9), rf_t p9, ck_t (WS W9), bnd_t, d9 wo 10 (by omega), hw, ar_t (WA_11 W9), ar_t (rA_117_11 g9), hm, ck_t (show ¬ nI (q * wd) < (0 : Int32) from nI_nlt (b := 0) (by omega) (by omega)), ck_t (by decide), ck_t (show ¬ nI wd < (0 : Int32) from nI_nlt (b := 0) (by omega) (by omega)), c0, cN (by omega), cN (by omega), ck_t (by omega), ck_t (by omega), bnd_t]
    rfl
  · refine ⟨fun a f z => ?_, sm9.2.1, sm9.2.2.1, sm9.2.2.2.1, sm9.2.2.2.2⟩
    rw [cpy_Dq, if_neg (fun y => z (.inr y)), sm9.1 a f z]
  · simp only [cpy_Dq, if_neg (show ¬ (117 : Nat) = 124 by decide)]
    exact f9
  · rw [cpy_Dq, if_pos rfl]
    unfold va_cpy
    rw [if_pos (by omega), show q * wd + (x - 0) = q * wd + x by omega, d9 (wo + 3) _ (by omega)]
/-- the reference's copies of the own members -/
theorem mrow_in {s2 : Int32} {q : Nat} (hq : q < 256) : ∀ r m g (B : Hp), RB B w u ir M ty mn nu → u ∈ lU → m + r = 48 → ∃ B2, B_MRunner_row_47 N 611 s2 (nI q) (g + r) (nI m) B = B_MRunner_row_47 N 611 s2 (nI q) g (nI 48) B2 ∧ same (fun a f => a = 613) B B2 ∧ (∀ x, m ≤ x → x < 48 → B2.D 613 x = B.D (u + 4) (48 * q + x)) ∧ (∀ x, x < m → B2.D 613 x = B.D 613 x) := by
  intro r
  induction r with
  | zero =>
    intro m g B h hu hm
    rw [show m = 48 by omega]
    exact ⟨B, rfl, same.rf, fun x y z => by omega, fun x _ => rfl⟩
  | succ r ih =>
    intro m g B h hu hm
    have hu' := lU_le hu
    have hU := h.2.2.1
    have sB : same (fun a f => a = 613) B (B.sD 613 m (B.D (u + 4) (48 * q + m))) := same.sD same.rf rfl
    have h2 : RB (B.sD 613 m (B.D (u + 4) (48 * q + m))) w u ir M ty mn nu := h.sm sB (fun i => by
      obtain ⟨t0, t1, t2, t3, t4, t5, t6⟩ := h.T
      refine ⟨fun y => ?_, fun y => ?_, fun y => ?_⟩
      · rw [y, rA_611_13 h.1] at t2; exact absurd (congrArg Prod.snd (Option.some.inj t2)) (by decide)
      · rw [y, rA_611_13 h.1] at t6; exact absurd (congrArg Prod.snd (Option.some.inj t6)) (by decide)
      · rw [y, rA_611_13 h.1] at t4; exact absurd (congrArg Prod.snd (Option.some.inj t4)) (by decide))
    obtain ⟨B2, a1, a2, a3, a4⟩ := ih (m + 1) g _ h2 hu (by omega)
    refine ⟨B2, ?_, sB.tr a2, fun x y z => ?_, fun x y => ?_⟩
    · rw [← a1, show g + (r + 1) = g + r + 1 by omega, B_MRunner_row_47, if_neg (show ¬ (48 : Int32) ≤ nI m from nI_ge (b := 48) (by omega) (by decide)), ck_t (rS_611 h.1), rf_t (rP_611_13 h.1), rf_t h.2.2.2.2.1, ck_t (US hU), rf_t (UP_7 hU), ar_t (UA_7 hU), show (48 : Int32) * nI q + nI m = nI (48 * q + m) from nI_ma 48 q m, rdI (show 48 * q + m < 12288 by omega) (by decide), ar_t (rA_611_13 h.1), wrI (by omega) (by decide), nI_1]
    · by_cases z2 : x = m
      · rw [a4 x (by omega), z2, rds]
      · rw [a3 x (by omega) z, rdw (by omega)]
    · rw [a4 x (by omega), rdf (by omega)]
theorem mrow_out {s2 : Int32} {q : Nat} (hq : q < 256) : ∀ r m g (B : Hp), Gr B → B.P 611 1 = .ref u → u ∈ lU → m + r = 48 → ∃ B2, B_MRunner_row_130 N 611 s2 (nI q) (g + r + 1) (nI m) B = some ((), B2) ∧ same (fun a f => a = u + 4 ∧ 48 * q ≤ f ∧ f < 48 * q + 48) B B2 ∧ (∀ x, m ≤ x → x < 48 → B2.D (u + 4) (48 * q + x) = B.D 613 x) ∧ (∀ x, x < m → B2.D (u + 4) (48 * q + x) = B.D (u + 4) (48 * q + x)) := by
  intro r
  induction r with
  | zero =>
    intro m g B hG hP hu hm
    refine ⟨B, ?_, same.rf, fun x y z => by omega, fun x _ => rfl⟩
    rw [B_MRunner_row_130, if_pos (show (48 : Int32) ≤ nI m from nI_le (a := 48) (by omega) (by omega))]
  | succ r ih =>
    intro m g B hG hP hu hm
    have hu' := lU_le hu
    have hU := gr_U hG u hu
    have sB : same (fun a f => a = u + 4 ∧ 48 * q ≤ f ∧ f < 48 * q + 48) B (B.sD (u + 4) (48 * q + m) (B.D 613 m)) := same.sD same.rf ⟨rfl, by omega, by omega⟩
    obtain ⟨B2, a1, a2, a3, a4⟩ := ih (m + 1) g (B.sD (u + 4) (48 * q + m) (B.D 613 m)) hG hP hu (by omega)
    refine ⟨B2, ?_, sB.tr a2, fun x y z => ?_, fun x y => ?_⟩
    · rw [← a1, show g + (r + 1) + 1 = g + r + 1 + 1 by omega, B_MRunner_row_130, if_neg (show ¬ (48 : Int32) ≤ nI m from nI_ge (b := 48) (by omega) (by decide)), ck_t (rS_611 hG), rf_t hP, ck_t (US hU), rf_t (UP_7 hU), rf_t (rP_611_13 hG), ar_t (rA_611_13 hG), rdI (show m < 48 by omega) (by decide), ar_t (UA_7 hU), show (48 : Int32) * nI q + nI m = nI (48 * q + m) from nI_ma 48 q m, wrI (show 48 * q + m < 12288 by omega) (by decide), nI_1]
    · by_cases z2 : x = m
      · rw [a4 x (by omega), z2, rds]
      · rw [a3 x (by omega) z, rdw (by omega)]
    · rw [a4 x (by omega), rdf (by omega)]
end Par
