/-! ===== swap: the reference carries its world ===== -/
def CYB (B : Hp) (u uk w wk : Nat) (E E' : Nat → Nat → Nat) (Nm Nm' : Nat → Nat → List Nat) (Pv Pv' : Nat → Nat → Int32) (Q : Nat → Nat → Nat) : Prop :=
  (isU B u ∧ isU B uk ∧ isT B w ∧ isT B wk) ∧ (ENB B w E Nm Pv ∧ ENB B wk E' Nm' Pv') ∧ (B.P 517 3 = .ref w ∧ B.P 517 4 = .ref wk ∧ B.sh[517]? = some (12, 0)) ∧ PPB Q B u
def CYG (u uk w wk : Nat) (E E' : Nat → Nat → Nat) (Nm Nm' : Nat → Nat → List Nat) : Prop := (WE E ∧ WE E') ∧ (NMQ E Nm ∧ NMQ E' Nm') ∧ w ∈ lT ∧ wk ∈ lT ∧ u ∈ lU ∧ uk ∈ lU ∧ u ≠ uk
section Par
variable {N p wo inp cs w u ir M K0 : Nat} {s pl : Int32} {ty mn nu cd : Nat → Int32} {E Q : Nat → Nat → Nat} {V : Nat → Nat → Int32} {nL lc : Nat} {lk : Nat → Nat} {hd : Nat → Int32}
variable {uk wk : Nat} {E' : Nat → Nat → Nat} {Nm Nm' : Nat → Nat → List Nat} {Pv Pv' : Nat → Nat → Int32}
theorem CYG.nb (h : CYG u uk w wk E E' Nm Nm') : (519 ≤ w ∧ w ≤ 550) ∧ (519 ≤ wk ∧ wk ≤ 550) ∧ (581 ≤ u ∧ u ≤ 601) ∧ (581 ≤ uk ∧ uk ≤ 601) ∧ (u + 9 < uk ∨ uk + 9 < u) := by
  obtain ⟨-, -, h1, h2, h3, h4, h5⟩ := h
  have k : ∀ x, x ∈ lT → x = 519 ∨ x = 550 := fun x hx => by simpa [lT] using hx
  have l : ∀ x, x ∈ lU → x = 581 ∨ x = 591 ∨ x = 601 := fun x hx => by simpa [lU] using hx
  have := k w h1
  have := k wk h2
  have := l u h3
  have := l uk h4
  omega
theorem CYB.fr {B B2 : Hp} {R : Nat → Nat → Prop} (h : CYB B u uk w wk E E' Nm Nm' Pv Pv' Q) (hF : CYG u uk w wk E E' Nm Nm') (hs : same R B B2) (hR : ∀ a f, R a f → uk ≤ a ∧ a ≤ uk + 9) : CYB B2 u uk w wk E E' Nm Nm' Pv Pv' Q := by
  have nb := hF.nb
  obtain ⟨⟨a1, a2, a3, a4⟩, ⟨b1, b2⟩, ⟨c1, c2, c3⟩, d1⟩ := h
  have d : ∀ a f, ¬ (uk ≤ a ∧ a ≤ uk + 9) → B2.D a f = B.D a f := fun a f y => hs.1 _ _ (fun z => y (hR a f z))
  obtain ⟨s1, s2, s3, s4, s5⟩ := hs
  refine ⟨⟨?_, ?_, ?_, ?_⟩, ⟨b1.fw fun a f y1 y2 => d a f (by omega), b2.fw fun a f y1 y2 => d a f (by omega)⟩, ⟨by rw [s2]; exact c1, by rw [s2]; exact c2, by rw [s4]; exact c3⟩, fun q hq => ?_⟩
  · unfold isU at a1 ⊢; rw [s2, s4]; exact a1
  · unfold isU at a2 ⊢; rw [s2, s4]; exact a2
  · unfold isT at a3 ⊢; rw [s2, s4]; exact a3
  · unfold isT at a4 ⊢; rw [s2, s4]; exact a4
  · rw [d _ _ (by omega), d _ _ (by omega), d _ _ (by omega)]
    exact d1 q hq
theorem cb_135 {c d q : Nat} {kq22 : Nat → Nat → Int32 → Hp → Option (Unit × Hp)} {kq39 : Nat → Nat → Int32 → Int32 → Hp → Option (Unit × Hp)} (hF : CYG u uk w wk E E' Nm Nm') (hN : 7000 ≤ N) (hc : c < E 4 0) (hd : d < E' 4 0) (hq : q < 256) : ∀ j i n B, i + j = E' 5 (d + 1) → j < n → CYB B u uk w wk E E' Nm Nm' Pv Pv' Q → ∃ B2, B_M_carries_135 N 517 kq22 kq39 n u uk (nI q) (nI c) (nI d) (nI i) B = kq39 u uk (nI q) (nI (c + 1)) B2 ∧ same (fun a f => a = uk + 4 ∧ 48 * q + i ≤ f ∧ f < 48 * q + E' 5 (d + 1)) B B2 ∧ ∀ m, i ≤ m → m < E' 5 (d + 1) → B2.D (uk + 4) (48 * q + m) = cvl E E' (fun m0 => B.D (u + 4) (48 * q + m0)) m (mmO E Nm Nm' (some c) m) := by
  have hF' := hF
  have nb := hF.nb
  obtain ⟨⟨e1, e2⟩, ⟨n1, n2⟩, -⟩ := hF
  have g16 := e1.1
  have g16' := e2.1
  have g5 := e1.2.2.1 c hc
  have g5' := e2.2.2.1 d hd
  have g48 : E 5 (E 4 0) ≤ 48 := e1.2.2.2.1
  have g48' : E' 5 (E' 4 0) ≤ 48 := e2.2.2.2.1
  intro j
  induction j with
  | zero =>
    intro i n B hi hn hC
    obtain ⟨n, rfl⟩ : ∃ y, n = y + 1 := ⟨n - 1, by omega⟩
    obtain ⟨⟨a1, a2, a3, a4⟩, ⟨b1, b2⟩, ⟨c1, c2, c3⟩, d1⟩ := hC
    refine ⟨B, ?_, same.rf, fun m y1 y2 => by omega⟩
    rw [B_M_carries_135, ck_t c3, rf_t c2, ck_t (TS a4), rf_t (TP_18 a4), ar_t (TA_18 a4), nI_1, rdI (show d + 1 < 17 by omega) (by decide), b2.2.1.2.1 (d + 1) (by omega), if_pos (nI_le (by omega) (by omega))]
    unfold B_M_carries_251
    rw [nI_1]
  | succ j ih =>
    intro i n B hi hn hC
    obtain ⟨n, rfl⟩ : ∃ y, n = y + 1 := ⟨n - 1, by omega⟩
    have hC' := hC
    obtain ⟨⟨a1, a2, a3, a4⟩, ⟨b1, b2⟩, ⟨c1, c2, c3⟩, d1⟩ := hC
    obtain ⟨⟨t, t1, t2⟩, k6⟩ := b2.2.1.2.2.1 i (by omega)
    have k6' := e2.2.2.2.2.1 i (by omega)
    have eM : F_MText_member N w (nI c) wk (nI t) B = some (oNI (mmO E Nm Nm' (some c) i), B) := ev_member (f := Nm 7) a3 a4 (by omega) (b1.2.1.2.1 c (by omega)) (b1.2.1.2.1 (c + 1) (by omega)) g5.1 (by omega) t2 (fun x y1 y2 => (b1.2.1.2.2.1 x (by omega)).1) hN
    generalize hv0 : cvl E E' (fun m0 => B.D (u + 4) (48 * q + m0)) i (mmO E Nm Nm' (some c) i) = v0
    have h244 : ∀ v, B_M_carries_244 N 517 kq22 kq39 (fun l1 l2 l3 l4 l5 l6 H => B_M_carries_135 N 517 kq22 kq39 n l1 l2 l3 l4 l5 l6 H) u uk (nI q) (nI c) (nI d) (nI i) (uk + 4) (((48 : Int32) * nI q) + nI i) v B = B_M_carries_135 N 517 kq22 kq39 n u uk (nI q) (nI c) (nI d) (nI (i + 1)) (B.sD (uk + 4) (48 * q + i) v) := fun v => by
      unfold B_M_carries_244
      rw [ar_t (UA_7 a2), show (48 : Int32) * nI q + nI i = nI (48 * q + i) from nI_ma 48 _ i, wrI (show 48 * q + i < 12288 by omega) (by decide), nI_1]
    have hh : B_M_carries_135 N 517 kq22 kq39 (n + 1) u uk (nI q) (nI c) (nI d) (nI i) B = B_M_carries_135 N 517 kq22 kq39 n u uk (nI q) (nI c) (nI d) (nI (i + 1)) (B.sD (uk + 4) (48 * q + i) v0) := by
      rw [B_M_carries_135, ck_t c3, rf_t c2, ck_t (TS a4), rf_t (TP_18 a4), ar_t (TA_18 a4), nI_1, rdI (show d + 1 < 17 by omega) (by decide), b2.2.1.2.1 (d + 1) (by omega), if_neg (nI_ge (by omega) (by omega)), rf_t c1, rf_t c2, rf_t c2, ck_t (TS a4), rf_t (TP_20 a4), ar_t (TA_20 a4), rdI (show i < 48 by omega) (by decide), t1, ck_t (TS a3), bC_t eM, ck_t (US a2), rf_t (UP_7 a2)]
      cases hmo : mmO E Nm Nm' (some c) i with
      | none =>
        rw [if_neg (show ¬ (0 : Int32) ≤ oNI none by decide), rf_t c2, ck_t (TS a4), rf_t (TP_19 a4), ar_t (TA_19 a4), rdI (show i < 48 by omega) (by decide), k6, bC_t (ev_first k6'), h244, ← hv0, hmo]
        rfl
      | some m0 =>
        have hm0 := fnm_bd _ _ _ (show fnm (Nm 7) (Nm' 7 i) (E 5 (c + 1) - E 5 c) (E 5 c) = some m0 from hmo)
        have k0 := e1.2.2.2.2.1 m0 (by omega)
        rw [show oNI (some m0) = nI m0 from rfl, if_pos (show (0 : Int32) ≤ nI m0 from nI_le (a := 0) (by omega) (by omega)), rf_t c1, ck_t (TS a3), rf_t (TP_19 a3), ar_t (TA_19 a3), rdI (show m0 < 48 by omega) (by decide), (b1.2.1.2.2.1 m0 (by omega)).2, rf_t c2, ck_t (TS a4), rf_t (TP_19 a4), ar_t (TA_19 a4), rdI (show i < 48 by omega) (by decide), k6, ck_t (US a1), rf_t (UP_7 a1), ar_t (UA_7 a1), show (48 : Int32) * nI q + nI m0 = nI (48 * q + m0) from nI_ma 48 _ m0, rdI (show 48 * q + m0 < 12288 by omega) (by decide), bC_t (ev_trnB k0 k6'), h244, ← hv0, hmo]
        rfl
    have s1 : same (fun a f => a = uk + 4 ∧ f = 48 * q + i) B (B.sD (uk + 4) (48 * q + i) v0) := same.rf.sD ⟨rfl, rfl⟩
    obtain ⟨B2, r1, r2, r3⟩ := ih (i + 1) n _ (by omega) (by omega) (hC'.fr hF' s1 (fun a f z => by omega))
    refine ⟨B2, by rw [hh]; exact r1, (s1.mono fun a f y => by omega).tr (r2.mono fun a f y => by omega), fun m y1 y2 => ?_⟩
    by_cases z : m = i
    · subst z
      rw [hv0, r2.1 _ _ (by omega), rds]
    · rw [r3 m (by omega) y2]
      have : (fun m0 => (B.sD (uk + 4) (48 * q + i) v0).D (u + 4) (48 * q + m0)) = fun m0 => B.D (u + 4) (48 * q + m0) := by
        funext m0
        exact rdw (by omega)
      rw [this]
/-- the old components of a place -/
theorem cb_39 {q : Nat} {kq22 : Nat → Nat → Int32 → Hp → Option (Unit × Hp)} (hF : CYG u uk w wk E E' Nm Nm') (hN : 7000 ≤ N) (hq : q < 256) (ha : Q 1 q = 1) : ∀ j i n B Y, i + j = E 4 0 → j < n → CYB B u uk w wk E E' Nm Nm' Pv Pv' Q → B.D (uk + 3) q = nI Y → Y < 65536 → ∃ B2 Y2, B_M_carries_39 N 517 kq22 n u uk (nI q) (nI i) B = kq22 u uk (nI (q + 1)) B2 ∧ same (fun a f => (a = uk + 3 ∧ f = q) ∨ (a = uk + 4 ∧ ∃ d m c, mOf E' d m ∧ f = 48 * q + m ∧ i ≤ c ∧ c < E 4 0 ∧ Nm 8 c = Nm' 8 d)) B B2 ∧ B2.D (uk + 3) q = nI Y2 ∧ Y2 < 65536 ∧ (∀ e, Y2 / 2 ^ e % 2 = 1 ↔ Y / 2 ^ e % 2 = 1 ∨ (e < E' 4 0 ∧ ∃ c, i ≤ c ∧ c < E 4 0 ∧ Nm 8 c = Nm' 8 e ∧ Q 2 q / 2 ^ c % 2 = 1)) ∧ ∀ d m c, mOf E' d m → i ≤ c → c < E 4 0 → Nm 8 c = Nm' 8 d → Q 2 q / 2 ^ c % 2 = 1 → B2.D (uk + 4) (48 * q + m) = cvl E E' (fun m0 => B.D (u + 4) (48 * q + m0)) m (mmO E Nm Nm' (some c) m) := by
  have hF' := hF
  have nb := hF.nb
  obtain ⟨⟨e1, e2⟩, ⟨n1, n2⟩, -⟩ := hF
  have g16 := e1.1
  have g16' := e2.1
  intro j
  induction j with
  | zero =>
    intro i n B Y hi hn hC hY hY2
    obtain ⟨n, rfl⟩ : ∃ y, n = y + 1 := ⟨n - 1, by omega⟩
    obtain ⟨⟨a1, a2, a3, a4⟩, ⟨b1, b2⟩, ⟨c1, c2, c3⟩, d1⟩ := hC
    refine ⟨B, Y, ?_, same.rf, hY, hY2, fun e => ⟨fun y => .inl y, fun y => ?_⟩, fun d m c y1 y2 y3 => by omega⟩
    · rw [B_M_carries_39, ck_t (US a1), rf_t (UP_5 a1), ar_t (UA_5 a1), rdI hq (by decide), (d1 q hq).2.2.2.1, if_pos ha, if_neg (show ¬ (1 : Int32) = 0 by decide), ck_t c3, rf_t c1, ck_t (TS a3), bnd_t, b1.2.1.1, if_pos (nI_le (by omega) (by omega))]
      unfold B_M_carries_257
      rw [nI_1]
    · rcases y with y | ⟨-, c, y⟩
      · exact y
      · omega
  | succ j ih =>
    intro i n B Y hi hn hC hY hY2
    obtain ⟨n, rfl⟩ : ∃ y, n = y + 1 := ⟨n - 1, by omega⟩
    have hC' := hC
    obtain ⟨⟨a1, a2, a3, a4⟩, ⟨b1, b2⟩, ⟨c1, c2, c3⟩, d1⟩ := hC
    obtain ⟨p1, p2, p3, p4, p5⟩ := d1 q hq
    obtain ⟨t, t1, t2⟩ := b1.2.1.2.2.2 i (by omega)
    have eT : F_MText_thing N wk w (nI t) (2 : Int32) B = some (oNI (fnm (Nm' 8) (Nm 8 i) (E' 4 0) 0), B) := ev_thc a4 a3 b2.1 e2.w1 n2 t2 hN
    have hh : B_M_carries_39 N 517 kq22 (n + 1) u uk (nI q) (nI i) B = B_M_carries_100 N 517 kq22 (fun l1 l2 l3 l4 H => B_M_carries_39 N 517 kq22 n l1 l2 l3 l4 H) u uk (nI q) (nI i) (oNI (if Q 2 q / 2 ^ i % 2 = 1 then fnm (Nm' 8) (Nm 8 i) (E' 4 0) 0 else none)) B := by
      rw [B_M_carries_39, ck_t (US a1), rf_t (UP_5 a1), ar_t (UA_5 a1), rdI hq (by decide), p4, if_pos ha, if_neg (show ¬ (1 : Int32) = 0 by decide), ck_t c3, rf_t c1, ck_t (TS a3), bnd_t, b1.2.1.1, if_neg (nI_ge (by omega) (by omega)), rf_t (UP_6 a1), ar_t (UA_6 a1), rdI hq (by decide), p5 ha, rf_t c2, rf_t c1, rf_t c1, ck_t (TS a3), rf_t (TP_17 a3), ar_t (TA_17 a3), rdI (show i < 16 by omega) (by decide), t1, ck_t (TS a4), bC_t eT]
      by_cases y : Q 2 q / 2 ^ i % 2 = 1
      · rw [if_neg (fun z => (nI_bit0 (by omega) (by omega)).mp z y), if_pos y]
      · rw [if_pos ((nI_bit0 (by omega) (by omega)).mpr y), if_neg y]
        rfl
    cases hr : (if Q 2 q / 2 ^ i % 2 = 1 then fnm (Nm' 8) (Nm 8 i) (E' 4 0) 0 else none) with
    | none =>
      rw [hr] at hh
      have no : ∀ d, d < E' 4 0 → Nm 8 i = Nm' 8 d → ¬ Q 2 q / 2 ^ i % 2 = 1 := fun d y1 y2 y3 => by
        rw [if_pos y3] at hr
        exact fnm_none _ _ hr d (Nat.zero_le _) (by omega) y2.symm
      obtain ⟨B2, Y2, r1, r2, r3, r4, r5, r6⟩ := ih (i + 1) n B Y (by omega) (by omega) hC' hY hY2
      refine ⟨B2, Y2, ?_, r2.mono fun a f y => y.imp id fun ⟨y1, d, m, c, k1, k2, k3, k4⟩ => ⟨y1, d, m, c, k1, k2, by omega, k4⟩, r3, r4, fun e => ?_, fun d m c y1 y2 y3 y4 y5 => ?_⟩
      · rw [hh]
        unfold B_M_carries_100
        rw [if_neg (show ¬ (0 : Int32) ≤ oNI none by decide)]
        unfold B_M_carries_251
        rw [nI_1]
        exact r1
      · rw [r5 e]
        constructor
        · rintro (y | ⟨y1, c, k1, k2, k3, k4⟩)
          · exact .inl y
          · exact .inr ⟨y1, c, by omega, k2, k3, k4⟩
        · rintro (y | ⟨y1, c, k1, k2, k3, k4⟩)
          · exact .inl y
          · by_cases z : c = i
            · subst z
              exact absurd k4 (no e y1 k3)
            · exact .inr ⟨y1, c, by omega, k2, k3, k4⟩
      · by_cases z : c = i
        · subst z
          exact absurd y5 (no d y1.1 y4)
        · exact r6 d m c y1 (by omega) y3 y4 y5
    | some d =>
      rw [hr] at hh
      have bi : Q 2 q / 2 ^ i % 2 = 1 := Decidable.byContradiction fun y => by rw [if_neg y] at hr; cases hr
      rw [if_pos bi] at hr
      obtain ⟨-, hd, hnm⟩ := fnm_bd _ _ _ hr
      have hd : d < E' 4 0 := by omega
      have g5' := e2.2.2.1 d hd
      have p2d : 2 ^ d < 65536 := by
        have := Nat.pow_lt_pow_right (show 1 < 2 by decide) (show d < 16 by omega)
        omega
      have s1 : same (fun a f => a = uk + 3 ∧ f = q) B (B.sD (uk + 3) q (nI (Y ||| 2 ^ d))) := same.rf.sD ⟨rfl, rfl⟩
      have hC1 := hC'.fr hF' s1 (fun a f z => by omega)
      have v1 : (B.sD (uk + 3) q (nI (Y ||| 2 ^ d))).D (uk + 3) q = nI (Y ||| 2 ^ d) := rds
      have w1 : (B.sD (uk + 3) q (nI (Y ||| 2 ^ d))).sh = B.sh := rfl
      have h100 : B_M_carries_100 N 517 kq22 (fun l1 l2 l3 l4 H => B_M_carries_39 N 517 kq22 n l1 l2 l3 l4 H) u uk (nI q) (nI i) (oNI (some d)) B = B_M_carries_135 N 517 kq22 (fun l1 l2 l3 l4 H => B_M_carries_39 N 517 kq22 n l1 l2 l3 l4 H) N u uk (nI q) (nI i) (nI d) (nI (E' 5 d)) (B.sD (uk + 3) q (nI (Y ||| 2 ^ d))) := by
        obtain ⟨⟨x1, x2, x3, x4⟩, ⟨z1, z2⟩, ⟨k1, k2, k3⟩, -⟩ := hC1
        unfold B_M_carries_100
        rw [show oNI (some d) = nI d from rfl, if_pos (show (0 : Int32) ≤ nI d from nI_le (a := 0) (by omega) (by omega)), ck_t (US a2), rf_t (UP_6 a2), ar_t (UA_6 a2), rdI hq (by decide), hY, nI_shl (by omega), nI_or, wrI hq (by decide), ck_t k3, rf_t k2, ck_t (TS x4), rf_t (TP_18 x4), ar_t (TA_18 x4), rdI (show d < 17 by omega) (by decide), z2.2.1.2.1 d (by omega)]
      generalize B.sD (uk + 3) q (nI (Y ||| 2 ^ d)) = B1 at *
      obtain ⟨B2, r1, r2, r3⟩ := cb_135 (N := N) (c := i) (d := d) (q := q) (kq22 := kq22) (kq39 := fun l1 l2 l3 l4 H => B_M_carries_39 N 517 kq22 n l1 l2 l3 l4 H) hF' hN (by omega) hd hq (E' 5 (d + 1) - E' 5 d) (E' 5 d) N B1 (by omega) (by omega) hC1
      have hC2 := hC1.fr hF' r2 (fun a f z => by omega)
      obtain ⟨B3, Y3, t1, t2, t3, t4, t5, t6⟩ := ih (i + 1) n B2 (Y ||| 2 ^ d) (by omega) (by omega) hC2 (by rw [r2.1 _ _ (by omega)]; exact v1) (Nat.or_lt_two_pow (n := 16) hY2 p2d)
      have ff : ∀ m, (fun m0 => B2.D (u + 4) (48 * q + m0)) m = (fun m0 => B.D (u + 4) (48 * q + m0)) m := fun m => by
        show B2.D (u + 4) (48 * q + m) = B.D (u + 4) (48 * q + m)
        rw [r2.1 _ _ (by omega), s1.1 _ _ (by omega)]
      have ff1 : ∀ m, (fun m0 => B1.D (u + 4) (48 * q + m0)) m = (fun m0 => B.D (u + 4) (48 * q + m0)) m := fun m => s1.1 _ _ (by omega)
      refine ⟨B3, Y3, ?_, ((s1.mono fun a f y => .inl y).tr (r2.mono fun a f y => .inr ⟨y.1, d, f - 48 * q, i, ⟨hd, by omega, by omega⟩, by omega, Nat.le_refl _, by omega, hnm.symm⟩)).tr (t2.mono fun a f y => y.imp id fun ⟨y1, d, m, c, k1, k2, k3, k4⟩ => ⟨y1, d, m, c, k1, k2, by omega, k4⟩), t3, t4, fun e => ?_, fun d2 m c y1 y2 y3 y4 y5 => ?_⟩
      · rw [hh, h100, r1]
        exact t1
      · rw [t5 e, bit_or]
        constructor
        · rintro ((y | y) | ⟨y1, c, k1, k2, k3, k4⟩)
          · exact .inl y
          · exact .inr ⟨by omega, i, Nat.le_refl _, by omega, by rw [y]; exact hnm.symm, bi⟩
          · exact .inr ⟨y1, c, by omega, k2, k3, k4⟩
        · rintro (y | ⟨y1, c, k1, k2, k3, k4⟩)
          · exact .inl (.inl y)
          · by_cases z : c = i
            · subst z
              exact .inl (.inr (n2.i8 y1 hd (by rw [hnm, k3])))
            · exact .inr ⟨y1, c, by omega, k2, k3, k4⟩
      · by_cases z : c = i
        · subst z
          have : d2 = d := n2.i8 y1.1 hd (by rw [hnm, y4])
          subst this
          rw [t2.1 _ _ (fun y => by
            rcases y with y | ⟨-, d3, m3, c3, k1, k2, k3, k4, k5⟩
            · omega
            · have e3 : m3 = m := by omega
              subst e3
              have : d3 = d2 := (mOf_u e2 k1 y1)
              subst this
              have := n1.i8 k4 y3 (by rw [k5, y4])
              omega), r3 m y1.2.1 y1.2.2, show (fun m0 => B1.D (u + 4) (48 * q + m0)) = fun m0 => B.D (u + 4) (48 * q + m0) from funext ff1]
        · rw [t6 d2 m c y1 (by omega) y3 y4 y5, show (fun m0 => B2.D (u + 4) (48 * q + m0)) = fun m0 => B.D (u + 4) (48 * q + m0) from funext ff]
/-- all places -/
theorem cb_22 (hF : CYG u uk w wk E E' Nm Nm') (hN : 7000 ≤ N) : ∀ j i n B, i + j = 256 → j < n → CYB B u uk w wk E E' Nm Nm' Pv Pv' Q → ∃ B2, ∃ Y : Nat → Nat, B_M_carries_22 N 517 n u uk (nI i) B = B_M_carries_270 N 517 N u uk 0 (B2.sD uk 8 0) ∧ same (fun a f => (a = uk + 3 ∧ i ≤ f) ∨ (a = uk + 4 ∧ 48 * i ≤ f)) B B2 ∧ ∀ q, i ≤ q → q < 256 → Q 1 q = 1 → B2.D (uk + 3) q = nI (Y q) ∧ Y q < 65536 ∧ (∀ e, Y q / 2 ^ e % 2 = 1 ↔ (e < E' 4 0 ∧ ∃ c, c < E 4 0 ∧ Nm 8 c = Nm' 8 e ∧ Q 2 q / 2 ^ c % 2 = 1)) ∧ ∀ d m c, mOf E' d m → c < E 4 0 → Nm 8 c = Nm' 8 d → Q 2 q / 2 ^ c % 2 = 1 → B2.D (uk + 4) (48 * q + m) = cvl E E' (fun m0 => B.D (u + 4) (48 * q + m0)) m (mmO E Nm Nm' (some c) m) := by
  have hF' := hF
  have nb := hF.nb
  obtain ⟨⟨e1, e2⟩, ⟨n1, n2⟩, -⟩ := hF
  have g48' : E' 5 (E' 4 0) ≤ 48 := e2.2.2.2.1
  intro j
  induction j with
  | zero =>
    intro i n B hi hn hC
    obtain ⟨n, rfl⟩ : ∃ y, n = y + 1 := ⟨n - 1, by omega⟩
    obtain ⟨⟨a1, a2, a3, a4⟩, -⟩ := hC
    refine ⟨B, fun _ => 0, ?_, same.rf, fun q y1 y2 => by omega⟩
    rw [B_M_carries_22, if_pos (show (256 : Int32) ≤ nI i from nI_le (a := 256) (by omega) (by omega)), ck_t (US a2), bnd_t]
  | succ j ih =>
    intro i n B hi hn hC
    obtain ⟨n, rfl⟩ : ∃ y, n = y + 1 := ⟨n - 1, by omega⟩
    have hC' := hC
    obtain ⟨⟨a1, a2, a3, a4⟩, ⟨b1, b2⟩, ⟨c1, c2, c3⟩, d1⟩ := hC
    have s1 : same (fun a f => a = uk + 3 ∧ f = i) B (B.sD (uk + 3) i 0) := same.rf.sD ⟨rfl, rfl⟩
    have hC1 := hC'.fr hF' s1 (fun a f z => by omega)
    have hh : B_M_carries_22 N 517 (n + 1) u uk (nI i) B = B_M_carries_39 N 517 (fun l1 l2 l3 H => B_M_carries_22 N 517 n l1 l2 l3 H) N u uk (nI i) (nI 0) (B.sD (uk + 3) i 0) := by
      rw [B_M_carries_22, if_neg (show ¬ (256 : Int32) ≤ nI i from nI_ge (b := 256) (by omega) (by decide)), ck_t (US a2), rf_t (UP_6 a2), ar_t (UA_6 a2), wrI (show i < 256 by omega) (by decide)]
      rfl
    have v1 : (B.sD (uk + 3) i 0).D (uk + 3) i = nI 0 := rds
    generalize B.sD (uk + 3) i 0 = B1 at *
    by_cases al : Q 1 i = 1
    · obtain ⟨B2, Y2, r1, r2, r3, r4, r5, r6⟩ := cb_39 (N := N) (q := i) (kq22 := fun l1 l2 l3 H => B_M_carries_22 N 517 n l1 l2 l3 H) hF' hN (by omega) al (E 4 0) 0 N B1 0 (by omega) (by have := e1.1; omega) hC1 v1 (by decide)
      have hb : ∀ a f, ((a = uk + 3 ∧ f = i) ∨ (a = uk + 4 ∧ ∃ d m c, mOf E' d m ∧ f = 48 * i + m ∧ 0 ≤ c ∧ c < E 4 0 ∧ Nm 8 c = Nm' 8 d)) → (a = uk + 3 ∧ f = i) ∨ (a = uk + 4 ∧ 48 * i ≤ f ∧ f < 48 * i + 48) := fun a f y => y.imp id fun ⟨y1, d, m, c, k1, k2, _⟩ => ⟨y1, by have := (mOf_lt e2 k1).1; omega, by have := (mOf_lt e2 k1).1; omega⟩
      have r2' := r2.mono hb
      have hC2 := hC1.fr hF' r2' (fun a f z => by omega)
      obtain ⟨B3, Y, t1, t2, t3⟩ := ih (i + 1) n B2 (by omega) (by omega) hC2
      refine ⟨B3, fun q => if q = i then Y2 else Y q, ?_, ((s1.mono fun a f y => by omega).tr (r2'.mono fun a f y => by omega)).tr (t2.mono fun a f y => by omega), fun q y1 y2 y3 => ?_⟩
      · rw [hh, r1]
        exact t1
      · by_cases z : q = i
        · subst z
          rw [show (fun q_1 => if q_1 = q then Y2 else Y q_1) q = Y2 from if_pos rfl]
          refine ⟨by rw [t2.1 _ _ (by omega)]; exact r3, r4, fun e => ?_, fun d m c k1 k2 k3 k4 => ?_⟩
          · rw [r5 e, Nat.zero_div]
            constructor
            · rintro (y | ⟨k1, c, -, k2, k3, k4⟩)
              · exact absurd y (by decide)
              · exact ⟨k1, c, k2, k3, k4⟩
            · rintro ⟨k1, c, k2, k3, k4⟩
              exact .inr ⟨k1, c, Nat.zero_le _, k2, k3, k4⟩
          · have := (mOf_lt e2 k1).1
            rw [t2.1 _ _ (by omega), r6 d m c k1 (Nat.zero_le _) k2 k3 k4, show (fun m0 => B1.D (u + 4) (48 * q + m0)) = fun m0 => B.D (u + 4) (48 * q + m0) from funext fun m0 => s1.1 _ _ (by omega)]
        · rw [show (fun q_1 => if q_1 = i then Y2 else Y q_1) q = Y q from if_neg z]
          obtain ⟨k1, k2, k3, k4⟩ := t3 q (by omega) y2 y3
          refine ⟨k1, k2, k3, fun d m c l1 l2 l3 l4 => ?_⟩
          rw [k4 d m c l1 l2 l3 l4, show (fun m0 => B2.D (u + 4) (48 * q + m0)) = fun m0 => B.D (u + 4) (48 * q + m0) from funext fun m0 => by rw [r2'.1 _ _ (by omega), s1.1 _ _ (by omega)]]
    · obtain ⟨B3, Y, t1, t2, t3⟩ := ih (i + 1) n B1 (by omega) (by omega) hC1
      refine ⟨B3, Y, ?_, (s1.mono fun a f y => by omega).tr (t2.mono fun a f y => by omega), fun q y1 y2 y3 => ?_⟩
      · obtain ⟨⟨x1, x2, x3, x4⟩, -, -, z1⟩ := hC1
        obtain ⟨N, rfl⟩ : ∃ y, N = y + 1 := ⟨N - 1, by omega⟩
        rw [hh, B_M_carries_39, ck_t (US x1), rf_t (UP_5 x1), ar_t (UA_5 x1), rdI (show i < 256 by omega) (by decide), (z1 i (by omega)).2.2.2.1, if_neg al, if_pos rfl]
        unfold B_M_carries_257
        rw [nI_1]
        exact t1
      · have z : q ≠ i := fun y => al (by rw [← y]; exact y3)
        obtain ⟨k1, k2, k3, k4⟩ := t3 q (by omega) y2 y3
        refine ⟨k1, k2, k3, fun d m c l1 l2 l3 l4 => ?_⟩
        rw [k4 d m c l1 l2 l3 l4, show (fun m0 => B1.D (u + 4) (48 * q + m0)) = fun m0 => B.D (u + 4) (48 * q + m0) from funext fun m0 => s1.1 _ _ (by omega)]
end Par
