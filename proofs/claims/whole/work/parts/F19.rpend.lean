/-! ===== pending events are read, both sides ===== -/
def PN1 (A : Hp) (wo : Nat) (B : Hp) (u : Nat) (E : Nat → Nat → Nat) (k : Nat) : Prop := A.D (wo + 4) (7 * k) = B.D (u + 5) k ∧ A.D (wo + 4) (7 * k + 1) = B.D (u + 6) k ∧ A.D (wo + 4) (7 * k + 2) = B.D (u + 7) k ∧ (∀ e q, B.D (u + 5) k = nI e → e < E 9 0 → q < E 10 e → A.D (wo + 4) (7 * k + 3 + q) = B.D (u + 8) (4 * k + q)) ∧ ∃ e, e < E 9 0 ∧ B.D (u + 5) k = nI e
def PVA (a f : Nat) : Prop := RDA a f ∨ a = 23 ∨ (a = 19 ∧ f = 13)
def PVB (um a f : Nat) : Prop := RDBb a f ∨ (um + 5 ≤ a ∧ a ≤ um + 8)
section Par
variable {N p wo inp cs w u ir M K0 : Nat} {s pl : Int32} {ty mn nu cd : Nat → Int32} {E Q : Nat → Nat → Nat} {V : Nat → Nat → Int32} {nL lc : Nat} {lk : Nat → Nat} {hd : Nat → Int32}
theorem PVA.ld {a f : Nat} (h : PVA a f) : LDA a f := by
  unfold PVA at h
  unfold LDA cW
  rcases h with h | h | h
  · exact .inl h
  · exact .inr (by omega)
  · exact .inr (by omega)
theorem PVB.ld {um a f : Nat} (h : PVB um a f) : LDB um a f := by
  unfold PVB at h
  unfold LDB cU
  rcases h with h | h
  · exact .inl h
  · exact .inr (by omega)
theorem z15 {um : Nat} {l : Int32} {Nm : Nat → Nat → List Nat} {Pv : Nat → Nat → Int32} {A0 B0 : Hp} {δ : Type} {KB : Unit → Hp → Option (δ × Hp)} {nB : Nat} (hD : LDT p cs w M ty mn nu cd E Nm Pv um A0 B0) (hz : ZK um B0 (fun H => KB () H)) : ZK um B0 (fun H => bC (B_M_getsPending_15 N 517 um (nB + 1) l H) KB) := fun H W hW sH h28 => by
  have hum := hD.2.2.2.1
  have hGH := sH.gr hD.2.1
  have U := gr_U hGH um hum
  have e : B_M_getsPending_15 N 517 um (nB + 1) l H = some ((), H) := by
    rw [B_M_getsPending_15, ck_t (US U), bnd_t, ck_t (rS_517 hGH), bnd_t, h28, if_pos (show (0 : Int32) ≤ nI W from nI_le (a := 0) (by omega) (by omega)), ite_self]
  dsimp only
  rw [e, bC_v]
  exact hz H W hW sH h28
theorem z92 {um k e sz : Nat} {Nm : Nat → Nat → List Nat} {Pv : Nat → Nat → Int32} {A0 B0 : Hp} {δ : Type} {kq15 : Int32 → Hp → Option (Unit × Hp)} {KB : Unit → Hp → Option (δ × Hp)} (hE : WE E) (hD : LDT p cs w M ty mn nu cd E Nm Pv um A0 B0) (hk : k < 256) (he : e < 8) (hsz : sz ≤ 4) (hev : B0.D (w + 16) e = nI sz) (hz : ZK um B0 (fun H => bC (kq15 (nI (k + 1)) H) KB)) : ∀ j i nB H W, i + j = sz → j < nB → W < 2 ^ 31 → same (LDB um) B0 H → H.D (um + 5) k = nI e → H.D 517 28 = nI W → ∃ y B2, bC (B_M_getsPending_92 N 517 um kq15 nB (nI k) (nI i) H) KB = some (y, B2) ∧ B2.D 517 28 = nI W ∧ same (LDB um) H B2 := by
  have hum := hD.2.2.2.1
  have hu := lU_le hum
  have hw := lT_le hD.2.2.1.2.2.2.1
  intro j
  induction j with
  | zero =>
    intro i nB H W hi hB hW sH h5 h28
    obtain ⟨nB, rfl⟩ : ∃ y, nB = y + 1 := ⟨nB - 1, by omega⟩
    obtain ⟨-, hGH, ⟨-, -, -, hwT, -⟩, -, b3⟩ := hD.fr hE same.rf sH
    have TT := gr_T hGH w hwT
    have U := gr_U hGH um hum
    have hev' : H.D (w + 16) e = nI sz := by rw [sH.1 _ _ (by unfold LDB RDBb cU; omega)]; exact hev
    rw [B_M_getsPending_92, ck_t (rS_517 hGH), rf_t b3, ck_t (TS TT), rf_t (TP_23 TT), ck_t (US U), rf_t (UP_9 U), ar_t (UA_9 U), rdI hk (by decide), h5, ar_t (TA_23 TT), rdI he (by decide), hev', if_pos (nI_le (by omega) (by omega)), nI_1]
    exact hz H W hW sH h28
  | succ j ih =>
    intro i nB H W hi hB hW sH h5 h28
    obtain ⟨nB, rfl⟩ : ∃ y, nB = y + 1 := ⟨nB - 1, by omega⟩
    obtain ⟨-, hGH, ⟨-, -, -, hwT, -⟩, -, b3⟩ := hD.fr hE same.rf sH
    have TT := gr_T hGH w hwT
    have U := gr_U hGH um hum
    have hev' : H.D (w + 16) e = nI sz := by rw [sH.1 _ _ (by unfold LDB RDBb cU; omega)]; exact hev
    rw [B_M_getsPending_92, ck_t (rS_517 hGH), rf_t b3, ck_t (TS TT), rf_t (TP_23 TT), ck_t (US U), rf_t (UP_9 U), ar_t (UA_9 U), rdI hk (by decide), h5, ar_t (TA_23 TT), rdI he (by decide), hev', if_neg (nI_ge (by omega) (by omega)), rf_t (UP_12 U), rf_t b3, ck_t (TS TT), rf_t (TP_24 TT), rf_t (UP_9 U), ar_t (UA_9 U), rdI hk (by decide), h5, ar_t (TA_24 TT), show (4 : Int32) * nI e + nI i = nI (4 * e + i) from nI_ma 4 e i, rdI (show 4 * e + i < 32 by omega) (by decide), bC_t (gzo hGH hW h28), ar_t (UA_12 U), show (4 : Int32) * nI k + nI i = nI (4 * k + i) from nI_ma 4 k i, wrI (show 4 * k + i < 1024 by omega) (by decide), nI_1]
    have s1 : same (LDB um) H (H.sD (um + 8) (4 * k + i) 0) := same.rf.sD (.inr ⟨by omega, by omega⟩)
    obtain ⟨y, B2, z1, z2, z3⟩ := ih (i + 1) nB (H.sD (um + 8) (4 * k + i) 0) W (by omega) (by omega) hW (sH.tr s1) (by rw [rdw (by omega)]; exact h5) (by rw [rdw (by omega)]; exact h28)
    exact ⟨y, B2, z1, z2, s1.tr z3⟩
theorem pv_in {T um k e : Nat} {cn : Int32} {Nm : Nat → Nat → List Nat} {Pv : Nat → Nat → Int32} {A0 B0 : Hp} {γ δ : Type} {kqA : Int32 → Int32 → Hp → Option (Ot Unit × Hp)} {kqB : Int32 → Hp → Option (Unit × Hp)} {KA : Unit → Hp → Option (Ot γ × Hp)} {KB : Unit → Hp → Option (δ × Hp)} {Post : γ → Hp → δ → Hp → Prop} (hE : WE E) (hN : 300 ≤ N) (hD : LDT p cs w M ty mn nu cd E Nm Pv um A0 B0) (hk : k < 256) (he : e < E 9 0) (hz : ZK um B0 (fun H => bC (kqB (nI (k + 1)) H) KB)) : ∀ j s nA nB A B, s + j = E 10 e → j < nA → j < nB → same LDA A0 A → same (LDB um) B0 B → (∃ x, RDS T x A B) → B.D (um + 5) k = nI e → (∀ i, i < s → A.D 23 (7 * k + 3 + i) = B.D (um + 8) (4 * k + i)) → (∀ A' B', same (fun a f => RDA a f ∨ (a = 23 ∧ 7 * k + 3 ≤ f)) A A' → same (fun a f => RDBb a f ∨ (a = um + 8 ∧ 4 * k ≤ f)) B B' → (∃ x, RDS T x A' B') → (∀ i, i < E 10 e → A'.D 23 (7 * k + 3 + i) = B'.D (um + 8) (4 * k + i)) → LOut um A' B' (bT (kqA cn (nI (k + 1)) A') KA) (bC (kqB (nI (k + 1)) B') KB) Post) → LOut um A B (bT (B_Store_readEvents_104 N 131 (p + 138) 19 kqA nA cn (nI k) (nI (7 * k)) (nI e) (nI (E 10 e)) (nI s) A) KA) (bC (B_M_getsPending_92 N 517 um kqB nB (nI k) (nI s) B) KB) Post := by
  have e8 := hE.2.2.2.2.2.1
  obtain ⟨x1, x2, x3⟩ := hE.2.2.2.2.2.2.2.1 e he
  have hum := hD.2.2.2.1
  have hu := lU_le hum
  have hev : B0.D (w + 16) e = nI (E 10 e) := hD.2.2.1.2.1.2.2.1.2.1 e he
  intro j
  induction j with
  | zero =>
    intro s nA nB A B hs hA hB sA sB hR h5 hv hkk
    obtain ⟨nA, rfl⟩ : ∃ y, nA = y + 1 := ⟨nA - 1, by omega⟩
    obtain ⟨nB, rfl⟩ : ∃ y, nB = y + 1 := ⟨nB - 1, by omega⟩
    obtain ⟨-, hGB, ⟨-, ⟨-, -, ⟨b21, b10, b17, -⟩, -⟩, -, hwT, -⟩, -, b3⟩ := hD.fr hE sA sB
    have TT := gr_T hGB w hwT
    have U := gr_U hGB um hum
    rw [B_Store_readEvents_104, if_pos (nI_le (by omega) (by omega)), B_M_getsPending_92, ck_t (rS_517 hGB), rf_t b3, ck_t (TS TT), rf_t (TP_23 TT), ck_t (US U), rf_t (UP_9 U), ar_t (UA_9 U), rdI hk (by decide), h5, ar_t (TA_23 TT), rdI (show e < 8 by omega) (by decide), b10 e he, if_pos (nI_le (by omega) (by omega)), nI_1]
    exact hkk A B same.rf same.rf hR (fun i hi => hv i (by omega))
  | succ j ih =>
    intro s nA nB A B hs hA hB sA sB hR h5 hv hkk
    obtain ⟨nA, rfl⟩ : ∃ y, nA = y + 1 := ⟨nA - 1, by omega⟩
    obtain ⟨nB, rfl⟩ : ∃ y, nB = y + 1 := ⟨nB - 1, by omega⟩
    obtain ⟨hGA, hGB, ⟨⟨-, -, ⟨a3, a11, a12, -⟩, -⟩, ⟨-, -, ⟨b21, b10, b17, -⟩, -⟩, hp, hwT, -⟩, -, b3⟩ := hD.fr hE sA sB
    have P := gr_P hGA hp
    have W := gr_W hGA 19 (by decide)
    have TT := gr_T hGB w hwT
    have U := gr_U hGB um hum
    have hM := PeM P (E 11 e + s) (by omega)
    have kd := hE.2.2.2.2.2.2.2.2.1 e s he (by omega)
    rw [B_Store_readEvents_104, if_neg (nI_ge (by omega) (by omega)), ck_t (WS W), rf_t (WP_12 W), ck_t (PrA_3 P), rf_t (PeP_1 P), rf_t (PeP_2 P), ar_t (PeA_2 P), rdI (show e < 9 by omega) (by decide), a11 e (by omega), ar_t (PeA_1 P), nI_ad, rdP (show E 11 e + s < 32 by omega) (by decide), rf_t hM.1, ck_t hM.2, bnd_t, (a12 e s he (by omega)).2, ck_t (rS_131 hGA), bT_as, B_M_getsPending_92, ck_t (rS_517 hGB), rf_t b3, ck_t (TS TT), rf_t (TP_23 TT), ck_t (US U), rf_t (UP_9 U), ar_t (UA_9 U), rdI hk (by decide), h5, ar_t (TA_23 TT), rdI (show e < 8 by omega) (by decide), b10 e he, if_neg (nI_ge (by omega) (by omega)), rf_t (UP_12 U), rf_t b3, ck_t (TS TT), rf_t (TP_24 TT), rf_t (UP_9 U), ar_t (UA_9 U), rdI hk (by decide), h5, ar_t (TA_24 TT), show (4 : Int32) * nI e + nI s = nI (4 * e + s) from nI_ma 4 e s, rdI (show 4 * e + s < 32 by omega) (by decide), (b17 e s he (by omega)).2, bC_as]
    refine (rm_raw (N := N) hN hGA hGB hR kd).bd (fun v A1 y B1 r1 r2 hp1 => ?_) (fun H WW hW sH h28 => ?_)
    · obtain ⟨rfl, hR1⟩ := hp1
      have hGA1 := r1.gr hGA
      have hGB1 := r2.gr hGB
      have W1 := gr_W hGA1 19 (by decide)
      have U1 := gr_U hGB1 um hum
      have i3 : nI (7 * k) + (3 : Int32) + nI s = nI (7 * k + 3 + s) := by rw [show nI (7 * k) + (3 : Int32) = nI (7 * k + 3) from nI_ad _ 3, nI_ad]
      rw [ar_t (WA_12 W1), i3, wrI (show 7 * k + 3 + s < 1792 by omega) (by decide), nI_1, ar_t (UA_12 U1), show (4 : Int32) * nI k + nI s = nI (4 * k + s) from nI_ma 4 k s, wrI (show 4 * k + s < 1024 by omega) (by decide)]
      have tA : same (fun a f => RDA a f ∨ (a = 23 ∧ 7 * k + 3 ≤ f)) A1 (A1.sD (19 + 4) (7 * k + 3 + s) y) := same.rf.sD (.inr ⟨rfl, by omega⟩)
      have tB : same (fun a f => RDBb a f ∨ (a = um + 8 ∧ 4 * k ≤ f)) B1 (B1.sD (um + 8) (4 * k + s) y) := same.rf.sD (.inr ⟨rfl, by omega⟩)
      have gA : ∀ a f, ¬ (a = 23 ∧ f = 7 * k + 3 + s) → (A1.sD (19 + 4) (7 * k + 3 + s) y).D a f = A1.D a f := fun a f z => rdnn z
      have gB : ∀ a f, ¬ (a = um + 8 ∧ f = 4 * k + s) → (B1.sD (um + 8) (4 * k + s) y).D a f = B1.D a f := fun a f z => rdnn z
      have gq : (A1.sD (19 + 4) (7 * k + 3 + s) y).D 23 (7 * k + 3 + s) = y := rds
      have hq : (B1.sD (um + 8) (4 * k + s) y).D (um + 8) (4 * k + s) = y := rds
      have lA : ∀ {X Y : Hp}, same (fun a f => RDA a f ∨ (a = 23 ∧ 7 * k + 3 ≤ f)) X Y → same LDA X Y := fun h => h.mono fun a f z => by rcases z with z | z; exact .inl z; exact .inr ⟨by omega, by omega⟩
      have lB : ∀ {X Y : Hp}, same (fun a f => RDBb a f ∨ (a = um + 8 ∧ 4 * k ≤ f)) X Y → same (LDB um) X Y := fun h => h.mono fun a f z => by rcases z with z | z; exact .inl z; exact .inr ⟨by omega, by omega⟩
      have s1 : same (fun a f => RDA a f ∨ (a = 23 ∧ 7 * k + 3 ≤ f)) A A1 := r1.mono fun a f z => .inl z
      have s2 : same (fun a f => RDBb a f ∨ (a = um + 8 ∧ 4 * k ≤ f)) B B1 := r2.mono fun a f z => .inl z
      generalize A1.sD (19 + 4) (7 * k + 3 + s) y = A2 at *
      generalize B1.sD (um + 8) (4 * k + s) y = B2 at *
      obtain ⟨x, hR1'⟩ := hR1
      refine LOut.pre (ih (s + 1) nA nB A2 B2 (by omega) (by omega) (by omega) (sA.tr (lA (s1.tr tA))) (sB.tr (lB (s2.tr tB))) ⟨x, hR1'.fr (fun a f z => gA a f (by omega)) (fun a f z => gB a f (by omega))⟩ (by rw [gB _ _ (by omega), r2.1 _ _ (by unfold RDBb; omega)]; exact h5) (fun i hi => ?_) (fun A' B' t1 t2 t3 t4 => hkk A' B' ((s1.tr tA).tr t1) ((s2.tr tB).tr t2) t3 t4)) (lA tA) (lB tB)
      by_cases z : i = s
      · rw [z, gq, hq]
      · rw [gA _ _ (by omega), gB _ _ (by omega), r1.1 _ _ (by unfold RDA; omega), r2.1 _ _ (by unfold RDBb; omega)]
        exact hv i (by omega)
    · have hGH := sH.gr hGB
      have UH := gr_U hGH um hum
      rw [ar_t (UA_12 UH), show (4 : Int32) * nI k + nI s = nI (4 * k + s) from nI_ma 4 k s, wrI (show 4 * k + s < 1024 by omega) (by decide), nI_1]
      have t1 : same (LDB um) H (H.sD (um + 8) (4 * k + s) 0) := same.rf.sD (.inr ⟨by omega, by omega⟩)
      obtain ⟨y2, B2, z1, z2, z3⟩ := z92 (N := N) (kq15 := kqB) hE hD hk (show e < 8 by omega) x1 hev hz j (s + 1) nB (H.sD (um + 8) (4 * k + s) 0) WW (by omega) (by omega) hW ((sB.tr (sH.mono fun a f z => .inl z)).tr t1) (by rw [rdw (by omega), sH.1 _ _ (by unfold RDBb; omega)]; exact h5) (by rw [rdw (by omega)]; exact h28)
      exact ⟨y2, B2, z1, z2, t1.tr z3⟩
end Par
