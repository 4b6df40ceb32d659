/-! ===== the shapes are read, both sides ===== -/
/-- what reading the OUT reads besides -/
def LDT (p cs w M : Nat) (ty mn nu cd : Nat → Int32) (E : Nat → Nat → Nat) (Nm : Nat → Nat → List Nat) (Pv : Nat → Nat → Int32) (um : Nat) (A B : Hp) : Prop := Gr A ∧ Gr B ∧ TXF A p B w cs M ty mn nu cd E Nm Pv ∧ um ∈ lU ∧ B.P 517 3 = .ref w
section Par
variable {N p wo inp cs w u ir M K0 : Nat} {s pl : Int32} {ty mn nu cd : Nat → Int32} {E Q : Nat → Nat → Nat} {V : Nat → Nat → Int32} {nL lc : Nat} {lk : Nat → Nat} {hd : Nat → Int32}
theorem LDT.fr {um : Nat} {Nm : Nat → Nat → List Nat} {Pv : Nat → Nat → Int32} {A B A2 B2 : Hp} (h : LDT p cs w M ty mn nu cd E Nm Pv um A B) (hE : WE E) (hA : same LDA A A2) (hB : same (LDB um) B B2) : LDT p cs w M ty mn nu cd E Nm Pv um A2 B2 := by
  obtain ⟨hGA, hGB, hT, hum, b3⟩ := h
  have hu := lU_le hum
  have hw := lT_le hT.2.2.2.1
  have hp := hT.2.2.1
  exact ⟨hA.gr hGA, hB.gr hGB, hT.gw hE hGA hGB (hGA.s (a := 118) rfl) hA.gw hB.gw (fun a f y => by unfold LDA RDA cW at y; omega) (fun a f y => by unfold LDB RDBb cU at y; omega), hum, by rw [hB.2.1]; exact b3⟩
/-- one byte that must be v -/
theorem ex_lo {T um : Nat} {v : Int32} {A B : Hp} {γ δ : Type} {K : Int32 → Hp → Option (Ot γ × Hp)} {K' : Unit → Hp → Option (δ × Hp)} {Post : γ → Hp → δ → Hp → Prop} (hN : 300 ≤ N) (hGA : Gr A) (hGB : Gr B) (h : ∃ c, RDS T c A B) (hk : ∀ x A' B', same RDA A A' → same RDBb B B' → (∃ c, RDS T c A' B') → LOut um A' B' (K x A') (K' () B') Post) (hz : ZK um B (K' ())) : LOut um A B (bT (F_Store_readNumber N 131 1 v v A) K) (bC (F_M_getsExactly N 517 v B) K') Post := by
  obtain ⟨c, h⟩ := h
  have e : F_M_getsExactly N 517 v B = bC (F_M_gets N 517 1 v v B) fun _ H4 => some ((), H4) := by
    unfold F_M_getsExactly
    rw [ck_t (rS_517 hGB)]
  rw [e, bC_as]
  exact (rn_lo (N := N) (k := 1) (lo := v) (hi := v) (um := um) hN hGA hGB h (by omega)).bind (fun x A' y B' s1 s2 hp => hk x A' B' hp.2.2.2.1 hp.2.2.2.2.1 hp.2.2.2.2.2) (fun y => hz)
theorem ti_in {T um c : Nat} {Nm : Nat → Nat → List Nat} {Pv : Nat → Nat → Int32} {A0 B0 : Hp} {γ δ : Type} {kqA : Int32 → Hp → Option (Ot Unit × Hp)} {kqB : Int32 → Hp → Option (Unit × Hp)} {KA : Unit → Hp → Option (Ot γ × Hp)} {KB : Unit → Hp → Option (δ × Hp)} {Post : γ → Hp → δ → Hp → Prop} (hE : WE E) (hN : 300 ≤ N) (hD : LDT p cs w M ty mn nu cd E Nm Pv um A0 B0) (hc : c < E 4 0) : ∀ j i nA nB A B, i + j = E 5 (c + 1) - E 5 c → j < nA → j < nB → same LDA A0 A → same (LDB um) B0 B → (∃ x, RDS T x A B) → (∀ A' B', same RDA A A' → same RDBb B B' → (∃ x, RDS T x A' B') → LOut um A' B' (bT (kqA (nI (c + 1)) A') KA) (bC (kqB (nI (c + 1)) B') KB) Post) → ZK um B0 (fun H => bC (kqB (nI (c + 1)) H) KB) → LOut um A B (bT (B_Store_readShapes_41 N 131 (p + 70) kqA nA (nI c) (nI (E 5 (c + 1) - E 5 c)) (nI i) A) KA) (bC (B_M_getsTables_71 N 517 kqB nB (nI c) (nI (E 5 c + i)) B) KB) Post ∧ ZK um B0 (fun H => bC (B_M_getsTables_71 N 517 kqB nB (nI c) (nI (E 5 c + i)) H) KB) := by
  have e4 : E 4 0 ≤ 16 := hE.1
  obtain ⟨m1, m2, m3⟩ := hE.2.2.1 c hc
  have e48 := hE.2.2.2.1
  intro j
  induction j with
  | zero =>
    intro i nA nB A B hi hA hB sA sB hR hk hz
    obtain ⟨nA, rfl⟩ : ∃ y, nA = y + 1 := ⟨nA - 1, by omega⟩
    obtain ⟨nB, rfl⟩ : ∃ y, nB = y + 1 := ⟨nB - 1, by omega⟩
    have eB : ∀ H, same (LDB um) B0 H → B_M_getsTables_71 N 517 kqB (nB + 1) (nI c) (nI (E 5 c + i)) H = kqB (nI (c + 1)) H := fun H sH => by
      obtain ⟨-, hGH, ⟨-, ⟨-, ⟨b16, b12, b13, -⟩, -⟩, -, hwT, -⟩, -, b3⟩ := hD.fr hE same.rf sH
      have TT := gr_T hGH w hwT
      rw [B_M_getsTables_71, ck_t (rS_517 hGH), rf_t b3, ck_t (TS TT), rf_t (TP_18 TT), ar_t (TA_18 TT), nI_1, rdI (show c + 1 < 17 by omega) (by decide), b12 (c + 1) (by omega), if_pos (nI_le (by omega) (by omega))]
    refine ⟨?_, fun H W hW sH h28 => ?_⟩
    · rw [eB B sB, B_Store_readShapes_41, if_pos (nI_le (by omega) (by omega)), nI_1]
      exact hk A B same.rf same.rf hR
    · show ∃ y B2, bC (B_M_getsTables_71 N 517 kqB (nB + 1) (nI c) (nI (E 5 c + i)) H) KB = some (y, B2) ∧ _
      rw [eB H sH]
      exact hz H W hW sH h28
  | succ j ih =>
    intro i nA nB A B hi hA hB sA sB hR hk hz
    obtain ⟨nA, rfl⟩ : ∃ y, nA = y + 1 := ⟨nA - 1, by omega⟩
    obtain ⟨nB, rfl⟩ : ∃ y, nB = y + 1 := ⟨nB - 1, by omega⟩
    obtain ⟨hGA, hGB, ⟨⟨-, ⟨a3, a5, a6, -⟩, -⟩, -, hp, hwT, -⟩, -, -⟩ := hD.fr hE sA sB
    have P := gr_P hGA hp
    have hM := PcM P (E 5 c + i) (by omega)
    have eB : ∀ H, same (LDB um) B0 H → B_M_getsTables_71 N 517 kqB (nB + 1) (nI c) (nI (E 5 c + i)) H = bC (F_M_getsExactly N 517 (nI (E 6 (E 5 c + i))) H) fun _ H162 => B_M_getsTables_71 N 517 kqB nB (nI c) (nI (E 5 c + (i + 1))) H162 := fun H sH => by
      obtain ⟨-, hGH, ⟨-, ⟨-, ⟨b16, b12, b13, -⟩, -⟩, -, hwT, -⟩, -, b3⟩ := hD.fr hE same.rf sH
      have TT := gr_T hGH w hwT
      rw [B_M_getsTables_71, ck_t (rS_517 hGH), rf_t b3, ck_t (TS TT), rf_t (TP_18 TT), ar_t (TA_18 TT), nI_1, rdI (show c + 1 < 17 by omega) (by decide), b12 (c + 1) (by omega), if_neg (nI_ge (by omega) (by omega)), rf_t b3, ck_t (TS TT), rf_t (TP_19 TT), ar_t (TA_19 TT), rdI (show E 5 c + i < 48 by omega) (by decide), (b13 _ (by omega)).2, nI_1]
      rfl
    have hz2 : ZK um B0 (fun H => bC (B_M_getsTables_71 N 517 kqB nB (nI c) (nI (E 5 c + (i + 1))) H) KB) := (ih (i + 1) (j + 1) nB A B (by omega) (by omega) (by omega) sA sB hR hk hz).2
    refine ⟨?_, fun H W hW sH h28 => ?_⟩
    · rw [eB B sB, bC_as, B_Store_readShapes_41, if_neg (nI_ge (by omega) (by omega)), ck_t (PrA_2 P), rf_t (PcP_1 P), rf_t (PcP_2 P), ar_t (PcA_2 P), rdI (show c < 17 by omega) (by decide), a5 c (by omega), ar_t (PcA_1 P), nI_ad, rdP (show E 5 c + i < 48 by omega) (by decide), rf_t hM.1, ck_t hM.2, bnd_t, (a6 _ (by omega)).2, ck_t (rS_131 hGA), bT_as, nI_1]
      refine ex_lo (N := N) hN hGA hGB hR (fun x A' B' s1 s2 hR' => ?_) (hz2.mv sB)
      exact (ih (i + 1) nA nB A' B' (by omega) (by omega) (by omega) (sA.tr (s1.mono fun a f y => .inl y)) (sB.tr (s2.mono fun a f y => .inl y)) hR' (fun A2 B2 t1 t2 t3 => hk A2 B2 (s1.tr t1) (s2.tr t2) t3) hz).1
    · show ∃ y B2, bC (B_M_getsTables_71 N 517 kqB (nB + 1) (nI c) (nI (E 5 c + i)) H) KB = some (y, B2) ∧ _
      have hGH := sH.gr hD.2.1
      rw [eB H sH, bC_as, bC_t (gzx hGH hW h28)]
      exact hz2 H W hW sH h28
theorem ti_out {T um : Nat} {Nm : Nat → Nat → List Nat} {Pv : Nat → Nat → Int32} {A0 B0 : Hp} {γ δ : Type} {KA : Unit → Hp → Option (Ot γ × Hp)} {KB : Unit → Hp → Option (δ × Hp)} {Post : γ → Hp → δ → Hp → Prop} (hE : WE E) (hN : 300 ≤ N) (hD : LDT p cs w M ty mn nu cd E Nm Pv um A0 B0) : ∀ j c nA nB A B, c + j = E 4 0 → j < nA → same LDA A0 A → same (LDB um) B0 B → (∃ x, RDS T x A B) → (∀ A' B', same RDA A A' → same RDBb B B' → (∃ x, RDS T x A' B') → LOut um A' B' (KA () A') (bC (B_M_getsTables_25 N 517 (nB + 1) (nI (E 4 0)) B') KB) Post) → ZK um B0 (fun H => bC (B_M_getsTables_25 N 517 (nB + 1) (nI (E 4 0)) H) KB) → LOut um A B (bT (B_Store_readShapes_16 N 131 (p + 70) nA (nI c) A) KA) (bC (B_M_getsTables_25 N 517 (nB + 1 + j) (nI c) B) KB) Post ∧ ZK um B0 (fun H => bC (B_M_getsTables_25 N 517 (nB + 1 + j) (nI c) H) KB) := by
  have e4 : E 4 0 ≤ 16 := hE.1
  have e48 := hE.2.2.2.1
  intro j
  induction j with
  | zero =>
    intro c nA nB A B hi hA sA sB hR hk hz
    obtain ⟨nA, rfl⟩ : ∃ y, nA = y + 1 := ⟨nA - 1, by omega⟩
    obtain ⟨hGA, hGB, ⟨⟨-, ⟨a3, a5, a6, -⟩, -⟩, -, hp, hwT, -⟩, -, -⟩ := hD.fr hE sA sB
    have P := gr_P hGA hp
    have hc : c = E 4 0 := by omega
    subst hc
    refine ⟨?_, hz⟩
    rw [B_Store_readShapes_16, ck_t (PrA_2 P), bnd_t, a3, if_pos (nI_le (by omega) (by omega)), bT_v]
    exact hk A B same.rf same.rf hR
  | succ j ih =>
    intro c nA nB A B hi hA sA sB hR hk hz
    obtain ⟨nA, rfl⟩ : ∃ y, nA = y + 1 := ⟨nA - 1, by omega⟩
    obtain ⟨hGA, hGB, ⟨⟨-, ⟨a3, a5, a6, -⟩, -⟩, -, hp, hwT, -⟩, -, -⟩ := hD.fr hE sA sB
    have P := gr_P hGA hp
    obtain ⟨m1, m2, m3⟩ := hE.2.2.1 c (by omega)
    have eB : ∀ H, same (LDB um) B0 H → B_M_getsTables_25 N 517 (nB + 1 + (j + 1)) (nI c) H = bC (F_M_getsExactly N 517 (nI (E 5 (c + 1) - E 5 c)) H) fun _ H130 => rf (H130.P 517 3) fun a131 => ck (H130.sh[a131]? = some (14, 0)) <| rf (H130.P a131 18) fun a134 => ar H130 100 a134 fun n136 => ck (inb (nI c) n136) <| bnd ((H130.D a134 ((nI c)).toNatClampNeg)) fun x139 => B_M_getsTables_71 N 517 (fun l1 H => B_M_getsTables_25 N 517 (nB + 1 + j) l1 H) N (nI c) x139 H130 := fun H sH => by
      obtain ⟨-, hGH, ⟨-, ⟨-, ⟨b16, b12, b13, -⟩, -⟩, -, hwT, -⟩, -, b3⟩ := hD.fr hE same.rf sH
      have TT := gr_T hGH w hwT
      rw [show nB + 1 + (j + 1) = nB + 1 + j + 1 by omega, B_M_getsTables_25, ck_t (rS_517 hGH), rf_t b3, ck_t (TS TT), bnd_t, b16, if_neg (nI_ge (by omega) (by omega)), rf_t b3, ck_t (TS TT), rf_t (TP_18 TT), ar_t (TA_18 TT), nI_1, rdI (show c + 1 < 17 by omega) (by decide), b12 (c + 1) (by omega), rf_t b3, ck_t (TS TT), rf_t (TP_18 TT), ar_t (TA_18 TT), rdI (show c < 17 by omega) (by decide), b12 c (by omega), nI_dif m1]
    have eR : ∀ H, same (LDB um) B0 H → (rf (H.P 517 3) fun a131 => ck (H.sh[a131]? = some (14, 0)) <| rf (H.P a131 18) fun a134 => ar H 100 a134 fun n136 => ck (inb (nI c) n136) <| bnd ((H.D a134 ((nI c)).toNatClampNeg)) fun x139 => B_M_getsTables_71 N 517 (fun l1 H => B_M_getsTables_25 N 517 (nB + 1 + j) l1 H) N (nI c) x139 H) = B_M_getsTables_71 N 517 (fun l1 H => B_M_getsTables_25 N 517 (nB + 1 + j) l1 H) N (nI c) (nI (E 5 c + 0)) H := fun H sH => by
      obtain ⟨-, hGH, ⟨-, ⟨-, ⟨b16, b12, b13, -⟩, -⟩, -, hwT, -⟩, -, b3⟩ := hD.fr hE same.rf sH
      have TT := gr_T hGH w hwT
      rw [rf_t b3, ck_t (TS TT), rf_t (TP_18 TT), ar_t (TA_18 TT), rdI (show c < 17 by omega) (by decide), b12 c (by omega)]
      rfl
    have zc : ZK um B0 (fun H => bC (B_M_getsTables_25 N 517 (nB + 1 + j) (nI (c + 1)) H) KB) := (ih (c + 1) (j + 1) nB A B (by omega) (by omega) sA sB hR hk hz).2
    have inn : ∀ A' B', same LDA A0 A' → same (LDB um) B0 B' → (∃ x, RDS T x A' B') → same RDA A A' → same RDBb B B' → _ := fun A' B' t1 t2 t3 t4 t5 => ti_in (N := N) (T := T) (c := c) (kqA := fun l2 H => B_Store_readShapes_16 N 131 (p + 70) nA l2 H) (kqB := fun l1 H => B_M_getsTables_25 N 517 (nB + 1 + j) l1 H) (KA := KA) (KB := KB) (Post := Post) hE hN hD (by omega) (E 5 (c + 1) - E 5 c) 0 N N A' B' (by omega) (by omega) (by omega) t1 t2 t3 (fun A2 B2 u1 u2 u3 => (ih (c + 1) nA nB A2 B2 (by omega) (by omega) (t1.tr (u1.mono fun a f y => .inl y)) (t2.tr (u2.mono fun a f y => .inl y)) u3 (fun A3 B3 v1 v2 v3 => hk A3 B3 ((t4.tr u1).tr v1) ((t5.tr u2).tr v2) v3) hz).1) zc
    have z71 : ZK um B0 (fun H => bC (B_M_getsTables_71 N 517 (fun l1 H => B_M_getsTables_25 N 517 (nB + 1 + j) l1 H) N (nI c) (nI (E 5 c + 0)) H) KB) := (inn A B sA sB hR same.rf same.rf).2
    have z71' : ZK um B0 (fun H => bC (rf (H.P 517 3) fun a131 => ck (H.sh[a131]? = some (14, 0)) <| rf (H.P a131 18) fun a134 => ar H 100 a134 fun n136 => ck (inb (nI c) n136) <| bnd ((H.D a134 ((nI c)).toNatClampNeg)) fun x139 => B_M_getsTables_71 N 517 (fun l1 H => B_M_getsTables_25 N 517 (nB + 1 + j) l1 H) N (nI c) x139 H) KB) := fun H W hW sH h28 => by
      have := z71 H W hW sH h28
      dsimp only at this ⊢
      rw [eR H sH]
      exact this
    refine ⟨?_, fun H W hW sH h28 => ?_⟩
    · rw [eB B sB, bC_as, B_Store_readShapes_16, ck_t (PrA_2 P), bnd_t, a3, if_neg (nI_ge (by omega) (by omega)), bC_t (ev_sizeOf (fr := p + 137) (R := 17) (PrA_2 P) (PcP_2 P) (PcA_2 P) (by decide) a3 (by omega) (show c < E 4 0 by omega) (a5 c (by omega)) (a5 (c + 1) (by omega)) m1), ck_t (rS_131 hGA), bT_as]
      refine ex_lo (N := N) hN hGA hGB hR (fun x A' B' s1 s2 hR' => ?_) (z71'.mv sB)
      rw [eR B' (sB.tr (s2.mono fun a f y => .inl y))]
      exact (inn A' B' (sA.tr (s1.mono fun a f y => .inl y)) (sB.tr (s2.mono fun a f y => .inl y)) hR' s1 s2).1
    · have hGH := sH.gr hD.2.1
      show ∃ y B2, bC (B_M_getsTables_25 N 517 (nB + 1 + (j + 1)) (nI c) H) KB = some (y, B2) ∧ _
      rw [eB H sH, bC_as, bC_t (gzx hGH hW h28)]
      exact z71' H W hW sH h28
/-- an event's members -/
theorem te_in {T um e : Nat} {Nm : Nat → Nat → List Nat} {Pv : Nat → Nat → Int32} {A0 B0 : Hp} {γ δ : Type} {kqA : Int32 → Hp → Option (Ot Unit × Hp)} {kqB : Int32 → Hp → Option (Unit × Hp)} {KA : Unit → Hp → Option (Ot γ × Hp)} {KB : Unit → Hp → Option (δ × Hp)} {Post : γ → Hp → δ → Hp → Prop} (hE : WE E) (hN : 300 ≤ N) (hD : LDT p cs w M ty mn nu cd E Nm Pv um A0 B0) (he : e < E 9 0) : ∀ j i nA nB A B, i + j = E 10 e → j < nA → j < nB → same LDA A0 A → same (LDB um) B0 B → (∃ x, RDS T x A B) → (∀ A' B', same RDA A A' → same RDBb B B' → (∃ x, RDS T x A' B') → LOut um A' B' (bT (kqA (nI (e + 1)) A') KA) (bC (kqB (nI (e + 1)) B') KB) Post) → ZK um B0 (fun H => bC (kqB (nI (e + 1)) H) KB) → LOut um A B (bT (B_Store_readShapes_41 N 131 (p + 138) kqA nA (nI e) (nI (E 10 e)) (nI i) A) KA) (bC (B_M_getsTables_150 N 517 kqB nB (nI e) (nI i) B) KB) Post ∧ ZK um B0 (fun H => bC (B_M_getsTables_150 N 517 kqB nB (nI e) (nI i) H) KB) := by
  have e8 := hE.2.2.2.2.2.1
  obtain ⟨x1, x2, x3⟩ := hE.2.2.2.2.2.2.2.1 e he
  intro j
  induction j with
  | zero =>
    intro i nA nB A B hi hA hB sA sB hR hk hz
    obtain ⟨nA, rfl⟩ : ∃ y, nA = y + 1 := ⟨nA - 1, by omega⟩
    obtain ⟨nB, rfl⟩ : ∃ y, nB = y + 1 := ⟨nB - 1, by omega⟩
    have eB : ∀ H, same (LDB um) B0 H → B_M_getsTables_150 N 517 kqB (nB + 1) (nI e) (nI i) H = kqB (nI (e + 1)) H := fun H sH => by
      obtain ⟨-, hGH, ⟨-, ⟨-, -, ⟨b21, b10, b17, -⟩, -⟩, -, hwT, -⟩, -, b3⟩ := hD.fr hE same.rf sH
      have TT := gr_T hGH w hwT
      rw [B_M_getsTables_150, ck_t (rS_517 hGH), rf_t b3, ck_t (TS TT), rf_t (TP_23 TT), ar_t (TA_23 TT), rdI (show e < 8 by omega) (by decide), b10 e he, if_pos (nI_le (by omega) (by omega)), nI_1]
    refine ⟨?_, fun H W hW sH h28 => ?_⟩
    · rw [eB B sB, B_Store_readShapes_41, if_pos (nI_le (by omega) (by omega)), nI_1]
      exact hk A B same.rf same.rf hR
    · show ∃ y B2, bC (B_M_getsTables_150 N 517 kqB (nB + 1) (nI e) (nI i) H) KB = some (y, B2) ∧ _
      rw [eB H sH]
      exact hz H W hW sH h28
  | succ j ih =>
    intro i nA nB A B hi hA hB sA sB hR hk hz
    obtain ⟨nA, rfl⟩ : ∃ y, nA = y + 1 := ⟨nA - 1, by omega⟩
    obtain ⟨nB, rfl⟩ : ∃ y, nB = y + 1 := ⟨nB - 1, by omega⟩
    obtain ⟨hGA, hGB, ⟨⟨-, -, ⟨a3, a11, a12, -⟩, -⟩, -, hp, hwT, -⟩, -, -⟩ := hD.fr hE sA sB
    have P := gr_P hGA hp
    have hM := PeM P (E 11 e + i) (by omega)
    have eB : ∀ H, same (LDB um) B0 H → B_M_getsTables_150 N 517 kqB (nB + 1) (nI e) (nI i) H = bC (F_M_getsExactly N 517 (nI (E 12 (4 * e + i))) H) fun _ H162 => B_M_getsTables_150 N 517 kqB nB (nI e) (nI (i + 1)) H162 := fun H sH => by
      obtain ⟨-, hGH, ⟨-, ⟨-, -, ⟨b21, b10, b17, -⟩, -⟩, -, hwT, -⟩, -, b3⟩ := hD.fr hE same.rf sH
      have TT := gr_T hGH w hwT
      rw [B_M_getsTables_150, ck_t (rS_517 hGH), rf_t b3, ck_t (TS TT), rf_t (TP_23 TT), ar_t (TA_23 TT), rdI (show e < 8 by omega) (by decide), b10 e he, if_neg (nI_ge (by omega) (by omega)), rf_t b3, ck_t (TS TT), rf_t (TP_24 TT), ar_t (TA_24 TT), show (4 : Int32) * nI e + nI i = nI (4 * e + i) from nI_ma 4 e i, rdI (show 4 * e + i < 32 by omega) (by decide), (b17 e i he (by omega)).2, nI_1]
    have hz2 : ZK um B0 (fun H => bC (B_M_getsTables_150 N 517 kqB nB (nI e) (nI (i + 1)) H) KB) := (ih (i + 1) (j + 1) nB A B (by omega) (by omega) (by omega) sA sB hR hk hz).2
    refine ⟨?_, fun H W hW sH h28 => ?_⟩
    · rw [eB B sB, bC_as, B_Store_readShapes_41, if_neg (nI_ge (by omega) (by omega)), ck_t (PrA_3 P), rf_t (PeP_1 P), rf_t (PeP_2 P), ar_t (PeA_2 P), rdI (show e < 9 by omega) (by decide), a11 e (by omega), ar_t (PeA_1 P), nI_ad, rdP (show E 11 e + i < 32 by omega) (by decide), rf_t hM.1, ck_t hM.2, bnd_t, (a12 e i he (by omega)).2, ck_t (rS_131 hGA), bT_as, nI_1]
      refine ex_lo (N := N) hN hGA hGB hR (fun x A' B' s1 s2 hR' => ?_) (hz2.mv sB)
      exact (ih (i + 1) nA nB A' B' (by omega) (by omega) (by omega) (sA.tr (s1.mono fun a f y => .inl y)) (sB.tr (s2.mono fun a f y => .inl y)) hR' (fun A2 B2 t1 t2 t3 => hk A2 B2 (s1.tr t1) (s2.tr t2) t3) hz).1
    · show ∃ y B2, bC (B_M_getsTables_150 N 517 kqB (nB + 1) (nI e) (nI i) H) KB = some (y, B2) ∧ _
      have hGH := sH.gr hD.2.1
      rw [eB H sH, bC_as, bC_t (gzx hGH hW h28)]
      exact hz2 H W hW sH h28
theorem te_out {T um : Nat} {Nm : Nat → Nat → List Nat} {Pv : Nat → Nat → Int32} {A0 B0 : Hp} {γ δ : Type} {KA : Unit → Hp → Option (Ot γ × Hp)} {KB : Unit → Hp → Option (δ × Hp)} {Post : γ → Hp → δ → Hp → Prop} (hE : WE E) (hN : 300 ≤ N) (hD : LDT p cs w M ty mn nu cd E Nm Pv um A0 B0) : ∀ j e nA nB A B, e + j = E 9 0 → j < nA → j < nB → same LDA A0 A → same (LDB um) B0 B → (∃ x, RDS T x A B) → (∀ A' B', same RDA A A' → same RDBb B B' → (∃ x, RDS T x A' B') → LOut um A' B' (KA () A') (KB () B') Post) → ZK um B0 (fun H => KB () H) → LOut um A B (bT (B_Store_readShapes_16 N 131 (p + 138) nA (nI e) A) KA) (bC (B_M_getsTables_124 N 517 nB (nI e) B) KB) Post ∧ ZK um B0 (fun H => bC (B_M_getsTables_124 N 517 nB (nI e) H) KB) := by
  have e8 := hE.2.2.2.2.2.1
  intro j
  induction j with
  | zero =>
    intro e nA nB A B hi hA hB sA sB hR hk hz
    obtain ⟨nA, rfl⟩ : ∃ y, nA = y + 1 := ⟨nA - 1, by omega⟩
    obtain ⟨nB, rfl⟩ : ∃ y, nB = y + 1 := ⟨nB - 1, by omega⟩
    obtain ⟨hGA, hGB, ⟨⟨-, -, ⟨a3, a11, a12, -⟩, -⟩, -, hp, hwT, -⟩, -, -⟩ := hD.fr hE sA sB
    have P := gr_P hGA hp
    have eB : ∀ H, same (LDB um) B0 H → B_M_getsTables_124 N 517 (nB + 1) (nI e) H = some ((), H) := fun H sH => by
      obtain ⟨-, hGH, ⟨-, ⟨-, -, ⟨b21, b10, b17, -⟩, -⟩, -, hwT, -⟩, -, b3⟩ := hD.fr hE same.rf sH
      have TT := gr_T hGH w hwT
      rw [B_M_getsTables_124, ck_t (rS_517 hGH), rf_t b3, ck_t (TS TT), bnd_t, b21, if_pos (nI_le (by omega) (by omega))]
    refine ⟨?_, fun H W hW sH h28 => ?_⟩
    · rw [B_Store_readShapes_16, ck_t (PrA_3 P), bnd_t, a3, if_pos (nI_le (by omega) (by omega)), bT_v, eB B sB, bC_v]
      exact hk A B same.rf same.rf hR
    · show ∃ y B2, bC (B_M_getsTables_124 N 517 (nB + 1) (nI e) H) KB = some (y, B2) ∧ _
      rw [eB H sH, bC_v]
      exact hz H W hW sH h28
  | succ j ih =>
    intro e nA nB A B hi hA hB sA sB hR hk hz
    obtain ⟨nA, rfl⟩ : ∃ y, nA = y + 1 := ⟨nA - 1, by omega⟩
    obtain ⟨nB, rfl⟩ : ∃ y, nB = y + 1 := ⟨nB - 1, by omega⟩
    obtain ⟨hGA, hGB, ⟨⟨-, -, ⟨a3, a11, a12, -⟩, -⟩, -, hp, hwT, -⟩, -, -⟩ := hD.fr hE sA sB
    have P := gr_P hGA hp
    obtain ⟨x1, x2, x3⟩ := hE.2.2.2.2.2.2.2.1 e (by omega)
    have eB : ∀ H, same (LDB um) B0 H → B_M_getsTables_124 N 517 (nB + 1) (nI e) H = bC (F_M_getsExactly N 517 (nI (E 10 e)) H) fun _ H45 => B_M_getsTables_150 N 517 (fun l1 H => B_M_getsTables_124 N 517 nB l1 H) N (nI e) (nI 0) H45 := fun H sH => by
      obtain ⟨-, hGH, ⟨-, ⟨-, -, ⟨b21, b10, b17, -⟩, -⟩, -, hwT, -⟩, -, b3⟩ := hD.fr hE same.rf sH
      have TT := gr_T hGH w hwT
      rw [B_M_getsTables_124, ck_t (rS_517 hGH), rf_t b3, ck_t (TS TT), bnd_t, b21, if_neg (nI_ge (by omega) (by omega)), rf_t b3, ck_t (TS TT), rf_t (TP_23 TT), ar_t (TA_23 TT), rdI (show e < 8 by omega) (by decide), b10 e (by omega)]
      rfl
    have zc : ZK um B0 (fun H => bC (B_M_getsTables_124 N 517 nB (nI (e + 1)) H) KB) := (ih (e + 1) (j + 1) nB A B (by omega) (by omega) (by omega) sA sB hR hk hz).2
    have inn : ∀ A' B', same LDA A0 A' → same (LDB um) B0 B' → (∃ x, RDS T x A' B') → same RDA A A' → same RDBb B B' → _ := fun A' B' t1 t2 t3 t4 t5 => te_in (N := N) (T := T) (e := e) (kqA := fun l2 H => B_Store_readShapes_16 N 131 (p + 138) nA l2 H) (kqB := fun l1 H => B_M_getsTables_124 N 517 nB l1 H) (KA := KA) (KB := KB) (Post := Post) hE hN hD (by omega) (E 10 e) 0 N N A' B' (by omega) (by omega) (by omega) t1 t2 t3 (fun A2 B2 u1 u2 u3 => (ih (e + 1) nA nB A2 B2 (by omega) (by omega) (by omega) (t1.tr (u1.mono fun a f y => .inl y)) (t2.tr (u2.mono fun a f y => .inl y)) u3 (fun A3 B3 v1 v2 v3 => hk A3 B3 ((t4.tr u1).tr v1) ((t5.tr u2).tr v2) v3) hz).1) zc
    have z71 : ZK um B0 (fun H => bC (B_M_getsTables_150 N 517 (fun l1 H => B_M_getsTables_124 N 517 nB l1 H) N (nI e) (nI 0) H) KB) := (inn A B sA sB hR same.rf same.rf).2
    refine ⟨?_, fun H W hW sH h28 => ?_⟩
    · rw [eB B sB, bC_as, B_Store_readShapes_16, ck_t (PrA_3 P), bnd_t, a3, if_neg (nI_ge (by omega) (by omega)), bC_t (ev_sizeOf (fr := p + 181) (R := 9) (PrA_3 P) (PeP_2 P) (PeA_2 P) (by decide) a3 (by omega) (show e < E 9 0 by omega) (a11 e (by omega)) (a11 (e + 1) (by omega)) (by omega)), show E 11 (e + 1) - E 11 e = E 10 e by omega, ck_t (rS_131 hGA), bT_as]
      refine ex_lo (N := N) hN hGA hGB hR (fun x A' B' s1 s2 hR' => ?_) (z71.mv sB)
      exact (inn A' B' (sA.tr (s1.mono fun a f y => .inl y)) (sB.tr (s2.mono fun a f y => .inl y)) hR' s1 s2).1
    · have hGH := sH.gr hD.2.1
      show ∃ y B2, bC (B_M_getsTables_124 N 517 (nB + 1) (nI e) H) KB = some (y, B2) ∧ _
      rw [eB H sH, bC_as, bC_t (gzx hGH hW h28)]
      exact z71 H W hW sH h28
end Par
