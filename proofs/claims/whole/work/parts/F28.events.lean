/-! ===== swap: pending events are carried alike ===== -/
def lik (E E' : Nat → Nat → Nat) (e e' : Nat) : Prop := E 10 e = E' 10 e' ∧ ∀ q, q < E 10 e → E 12 (4 * e + q) = E' 12 (4 * e' + q)
def PNK (K : Int32 → Prop) (A : Hp) (wo : Nat) (B : Hp) (u : Nat) (E : Nat → Nat → Nat) (k : Nat) : Prop := PN1 A wo B u E k ∧ ∀ e q, B.D (u + 5) k = nI e → e < E 9 0 → q < E 10 e → E 12 (4 * e + q) = 4 → K (B.D (u + 8) (4 * k + q))
section Par
variable {N p wo inp cs w u ir M K0 : Nat} {s pl : Int32} {ty mn nu cd : Nat → Int32} {E Q : Nat → Nat → Nat} {V : Nat → Nat → Int32} {nL lc : Nat} {lk : Nat → Nat} {hd : Nat → Int32}
variable {w2 p2 top wd uk wk : Nat} {E' : Nat → Nat → Nat} {Nm Nm' : Nat → Nat → List Nat} {Pv Pv' : Nat → Nat → Int32}
theorem ev_sameK {A : Hp} {e e' : Nat} (hF : CYF wo w2 p p2 E E' Q top wd) (hC : CYA A wo w2 p p2 E E' Nm Nm' Pv Pv' Q top wd) (he : e < E 9 0) (he' : e' < E' 9 0) (hN : 300 ≤ N) : ∃ b : Bool, F_Shapes_sameKinds N (p + 138) (nI e) (p2 + 138) (nI e') A = some (bI b, A) ∧ (b = true ↔ lik E E' e e') := by
  obtain ⟨⟨e1, e2⟩, f1, f2, f3, f4, f5, f6, f7, f8, f9⟩ := hF
  obtain ⟨⟨a1, a2, a3, a4⟩, ⟨b1, b2⟩, -, hl⟩ := hC
  have h8 := e1.2.2.2.2.2.1
  have h8' := e2.2.2.2.2.2.1
  have h11 := e1.2.2.2.2.2.2.2.1 e he
  have h11' := e2.2.2.2.2.2.2.2.1 e' he'
  have h12 := e1.2.2.2.2.2.2.2.2.1
  have h12' := e2.2.2.2.2.2.2.2.2.1
  have hb1 := b1.2.2.1
  have hb2 := b2.2.2.1
  have lp : E 10 e = E' 10 e' → ∀ j i n, i + j = E 10 e → j < n → ∃ b : Bool, B_Shapes_sameKinds_22 N (p + 138) (nI e) (p2 + 138) (nI e') n (nI (E 10 e)) (nI i) A = some (bI b, A) ∧ (b = true ↔ ∀ q, i ≤ q → q < E 10 e → E 12 (4 * e + q) = E' 12 (4 * e' + q)) := by
    intro h10 j
    induction j with
    | zero =>
      intro i n hi hn
      obtain ⟨n, rfl⟩ : ∃ y, n = y + 1 := ⟨n - 1, by omega⟩
      exact ⟨true, by rw [B_Shapes_sameKinds_22, if_pos (nI_le (by omega) (by omega))]; rfl, fun _ q y1 y2 => by omega, fun _ => rfl⟩
    | succ j ih =>
      intro i n hi hn
      obtain ⟨n, rfl⟩ : ∃ y, n = y + 1 := ⟨n - 1, by omega⟩
      have hM := PeM a3 (E 11 e + i) (by omega)
      have hM' := PeM a4 (E' 11 e' + i) (by omega)
      have k1 := h12 e i he (by omega)
      have k2 := h12' e' i he' (by omega)
      obtain ⟨b, r1, r2⟩ := ih (i + 1) n (by omega) (by omega)
      have hh : B_Shapes_sameKinds_22 N (p + 138) (nI e) (p2 + 138) (nI e') (n + 1) (nI (E 10 e)) (nI i) A = if E 12 (4 * e + i) = E' 12 (4 * e' + i) then B_Shapes_sameKinds_22 N (p + 138) (nI e) (p2 + 138) (nI e') n (nI (E 10 e)) (nI (i + 1)) A else some (0, A) := by
        rw [B_Shapes_sameKinds_22, if_neg (nI_ge (by omega) (by omega)), ck_t (PrA_3 a3), rf_t (PeP_1 a3), rf_t (PeP_2 a3), ar_t (PeA_2 a3), rdI (show e < 9 by omega) (by decide), hb1.2.1 e (by omega), ar_t (PeA_1 a3), nI_ad, rdP (show E 11 e + i < 32 by omega) (by decide), rf_t hM.1, ck_t hM.2, bnd_t, (hb1.2.2.1 e i he (by omega)).2, ck_t (PrA_3 a4), rf_t (PeP_1 a4), rf_t (PeP_2 a4), ar_t (PeA_2 a4), rdI (show e' < 9 by omega) (by decide), hb2.2.1 e' (by omega), ar_t (PeA_1 a4), nI_ad, rdP (show E' 11 e' + i < 32 by omega) (by decide), rf_t hM'.1, ck_t hM'.2, bnd_t, (hb2.2.2.1 e' i he' (by omega)).2, nI_1]
        simp only [show (nI (E 12 (4 * e + i)) = nI (E' 12 (4 * e' + i))) = (E 12 (4 * e + i) = E' 12 (4 * e' + i)) from propext (nI_eq (by omega) (by omega))]
      by_cases y : E 12 (4 * e + i) = E' 12 (4 * e' + i)
      · refine ⟨b, by rw [hh, if_pos y]; exact r1, ?_⟩
        rw [r2]
        refine ⟨fun k q y1 y2 => ?_, fun k q y1 y2 => k q (by omega) y2⟩
        by_cases z : q = i
        · rw [z]; exact y
        · exact k q (by omega) y2
      · exact ⟨false, by rw [hh, if_neg y]; rfl, (fun k => by cases k), fun k => absurd (k i (Nat.le_refl _) (by omega)) y⟩
  have z1 : F_Shapes_sizeOf N (p + 138) (nI e) A = some (nI (E 10 e), A) := by
    have := ev_sizeOf (N := N) (PrA_3 a3) (PeP_2 a3) (PeA_2 a3) (by decide) hb1.1 (by omega) he (hb1.2.1 e (by omega)) (hb1.2.1 (e + 1) (by omega)) (by omega)
    rw [show E 11 (e + 1) - E 11 e = E 10 e by omega] at this
    exact this
  have z2 : F_Shapes_sizeOf N (p2 + 138) (nI e') A = some (nI (E' 10 e'), A) := by
    have := ev_sizeOf (N := N) (PrA_3 a4) (PeP_2 a4) (PeA_2 a4) (by decide) hb2.1 (by omega) he' (hb2.2.1 e' (by omega)) (hb2.2.1 (e' + 1) (by omega)) (by omega)
    rw [show E' 11 (e' + 1) - E' 11 e' = E' 10 e' by omega] at this
    exact this
  have hd : F_Shapes_sameKinds N (p + 138) (nI e) (p2 + 138) (nI e') A = if E 10 e = E' 10 e' then B_Shapes_sameKinds_22 N (p + 138) (nI e) (p2 + 138) (nI e') N (nI (E 10 e)) 0 A else some (0, A) := by
    unfold F_Shapes_sameKinds
    rw [ck_t (PrA_3 a3), bC_t z1, ck_t (PrA_3 a4), bC_t z2]
    simp only [show (nI (E 10 e) = nI (E' 10 e')) = (E 10 e = E' 10 e') from propext (nI_eq (by omega) (by omega))]
  by_cases y : E 10 e = E' 10 e'
  · obtain ⟨b, r1, r2⟩ := lp y (E 10 e) 0 N (by omega) (by omega)
    refine ⟨b, by rw [hd, if_pos y]; exact r1, ?_⟩
    rw [r2]
    exact ⟨fun k => ⟨y, fun q => k q (Nat.zero_le _)⟩, fun k q _ => k.2 q⟩
  · exact ⟨false, by rw [hd, if_neg y]; rfl, (fun k => by cases k), fun k => absurd k.1 y⟩
theorem ev_isLike {B : Hp} {e e' : Nat} (hF : CYG u uk w wk E E' Nm Nm') (hC : CYB B u uk w wk E E' Nm Nm' Pv Pv' Q) (he : e < E 9 0) (he' : e' < E' 9 0) (hN : 300 ≤ N) : ∃ b : Bool, F_MText_isLike N wk (nI e') w (nI e) B = some (bI b, B) ∧ (b = true ↔ lik E E' e e') := by
  obtain ⟨⟨e1, e2⟩, -⟩ := hF
  obtain ⟨⟨a1, a2, a3, a4⟩, ⟨b1, b2⟩, -⟩ := hC
  have h8 := e1.2.2.2.2.2.1
  have h8' := e2.2.2.2.2.2.1
  have h11 := e1.2.2.2.2.2.2.2.1 e he
  have h11' := e2.2.2.2.2.2.2.2.1 e' he'
  have h12 := e1.2.2.2.2.2.2.2.2.1
  have h12' := e2.2.2.2.2.2.2.2.2.1
  have hb1 := b1.2.2.1
  have hb2 := b2.2.2.1
  have m4 : ∀ x i, (4 : Int32) * nI x + nI i = nI (4 * x + i) := fun x i => nI_ma 4 x i
  have lF : ∀ n i, B_MText_isLike_25 N wk (nI e') w (nI e) (n + 1) 0 (nI i) B = some (0, B) := fun n i => by
    rw [B_MText_isLike_25, ck_t (TS a4), rf_t (TP_23 a4), ar_t (TA_23 a4), rdI (show e' < 8 by omega) (by decide), ck_t (by decide), if_pos rfl]
    split <;> rfl
  have lT : E 10 e = E' 10 e' → ∀ j i n, i + j = E' 10 e' → j < n → ∃ b : Bool, B_MText_isLike_25 N wk (nI e') w (nI e) n 1 (nI i) B = some (bI b, B) ∧ (b = true ↔ ∀ q, i ≤ q → q < E' 10 e' → E 12 (4 * e + q) = E' 12 (4 * e' + q)) := by
    intro h10 j
    induction j with
    | zero =>
      intro i n hi hn
      obtain ⟨n, rfl⟩ : ∃ y, n = y + 1 := ⟨n - 1, by omega⟩
      refine ⟨true, ?_, fun _ q y1 y2 => by omega, fun _ => rfl⟩
      rw [B_MText_isLike_25, ck_t (TS a4), rf_t (TP_23 a4), ar_t (TA_23 a4), rdI (show e' < 8 by omega) (by decide), hb2.2.1 e' he', if_pos (nI_le (by omega) (by omega)), ck_t (by decide)]
      rfl
    | succ j ih =>
      intro i n hi hn
      obtain ⟨n, rfl⟩ : ∃ y, n = y + 1 := ⟨n - 1, by omega⟩
      obtain ⟨n, rfl⟩ : ∃ y, n = y + 1 := ⟨n - 1, by omega⟩
      have k1 := h12 e i he (by omega)
      have k2 := h12' e' i he' (by omega)
      obtain ⟨b, r1, r2⟩ := ih (i + 1) (n + 1) (by omega) (by omega)
      have hh : B_MText_isLike_25 N wk (nI e') w (nI e) (n + 1 + 1) 1 (nI i) B = if E 12 (4 * e + i) = E' 12 (4 * e' + i) then B_MText_isLike_25 N wk (nI e') w (nI e) (n + 1) 1 (nI (i + 1)) B else B_MText_isLike_25 N wk (nI e') w (nI e) (n + 1) 0 (nI (i + 1)) B := by
        rw [B_MText_isLike_25, ck_t (TS a4), rf_t (TP_23 a4), ar_t (TA_23 a4), rdI (show e' < 8 by omega) (by decide), hb2.2.1 e' he', if_neg (nI_ge (by omega) (by omega)), if_neg (show ¬ (1 : Int32) = 0 by decide), rf_t (TP_24 a4), ar_t (TA_24 a4), m4, rdI (show 4 * e' + i < 32 by omega) (by decide), (hb2.2.2.1 e' i he' (by omega)).2, ck_t (TS a3), rf_t (TP_24 a3), ar_t (TA_24 a3), m4, rdI (show 4 * e + i < 32 by omega) (by decide), (hb1.2.2.1 e i he (by omega)).2]
        unfold B_MText_isLike_71
        rw [nI_1]
        simp only [show (nI (E' 12 (4 * e' + i)) = nI (E 12 (4 * e + i))) = (E 12 (4 * e + i) = E' 12 (4 * e' + i)) from propext (Iff.trans (nI_eq (by omega) (by omega)) eq_comm)]
      by_cases y : E 12 (4 * e + i) = E' 12 (4 * e' + i)
      · refine ⟨b, by rw [hh, if_pos y]; exact r1, ?_⟩
        rw [r2]
        refine ⟨fun k q y1 y2 => ?_, fun k q y1 y2 => k q (by omega) y2⟩
        by_cases z : q = i
        · rw [z]; exact y
        · exact k q (by omega) y2
      · exact ⟨false, by rw [hh, if_neg y, lF]; rfl, (fun k => by cases k), fun k => absurd (k i (Nat.le_refl _) (by omega)) y⟩
  have hd : F_MText_isLike N wk (nI e') w (nI e) B = if E 10 e = E' 10 e' then B_MText_isLike_25 N wk (nI e') w (nI e) N 1 0 B else B_MText_isLike_25 N wk (nI e') w (nI e) N 0 0 B := by
    unfold F_MText_isLike
    rw [ck_t (TS a4), rf_t (TP_23 a4), ar_t (TA_23 a4), rdI (show e' < 8 by omega) (by decide), hb2.2.1 e' he', ck_t (TS a3), rf_t (TP_23 a3), ar_t (TA_23 a3), rdI (show e < 8 by omega) (by decide), hb1.2.1 e he]
    simp only [show (nI (E' 10 e') = nI (E 10 e)) = (E 10 e = E' 10 e') from propext (Iff.trans (nI_eq (by omega) (by omega)) eq_comm)]
    rfl
  by_cases y : E 10 e = E' 10 e'
  · obtain ⟨b, r1, r2⟩ := lT y (E' 10 e') 0 N (by omega) (by omega)
    refine ⟨b, by rw [hd, if_pos y]; exact r1, ?_⟩
    rw [r2]
    exact ⟨fun k => ⟨y, fun q z => k q (Nat.zero_le _) (by omega)⟩, fun k q _ z => k.2 q (by omega)⟩
  · obtain ⟨N, rfl⟩ : ∃ y, N = y + 1 := ⟨N - 1, by omega⟩
    exact ⟨false, by rw [hd, if_neg y]; exact lF N 0, (fun k => by cases k), fun k => absurd k.1 y⟩
/-- one event is added (reference) -/
theorem ev_pn2 {k K : Nat} {v1 v2 v3 : Int32} (hk : k < 256) (hK : K < 256) (hd : u + 9 < uk ∨ uk + 9 < u) : ∀ j n i B, i + j = 4 → j < n → isU B uk → isU B u → B.D uk 8 = nI K → ∃ B2, B_MWorld_pends_45 N uk v1 v2 v3 (u + 8) (nI (4 * k)) n (nI i) B = some (1, B2) ∧ same (fun a f => (a = uk + 8 ∧ 4 * K + i ≤ f ∧ f < 4 * K + 4) ∨ (a = uk ∧ f = 8)) B B2 ∧ B2.D uk 8 = nI (K + 1) ∧ ∀ q, i ≤ q → q < 4 → B2.D (uk + 8) (4 * K + q) = B.D (u + 8) (4 * k + q) := by
  intro j
  induction j with
  | zero =>
    intro n i B hi hn U U2 h8
    obtain ⟨n, rfl⟩ : ∃ y, n = y + 1 := ⟨n - 1, by omega⟩
    refine ⟨B.sD uk 8 (nI (K + 1)), ?_, same.rf.sD (.inr ⟨rfl, rfl⟩), rds, fun q y1 y2 => by omega⟩
    rw [B_MWorld_pends_45, if_pos (show (4 : Int32) ≤ nI i from nI_le (a := 4) (by omega) (by omega)), ck_t (US U), bnd_t, h8, nI_1, bnd_t]
  | succ j ih =>
    intro n i B hi hn U U2 h8
    obtain ⟨n, rfl⟩ : ∃ y, n = y + 1 := ⟨n - 1, by omega⟩
    obtain ⟨B2, r1, r2, r3, r4⟩ := ih n (i + 1) (B.sD (uk + 8) (4 * K + i) (B.D (u + 8) (4 * k + i))) (by omega) (by omega) U U2 (by rw [rdw (by omega)]; exact h8)
    refine ⟨B2, ?_, ((same.rf (H := B)).sD (.inl (by omega))).tr (r2.mono fun a f y => by omega), r3, fun q y1 y2 => ?_⟩
    · rw [B_MWorld_pends_45, if_neg (show ¬ (4 : Int32) ≤ nI i from nI_ge (b := 4) (by omega) (by omega)), ck_t (US U), rf_t (UP_12 U), bnd_t, h8, ar_t (UA_12 U2), show nI (4 * k) + nI i = nI (4 * k + i) from nI_ad _ i, rdI (show 4 * k + i < 1024 by omega) (by decide), ar_t (UA_12 U), show (4 : Int32) * nI K + nI i = nI (4 * K + i) from nI_ma 4 K i, wrI (show 4 * K + i < 1024 by omega) (by decide), nI_1]
      exact r1
    · by_cases z : q = i
      · rw [z, r2.1 _ _ (by omega), rds]
      · rw [r4 q (by omega) y2, rdw (by omega)]
theorem ev_pends {B : Hp} {k K : Nat} {v1 v2 v3 : Int32} (hN : 300 ≤ N) (hk : k < 256) (hK : K < 256) (hd : u + 9 < uk ∨ uk + 9 < u) (U : isU B uk) (U2 : isU B u) (h8 : B.D uk 8 = nI K) : ∃ B2, F_MWorld_pends N uk v1 v2 v3 (u + 8) (nI (4 * k)) B = some (1, B2) ∧ same (fun a f => MVB uk K a f ∨ (a = uk ∧ f = 8)) B B2 ∧ B2.D uk 8 = nI (K + 1) ∧ B2.D (uk + 5) K = v1 ∧ B2.D (uk + 6) K = v2 ∧ B2.D (uk + 7) K = v3 ∧ ∀ q, q < 4 → B2.D (uk + 8) (4 * K + q) = B.D (u + 8) (4 * k + q) := by
  have V1 : isU (B.sD (uk + 5) K v1) uk := U
  have V2 : isU ((B.sD (uk + 5) K v1).sD (uk + 6) K v2) uk := U
  have V3 : isU (((B.sD (uk + 5) K v1).sD (uk + 6) K v2).sD (uk + 7) K v3) uk := U
  have V4 : isU (((B.sD (uk + 5) K v1).sD (uk + 6) K v2).sD (uk + 7) K v3) u := U2
  obtain ⟨B2, r1, r2, r3, r4⟩ := ev_pn2 (N := N) (v1 := v1) (v2 := v2) (v3 := v3) hk hK hd 4 N 0 _ rfl (by omega) V3 V4 (by rw [rdw (by omega), rdw (by omega), rdw (by omega)]; exact h8)
  refine ⟨B2, ?_, ((((same.rf (H := B)).sD (.inl (.inl ⟨rfl, rfl⟩))).sD (.inl (.inr (.inl ⟨rfl, rfl⟩)))).sD (.inl (.inr (.inr (.inl ⟨rfl, rfl⟩))))).tr (r2.mono fun a f y => by unfold MVB; omega), r3, ?_, ?_, ?_, fun q hq => ?_⟩
  · unfold F_MWorld_pends
    rw [ck_t (US U), bnd_t, h8, if_neg (show ¬ nI K = (256 : Int32) from fun y => by have := (nI_eq (b := 256) (by omega) (by decide)).mp y; omega), rf_t (UP_9 U), bnd_t, ar_t (UA_9 U), wrI hK (by decide), rf_t (UP_10 V1), bnd_t, rdw (by omega), h8, ar_t (UA_10 V1), wrI hK (by decide), rf_t (UP_11 V2), bnd_t, rdw (by omega), rdw (by omega), h8, ar_t (UA_11 V2), wrI hK (by decide)]
    exact r1
  · rw [r2.1 _ _ (by omega), rdw (by omega), rdw (by omega), rds]
  · rw [r2.1 _ _ (by omega), rdw (by omega), rds]
  · rw [r2.1 _ _ (by omega), rds]
  · rw [r4 q (by omega) hq, rdw (by omega), rdw (by omega), rdw (by omega)]
theorem PNK.fr {K : Int32 → Prop} {A A2 B B2 : Hp} {k : Nat} (h : PNK K A wo B u E k) (hA : ∀ f, 7 * k ≤ f → f < 7 * k + 7 → A2.D (wo + 4) f = A.D (wo + 4) f) (hB : ∀ a f, (u + 5 ≤ a ∧ a ≤ u + 7 ∧ f = k) ∨ (a = u + 8 ∧ 4 * k ≤ f ∧ f < 4 * k + 4) → B2.D a f = B.D a f) (hE : WE E) : PNK K A2 wo B2 u E k := by
  obtain ⟨⟨h1, h2, h3, h4, h5⟩, h6⟩ := h
  refine ⟨⟨?_, ?_, ?_, fun e q y1 y2 y3 => ?_, ?_⟩, fun e q y1 y2 y3 y4 => ?_⟩
  · rw [hA _ (by omega) (by omega), hB _ _ (by omega)]; exact h1
  · rw [hA _ (by omega) (by omega), hB _ _ (by omega)]; exact h2
  · rw [hA _ (by omega) (by omega), hB _ _ (by omega)]; exact h3
  · have := (hE.2.2.2.2.2.2.2.1 e y2).1
    rw [hB _ _ (by omega)] at y1
    rw [hA _ (by omega) (by omega), hB _ _ (by omega)]
    exact h4 e q y1 y2 y3
  · rw [hB _ _ (by omega)]; exact h5
  · have := (hE.2.2.2.2.2.2.2.1 e y2).1
    rw [hB _ _ (by omega)] at y1
    rw [hB _ _ (by omega)]
    exact h6 e q y1 y2 y3 y4
theorem ce_jo {P : Nat} {K : Int32 → Prop} (hF : CYF wo w2 p p2 E E' Q top wd) (hG : CYG u uk w wk E E' Nm Nm') (hN : 7000 ≤ N) (hP : P ≤ 256) : ∀ j k i1 nA nB A B, k + j = P → i1 ≤ k → j < nA → j < nB → CYA A wo w2 p p2 E E' Nm Nm' Pv Pv' Q top wd → A.D wo 13 = nI P → CYB B u uk w wk E E' Nm Nm' Pv Pv' Q → B.D u 8 = nI P → B.D uk 8 = nI i1 → (∀ x, k ≤ x → x < P → PNK K A wo B u E x) → (∀ x, x < i1 → PNK K A wo B uk E' x) → ∃ A2 B2 P2, B_World_carryEvents_5 N wo p p2 nA (nI i1) (nI k) A = some ((), A2) ∧ B_M_carries_270 N 517 nB u uk (nI k) B = some ((), B2) ∧ same (fun a f => a = wo + 4 ∨ (a = wo ∧ f = 13)) A A2 ∧ same (fun a f => (uk + 5 ≤ a ∧ a ≤ uk + 8) ∨ (a = uk ∧ f = 8)) B B2 ∧ P2 ≤ P ∧ A2.D wo 13 = nI P2 ∧ B2.D uk 8 = nI P2 ∧ ∀ x, x < P2 → PNK K A2 wo B2 uk E' x := by
  have nb := hG.nb
  have hF' := hF
  have hG' := hG
  obtain ⟨⟨e1, e2⟩, f1, f2, f3, f4, f5, f6, f7, f8, f9⟩ := hF
  obtain ⟨-, ⟨n1, n2⟩, -⟩ := hG
  have h8 := e1.2.2.2.2.2.1
  have h8' := e2.2.2.2.2.2.1
  have e7 : ∀ k, nI k * (7 : Int32) = nI (7 * k) := fun k => by rw [Nat.mul_comm]; exact nI_mu k 7
  intro j
  induction j with
  | zero =>
    intro k i1 nA nB A B hk hi hA hB hC a13 hD b8 bk pk pi
    obtain ⟨nA, rfl⟩ : ∃ y, nA = y + 1 := ⟨nA - 1, by omega⟩
    obtain ⟨nB, rfl⟩ : ∃ y, nB = y + 1 := ⟨nB - 1, by omega⟩
    obtain ⟨⟨a1, a2, a3, a4⟩, -⟩ := hC
    obtain ⟨⟨c1, c2, c3, c4⟩, -⟩ := hD
    refine ⟨A.sD wo 13 (nI i1), B, i1, ?_, ?_, same.rf.sD (.inr ⟨rfl, rfl⟩), same.rf, by omega, rds, bk, fun x hx => (pi x hx).fr (fun f _ _ => rdw (by omega)) (fun a f _ => rfl) e2⟩
    · rw [B_World_carryEvents_5, ck_t (WS a1), bnd_t, a13, if_pos (nI_le (by omega) (by omega)), bnd_t]
    · rw [B_M_carries_270, ck_t (US c1), bnd_t, b8, if_pos (nI_le (by omega) (by omega))]
  | succ j ih =>
    intro k i1 nA nB A B hk hi hA hB hC a13 hD b8 bk pk pi
    obtain ⟨nA, rfl⟩ : ∃ y, nA = y + 1 := ⟨nA - 1, by omega⟩
    obtain ⟨nB, rfl⟩ : ∃ y, nB = y + 1 := ⟨nB - 1, by omega⟩
    have hC' := hC
    have hD' := hD
    obtain ⟨⟨a1, a2, a3, a4⟩, ⟨b1, b2⟩, -⟩ := hC
    obtain ⟨⟨c1, c2, c3, c4⟩, ⟨d1, d2⟩, ⟨g1, g2, g3⟩, -⟩ := hD
    have pk0 := pk k (Nat.le_refl _) (by omega)
    obtain ⟨⟨q1, q2, q3, q4, e, he, q5⟩, q6⟩ := pk0
    rw [q5] at q1
    have hH := PeH a3 e (by omega)
    obtain ⟨sx, sx1, sx2, -, -⟩ := b1.2.2.1.2.2.2 e he
    obtain ⟨t, t1, t2⟩ := d1.2.2.1.2.2.2 e he
    have eH : F_Shapes_headNamed N (p2 + 138) sx A = some (oNI (fnm (Nm' 14) (Nm 14 e) (E' 9 0) 0), A) := ev_hnamed (f := Nm' 14) (PrA_3 a4) (PeP_0 a4) (PeA_0 a4) (PeH a4) (by decide) b2.2.2.1.1 h8' sx2 (fun x y => b2.2.2.1.2.2.2 x y) (by omega)
    have eT : F_MText_thing N wk w (nI t) (3 : Int32) B = some (oNI (fnm (Nm' 14) (Nm 14 e) (E' 9 0) 0), B) := ev_the c4 c3 d2.1 e2.w1 n2 t2 hN
    have next : ∀ A' B', CYA A' wo w2 p p2 E E' Nm Nm' Pv Pv' Q top wd → CYB B' u uk w wk E E' Nm Nm' Pv Pv' Q → same (fun a f => a = wo + 4 ∨ (a = wo ∧ f = 13)) A A' → same (fun a f => (uk + 5 ≤ a ∧ a ≤ uk + 8) ∨ (a = uk ∧ f = 8)) B B' → ∀ i2, i2 ≤ k + 1 → A'.D wo 13 = nI P → B'.D uk 8 = nI i2 → (∀ x, k + 1 ≤ x → x < P → PNK K A' wo B' u E x) → (∀ x, x < i2 → PNK K A' wo B' uk E' x) → B_World_carryEvents_5 N wo p p2 (nA + 1) (nI i1) (nI k) A = B_World_carryEvents_5 N wo p p2 nA (nI i2) (nI (k + 1)) A' → B_M_carries_270 N 517 (nB + 1) u uk (nI k) B = B_M_carries_270 N 517 nB u uk (nI (k + 1)) B' → ∃ A2 B2 P2, B_World_carryEvents_5 N wo p p2 (nA + 1) (nI i1) (nI k) A = some ((), A2) ∧ B_M_carries_270 N 517 (nB + 1) u uk (nI k) B = some ((), B2) ∧ same (fun a f => a = wo + 4 ∨ (a = wo ∧ f = 13)) A A2 ∧ same (fun a f => (uk + 5 ≤ a ∧ a ≤ uk + 8) ∨ (a = uk ∧ f = 8)) B B2 ∧ P2 ≤ P ∧ A2.D wo 13 = nI P2 ∧ B2.D uk 8 = nI P2 ∧ ∀ x, x < P2 → PNK K A2 wo B2 uk E' x := fun A' B' z1 z2 z3 z4 i2 z5 z6 z7 z8 z9 z10 z11 => by
      obtain ⟨A2, B2, P2, r1, r2, r3, r4, r5⟩ := ih (k + 1) i2 nA nB A' B' (by omega) z5 (by omega) (by omega) z1 z6 z2 (by rw [z4.1 _ _ (by omega)]; exact b8) z7 z8 z9
      exact ⟨A2, B2, P2, by rw [z10]; exact r1, by rw [z11]; exact r2, z3.tr r3, z4.tr r4, r5⟩
    have skA : ∀ H : Hp, B_World_carryEvents_107 N wo p p2 (fun l3 l4 H => B_World_carryEvents_5 N wo p p2 nA l3 l4 H) (nI i1) (nI k) H = B_World_carryEvents_5 N wo p p2 nA (nI i1) (nI (k + 1)) H := fun H => by unfold B_World_carryEvents_107; rw [nI_1]
    have skB : ∀ H : Hp, B_M_carries_359 N 517 (fun l1 l2 l3 H => B_M_carries_270 N 517 nB l1 l2 l3 H) u uk (nI k) H = B_M_carries_270 N 517 nB u uk (nI (k + 1)) H := fun H => by unfold B_M_carries_359; rw [nI_1]
    cases hr : fnm (Nm' 14) (Nm 14 e) (E' 9 0) 0 with
    | none =>
      rw [hr] at eH eT
      refine next A B hC' hD' same.rf same.rf i1 (by omega) a13 bk (fun x y1 y2 => pk x (by omega) y2) pi ?_ ?_
      · rw [B_World_carryEvents_5, ck_t (WS a1), bnd_t, a13, if_neg (nI_ge (by omega) (by omega)), rf_t (WP_12 a1), ar_t (WA_12 a1), e7, rdI (show 7 * k < 1792 by omega) (by decide), q1, ck_t (PrS a4), rf_t (PrP_3 a4), ck_t (PrS a3), rf_t (PrP_3 a3), ck_t (PrA_3 a3), rf_t (PeP_0 a3), ar_t (PeA_0 a3), rdP (show e < 8 by omega) (by decide), rf_t hH.1, ck_t hH.2, rf_t sx1, ck_t (PrA_3 a4), bC_t eH, if_pos (show oNI none < (0 : Int32) by decide), skA]
      · rw [B_M_carries_270, ck_t (US c1), bnd_t, b8, if_neg (nI_ge (by omega) (by omega)), ck_t g3, rf_t g2, rf_t g1, rf_t g1, ck_t (TS c3), rf_t (TP_22 c3), rf_t (UP_9 c1), ar_t (UA_9 c1), rdI (show k < 256 by omega) (by decide), q5, ar_t (TA_22 c3), rdI (show e < 8 by omega) (by decide), t1, ck_t (TS c4), bC_t eT, if_pos (show oNI none < (0 : Int32) by decide), skB]
    | some e' =>
      rw [hr] at eH eT
      obtain ⟨-, he', hnm⟩ := fnm_bd _ _ _ hr
      have he' : e' < E' 9 0 := by omega
      obtain ⟨b, s1, s2⟩ := ev_sameK (N := N) hF' hC' he he' (by omega)
      obtain ⟨b', s1', s2'⟩ := ev_isLike (N := N) hG' hD' he he' (by omega)
      have hbb : b' = b := by
        cases b with
        | true => exact s2'.mpr (s2.mp rfl)
        | false =>
          cases b' with
          | true => exact absurd (s2.mpr (s2'.mp rfl)) (by decide)
          | false => rfl
      subst hbb
      have eA : B_World_carryEvents_5 N wo p p2 (nA + 1) (nI i1) (nI k) A = if bI b' = 0 then B_World_carryEvents_5 N wo p p2 nA (nI i1) (nI (k + 1)) A else B_World_carryEvents_5 N wo p p2 nA (nI (i1 + 1)) (nI (k + 1)) ((A.cpy (wo + 4) (wo + 4) (7 * k) (7 * i1) 7).sD (wo + 4) (7 * i1) (nI e')) := by
        have c7 : ((7 : Int32)).toNatClampNeg = 7 := rfl
        have ec : A.cpy (wo + 4) (wo + 4) (nI (7 * k)).toNatClampNeg (nI (7 * i1)).toNatClampNeg ((7 : Int32)).toNatClampNeg = A.cpy (wo + 4) (wo + 4) (7 * k) (7 * i1) 7 := by rw [cN (by omega), cN (by omega), c7]
        have WC : isW (A.cpy (wo + 4) (wo + 4) (7 * k) (7 * i1) 7) wo := a1
        rw [B_World_carryEvents_5, ck_t (WS a1), bnd_t, a13, if_neg (nI_ge (by omega) (by omega)), rf_t (WP_12 a1), ar_t (WA_12 a1), e7, rdI (show 7 * k < 1792 by omega) (by decide), q1, ck_t (PrS a4), rf_t (PrP_3 a4), ck_t (PrS a3), rf_t (PrP_3 a3), ck_t (PrA_3 a3), rf_t (PeP_0 a3), ar_t (PeA_0 a3), rdP (show e < 8 by omega) (by decide), rf_t hH.1, ck_t hH.2, rf_t sx1, ck_t (PrA_3 a4), bC_t eH, show oNI (some e') = nI e' from rfl, if_neg (show ¬ nI e' < (0 : Int32) from nI_nlt (b := 0) (by omega) (by omega)), rf_t (PrP_3 a3), rf_t (PrP_3 a4), ck_t (PrA_3 a3), bC_t s1, skA, rf_t (WP_12 a1), rf_t (WP_12 a1), ar_t (WA_12 a1), ar_t (WA_12 a1), e7, ck_t (show ¬ nI (7 * k) < (0 : Int32) from nI_nlt (b := 0) (by omega) (by omega)), ck_t (show ¬ nI (7 * i1) < (0 : Int32) from nI_nlt (b := 0) (by omega) (by omega)), ck_t (by decide), ck_t (show (nI (7 * k)).toNatClampNeg + ((7 : Int32)).toNatClampNeg ≤ 1792 by rw [cN (by omega), c7]; omega), ck_t (show (nI (7 * i1)).toNatClampNeg + ((7 : Int32)).toNatClampNeg ≤ 1792 by rw [cN (by omega), c7]; omega), bnd_t, ec, rf_t (WP_12 WC), ar_t (WA_12 WC), wrI (show 7 * i1 < 1792 by omega) (by decide)]
        unfold B_World_carryEvents_107
        rw [nI_1, nI_1]
      obtain ⟨B3, m1, m2, m3, m4, m5, m6, m7⟩ := ev_pends (N := N) (u := u) (uk := uk) (k := k) (K := i1) (v1 := nI e') (v2 := B.D (u + 6) k) (v3 := B.D (u + 7) k) (by omega) (by omega) (by omega) (by omega) c2 c1 bk
      have eB : B_M_carries_270 N 517 (nB + 1) u uk (nI k) B = if bI b' = 0 then B_M_carries_270 N 517 nB u uk (nI (k + 1)) B else B_M_carries_270 N 517 nB u uk (nI (k + 1)) B3 := by
        rw [B_M_carries_270, ck_t (US c1), bnd_t, b8, if_neg (nI_ge (by omega) (by omega)), ck_t g3, rf_t g2, rf_t g1, rf_t g1, ck_t (TS c3), rf_t (TP_22 c3), rf_t (UP_9 c1), ar_t (UA_9 c1), rdI (show k < 256 by omega) (by decide), q5, ar_t (TA_22 c3), rdI (show e < 8 by omega) (by decide), t1, ck_t (TS c4), bC_t eT, show oNI (some e') = nI e' from rfl, if_neg (show ¬ nI e' < (0 : Int32) from nI_nlt (b := 0) (by omega) (by omega)), rf_t g2, rf_t g1, rf_t (UP_9 c1), ar_t (UA_9 c1), rdI (show k < 256 by omega) (by decide), q5, ck_t (TS c4), bC_t s1', skB, rf_t (UP_10 c1), ar_t (UA_10 c1), rdI (show k < 256 by omega) (by decide), rf_t (UP_11 c1), ar_t (UA_11 c1), rdI (show k < 256 by omega) (by decide), rf_t (UP_12 c1), ck_t (US c2), show (4 : Int32) * nI k = nI (4 * k) from nI_mu 4 k, bC_t m1, skB]
      cases hb : b' with
      | false =>
        rw [hb, if_pos bI_f] at eA eB
        exact next A B hC' hD' same.rf same.rf i1 (by omega) a13 bk (fun x y1 y2 => pk x (by omega) y2) pi eA eB
      | true =>
        have lk := s2.mp hb
        rw [hb, if_neg bI_t0] at eA eB
        have cA : ∀ f, (A.cpy (wo + 4) (wo + 4) (7 * k) (7 * i1) 7).D (wo + 4) f = if 7 * i1 ≤ f ∧ f < 7 * i1 + 7 then A.D (wo + 4) (7 * k + (f - 7 * i1)) else A.D (wo + 4) f := fun f => by
          rw [cpy_Dq, if_pos rfl]
          rfl
        have dA : ∀ a f, a ≠ wo + 4 → (A.cpy (wo + 4) (wo + 4) (7 * k) (7 * i1) 7).D a f = A.D a f := fun a f z => by rw [cpy_Dq, if_neg z]
        have sA : same (fun a f => a = wo + 4 ∨ (a = wo ∧ f = 13)) A (A.cpy (wo + 4) (wo + 4) (7 * k) (7 * i1) 7) := ⟨fun a f z => dA a f (fun x => z (.inl x)), rfl, rfl, rfl, rfl⟩
        generalize A.cpy (wo + 4) (wo + 4) (7 * k) (7 * i1) 7 = Am at *
        have sA2 : same (fun a f => a = wo + 4 ∨ (a = wo ∧ f = 13)) A (Am.sD (wo + 4) (7 * i1) (nI e')) := sA.sD (.inl rfl)
        have v0 : (Am.sD (wo + 4) (7 * i1) (nI e')).D (wo + 4) (7 * i1) = nI e' := rds
        have vn : ∀ f, f ≠ 7 * i1 → (Am.sD (wo + 4) (7 * i1) (nI e')).D (wo + 4) f = Am.D (wo + 4) f := fun f y => rdf y
        have vw : (Am.sD (wo + 4) (7 * i1) (nI e')).D wo 13 = nI P := by rw [rdw (by omega), dA _ _ (by omega)]; exact a13
        generalize Am.sD (wo + 4) (7 * i1) (nI e') = A3 at *
        refine next A3 B3 (hC'.fr hF' sA2 (fun a f z => by omega)) (hD'.fr hG' m2 (fun a f z => by unfold MVB at z; omega)) sA2 (m2.mono fun a f y => by unfold MVB at y; omega) (i1 + 1) (by omega) vw m3 (fun x y1 y2 => (pk x (by omega) y2).fr (fun f z1 z2 => by rw [vn f (by omega), cA, if_neg (by omega)]) (fun a f z => m2.1 _ _ (by unfold MVB; omega)) e1) (fun x hx => ?_) eA eB
        by_cases z : x = i1
        · subst z
          have h10 := (e1.2.2.2.2.2.2.2.1 e he).1
          refine ⟨⟨by rw [v0, m4], ?_, ?_, fun y q y1 y2 y3 => ?_, e', he', m4⟩, fun y q y1 y2 y3 y4 => ?_⟩
          · rw [vn _ (by omega), cA, if_pos (by omega), m5, ← q2, show 7 * k + (7 * x + 1 - 7 * x) = 7 * k + 1 by omega]
          · rw [vn _ (by omega), cA, if_pos (by omega), m6, ← q3, show 7 * k + (7 * x + 2 - 7 * x) = 7 * k + 2 by omega]
          · rw [m4] at y1
            have ey : e' = y := (nI_eq (by omega) (by omega)).mp y1
            subst ey
            have := lk.1
            rw [vn _ (by omega), cA, if_pos (by omega), m7 q (by omega), ← q4 e q q5 he (by omega), show 7 * k + (7 * x + 3 + q - 7 * x) = 7 * k + 3 + q by omega]
          · rw [m4] at y1
            have ey : e' = y := (nI_eq (by omega) (by omega)).mp y1
            subst ey
            have := lk.1
            rw [m7 q (by omega)]
            exact q6 e q q5 he (by omega) (by rw [lk.2 q (by omega)]; exact y4)
        · exact (pi x (by omega)).fr (fun f z1 z2 => by rw [vn f (by omega), cA, if_neg (by omega)]) (fun a f z => m2.1 _ _ (by unfold MVB; omega)) e2
end Par
