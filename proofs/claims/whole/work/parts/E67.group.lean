/-! ===== a group, whole ===== -/
/-- what a group changes: class -/
def TFA (wo a f : Nat) : Prop := a = 117 ∨ (119 ≤ a ∧ a ≤ 124) ∨ (wo + 1 ≤ a ∧ a ≤ wo + 5) ∨ (a = wo ∧ f ≠ 0 ∧ f ≠ 1 ∧ f ≠ 10)
/-- what a group changes: reference -/
def TFB (u a f : Nat) : Prop := (611 ≤ a ∧ a ≤ 614) ∨ (u + 1 ≤ a ∧ a ≤ u + 9) ∨ (a = u ∧ f ≠ 0 ∧ f ≠ 1)
section Par
variable {N p wo inp cs w u ir M K0 : Nat} {s pl : Int32} {ty mn nu cd : Nat → Int32} {E Q : Nat → Nat → Nat} {V : Nat → Nat → Int32} {nL lc : Nat} {lk : Nat → Nat} {hd : Nat → Int32}
/-- a listed drop names a known number -/
theorem GS.ldr {A2 B2 : Hp} {V2 : Nat → Nat → Int32} {la2 z2 K q i : Nat} (h2 : GS p wo inp cs w u ir M ty mn nu cd E Q V2 A2 la2 z2 B2 K) (h : LDR B2 K q i) : SVx E (nI (256 * i + q)) := by
  obtain ⟨k, hk, k1, k2⟩ := h
  have c := h2.1.2.2.2.2.2.2.1 k hk
  unfold crowx crowg at c
  dsimp only at c
  rw [Nat.add_zero, Nat.add_zero, k1, k2] at c
  rcases c with ⟨c1, c2, -⟩ | ⟨c1, c2, c3, c4⟩ | ⟨c, c1, c2 | c2, -⟩ | ⟨c, m, c1, c2, c3, -⟩ | ⟨e, t, c1, c2, c3, c4, c5, -⟩ | ⟨c1, c2, -⟩
  · exact absurd c2 (by decide)
  · exact c4
  · exact absurd c2.2 (by decide)
  · exact absurd c2.2 (by decide)
  · exact absurd c3 (by decide)
  · exact absurd c5 (by decide)
  · exact absurd c2 (by decide)
theorem grp_all {n s0 s1 g la z : Nat} {A B : Hp} {Pv : Nat → Nat → Int32} (hPv : PVN E Pv) (hK : LKG (SVx E) E Q (vOf B u ir)) (hPe : PEV E Q B u) (hE : WE E) (hM : M + 2 ≤ N) (hN : 2000000 ≤ N) (hw : wo ∈ lW) (hu : u ∈ lU) (hS : SYR M cs ty mn nu cd E) (hI : TKI p wo inp cs w u ir M ty mn nu cd E Q Pv A la z B) (h01 : s0 < s1) (hs1 : s1 ≤ E 17 0) (hg : g < 2 ^ 31) (h25 : ∀ x, x < E 17 0 → E 25 x < 2 ^ 31) (hx : ∀ x, s0 ≤ x → x < s1 → E 25 x = g) (hx0 : ∀ x, x < s0 → E 25 x ≠ g) (hx1 : ∀ x, s1 ≤ x → x < E 17 0 → E 25 x ≠ g)
    (hgen : ∀ q x, q < 256 → Q 0 q ≤ x → (∀ i, Q 0 q < i → i ≤ x → SVx E (nI (256 * i + q))) → x + 1 < 8388608) : ∃ A3 B3 Q3 la3 z3, F_Ticker_runGroup N 116 (nI g) A = some ((), A3) ∧ B_MRunner_tick_47 N 611 w u ir (n + 1) (nI s0) B = B_MRunner_tick_47 N 611 w u ir n (nI s1) B3 ∧ TKI p wo inp cs w u ir M ty mn nu cd E Q3 Pv A3 la3 z3 B3 ∧ LKC E Q3 B3 u ∧ (∀ q, Q 0 q ≤ Q3 0 q ∧ ∀ i, Q 0 q < i → i < Q3 0 q → SVx E (nI (256 * i + q))) ∧ exS (TFA wo) A la z A3 la3 z3 ∧ same (TFB u) B B3 := by
  have w17 : E 17 0 ≤ 16 := hE.2.2.2.2.2.2.2.2.2.2.2.1
  have hp := hI.2.2.2.1.1
  have hwT := hI.2.2.2.1.2.1
  have hwo := lW_le hw
  have hu' := lU_le hu
  have I1 : TKI p wo inp cs w u ir M ty mn nu cd E Q Pv (A.sD 117 1 0) la z (B.sD 611 4 0) := hI.z hw hu (same.rf.sD rfl) (same.rf.sD rfl)
  have G1 := I1.gs rds rds (by
    have e : vOf (B.sD 611 4 0) u ir = vOf B u ir := by
      have nr : ir ≠ 611 := fun k => by
        have s4 := hI.2.1.2.2.2.2.2.2.1
        rw [k, rS_611 hI.2.1.1] at s4
        exact absurd s4 (by decide)
      funext x y
      unfold vOf
      rw [rdw (show u ≠ 611 by omega), rdw (show u ≠ 611 by omega), rdw nr, rdw (show u + 5 ≠ 611 by omega), rdw (show u + 6 ≠ 611 by omega), rdw (show u + 7 ≠ 611 by omega), rdw (show u + 4 ≠ 611 by omega), rdw (show u + 8 ≠ 611 by omega)]
    rw [e]
    exact hK)
  have hGA := hI.1.1
  have hGB := hI.2.1.1
  have T := hI.2.1.2.1
  have t27 := hI.2.2.2.2.2.2.1
  have eA : F_Ticker_runGroup N 116 (nI g) A = B_Ticker_runGroup_10 N 116 (nI g) N (nI 0) (A.sD 117 1 0) := by
    unfold F_Ticker_runGroup
    rw [ck_t (rS_116 hGA), rf_t (rP_116_0 hGA), ck_t (rS_117 hGA), bnd_t]
    rfl
  have eB : B_MRunner_tick_47 N 611 w u ir (n + 1) (nI s0) B = B_MRunner_tick_70 N 611 w u ir (fun l4 H => B_MRunner_tick_47 N 611 w u ir n l4 H) N (nI s0) (nI g) (B.sD 611 4 0) := by
    rw [B_MRunner_tick_47, ck_t (TS T), bnd_t, t27.1, if_neg (nI_ge (by omega) (by omega)), rf_t (TP_36 T), ar_t (TA_36 T), rdI (show s0 < 16 by omega) (by decide), (t27.2 s0 (by omega)).2.2.2, hx s0 (by omega) h01, ck_t (rS_611 hGB), bnd_t]
  obtain ⟨n1, hn1⟩ : ∃ n1, N = n1 + 1 + (E 17 0 - s1) + (s1 - s0) + s0 := ⟨N - 1 - (E 17 0 - s1) - (s1 - s0) - s0, by omega⟩
  obtain ⟨n2, hn2⟩ : ∃ n2, N = n2 + 1 + (s1 - s0) := ⟨N - 1 - (s1 - s0), by omega⟩
  have k1 := g_skips (s1 := s0) hE hN h25 hg (by omega) G1 s0 0 (n1 + 1 + (E 17 0 - s1) + (s1 - s0)) (by omega) (fun x _ y => hx0 x y)
  obtain ⟨A2, B2, la2, z2, V2, K2, r1, r2, r3, r4, r5, r6, r7, r8⟩ := grp_jo (kq47 := fun l4 H => B_MRunner_tick_47 N 611 w u ir n l4 H) (g := g) hE hM hN hp hw hwT hu hS hs1 (s1 - s0) s0 (n1 + 1 + (E 17 0 - s1)) (n2 + 1) 0 _ _ la z _ (by omega) hx (by omega) G1
  have k2 := g_skips (s1 := E 17 0) hE hN h25 hg (by omega) r8 (E 17 0 - s1) s1 (n1 + 1) (by omega) (fun x y1 y2 => hx1 x y1 y2)
  have hAC := r8.aci I1 hE hw hu r3 r4 (by omega)
  have hPe2 : PEV E Q B2 u := fun k hk => by
    obtain ⟨e, e1, e2⟩ := hPe k hk
    exact ⟨e, e1, by rw [r4.1 _ _ (by unfold FRH; omega), rdw (by omega)]; exact e2⟩
  obtain ⟨A3, B3, Q3, q1, q2, q3, q4, q5, q6, q7, q9, q8⟩ := acs_jo (N := N) (ir := ir) (kq47 := fun l4 H => B_MRunner_tick_47 N 611 w u ir n l4 H) (g := nI g) (l4 := nI s1) (G := Q 0) (B0 := B2) hPv (by omega) hE (fun q x y0 y1 y2 => hgen q x y0 y1 (fun i z1 z2 => r8.ldr (y2 i z1 z2))) K2 0 N N A2 B2 Q (by omega) (by omega) (by omega) hAC rfl (r8.lkc hPe2) (fun q => ⟨Nat.le_refl _, fun i y1 y2 => by omega⟩)
  have r8' := r8
  obtain ⟨gG, gTA, gTB, g116, g117⟩ := r8
  have e99 : B_Ticker_runGroup_10 N 116 (nI g) (n1 + 1) (nI (E 17 0)) A2 = B_Ticker_runGroup_99 N 116 (nI g) N (nI 0) A2 := by
    rw [B_Ticker_runGroup_10, ck_t (rS_116 gG.1.1.1), rf_t g116, ck_t (PrS gG.1.1.2.1), bnd_t, gTA.1, if_pos (show nI (E 17 0) ≤ nI (E 17 0) from nI_le (by omega) (by omega))]
    rfl
  have T2 := gG.2.1.1.2.1
  have e140 : B_MRunner_tick_70 N 611 w u ir (fun l4 H => B_MRunner_tick_47 N 611 w u ir n l4 H) (n2 + 1) (nI s1) (nI g) B2 = B_MRunner_tick_140 N 611 w u ir (fun l4 H => B_MRunner_tick_47 N 611 w u ir n l4 H) N (nI s1) (nI 0) B2 := by
    rw [B_MRunner_tick_70, ck_t (TS T2), bnd_t, gTB.1]
    by_cases y : s1 < E 17 0
    · rw [if_neg (nI_ge (by omega) (by omega)), rf_t (TP_36 T2), ar_t (TA_36 T2), rdI (show s1 < 16 by omega) (by decide), (gTB.2 s1 y).2.2.2, if_neg (nI_ne (h25 s1 y) hg (hx1 s1 (by omega) y))]
      rfl
    · rw [if_pos (nI_le (by omega) (by omega))]
      rfl
  refine ⟨A3, B3, Q3, la2, z2, ?_, ?_, ACI.tki (A := A2) (B := B2) ⟨gG, gTA, gTB, g116, g117⟩ q5 q3 q4, q9, fun q => ⟨(q8 q).1, fun i z1 z2 => r8'.ldr ((q8 q).2 i z1 z2)⟩, ?_, ?_⟩
  · rw [eA]
    have : B_Ticker_runGroup_10 N 116 (nI g) (n1 + 1 + (E 17 0 - s1) + (s1 - s0) + s0) (nI 0) (A.sD 117 1 0) = some ((), A3) := by
      rw [k1, r1, k2, e99]
      exact q1
    rw [← hn1] at this
    exact this
  · rw [eB]
    have : B_MRunner_tick_70 N 611 w u ir (fun l4 H => B_MRunner_tick_47 N 611 w u ir n l4 H) (n2 + 1 + (s1 - s0)) (nI s0) (nI g) (B.sD 611 4 0) = B_MRunner_tick_47 N 611 w u ir n (nI s1) B3 := by
      rw [r2, e140]
      exact q2
    rw [← hn2] at this
    exact this
  · have e1 : exS (TFA wo) A la z (A.sD 117 1 0) la z := (same.sD same.rf (.inl rfl)).exS hI.2.2.2.2.2.2.2.1
    have e2 : exS (TFA wo) (A.sD 117 1 0) la z A2 la2 z2 := r3.mono fun a f y => by
      unfold FRG at y
      unfold TFA
      omega
    have e3 : exS (TFA wo) A2 la2 z2 A3 la2 z2 := (q3.mono fun a f y => by
      unfold WDA WCA at y
      unfold TFA
      omega).exS e2.1
    exact (e1.tr e2).tr e3
  · have e1 : same (TFB u) B (B.sD 611 4 0) := same.sD same.rf (.inl (by omega))
    have e2 : same (TFB u) (B.sD 611 4 0) B2 := r4.mono fun a f y => by
      unfold FRH at y
      unfold TFB
      omega
    exact (e1.tr e2).tr (q4.mono fun a f y => by
      unfold WDB WCB at y
      unfold TFB
      omega)
end Par
