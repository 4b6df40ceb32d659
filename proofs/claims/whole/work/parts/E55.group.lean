/-! ===== the systems of a group ===== -/
section Par
variable {N p wo inp cs w u ir M K0 : Nat} {s pl : Int32} {ty mn nu cd : Nat → Int32} {E Q : Nat → Nat → Nat} {V : Nat → Nat → Int32} {nL lc : Nat} {lk : Nat → Nat} {hd : Nat → Int32}
theorem nI_ne {a b : Nat} (ha : a < 2 ^ 31) (hb : b < 2 ^ 31) (h : a ≠ b) : ¬ nI a = nI b := fun z => h ((nI_eq ha hb).mp z)
/-- the class passes over systems of other groups -/
theorem g_skip {A : Hp} {sy g f K la z : Nat} {B : Hp} (hE : WE E) (hN : 2000000 ≤ N) (hsy : sy < E 17 0) (h25 : E 25 sy < 2 ^ 31) (hg : g < 2 ^ 31) (hne : E 25 sy ≠ g) (hI : GS p wo inp cs w u ir M ty mn nu cd E Q V A la z B K) : B_Ticker_runGroup_10 N 116 (nI g) (f + 1) (nI sy) A = B_Ticker_runGroup_10 N 116 (nI g) f (nI (sy + 1)) A := by
  obtain ⟨hG, hTA, hTB, h116, h117⟩ := hI
  have gA := hG.1
  have hC := gA.2.2.2.2.2.2.2.2.1.1
  have hW := gA.1.2.2.1
  have hPr := gA.1.2.1
  have w17 : E 17 0 ≤ 16 := hE.2.2.2.2.2.2.2.2.2.2.2.1
  obtain ⟨t1, t2, t3, t4⟩ := hTA.2 sy hsy
  obtain ⟨n, hn⟩ : ∃ n, N = n + 1 := ⟨N - 1, by omega⟩
  rw [B_Ticker_runGroup_10, ck_t (rS_116 gA.1.1), rf_t h116, ck_t (PrS hPr), bnd_t, hTA.1, if_neg (nI_ge hsy (by omega))]
  have e : ∀ m, B_Ticker_runGroup_23 N 116 (nI g) (fun l2 H => B_Ticker_runGroup_10 N 116 (nI g) f l2 H) (m + 1) (nI sy) 0 A = B_Ticker_runGroup_10 N 116 (nI g) f (nI (sy + 1)) A := fun m => by
    rw [B_Ticker_runGroup_23, ck_t (rS_116 gA.1.1), rf_t h117, ck_t (WS hW), bnd_t, hC.1, rf_t h116, ck_t (PrS hPr), rf_t (PrP_14 hPr), ar_t (PrA_14 hPr), rdI (show sy < 16 by omega) (by decide), t4, if_neg (nI_ne h25 hg hne), ite_self]
    unfold B_Ticker_runGroup_91
    rw [nI_1]
  have := e n
  rw [← hn] at this
  exact this
theorem g_skips {A : Hp} {g K la z s1 : Nat} {B : Hp} (hE : WE E) (hN : 2000000 ≤ N) (h25 : ∀ x, x < E 17 0 → E 25 x < 2 ^ 31) (hg : g < 2 ^ 31) (hs1 : s1 ≤ E 17 0) (hI : GS p wo inp cs w u ir M ty mn nu cd E Q V A la z B K) : ∀ r s f, s + r = s1 → (∀ x, s ≤ x → x < s1 → E 25 x ≠ g) → B_Ticker_runGroup_10 N 116 (nI g) (f + r) (nI s) A = B_Ticker_runGroup_10 N 116 (nI g) f (nI s1) A := by
  intro r
  induction r with
  | zero => intro s f hs _; rw [show s = s1 by omega]; rfl
  | succ r ih =>
    intro s f hs hx
    rw [show f + (r + 1) = f + r + 1 by omega, g_skip hE hN (by omega) (h25 s (by omega)) hg (hx s (by omega) (by omega)) hI]
    exact ih (s + 1) f (by omega) (fun x y1 y2 => hx x (by omega) y2)
/-- the systems of group g, from s to s1 -/
theorem grp_jo {kq47 : Int32 → Hp → Option (Unit × Hp)} {g s1 : Nat} (hE : WE E) (hM : M + 2 ≤ N) (hN : 2000000 ≤ N) (hp : p = 133 ∨ p = 325) (hw : wo ∈ lW) (hwT : w ∈ lT) (huU : u ∈ lU) (hS : SYR M cs ty mn nu cd E) (hs1 : s1 ≤ E 17 0) :
    ∀ r s f1 f2 K V A la z B, s + r = s1 → (∀ x, s ≤ x → x < s1 → E 25 x = g) → K + 2048 * r ≤ 32768 → GS p wo inp cs w u ir M ty mn nu cd E Q V A la z B K → ∃ A2 B2 la2 z2 V2 K2, B_Ticker_runGroup_10 N 116 (nI g) (f1 + r) (nI s) A = B_Ticker_runGroup_10 N 116 (nI g) f1 (nI s1) A2 ∧ B_MRunner_tick_70 N 611 w u ir kq47 (f2 + r) (nI s) (nI g) B = B_MRunner_tick_70 N 611 w u ir kq47 f2 (nI s1) (nI g) B2 ∧ exS (FRG wo) A la z A2 la2 z2 ∧ same (FRH u) B B2 ∧ K ≤ K2 ∧ K2 ≤ K + 2048 * r ∧ (∀ x, x < 100 ∨ 356 ≤ x → V2 x = V x) ∧ GS p wo inp cs w u ir M ty mn nu cd E Q V2 A2 la2 z2 B2 K2 := by
  intro r
  have w17 : E 17 0 ≤ 16 := hE.2.2.2.2.2.2.2.2.2.2.2.1
  induction r with
  | zero =>
    intro s f1 f2 K V A la z B hs _ hK hI
    rw [show s = s1 by omega]
    exact ⟨A, B, la, z, V, K, rfl, rfl, exS.rf hI.1.2.2.1, same.rf, Nat.le_refl _, by omega, fun _ _ => rfl, hI⟩
  | succ r ih =>
    intro s f1 f2 K V A la z B hs hx hK hI
    have hI' := hI
    obtain ⟨hG, hTA, hTB, h116, h117⟩ := hI
    have gA := hG.1
    have gB := hG.2.1
    have hC := gA.2.2.2.2.2.2.2.2.1.1
    have hPr := gA.1.2.1
    have hT := gB.1.2.1
    have eg := hx s (by omega) (by omega)
    have eA : B_Ticker_runGroup_10 N 116 (nI g) (f1 + r + 1) (nI s) A = B_Ticker_runGroup_23 N 116 (nI (E 25 s)) (fun l2 H => B_Ticker_runGroup_10 N 116 (nI g) (f1 + r) l2 H) N (nI s) (nI 0) A := by
      rw [B_Ticker_runGroup_10, ck_t (rS_116 gA.1.1), rf_t h116, ck_t (PrS hPr), bnd_t, hTA.1, if_neg (nI_ge (by omega) (by omega)), eg]
      rfl
    have eB : B_MRunner_tick_70 N 611 w u ir kq47 (f2 + r + 1) (nI s) (nI g) B = B_MRunner_tick_94 N 611 w u ir kq47 (fun l4 l5 H => B_MRunner_tick_70 N 611 w u ir kq47 (f2 + r) l4 l5 H) N (nI s) (nI (E 25 s)) (nI 0) B := by
      rw [B_MRunner_tick_70, ck_t (TS hT), bnd_t, hTB.1, if_neg (nI_ge (by omega) (by omega)), rf_t (TP_36 hT), ar_t (TA_36 hT), rdI (show s < 16 by omega) (by decide), (hTB.2 s (by omega)).2.2.2, eg, if_pos rfl]
      rfl
    have top := hC.2.1
    obtain ⟨A2, B2, la2, z2, V2, K2, r1, r2, r3, r4, r5, r6, r7, r8⟩ := sys_jo (kq10 := fun l2 H => B_Ticker_runGroup_10 N 116 (nI g) (f1 + r) l2 H) (kq47 := kq47) (kq70 := fun l4 l5 H => B_MRunner_tick_70 N 611 w u ir kq47 (f2 + r) l4 l5 H) (sy := s) hE hM hN hp hw hwT huU hS (by omega) (Q 5 1) 0 N N K V A la z B (by omega) (by omega) (by omega) (by omega) hI'
    obtain ⟨A3, B3, la3, z3, V3, K3, s1', s2, s3, s4, s5, s6, s7, s8⟩ := ih (s + 1) f1 f2 K2 V2 A2 la2 z2 B2 (by omega) (fun x y1 y2 => hx x (by omega) y2) (by omega) r8
    refine ⟨A3, B3, la3, z3, V3, K3, ?_, ?_, r3.tr s3, r4.tr s4, by omega, by omega, fun x y => by rw [s7 x y, r7 x y], s8⟩
    · rw [show f1 + (r + 1) = f1 + r + 1 by omega, eA, r1, nI_1]
      exact s1'
    · rw [show f2 + (r + 1) = f2 + r + 1 by omega, eB, r2, nI_1, eg]
      exact s2
end Par
