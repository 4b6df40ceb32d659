/-! ===== a system over all places ===== -/
theorem bit_d {a c : Nat} : a / 2 ^ c % 2 = 1 ↔ a.testBit c = true := by
  rw [Nat.testBit_eq_decide_div_mod_eq, decide_eq_true_iff]
theorem and_sub {a x c : Nat} (h : a &&& x = x) (hx : x / 2 ^ c % 2 = 1) : a / 2 ^ c % 2 = 1 := by
  rw [bit_d] at hx ⊢
  rw [← h, Nat.testBit_and, Bool.and_eq_true] at hx
  exact hx.1
theorem and_lt {a x : Nat} (h : a < 65536) : a &&& x < 65536 := Nat.lt_of_le_of_lt Nat.and_le_left h
/-- the systems' numbers: class -/
def TSA (A : Hp) (p : Nat) (E : Nat → Nat → Nat) : Prop := A.D p 7 = nI (E 17 0) ∧ ∀ s, s < E 17 0 → A.D (p + 185) s = nI (E 18 s) ∧ A.D (p + 186) s = nI (E 19 s) ∧ A.D (p + 189) s = nI (E 23 s) ∧ A.D (p + 190) s = nI (E 25 s)
/-- the systems' numbers: reference -/
def TSB (B : Hp) (w : Nat) (E : Nat → Nat → Nat) : Prop := B.D w 29 = nI (E 17 0) ∧ ∀ s, s < E 17 0 → B.D (w + 21) s = nI (E 18 s) ∧ B.D (w + 22) s = nI (E 19 s) ∧ B.D (w + 26) s = nI (E 24 s) ∧ B.D (w + 27) s = nI (E 25 s)
/-- place q is a row of the system -/
def isr (E Q : Nat → Nat → Nat) (s q : Nat) : Prop := Q 1 q = 1 ∧ Q 2 q &&& E 18 s = E 18 s ∧ Q 2 q &&& E 19 s = 0
section Par
variable {N p wo inp cs w u ir M K0 : Nat} {s pl : Int32} {ty mn nu cd : Nat → Int32} {E Q : Nat → Nat → Nat} {V : Nat → Nat → Int32} {nL lc : Nat} {lk : Nat → Nat} {hd : Nat → Int32}
theorem ev_mat {A : Hp} {q x y : Nat} (h : isW A wo) (hP : PPL Q A wo) (hq : q < 256) (hx : x < 65536) (hy : y < 65536) : ∃ v, F_World_matches N wo (nI q) (nI x) (nI y) A = some (v, A) ∧ (v = 0 ↔ ¬ (Q 1 q = 1 ∧ Q 2 q &&& x = x ∧ Q 2 q &&& y = 0)) := by
  obtain ⟨p1, p2, p3, p4⟩ := hP q hq
  unfold F_World_matches
  rw [ck_t (WS h), rf_t (WP_8 h), ar_t (WA_8 h), rdI hq (by decide), p4]
  by_cases a : Q 1 q = 1
  · rw [if_pos a, if_neg (show ¬ nI (Q 2 q) < (0 : Int32) from nI_nlt (b := 0) (by omega) (by omega)), rf_t (WP_8 h), ar_t (WA_8 h), rdI hq (by decide), p4, if_pos a, nI_and _ _ (by omega)]
    by_cases b : Q 2 q &&& x = x
    · rw [if_pos (by rw [b]), rf_t (WP_8 h), ar_t (WA_8 h), rdI hq (by decide), p4, if_pos a, nI_and _ _ (by omega)]
      by_cases c : Q 2 q &&& y = 0
      · rw [if_pos (by rw [c]; rfl)]
        exact ⟨1, rfl, ⟨fun z => absurd z (by decide), fun z => absurd ⟨a, b, c⟩ z⟩⟩
      · rw [if_neg (show ¬ nI (Q 2 q &&& y) = (0 : Int32) from fun z => c ((nI_eq (b := 0) (by have := and_lt (x := y) p3; omega) (by decide)).mp z))]
        exact ⟨0, rfl, ⟨fun _ z => c z.2.2, fun _ => rfl⟩⟩
    · rw [if_neg (fun z => b ((nI_eq (by have := and_lt (x := x) p3; omega) (by omega)).mp z))]
      exact ⟨0, rfl, ⟨fun _ z => b z.2.1, fun _ => rfl⟩⟩
  · rw [if_neg a, if_pos (by decide)]
    exact ⟨0, rfl, ⟨fun _ z => a z.1, fun _ => rfl⟩⟩
theorem ev_isr {B : Hp} {q sy : Nat} (h : isU B u) (hT : isT B w) (hP : PPB Q B u) (hS : TSB B w E) (hE : WE E) (hq : q < 256) (hs : sy < E 17 0) : ∃ v, F_MText_isRow N w (nI sy) u (nI q) B = some (v, B) ∧ (v = 0 ↔ ¬ isr E Q sy q) := by
  obtain ⟨p1, p2, p3, p4, p5⟩ := hP q hq
  have w17 : E 17 0 ≤ 16 := hE.2.2.2.2.2.2.2.2.2.2.2.1
  obtain ⟨e1, e2, -⟩ := hE.2.2.2.2.2.2.2.2.2.2.2.2.1 sy hs
  obtain ⟨s1, s2, -⟩ := hS.2 sy hs
  unfold F_MText_isRow isr
  rw [ck_t (US h), rf_t (UP_5 h), ar_t (UA_5 h), rdI hq (by decide), p4]
  by_cases a : Q 1 q = 1
  · rw [if_pos a, if_neg (by decide), rf_t (UP_6 h), ar_t (UA_6 h), rdI hq (by decide), p5 a, ck_t (TS hT), rf_t (TP_30 hT), ar_t (TA_30 hT), rdI (show sy < 16 by omega) (by decide), s1, rf_t (TP_30 hT), ar_t (TA_30 hT), rdI (show sy < 16 by omega) (by decide), s1, nI_and _ _ (by omega)]
    by_cases b : Q 2 q &&& E 18 sy = E 18 sy
    · rw [if_pos (by rw [b]), rf_t (UP_6 h), ar_t (UA_6 h), rdI hq (by decide), p5 a, rf_t (TP_31 hT), ar_t (TA_31 hT), rdI (show sy < 16 by omega) (by decide), s2, nI_and _ _ (by omega)]
      by_cases c : Q 2 q &&& E 19 sy = 0
      · rw [if_pos (by rw [c]; rfl)]
        exact ⟨1, rfl, ⟨fun z => absurd z (by decide), fun z => absurd ⟨a, b, c⟩ z⟩⟩
      · rw [if_neg (show ¬ nI (Q 2 q &&& E 19 sy) = (0 : Int32) from fun z => c ((nI_eq (b := 0) (by have := and_lt (x := E 19 sy) p3; omega) (by decide)).mp z))]
        exact ⟨0, rfl, ⟨fun _ z => c z.2.2, fun _ => rfl⟩⟩
    · rw [if_neg (fun z => b ((nI_eq (by have := and_lt (x := E 18 sy) p3; omega) (by omega)).mp z))]
      exact ⟨0, rfl, ⟨fun _ z => b z.2.1, fun _ => rfl⟩⟩
  · rw [if_neg a, if_pos rfl]
    exact ⟨0, rfl, ⟨fun _ z => a z.1, fun _ => rfl⟩⟩
/-- both sides within a group -/
def GS (p wo inp cs w u ir M : Nat) (ty mn nu cd : Nat → Int32) (E Q : Nat → Nat → Nat) (V : Nat → Nat → Int32) (A : Hp) (la z : Nat) (B : Hp) (K : Nat) : Prop := GG p wo inp cs w u ir M ty mn nu cd E Q V A la z B K ∧ TSA A p E ∧ TSB B w E ∧ A.P 116 1 = .ref p ∧ A.P 116 2 = .ref wo
theorem TSA.fr {A A2 : Hp} {la z la2 z2 : Nat} (h : TSA A p E) (hp : p = 133 ∨ p = 325) (hw : wo ∈ lW) (hG : Gr A) (hL : LST A la z) (hs : exS (FRG wo) A la z A2 la2 z2) : TSA A2 p E := by
  have hwo := lW_le hw
  have hlen := hG.len
  have hla := hL.2.2.1
  have f : ∀ a x, p ≤ a → a ≤ p + 191 → A2.D a x = A.D a x := fun a x y1 y2 => hs.2.2.1 a x (by omega) (by unfold FRG; omega) (by omega)
  exact ⟨by rw [f _ _ (by omega) (by omega)]; exact h.1, fun s k => by rw [f _ _ (by omega) (by omega), f _ _ (by omega) (by omega), f _ _ (by omega) (by omega), f _ _ (by omega) (by omega)]; exact h.2 s k⟩
theorem TSB.fr {B B2 : Hp} (h : TSB B w E) (hw : w ∈ lT) (hu : u ∈ lU) (hs : same (FRH u) B B2) : TSB B2 w E := by
  have hw' := lT_le hw
  have hu' := lU_le hu
  have f : ∀ a x, w ≤ a → a ≤ w + 30 → B2.D a x = B.D a x := fun a x y1 y2 => hs.1 a x (by unfold FRH; omega)
  exact ⟨by rw [f _ _ (by omega) (by omega)]; exact h.1, fun s k => by rw [f _ _ (by omega) (by omega), f _ _ (by omega) (by omega), f _ _ (by omega) (by omega), f _ _ (by omega) (by omega)]; exact h.2 s k⟩
/-- the reference passes over dead places -/
theorem sys_tl {kq47 : Int32 → Hp → Option (Unit × Hp)} {kq70 : Int32 → Int32 → Hp → Option (Unit × Hp)} {l5 : Int32} {sy : Nat} {B : Hp} (h : RB B w u ir M ty mn nu) (hP : PPB Q B u) (hS : TSB B w E) (hE : WE E) (hs : sy < E 17 0) : ∀ r q f, q + r = 256 → (∀ x, q ≤ x → x < 256 → Q 1 x ≠ 1) → B_MRunner_tick_94 N 611 w u ir kq47 kq70 (f + r + 1) (nI sy) l5 (nI q) B = kq70 (nI sy + 1) l5 B := by
  intro r
  induction r with
  | zero =>
    intro q f hq _
    rw [B_MRunner_tick_94, if_pos (show (256 : Int32) ≤ nI q from nI_le (a := 256) (by omega) (by omega))]
  | succ r ih =>
    intro q f hq hx
    obtain ⟨v, e1, e2⟩ := ev_isr (N := N) (q := q) h.2.2.1 h.2.1 hP hS hE (by omega) hs
    rw [show f + (r + 1) + 1 = f + r + 1 + 1 by omega, B_MRunner_tick_94, if_neg (show ¬ (256 : Int32) ≤ nI q from nI_ge (b := 256) (by omega) (by decide)), ck_t (rS_611 h.1), rf_t h.2.2.2.2.1, ck_t (TS h.2.1), bC_t e1, if_pos (e2.mpr (fun y => hx q (by omega) (by omega) y.1))]
    unfold B_MRunner_tick_125
    rw [nI_1]
    exact ih (q + 1) f (by omega) (fun x y1 y2 => hx x (by omega) y2)
/-- one system -/
theorem sys_jo {kq10 kq47 : Int32 → Hp → Option (Unit × Hp)} {kq70 : Int32 → Int32 → Hp → Option (Unit × Hp)} {sy : Nat} (hE : WE E) (hM : M + 2 ≤ N) (hN : 2000000 ≤ N) (hp : p = 133 ∨ p = 325) (hw : wo ∈ lW) (hwT : w ∈ lT) (huU : u ∈ lU) (hS : SYR M cs ty mn nu cd E) (hsy : sy < E 17 0) :
    ∀ r q f1 f2 K V A la z B, q + r = Q 5 1 → r < f1 → 256 - q < f2 → K + 8 * r ≤ 32768 → GS p wo inp cs w u ir M ty mn nu cd E Q V A la z B K → ∃ A2 B2 la2 z2 V2 K2, B_Ticker_runGroup_23 N 116 (nI (E 25 sy)) kq10 f1 (nI sy) (nI q) A = kq10 (nI sy + 1) A2 ∧ B_MRunner_tick_94 N 611 w u ir kq47 kq70 f2 (nI sy) (nI (E 25 sy)) (nI q) B = kq70 (nI sy + 1) (nI (E 25 sy)) B2 ∧ exS (FRG wo) A la z A2 la2 z2 ∧ same (FRH u) B B2 ∧ K ≤ K2 ∧ K2 ≤ K + 8 * r ∧ (∀ x, x < 100 ∨ 356 ≤ x → V2 x = V x) ∧ GS p wo inp cs w u ir M ty mn nu cd E Q V2 A2 la2 z2 B2 K2 := by
  intro r
  have w17 : E 17 0 ≤ 16 := hE.2.2.2.2.2.2.2.2.2.2.2.1
  obtain ⟨e1, e2, -⟩ := hE.2.2.2.2.2.2.2.2.2.2.2.2.1 sy hsy
  induction r with
  | zero =>
    intro q f1 f2 K V A la z B hq h1 h2 hK hI
    obtain ⟨hG, hTA, hTB, h116, h117⟩ := hI
    have gA := hG.1
    have gB := hG.2.1
    have hC := gA.2.2.2.2.2.2.2.2.1.1
    obtain ⟨f1, rfl⟩ : ∃ f, f1 = f + 1 := ⟨f1 - 1, by omega⟩
    obtain ⟨f2, hf2⟩ : ∃ f, f2 = f + (256 - q) + 1 := ⟨f2 - (256 - q) - 1, by omega⟩
    refine ⟨A, B, la, z, V, K, ?_, ?_, exS.rf hG.2.2.1, same.rf, Nat.le_refl _, by omega, fun _ _ => rfl, hG, hTA, hTB, h116, h117⟩
    · rw [B_Ticker_runGroup_23, ck_t (rS_116 gA.1.1), rf_t h117, ck_t (WS gA.1.2.2.1), bnd_t, hC.1, if_pos (nI_le (by omega) (by have := hC.2.1; omega))]
      rfl
    · rw [hf2]
      exact sys_tl gB.1 gB.2.1 hTB hE hsy (256 - q) q f2 (by have := hC.2.1; omega) (fun x y1 y2 => hC.2.2 x (by omega) y2)
  | succ r ih =>
    intro q f1 f2 K V A la z B hq h1 h2 hK hI
    obtain ⟨hG, hTA, hTB, h116, h117⟩ := hI
    have gA := hG.1
    have gB := hG.2.1
    have hC := gA.2.2.2.2.2.2.2.2.1.1
    have q6 : q < 256 := by have := hC.2.1; omega
    obtain ⟨f1, rfl⟩ : ∃ f, f1 = f + 1 := ⟨f1 - 1, by omega⟩
    obtain ⟨f2, rfl⟩ : ∃ f, f2 = f + 1 := ⟨f2 - 1, by omega⟩
    have hW := gA.1.2.2.1
    have hPr := gA.1.2.1
    obtain ⟨t1, t2, t3, t4⟩ := hTA.2 sy hsy
    obtain ⟨v, v1, v2⟩ := ev_mat (N := N) (x := E 18 sy) (y := E 19 sy) hW gA.2.2.1 q6 e1 e2
    obtain ⟨v', v1', v2'⟩ := ev_isr (N := N) gB.1.2.2.1 gB.1.2.1 gB.2.1 hTB hE q6 hsy
    have eA : B_Ticker_runGroup_23 N 116 (nI (E 25 sy)) kq10 (f1 + 1) (nI sy) (nI q) A = (if v = (0 : Int32) then B_Ticker_runGroup_23 N 116 (nI (E 25 sy)) kq10 f1 (nI sy) (nI (q + 1)) A else bC (F_Row_runRow N 117 (nI sy) (nI q) A) fun _ H98 => B_Ticker_runGroup_23 N 116 (nI (E 25 sy)) kq10 f1 (nI sy) (nI (q + 1)) H98) := by
      rw [B_Ticker_runGroup_23, ck_t (rS_116 gA.1.1), rf_t h117, ck_t (WS hW), bnd_t, hC.1, if_neg (nI_ge (by omega) (by have := hC.2.1; omega)), rf_t h116, ck_t (PrS hPr), rf_t (PrP_14 hPr), ar_t (PrA_14 hPr), rdI (show sy < 16 by omega) (by decide), t4, if_pos rfl, rf_t h117, rf_t h116, ck_t (PrS hPr), rf_t (PrP_9 hPr), ar_t (PrA_9 hPr), rdI (show sy < 16 by omega) (by decide), t1, rf_t h116, ck_t (PrS hPr), rf_t (PrP_10 hPr), ar_t (PrA_10 hPr), rdI (show sy < 16 by omega) (by decide), t2, ck_t (WS hW), bC_t v1, rf_t (rP_116_0 gA.1.1), ck_t (rS_117 gA.1.1)]
      unfold B_Ticker_runGroup_85
      rw [nI_1]
    have eB : B_MRunner_tick_94 N 611 w u ir kq47 kq70 (f2 + 1) (nI sy) (nI (E 25 sy)) (nI q) B = (if v' = (0 : Int32) then B_MRunner_tick_94 N 611 w u ir kq47 kq70 f2 (nI sy) (nI (E 25 sy)) (nI (q + 1)) B else bC (F_MRunner_row N 611 (nI sy) (nI q) B) fun _ H83 => B_MRunner_tick_94 N 611 w u ir kq47 kq70 f2 (nI sy) (nI (E 25 sy)) (nI (q + 1)) H83) := by
      rw [B_MRunner_tick_94, if_neg (show ¬ (256 : Int32) ≤ nI q from nI_ge (b := 256) q6 (by decide)), ck_t (rS_611 gB.1.1), rf_t gB.1.2.2.2.2.1, ck_t (TS gB.1.2.1), bC_t v1']
      unfold B_MRunner_tick_125
      rw [nI_1]
    by_cases k : isr E Q sy q
    · rw [if_neg (fun y => v2.mp y k)] at eA
      rw [if_neg (fun y => v2'.mp y k)] at eB
      obtain ⟨A2, B2, la2, z2, V2, mk, r1, r2, r3, r4, r5, r6, r7⟩ := row_E hE hM hN hp hw hwT huU (show K + 8 ≤ 32768 by omega) hS hsy hG q6 k.1 (fun c y => and_sub k.2.1 y) t3 (hTB.2 sy hsy).2.2.1
      rw [bC_t r1] at eA
      rw [bC_t r2] at eB
      have hlen := gA.1.1.len
      have hI2 : GS p wo inp cs w u ir M ty mn nu cd E Q V2 A2 la2 z2 B2 (K + mk) := ⟨r7, hTA.fr hp hw gA.1.1 hG.2.2.1 r3, hTB.fr hwT huU r4, by rw [r3.2.2.2.1 116 1 (by omega) (by omega)]; exact h116, by rw [r3.2.2.2.1 116 2 (by omega) (by omega)]; exact h117⟩
      obtain ⟨A3, B3, la3, z3, V3, K3, s1, s2, s3, s4, s5, s6, s7, s8⟩ := ih (q + 1) f1 f2 (K + mk) V2 A2 la2 z2 B2 (by omega) (by omega) (by omega) (by omega) hI2
      exact ⟨A3, B3, la3, z3, V3, K3, eA.trans s1, eB.trans s2, r3.tr s3, r4.tr s4, by omega, by omega, fun x y => by rw [s7 x y, r6 x y], s8⟩
    · rw [if_pos (v2.mpr k)] at eA
      rw [if_pos (v2'.mpr k)] at eB
      obtain ⟨A3, B3, la3, z3, V3, K3, s1, s2, s3, s4, s5, s6, s7, s8⟩ := ih (q + 1) f1 f2 K V A la z B (by omega) (by omega) (by omega) (by omega) ⟨hG, hTA, hTB, h116, h117⟩
      exact ⟨A3, B3, la3, z3, V3, K3, eA.trans s1, eB.trans s2, s3, s4, s5, by omega, s7, s8⟩
end Par
