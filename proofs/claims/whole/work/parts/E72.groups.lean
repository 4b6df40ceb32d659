/-! ===== a tick is run alike ===== -/
/-- groups follow one another -/
def GM (E : Nat → Nat → Nat) : Prop := (∀ s, s + 1 < E 17 0 → E 25 (s + 1) = E 25 s ∨ E 25 (s + 1) = E 25 s + 1) ∧ (0 < E 17 0 → E 25 0 = 0) ∧ E 26 0 = if E 17 0 = 0 then 0 else E 25 (E 17 0 - 1) + 1
theorem GRP.gm {E : Nat → Nat → Nat} (h : GRP E) : GM E := by
  obtain ⟨h1, h2⟩ := h
  refine ⟨fun s hs => ?_, fun h0 => ?_, ?_⟩
  · rw [h1 (s + 1) hs, h1 s (by omega)]
    have e : grp E (s + 1 + 1) = if (List.range (s + 1)).any (fun o => decide ((grp E (s + 1)).2 ≤ o) && apt E (s + 1) o) then ((grp E (s + 1)).1 + 1, s + 1) else grp E (s + 1) := rfl
    rw [e]
    split
    · exact .inr rfl
    · exact .inl rfl
  · rw [h1 0 h0]
    rfl
  · rw [h2]
    by_cases y : E 17 0 = 0
    · rw [if_pos y, if_pos y]
    · rw [if_neg y, if_neg y, h1 (E 17 0 - 1) (by omega), show E 17 0 - 1 + 1 = E 17 0 by omega]
theorem GM.mono {E : Nat → Nat → Nat} (h : GM E) {x : Nat} : ∀ j, x + j < E 17 0 → E 25 x ≤ E 25 (x + j) := by
  intro j
  induction j with
  | zero => intro _; exact Nat.le_refl _
  | succ j ih =>
    intro hj
    have := ih (by omega)
    rcases h.1 (x + j) (by omega) with y | y
    · rw [show x + (j + 1) = x + j + 1 by omega, y]; exact this
    · rw [show x + (j + 1) = x + j + 1 by omega, y]; omega
theorem GM.le {E : Nat → Nat → Nat} (h : GM E) {x y : Nat} (h1 : x ≤ y) (h2 : y < E 17 0) : E 25 x ≤ E 25 y := by
  obtain ⟨j, rfl⟩ : ∃ j, y = x + j := ⟨y - x, by omega⟩
  exact h.mono j h2
theorem GM.bd {E : Nat → Nat → Nat} (h : GM E) : ∀ x, x < E 17 0 → E 25 x ≤ x := by
  intro x
  induction x with
  | zero => intro h0; rw [h.2.1 h0]; exact Nat.le_refl _
  | succ x ih =>
    intro hx
    have := ih (by omega)
    rcases h.1 x hx with y | y <;> omega
/-- the end of a group -/
theorem GM.run {E : Nat → Nat → Nat} (h : GM E) {s0 : Nat} : ∀ j, s0 + 1 + j = E 17 0 → ∃ s1, s0 < s1 ∧ s1 ≤ E 17 0 ∧ (∀ x, s0 ≤ x → x < s1 → E 25 x = E 25 s0) ∧ (s1 < E 17 0 → E 25 s1 = E 25 s0 + 1) := by
  intro j
  induction j generalizing s0 with
  | zero => exact fun hj => ⟨s0 + 1, by omega, by omega, fun x y1 y2 => by rw [show x = s0 by omega], fun y => by omega⟩
  | succ j ih =>
    intro hj
    rcases h.1 s0 (by omega) with y | y
    · obtain ⟨s1, a1, a2, a3, a4⟩ := ih (s0 := s0 + 1) (by omega)
      rw [y] at a3 a4
      refine ⟨s1, by omega, a2, fun x y1 y2 => ?_, a4⟩
      by_cases z : x = s0
      · rw [z]
      · exact a3 x (by omega) y2
    · exact ⟨s0 + 1, by omega, by omega, fun x y1 y2 => by rw [show x = s0 by omega], fun _ => y⟩
/-- where the groups are: class at g, reference at s -/
def GAT (E : Nat → Nat → Nat) (g s : Nat) : Prop := s ≤ E 17 0 ∧ (s < E 17 0 → E 25 s = g) ∧ (∀ x, x < s → E 25 x < g) ∧ (s = E 17 0 → g = E 26 0)
theorem GM.at0 {E : Nat → Nat → Nat} (h : GM E) : GAT E 0 0 := by
  refine ⟨by omega, fun y => h.2.1 y, fun x y => by omega, fun y => ?_⟩
  rw [h.2.2, if_pos y.symm]
/-- the groups of a text's groups: at most 16 -/
theorem GM.n16 {E : Nat → Nat → Nat} (h : GM E) (h17 : E 17 0 ≤ 16) : E 26 0 ≤ 16 := by
  rw [h.2.2]
  split
  · omega
  · have := h.bd (E 17 0 - 1) (by omega)
    omega
section Par
variable {N p wo inp cs w u ir M K0 : Nat} {s pl : Int32} {ty mn nu cd : Nat → Int32} {E Q : Nat → Nat → Nat} {V : Nat → Nat → Int32} {nL lc : Nat} {lk : Nat → Nat} {hd : Nat → Int32}
/-- the loop over the groups -/
theorem tk_lp {S : Nat → Nat} {nb : Nat} {Pv : Nat → Nat → Int32} (hb : BNS S nb) (hPv : PVN E Pv) (hE : WE E) (hGM : GM E) (hM : M + 2 ≤ N) (hN : 2000000 ≤ N) (hw : wo ∈ lW) (hu : u ∈ lU) (hS : SYR M cs ty mn nu cd E) : ∀ j g s c fA fB A B Q la z, g + j = E 26 0 → GAT E g s → j < fA → j < fB → nb + c + j + 2 < 8388608 → TKI p wo inp cs w u ir M ty mn nu cd E Q Pv A la z B → A.D p 15 = nI (E 26 0) → RVB S E Q B u → GNV S c Q → ∃ A4 B4 Q4 la4 z4, B_Ticker_runTick_58 N 116 p wo inp fA (nI g) A = some ((), A4) ∧ B_MRunner_tick_47 N 611 w u ir fB (nI s) B = some ((), B4) ∧ TKI p wo inp cs w u ir M ty mn nu cd E Q4 Pv A4 la4 z4 B4 ∧ RVB S E Q4 B4 u ∧ GNV S (c + j) Q4 ∧ exS (TFA wo) A la z A4 la4 z4 ∧ same (TFB u) B B4 := by
  have w17 : E 17 0 ≤ 16 := hE.2.2.2.2.2.2.2.2.2.2.2.1
  have g16 := hGM.n16 w17
  have hwo := lW_le hw
  have hu' := lU_le hu
  intro j
  induction j with
  | zero =>
    intro g s c fA fB A B Q la z hg hat hfA hfB hc hI h15 hR hG
    obtain ⟨fA, rfl⟩ : ∃ y, fA = y + 1 := ⟨fA - 1, by omega⟩
    obtain ⟨fB, rfl⟩ : ∃ y, fB = y + 1 := ⟨fB - 1, by omega⟩
    have hs : s = E 17 0 := Decidable.byContradiction fun y => by
      obtain ⟨t1, t2, -, -⟩ := hat
      have e1 := t2 (by omega)
      have e2 := hGM.le (show s ≤ E 17 0 - 1 by omega) (by omega)
      have e3 := hGM.2.2
      rw [if_neg (by omega)] at e3
      omega
    obtain ⟨A2, B2, P2, r1, r2, r3, r4, r5, r6, r7⟩ := due_all (N := N) hE (by omega) hw hu hI hR
    have hGA := hI.1.1
    have hGB := hI.2.1.1
    have t3 := hI.2.2.2.1.2.2.1
    have T := hI.2.1.2.1
    have t27 := hI.2.2.2.2.2.2.1
    refine ⟨A2, B2, _, la, z, ?_, ?_, r6, r7, ?_, (r3.mono fun a f y => by unfold DDA at y; unfold TFA; omega).exS hI.2.2.2.2.2.2.2.1, r4.mono fun a f y => by unfold DDB at y; unfold TFB; omega⟩
    · rw [B_Ticker_runTick_58, ck_t (rS_116 hGA), rf_t t3, ck_t (PrS hI.1.2.1), bnd_t, h15, if_pos (nI_le (by omega) (by omega)), rf_t hI.2.2.2.2.2.2.2.2.1, ck_t (WS hI.1.2.2.1), bC_t r1]
    · rw [B_MRunner_tick_47, ck_t (TS T), bnd_t, t27.1, if_pos (nI_le (by omega) (by omega)), ck_t (rS_611 hGB), rf_t hI.2.1.2.2.2.2.1, ck_t (US hI.2.1.2.2.1), bC_t r2]
    · intro q hq
      rw [upR_o (by decide)]
      exact hG q hq
  | succ j ih =>
    intro g s c fA fB A B Q la z hg hat hfA hfB hc hI h15 hR hG
    obtain ⟨fA, rfl⟩ : ∃ y, fA = y + 1 := ⟨fA - 1, by omega⟩
    obtain ⟨fB, rfl⟩ : ∃ y, fB = y + 1 := ⟨fB - 1, by omega⟩
    obtain ⟨t1, t2, t3, t4⟩ := hat
    have hs : s < E 17 0 := Decidable.byContradiction fun y => by
      have := t4 (by omega)
      omega
    have eg := t2 hs
    obtain ⟨s1, b1, b2, b3, b4⟩ := hGM.run (s0 := s) (E 17 0 - (s + 1)) (by omega)
    rw [eg] at b3 b4
    obtain ⟨A3, B3, Q3, la3, z3, r1, r2, r3, r4, r5, r6, r7⟩ := grp_kn (N := N) (n := fB) (s0 := s) (s1 := s1) (g := g) hb (by omega) hG hR hPv hE hM hN hw hu hS hI b1 b2 (by omega) (fun x hx => by have := hGM.bd x hx; omega) b3 (fun x hx => by have := t3 x hx; omega) (fun x y1 y2 => by
      have e1 := b4 (by omega)
      have e2 := hGM.le y1 y2
      omega)
    have hGA := hI.1.1
    have t3' := hI.2.2.2.1.2.2.1
    have hp := hI.2.2.2.1.1
    have hlen := hGA.len
    have hla := hI.2.2.2.2.2.2.2.1.2.2.1
    have h15' : A3.D p 15 = nI (E 26 0) := by rw [r6.2.2.1 p 15 (by omega) (by unfold TFA; omega) (by omega)]; exact h15
    have hat' : GAT E (g + 1) s1 := by
      refine ⟨b2, fun y => b4 y, fun x y => ?_, fun y => ?_⟩
      · by_cases z : x < s
        · have := t3 x z; omega
        · rw [b3 x (by omega) y]; omega
      · have e3 := hGM.2.2
        rw [if_neg (by omega), b3 (E 17 0 - 1) (by omega) (by omega)] at e3
        omega
    obtain ⟨A4, B4, Q4, la4, z4, q1, q2, q3, q4, q5, q6, q7⟩ := ih (g + 1) s1 (c + 1) fA fB A3 B3 Q3 la3 z3 (by omega) hat' (by omega) (by omega) (by omega) r3 h15' r4 r5
    refine ⟨A4, B4, Q4, la4, z4, ?_, ?_, q3, q4, by rw [show c + (j + 1) = c + 1 + j by omega]; exact q5, r6.tr q6, r7.tr q7⟩
    · rw [B_Ticker_runTick_58, ck_t (rS_116 hGA), rf_t t3', ck_t (PrS hI.1.2.1), bnd_t, h15, if_neg (nI_ge (by omega) (by omega)), bC_t r1, nI_1]
      exact q1
    · rw [r2]
      exact q2
end Par
