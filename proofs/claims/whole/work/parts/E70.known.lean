/-! ===== known numbers, counted ===== -/
/-- how many generations below x of place q are in S -/
def cnS (S : Nat → Nat) (q : Nat) : Nat → Nat
  | 0 => 0
  | x + 1 => cnS S q x + (if S (256 * x + q) = 1 then 1 else 0)
/-- S has at most n members -/
def BNS (S : Nat → Nat) (n : Nat) : Prop := ∃ F : Nat → Nat, ∀ y, S y = 1 → ∃ k, k < n ∧ F k = y
theorem cnS_s {S : Nat → Nat} {q x : Nat} : cnS S q (x + 1) = cnS S q x + (if S (256 * x + q) = 1 then 1 else 0) := rfl
theorem cnS_le {S : Nat → Nat} {q a : Nat} : ∀ j, cnS S q a ≤ cnS S q (a + j) := by
  intro j
  induction j with
  | zero => exact Nat.le_refl _
  | succ j ih =>
    rw [show a + (j + 1) = a + j + 1 by omega, cnS_s]
    omega
theorem cnS_ge {S : Nat → Nat} {q a : Nat} : ∀ j, (∀ i, a ≤ i → i < a + j → S (256 * i + q) = 1) → cnS S q a + j ≤ cnS S q (a + j) := by
  intro j
  induction j with
  | zero => intro _; exact Nat.le_refl _
  | succ j ih =>
    intro h
    have := ih (fun i y1 y2 => h i y1 (by omega))
    rw [show a + (j + 1) = a + j + 1 by omega, cnS_s, if_pos (h (a + j) (by omega) (by omega))]
    omega
theorem cnS_dr {S : Nat → Nat} {q z : Nat} : ∀ x, cnS S q x ≤ cnS (fun y => if y = z then 0 else S y) q x + 1 ∧ ((∀ i, i < x → 256 * i + q ≠ z) → cnS S q x = cnS (fun y => if y = z then 0 else S y) q x) := by
  intro x
  induction x with
  | zero => exact ⟨Nat.zero_le _, fun _ => rfl⟩
  | succ x ih =>
    rw [cnS_s, cnS_s]
    by_cases y : 256 * x + q = z
    · have e := ih.2 (fun i hi => by omega)
      refine ⟨?_, fun h => absurd y (h x (by omega))⟩
      rw [e]
      have : (if S (256 * x + q) = 1 then 1 else 0) ≤ 1 := by split <;> omega
      omega
    · have e2 : (if (if 256 * x + q = z then 0 else S (256 * x + q)) = 1 then 1 else 0) = (if S (256 * x + q) = 1 then 1 else 0) := by rw [if_neg y]
      rw [e2]
      refine ⟨by omega, fun h => ?_⟩
      rw [ih.2 (fun i hi => h i (by omega))]
theorem cnS_bn {q x : Nat} : ∀ n S, BNS S n → cnS S q x ≤ n := by
  intro n
  induction n with
  | zero =>
    intro S ⟨F, h⟩
    have : ∀ x, cnS S q x = 0 := fun x => by
      induction x with
      | zero => rfl
      | succ x ih =>
        rw [cnS_s, ih, if_neg (fun y => by obtain ⟨k, hk, -⟩ := h _ y; omega)]
    rw [this x]
    exact Nat.le_refl _
  | succ n ih =>
    intro S ⟨F, h⟩
    have := ih (fun y => if y = F n then 0 else S y) ⟨F, fun y hy => by
      dsimp only at hy
      by_cases z : y = F n
      · rw [if_pos z] at hy
        exact absurd hy (by decide)
      · rw [if_neg z] at hy
        obtain ⟨k, hk, hF⟩ := h y hy
        exact ⟨k, by
          by_cases k2 : k = n
          · rw [k2] at hF
            exact absurd hF.symm z
          · omega, hF⟩⟩
    have := (cnS_dr (S := S) (q := q) (z := F n) x).1
    omega
/-- no number, one of S, or one that is or was an entity's -/
def KN (S : Nat → Nat) (Q : Nat → Nat → Nat) (y : Nat) : Prop := y = 4294967295 ∨ S y = 1 ∨ (y < 2147483648 ∧ y / 256 ≤ Q 0 (y % 256))
def Sof (S : Nat → Nat) (Q : Nat → Nat → Nat) : Nat → Nat := fun y => if y = 4294967295 ∨ S y = 1 ∨ (y < 2147483648 ∧ y / 256 ≤ Q 0 (y % 256)) then 1 else 0
def sE (E : Nat → Nat → Nat) (S : Nat → Nat) : Nat → Nat → Nat := fun x y => if x = 2000 then S y else E x y
theorem Sof_k {S : Nat → Nat} {Q : Nat → Nat → Nat} {y : Nat} : Sof S Q y = 1 ↔ KN S Q y := by
  unfold Sof KN
  split
  · exact ⟨fun _ => by assumption, fun _ => rfl⟩
  · exact ⟨fun h => absurd h (by decide), fun h => absurd h (by assumption)⟩
theorem SVx_k {S : Nat → Nat} {E Q : Nat → Nat → Nat} {v : Int32} : SVx (sE E (Sof S Q)) v ↔ KN S Q (ixv v) := Sof_k
theorem ixv_n {n : Nat} (h : n < 4294967296) : ixv (nI n) = n := by
  show (nI n).toBitVec.toNat = n
  have : (nI n).toBitVec = BitVec.ofNat 32 n := rfl
  rw [this, BitVec.toNat_ofNat]
  omega
theorem ixv_m : ixv (-1) = 4294967295 := by decide
theorem KN.mono {S : Nat → Nat} {Q Q2 : Nat → Nat → Nat} {y : Nat} (h : KN S Q y) (hQ : ∀ q, q < 256 → Q 0 q ≤ Q2 0 q) : KN S Q2 y := by
  rcases h with h | h | ⟨h1, h2⟩
  · exact .inl h
  · exact .inr (.inl h)
  · exact .inr (.inr ⟨h1, Nat.le_trans h2 (hQ _ (by omega))⟩)
/-- a future generation that is known is in S -/
theorem KN.fut {S : Nat → Nat} {Q : Nat → Nat → Nat} {q i : Nat} (hq : q < 256) (hi : i < 8388608) (hQ : Q 0 q < i) (h : KN S Q (ixv (nI (256 * i + q)))) : S (256 * i + q) = 1 := by
  rw [ixv_n (by omega)] at h
  rcases h with h | h | ⟨h1, h2⟩
  · omega
  · exact h
  · rw [show (256 * i + q) / 256 = i by omega, show (256 * i + q) % 256 = q by omega] at h2
    omega
/-- generations: at most c raised without S -/
def GNV (S : Nat → Nat) (c : Nat) (Q : Nat → Nat → Nat) : Prop := ∀ q, q < 256 → Q 0 q ≤ c + cnS S q (Q 0 q)
/-- what the world holds of kind 4 -/
def RVB (S : Nat → Nat) (E Q : Nat → Nat → Nat) (B : Hp) (u : Nat) : Prop :=
  (∀ q c m, q < 256 → Q 1 q = 1 → Q 2 q / 2 ^ c % 2 = 1 → mOf E c m → E 6 m = 4 → KN S Q (ixv (B.D (u + 4) (48 * q + m)))) ∧
  (∀ k, k < Q 5 2 → ∀ e q, B.D (u + 5) k = nI e → e < E 9 0 → q < E 10 e → E 12 (4 * e + q) = 4 → KN S Q (ixv (B.D (u + 8) (4 * k + q)))) ∧ PEV E Q B u
/-- no generation goes too far -/
theorem GNV.gen {S : Nat → Nat} {c n : Nat} {Q : Nat → Nat → Nat} (h : GNV S c Q) (hb : BNS S n) (hc : n + c + 2 < 8388608) {q x : Nat} (hq : q < 256) (hQ : Q 0 q < 8388608) (hx : Q 0 q ≤ x) (hk : ∀ i, Q 0 q < i → i ≤ x → KN S Q (ixv (nI (256 * i + q)))) : x + 1 < 8388608 := by
  refine Decidable.byContradiction fun z => ?_
  have h1 := h q hq
  have h0 := cnS_bn (q := q) (x := Q 0 q) n S hb
  obtain ⟨j, hj⟩ : ∃ j, Q 0 q + 1 + j = 8388607 := ⟨8388607 - (Q 0 q + 1), by omega⟩
  have h2 := cnS_ge (S := S) (q := q) (a := Q 0 q + 1) j (fun i y1 y2 => (hk i (by omega) (by omega)).fut hq (by omega) (by omega))
  have h3 := cnS_bn (q := q) (x := Q 0 q + 1 + j) n S hb
  have h4 := cnS_le (S := S) (q := q) (a := Q 0 q) 1
  omega
theorem GNV.up {S : Nat → Nat} {c : Nat} {Q Q3 : Nat → Nat → Nat} (h : GNV S c Q) (hl : ∀ q, q < 256 → Q3 0 q < 8388608) (hk : ∀ q, Q 0 q ≤ Q3 0 q ∧ ∀ i, Q 0 q < i → i < Q3 0 q → KN S Q (ixv (nI (256 * i + q)))) : GNV S (c + 1) Q3 := by
  intro q hq
  obtain ⟨k1, k2⟩ := hk q
  have h1 := h q hq
  have h3 := hl q hq
  by_cases y : Q3 0 q = Q 0 q
  · rw [y]
    omega
  · obtain ⟨j, hj⟩ : ∃ j, Q3 0 q = Q 0 q + 1 + j := ⟨Q3 0 q - (Q 0 q + 1), by omega⟩
    have h2 := cnS_ge (S := S) (q := q) (a := Q 0 q + 1) j (fun i y1 y2 => (k2 i (by omega) (by omega)).fut hq (by omega) (by omega))
    have h4 := cnS_le (S := S) (q := q) (a := Q 0 q) 1
    rw [hj]
    omega
section Par
variable {N p wo inp cs w u ir M K0 : Nat} {s pl : Int32} {ty mn nu cd : Nat → Int32} {E Q : Nat → Nat → Nat} {V : Nat → Nat → Int32} {nL lc : Nat} {lk : Nat → Nat} {hd : Nat → Int32}
/-- a group is run alike, and what is known -/
theorem grp_kn {S : Nat → Nat} {n c nb s0 s1 g la z : Nat} {A B : Hp} {Pv : Nat → Nat → Int32} (hb : BNS S nb) (hc : nb + c + 2 < 8388608) (hG : GNV S c Q) (hR : RVB S E Q B u) (hPv : PVN E Pv) (hE : WE E) (hM : M + 2 ≤ N) (hN : 2000000 ≤ N) (hw : wo ∈ lW) (hu : u ∈ lU) (hS : SYR M cs ty mn nu cd E) (hI : TKI p wo inp cs w u ir M ty mn nu cd E Q Pv A la z B) (h01 : s0 < s1) (hs1 : s1 ≤ E 17 0) (hg : g < 2 ^ 31) (h25 : ∀ x, x < E 17 0 → E 25 x < 2 ^ 31) (hx : ∀ x, s0 ≤ x → x < s1 → E 25 x = g) (hx0 : ∀ x, x < s0 → E 25 x ≠ g) (hx1 : ∀ x, s1 ≤ x → x < E 17 0 → E 25 x ≠ g) : ∃ A3 B3 Q3 la3 z3, F_Ticker_runGroup N 116 (nI g) A = some ((), A3) ∧ B_MRunner_tick_47 N 611 w u ir (n + 1) (nI s0) B = B_MRunner_tick_47 N 611 w u ir n (nI s1) B3 ∧ TKI p wo inp cs w u ir M ty mn nu cd E Q3 Pv A3 la3 z3 B3 ∧ RVB S E Q3 B3 u ∧ GNV S (c + 1) Q3 ∧ exS (TFA wo) A la z A3 la3 z3 ∧ same (TFB u) B B3 := by
  have pq : ∀ q, q < 256 → Q 0 q < 8388608 := fun q hq => (hI.2.2.1.1 q hq).2.1
  have hI' : TKI p wo inp cs w u ir M ty mn nu cd (sE E (Sof S Q)) Q Pv A la z B := hI
  have hE' : WE (sE E (Sof S Q)) := hE
  have hS' : SYR M cs ty mn nu cd (sE E (Sof S Q)) := hS
  have hP' : PVN (sE E (Sof S Q)) Pv := hPv
  have hK : LKG (SVx (sE E (Sof S Q))) (sE E (Sof S Q)) Q (vOf B u ir) := by
    refine ⟨SVx_k.mpr (by rw [ixv_m]; exact .inl rfl), fun q y1 y2 => SVx_k.mpr ?_, fun q c m y1 y2 y3 y4 y5 => SVx_k.mpr ?_, fun k hk e q y1 y2 y3 y4 => SVx_k.mpr ?_⟩
    · have := pq q y1
      rw [ixv_n (by omega)]
      exact .inr (.inr ⟨by omega, by rw [show (256 * Q 0 q + q) / 256 = Q 0 q by omega, show (256 * Q 0 q + q) % 256 = q by omega]; exact Nat.le_refl _⟩)
    · rw [vOf_q y1]
      exact hR.1 q c m y1 y2 y3 y4 y5
    · rw [vOf_k]
      exact hR.2.1 k hk e q y1 y2 y3 y4
  obtain ⟨A3, B3, Q3, la3, z3, r1, r2, r3, r4, r5, r6, r7⟩ := grp_all (N := N) (n := n) hP' hK hR.2.2 hE' hM hN hw hu hS' hI' h01 hs1 hg h25 hx hx0 hx1 (fun q x y0 y1 y2 => hG.gen hb hc y0 (pq q y0) y1 (fun i z1 z2 => SVx_k.mp (y2 i z1 z2)))
  have r3' : TKI p wo inp cs w u ir M ty mn nu cd E Q3 Pv A3 la3 z3 B3 := r3
  have mo : ∀ q, q < 256 → Q 0 q ≤ Q3 0 q := fun q _ => (r5 q).1
  exact ⟨A3, B3, Q3, la3, z3, r1, r2, r3', ⟨fun q c m y1 y2 y3 y4 y5 => (SVx_k.mp (r4.2.1 q c m y1 y2 y3 y4 y5)).mono mo, fun k hk e q y1 y2 y3 y4 => (SVx_k.mp (r4.2.2.1 k hk e q y1 y2 y3 y4)).mono mo, r4.2.2.2⟩, hG.up (fun q hq => (r3'.2.2.1.1 q hq).2.1) (fun q => ⟨(r5 q).1, fun i z1 z2 => SVx_k.mp ((r5 q).2 i z1 z2)⟩), r6, r7⟩
end Par
