/-! ===== a row: both sides at its start ===== -/
def rQ (Q : Nat → Nat → Nat) (q0 : Nat) : Nat → Nat → Nat := fun x y => if x = 4 then q0 else Q x y
def rV (V : Nat → Nat → Int32) (sy num : Int32) (q0 : Nat) : Nat → Nat → Int32 := fun x y => if x = 2 then sy else if x = 9 then num else if x = 5 then V (100 + q0) y else V x y
theorem rQ_o {Q : Nat → Nat → Nat} {q0 x : Nat} (h : x ≠ 4) : rQ Q q0 x = Q x := by
  funext y
  exact if_neg h
theorem rV_o {V : Nat → Nat → Int32} {sy num : Int32} {q0 x : Nat} (h : x ≠ 2) (h1 : x ≠ 9) (h2 : x ≠ 5) : rV V sy num q0 x = V x := by
  funext y
  unfold rV
  rw [if_neg h, if_neg h1, if_neg h2]
/-- what the world holds of kind 4 is known -/
def LKG (S : Int32 → Prop) (E Q : Nat → Nat → Nat) (V : Nat → Nat → Int32) : Prop :=
  S (-1) ∧ (∀ q, q < 256 → Q 1 q = 1 → S (nI (256 * Q 0 q + q))) ∧
  (∀ q c m, q < 256 → Q 1 q = 1 → Q 2 q / 2 ^ c % 2 = 1 → mOf E c m → E 6 m = 4 → S (V (100 + q) m)) ∧
  (∀ k, k < Q 5 2 → ∀ e q, V 20 k = nI e → e < E 9 0 → q < E 10 e → E 12 (4 * e + q) = 4 → S (V (400 + k) q))
theorem LKG.ext {S : Int32 → Prop} {Es E Q : Nat → Nat → Nat} {V : Nat → Nat → Int32} (h : LKG S E Q V) (hE : WE Es) (hX : ExtE Es E) : LKG S Es Q V := by
  obtain ⟨h1, h2, h3, h4⟩ := h
  have hX' := hX
  obtain ⟨x1, x2, x3, x4, x5, x6, x7, x8, x9, x10, x11, x12⟩ := hX
  exact ⟨h1, h2, fun q c m y1 y2 y3 y4 y5 => h3 q c m y1 y2 y3 (y4.ext hX') (by rw [x3 m (mOf_lt hE y4).1]; exact y5), fun k hk e q y1 y2 y3 y4 => h4 k hk e q y1 (by omega) (by rw [x6 e y2]; exact y3) (by rw [x7 e q y2 y3]; exact y4)⟩
/-- the class's world and text between rows -/
def GA (A : Hp) (p wo inp cs : Nat) (cd : Nat → Int32) (E Q : Nat → Nat → Nat) (V : Nat → Nat → Int32) : Prop :=
  VS0 A p wo inp cs ∧ p ≠ 117 ∧ PPL Q A wo ∧ (A.D wo 0 = V 0 0 ∧ A.D wo 1 = V 1 0) ∧ (∀ x, x < 4 → A.D inp x = V 7 x) ∧ (A.D wo 10 = nI (Q 5 0) ∧ Q 5 0 ≤ 48) ∧
  (∀ q c m, q < 256 → Q 1 q = 1 → Q 2 q / 2 ^ c % 2 = 1 → mOf E c m → A.D (wo + 3) (q * Q 5 0 + m) = V (100 + q) m) ∧ (∀ x, x < cs → A.D (p + 191) x = cd x) ∧ WXA A wo E Q V ∧ TXA A p E
/-- the reference's world and text between rows -/
def GB (B : Hp) (w u ir M : Nat) (ty mn nu : Nat → Int32) (E Q : Nat → Nat → Nat) (V : Nat → Nat → Int32) : Prop :=
  RB B w u ir M ty mn nu ∧ PPB Q B u ∧ (B.D u 0 = V 0 0 ∧ B.D u 1 = V 1 0) ∧ (∀ x, x < 4 → B.D ir x = V 7 x) ∧
  (∀ q c m, q < 256 → Q 1 q = 1 → Q 2 q / 2 ^ c % 2 = 1 → mOf E c m → B.D (u + 4) (48 * q + m) = V (100 + q) m) ∧ WXB B u E Q V ∧ TXB B w E
section Par
variable {N p wo inp cs w u ir M K0 : Nat} {s pl : Int32} {ty mn nu cd : Nat → Int32} {E Q : Nat → Nat → Nat} {V : Nat → Nat → Int32} {nL lc : Nat} {lk : Nat → Nat} {hd : Nat → Int32}
theorem LKG.row {q0 : Nat} {sy num : Int32} (h : LKG (SV E) E Q V) (hq : q0 < 256) (ha : Q 1 q0 = 1) (h18b : ∀ c, E 18 (E 17 0 - 1) / 2 ^ c % 2 = 1 → Q 2 q0 / 2 ^ c % 2 = 1) (hn : num = nI (256 * Q 0 q0 + q0)) : LKV E (rQ Q q0) (rV V sy num q0) 0 0 hd := by
  obtain ⟨h1, h2, h3, h4⟩ := h
  refine ⟨⟨h1, ?_, fun q y1 y2 => ?_, fun q c m y1 y2 y3 y4 y5 y6 => ?_, fun k hk e q y1 y2 y3 y4 => ?_⟩, fun c m y1 y2 y3 => ?_, fun n y => by omega, fun e l q y1 => absurd y1.1 (by omega)⟩
  · show SV E num
    rw [hn]
    exact h2 q0 hq ha
  · rw [rQ_o (by decide)] at y2
    rw [rQ_o (by decide)]
    exact h2 q y1 y2
  · rw [rQ_o (by decide)] at y2 y3
    rw [rV_o (by omega) (by omega) (by omega)]
    exact h3 q c m y1 y2 y3 y4 y6
  · rw [rQ_o (by decide)] at hk
    rw [rV_o (by decide) (by decide) (by decide)] at y1
    rw [rV_o (by omega) (by omega) (by omega)]
    exact h4 k hk e q y1 y2 y3 y4
  · show SV E (V (100 + q0) m)
    exact h3 q0 c m hq ha (h18b c y2) y1 y3
theorem GA.sa {A A0 : Hp} {q0 sy : Nat} {num : Int32} (h : GA A p wo inp cs cd E Q V) (hp : p = 133 ∨ p = 325) (hw : wo ∈ lW) (hs : same (fun a f => (a = 117 ∧ (f = 6 ∨ (12 ≤ f ∧ f ≤ 18))) ∨ a = 124) A A0) (h17 : A0.D 117 17 = nI sy) (h18 : A0.D 117 18 = nI q0) (hq : q0 < 256) (hn : (256 : Int32) * A.D (wo + 1) q0 + nI q0 = num) (ha : Q 1 q0 = 1) (h18b : ∀ c, E 18 (E 17 0 - 1) / 2 ^ c % 2 = 1 → Q 2 q0 / 2 ^ c % 2 = 1) (kL : LKV E (rQ Q q0) (rV V (nI sy) num q0) 0 0 hd) : SA A0 p wo inp cs cd E (rQ Q q0) (rV V (nI sy) num q0) 0 0 hd := by
  obtain ⟨a1, a2, a3, ⟨a4, a5⟩, a6, ⟨a7, a8⟩, a9, a10, ⟨⟨b1, b2, b3⟩, ⟨b4, b5⟩, b6, b7⟩, c1, c2, c3⟩ := h
  have hwo := lW_le hw
  have hG := a1.1
  have hi : A.sh[inp]? = some (100, 4) := a1.2.2.2.2.2.2.1
  have i7 := a1.i.1
  have i24 : inp ≠ 124 := fun y => by
    rw [y, rA_117_11 hG] at hi
    exact absurd (congrArg Prod.snd (Option.some.inj hi)) (by decide)
  have f : ∀ a x, a ≠ 117 → a ≠ 124 → A0.D a x = A.D a x := fun a x z1 z2 => hs.1 a x (fun y => by omega)
  have hv : VS0 A0 p wo inp cs := a1.fr hp hw (hs.gr hG) (fun f _ _ => by rw [hs.2.1]) (fun s y => by rw [hs.2.2.2.1]; exact y) (f p 17 (by omega) (by omega))
  have q4 : rQ Q q0 4 0 = q0 := if_pos rfl
  refine ⟨⟨hv, a2, ?_, ⟨by rw [q4]; exact h18, by rw [q4]; exact hq, ?_, h17, ?_, ?_⟩, fun x k => ?_, ⟨?_, ?_⟩, fun c m k1 k2 => ?_, fun q c m k1 k2 k3 k4 k5 => ?_, fun n k => by omega, fun e l k1 k2 => absurd k1.1 (by omega), fun x k => ?_⟩, ⟨⟨?_, ?_, ?_⟩, ⟨?_, ?_⟩, ?_, ?_⟩, ⟨fun c k => ?_, ?_, fun e k => ?_⟩, kL⟩
  · intro q hq
    rw [f _ _ (by omega) (by omega), f _ _ (by omega) (by omega), rQ_o (by decide), rQ_o (by decide), rQ_o (by decide)]
    exact a3 q hq
  · rw [q4, f _ _ (by omega) (by omega)]
    exact hn
  · rw [f _ _ (by omega) (by omega), rV_o (by decide) (by decide) (by decide)]; exact a4
  · rw [f _ _ (by omega) (by omega), rV_o (by decide) (by decide) (by decide)]; exact a5
  · rw [f _ _ i7 i24, rV_o (by decide) (by decide) (by decide)]; exact a6 x k
  · rw [f _ _ (by omega) (by omega), rQ_o (by decide)]; exact a7
  · rw [rQ_o (by decide)]; exact a8
  · rw [q4, rQ_o (by decide), f _ _ (by omega) (by omega)]
    exact a9 q0 c m hq ha (h18b c k2) k1
  · rw [rQ_o (by decide)] at k2 k3
    rw [rQ_o (by decide), f _ _ (by omega) (by omega), rV_o (by omega) (by omega) (by omega)]
    exact a9 q c m k1 k2 k3 k4
  · rw [f _ _ (by omega) (by omega)]; exact a10 x k
  · rw [f _ _ (by omega) (by omega), rQ_o (by decide)]; exact b1
  · rw [rQ_o (by decide)]; exact b2
  · rw [rQ_o (by decide), rQ_o (by decide)]; exact b3
  · rw [f _ _ (by omega) (by omega), rQ_o (by decide)]; exact b4
  · rw [rQ_o (by decide)]; exact b5
  · rw [rQ_o (by decide)]; exact b6
  · rw [rQ_o (by decide)]
    intro k hk
    rw [rV_o (by decide) (by decide) (by decide), rV_o (by decide) (by decide) (by decide), rV_o (by decide) (by decide) (by decide), rV_o (by omega) (by omega) (by omega)]
    obtain ⟨m0, m1, m2, m3⟩ := b7 k hk
    exact ⟨by rw [f _ _ (by omega) (by omega)]; exact m0, by rw [f _ _ (by omega) (by omega)]; exact m1, by rw [f _ _ (by omega) (by omega)]; exact m2, fun e q y1 y2 y3 => by rw [f _ _ (by omega) (by omega)]; exact m3 e q y1 y2 y3⟩
  · rw [f _ _ (by omega) (by omega)]; exact c1 c k
  · obtain ⟨C, x1, x2, x3⟩ := c2
    exact ⟨C, by rw [f _ _ (by omega) (by omega)]; exact x1, x2, x3⟩
  · rw [f _ _ (by omega) (by omega)]; exact c3 e k
theorem GB.sb {B B0 : Hp} {q0 sy : Nat} {num : Int32} (h : GB B w u ir M ty mn nu E Q V) (hF : (FIX N p wo w u K0 M E)) (hs : same (fun a f => (a = 611 ∧ 5 ≤ f ∧ f ≤ 12) ∨ a = 613) B B0) (h5 : B0.D 611 5 = nI sy) (h6 : B0.D 611 6 = num) (hq : q0 < 256) (ho : ∀ x, x < 48 → B0.D 613 x = B.D (u + 4) (48 * q0 + x)) (ha : Q 1 q0 = 1) (h18b : ∀ c, E 18 (E 17 0 - 1) / 2 ^ c % 2 = 1 → Q 2 q0 / 2 ^ c % 2 = 1) : SB B0 w u ir M ty mn nu E (rQ Q q0) (rV V (nI sy) num q0) 0 0 hd := by
  obtain ⟨a1, a2, ⟨a3, a4⟩, a5, a6, ⟨b1, b2⟩, c1, c2, c3, c4⟩ := h
  have hw := lT_le hF.2.2.2.2.2.1
  have hu := lU_le hF.2.2.2.2.2.2.1
  have hG := a1.1
  have hi : B.sh[ir]? = some (100, 4) := a1.2.2.2.2.2.2.1
  have i6 : ir ≠ 611 ∧ ir ≠ 613 := by
    refine ⟨fun y => ?_, fun y => ?_⟩
    · rw [y, rS_611 hG] at hi; exact absurd (congrArg Prod.fst (Option.some.inj hi)) (by decide)
    · rw [y, rA_611_13 hG] at hi; exact absurd (congrArg Prod.snd (Option.some.inj hi)) (by decide)
  have f : ∀ a x, a ≠ 611 → a ≠ 613 → B0.D a x = B.D a x := fun a x z1 z2 => hs.1 a x (fun y => by omega)
  refine ⟨⟨a1.sm hs (fun i => by omega), ?_, by omega, ⟨h6, h5, ?_, ?_⟩, fun x k => ?_, fun c m k1 k2 => ?_, fun q c m k1 k2 k3 k4 k5 => ?_, fun n k => by omega, fun e l k1 k2 => absurd k1.1 (by omega)⟩, ⟨?_, ?_⟩, fun c k => ?_, fun m k => ?_, fun e k => ?_, fun e q k1 k2 => ?_⟩
  · intro q hq
    rw [f _ _ (by omega) (by omega), f _ _ (by omega) (by omega), f _ _ (by omega) (by omega), rQ_o (by decide), rQ_o (by decide), rQ_o (by decide)]
    exact a2 q hq
  · rw [f _ _ (by omega) (by omega), rV_o (by decide) (by decide) (by decide)]; exact a3
  · rw [f _ _ (by omega) (by omega), rV_o (by decide) (by decide) (by decide)]; exact a4
  · rw [f _ _ i6.1 i6.2, rV_o (by decide) (by decide) (by decide)]; exact a5 x k
  · rw [ho m (mOf_lt hF.1 k1).2.1]
    exact a6 q0 c m hq ha (h18b c k2) k1
  · rw [rQ_o (by decide)] at k2 k3
    rw [f _ _ (by omega) (by omega), rV_o (by omega) (by omega) (by omega)]
    exact a6 q c m k1 k2 k3 k4
  · rw [f _ _ (by omega) (by omega), rQ_o (by decide)]; exact b1
  · rw [rQ_o (by decide)]
    intro k hk
    rw [rV_o (by decide) (by decide) (by decide), rV_o (by decide) (by decide) (by decide), rV_o (by decide) (by decide) (by decide), rV_o (by omega) (by omega) (by omega)]
    obtain ⟨m0, m1, m2, m3⟩ := b2 k hk
    exact ⟨by rw [f _ _ (by omega) (by omega)]; exact m0, by rw [f _ _ (by omega) (by omega)]; exact m1, by rw [f _ _ (by omega) (by omega)]; exact m2, fun e q y1 y2 y3 => by rw [f _ _ (by omega) (by omega)]; exact m3 e q y1 y2 y3⟩
  · rw [f _ _ (by omega) (by omega)]; exact c1 c k
  · rw [f _ _ (by omega) (by omega)]; exact c2 m k
  · rw [f _ _ (by omega) (by omega)]; exact c3 e k
  · rw [f _ _ (by omega) (by omega)]; exact c4 e q k1 k2
/-- the reference's row from its block on -/
def mrw (N : Nat) (s2 q2 : Int32) (r : Option (Unit × Hp)) : Option (Unit × Hp) := bC r fun _ H30 => bnd ((H30.D 611 10)) fun x31 => if x31 ≤ (0 : Int32) then B_MRunner_row_130 N 611 s2 q2 N 0 H30 else bnd ((H30.D 611 7)) fun x67 => bnd (H30.sD 611 4 x67) fun H68 => rf (H68.P 611 1) fun a69 => bnd ((H68.D 611 6)) fun x71 => bnd ((H68.D 611 10)) fun x72 => ck (H68.sh[a69]? = some (13, 0)) <| bC (F_MWorld_failed N a69 s2 x71 x72 H68) fun v75 H76 => some ((), H76)
theorem mrow_start {B : Hp} {sy q0 bt K0 : Nat} (h : RB B w u ir M ty mn nu) (hw : w ∈ lT) (hu : u ∈ lU) (hN : 300 ≤ N) (hs16 : sy < 16) (hq : q0 < 256) (h4 : B.D 611 4 = nI K0) (hbt : B.D (w + 26) sy = nI bt) : ∃ B0, F_MRunner_row N 611 (nI sy) (nI q0) B = mrw N (nI sy) (nI q0) (X_RunS N 24 611 B0) ∧ same (fun a f => (a = 611 ∧ 5 ≤ f ∧ f ≤ 12) ∨ a = 613) B B0 ∧ (B0.D 611 5 = nI sy ∧ B0.D 611 6 = (256 : Int32) * B.D (u + 1) q0 + nI q0 ∧ B0.D 611 7 = nI K0 ∧ B0.D 611 8 = 0 ∧ B0.D 611 9 = 0 ∧ B0.D 611 10 = 0 ∧ B0.D 611 11 = nI bt ∧ B0.D 611 12 = 0) ∧ ∀ x, x < 48 → B0.D 613 x = B.D (u + 4) (48 * q0 + x) := by
  have hw' := lT_le hw
  have hu' := lU_le hu
  have hG := h.1
  generalize hv : (256 : Int32) * B.D (u + 1) q0 + nI q0 = num
  generalize h15 : ((((((B.sD 611 5 (nI sy)).sD 611 6 num).sD 611 7 (nI K0)).sD 611 8 0).sD 611 9 0).sD 611 10 0).sD 611 12 0 = H15
  have s15 : same (fun a f => (a = 611 ∧ 5 ≤ f ∧ f ≤ 12) ∨ a = 613) B H15 := by
    rw [← h15]
    exact same.sD (same.sD (same.sD (same.sD (same.sD (same.sD (same.sD same.rf (.inl ⟨rfl, by omega⟩)) (.inl ⟨rfl, by omega⟩)) (.inl ⟨rfl, by omega⟩)) (.inl ⟨rfl, by omega⟩)) (.inl ⟨rfl, by omega⟩)) (.inl ⟨rfl, by omega⟩)) (.inl ⟨rfl, by omega⟩)
  have r15 : RB H15 w u ir M ty mn nu := h.sm s15 (fun i => by omega)
  have f15 : H15.D 611 5 = nI sy ∧ H15.D 611 6 = num ∧ H15.D 611 7 = nI K0 ∧ H15.D 611 8 = 0 ∧ H15.D 611 9 = 0 ∧ H15.D 611 10 = 0 ∧ H15.D 611 12 = 0 := by
    rw [← h15]
    refine ⟨?_, ?_, ?_, ?_, ?_, ?_, rds⟩
    · rw [rdf (by decide), rdf (by decide), rdf (by decide), rdf (by decide), rdf (by decide), rdf (by decide), rds]
    · rw [rdf (by decide), rdf (by decide), rdf (by decide), rdf (by decide), rdf (by decide), rds]
    · rw [rdf (by decide), rdf (by decide), rdf (by decide), rdf (by decide), rds]
    · rw [rdf (by decide), rdf (by decide), rdf (by decide), rds]
    · rw [rdf (by decide), rdf (by decide), rds]
    · rw [rdf (by decide), rds]
  obtain ⟨g, hg⟩ : ∃ g, N = g + 1 + 48 := ⟨N - 49, by omega⟩
  obtain ⟨B2, a1, a2, a3, a4⟩ := mrow_in (N := N) (s2 := nI sy) hq 48 0 (g + 1) H15 r15 hu rfl
  rw [← hg] at a1
  have r2 : RB B2 w u ir M ty mn nu := r15.sm a2 (fun i => by omega)
  have hT := r2.2.1
  have e : F_MRunner_row N 611 (nI sy) (nI q0) B = B_MRunner_row_47 N 611 (nI sy) (nI q0) N (nI 0) H15 := by
    have rA : RB (B.sD 611 5 (nI sy)) w u ir M ty mn nu := h.sm (R := fun a f => a = 611) (same.sD same.rf rfl) (fun i => by omega)
    unfold F_MRunner_row
    rw [ck_t (rS_611 hG), bnd_t, rf_t rA.2.2.2.2.1, ck_t (US rA.2.2.1), bC_t (ev_mnum rA.2.2.1 hq), rdw (show u + 1 ≠ 611 by omega), hv, bnd_t, bnd_t, rdf (by decide), rdf (by decide), h4, bnd_t, bnd_t, bnd_t, bnd_t, bnd_t, h15]
    rfl
  have d2 : ∀ f, B2.D 611 f = H15.D 611 f := fun f => a2.1 611 f (show ¬ (611 : Nat) = 613 by decide)
  refine ⟨B2.sD 611 11 (nI bt), ?_, same.sD (s15.tr (a2.mono (fun a f z => .inr z))) (.inl ⟨rfl, by omega⟩), ⟨?_, ?_, ?_, ?_, ?_, ?_, rds, ?_⟩, fun x hx => ?_⟩
  · rw [e, a1, B_MRunner_row_47, if_pos (show (48 : Int32) ≤ nI 48 by decide), ck_t (rS_611 r2.1), rf_t r2.2.2.2.1, ck_t (TS hT), rf_t (TP_35 hT), ar_t (TA_35 hT), rdI hs16 (by decide), show B2.D (w + 26) sy = nI bt from by rw [a2.1 (w + 26) sy (by omega), s15.1 (w + 26) sy (by omega)]; exact hbt, bnd_t]
    rfl
  · rw [rdf (by decide), d2]; exact f15.1
  · rw [rdf (by decide), d2]; exact f15.2.1
  · rw [rdf (by decide), d2]; exact f15.2.2.1
  · rw [rdf (by decide), d2]; exact f15.2.2.2.1
  · rw [rdf (by decide), d2]; exact f15.2.2.2.2.1
  · rw [rdf (by decide), d2]; exact f15.2.2.2.2.2.1
  · rw [rdf (by decide), d2]; exact f15.2.2.2.2.2.2
  · rw [rdw (by decide), a3 x (by omega) hx, s15.1 (u + 4) _ (by omega)]
end Par
