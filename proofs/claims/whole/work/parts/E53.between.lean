/-! ===== a row, over the whole text's record ===== -/
/-- between rows: class -/
def FRG (wo a f : Nat) : Prop := a = 117 ∨ (119 ≤ a ∧ a ≤ 124) ∨ a = wo + 3 ∨ (a = wo ∧ (f = 2 ∨ f = 4 ∨ f = 5 ∨ f = 6))
/-- between rows: reference -/
def FRH (u a f : Nat) : Prop := (611 ≤ a ∧ a ≤ 614) ∨ a = u + 4 ∨ (a = u ∧ (f = 2 ∨ f = 13 ∨ f = 14 ∨ f = 15))
/-- every system of the text has its body -/
def SYR (M cs : Nat) (ty mn nu cd : Nat → Int32) (E : Nat → Nat → Nat) : Prop := ∀ sy, sy < E 17 0 → ∃ (Es : Nat → Nat → Nat) (e ce : Nat) (lk : Nat → Nat) (hd : Nat → Int32), ExtE Es E ∧ WE Es ∧ Es 17 0 = sy + 1 ∧ WRE Es ∧ e < M ∧ ce < cs ∧ cd ce = 0 ∧ DS ty mn nu cd Es 2 0 0 lk hd 0 (E 24 sy) e (E 23 sy) ce 0 lk
/-- a system's own record, and behind it the whole text's -/
def jnE (Es E : Nat → Nat → Nat) : Nat → Nat → Nat := fun x y => if x < 1000 then Es x y else E (x - 1000) y
theorem hi_jn {Es E : Nat → Nat → Nat} : hiE (jnE Es E) = E := by
  funext x y
  show (if 1000 + x < 1000 then Es (1000 + x) y else E (1000 + x - 1000) y) = E x y
  rw [if_neg (by omega), Nat.add_sub_cancel_left]
theorem DS.jn {ty mn nu cd : Nat → Int32} {Es E : Nat → Nat → Nat} {tg nL lc dp i j a b n2 : Nat} {lk k2 : Nat → Nat} {hd : Nat → Int32} (h : DS ty mn nu cd Es tg nL lc lk hd dp i j a b n2 k2) : DS ty mn nu cd (jnE Es E) tg nL lc lk hd dp i j a b n2 k2 := h
theorem ExtE.jn {Es E : Nat → Nat → Nat} (h : ExtE Es E) : ExtE (jnE Es E) E := h
theorem WE.jn {Es E : Nat → Nat → Nat} (h : WE Es) : WE (jnE Es E) := h
theorem WRE.jn {Es E : Nat → Nat → Nat} (h : WRE Es) : WRE (jnE Es E) := h
def CMX (A : Hp) (la : Nat) (B : Hp) (E : Nat → Nat → Nat) (tk : Int32) (K : Nat) : Prop := ∀ k, k < K → crowx E tk (fun x => A.D la (11 * k + x)) (fun x => B.D 612 (12 * k + x))
theorem CMX.jn {A B : Hp} {la K : Nat} {Es E : Nat → Nat → Nat} {tk : Int32} : CMR A la B (jnE Es E) tk K ↔ CMX A la B E tk K := by
  unfold CMR CMX crow
  rw [hi_jn]
section Par
variable {N p wo inp cs w u ir M K0 : Nat} {s pl : Int32} {ty mn nu cd : Nat → Int32} {E Q : Nat → Nat → Nat} {V : Nat → Nat → Int32} {nL lc : Nat} {lk : Nat → Nat} {hd : Nat → Int32}
theorem GA.ext {A : Hp} {Es : Nat → Nat → Nat} (h : GA A p wo inp cs cd E Q V) (hX : ExtE Es E) : GA A p wo inp cs cd Es Q V := by
  obtain ⟨a1, a2, a3, a4, a5, a6, a7, a8, ⟨b1, b2, b3, b4⟩, c1, ⟨C, c2, c3, c4⟩, c5⟩ := h
  have hX' := hX
  obtain ⟨x1, x2, x3, x4, x5, x6, x7, x8, x9, x10, x11, x12⟩ := hX
  refine ⟨a1, a2, a3, a4, a5, a6, fun q c m y1 y2 y3 y4 => a7 q c m y1 y2 y3 (y4.ext hX'), a8, ⟨b1, b2, fun c m y => b3 c m (y.ext hX'), fun k hk => ?_⟩, fun c y => ?_, ⟨C, c2, by omega, c4⟩, fun e y => ?_⟩
  · obtain ⟨m0, m1, m2, m3⟩ := b4 k hk
    exact ⟨m0, m1, m2, fun e q y1 y2 y3 => m3 e q y1 (by omega) (by rw [x6 e y2]; exact y3)⟩
  · rw [← x2 c y]; exact c1 c (by omega)
  · rw [← x5 e y]; exact c5 e (by omega)
theorem GB.ext {B : Hp} {Es : Nat → Nat → Nat} (h : GB B w u ir M ty mn nu E Q V) (hX : ExtE Es E) : GB B w u ir M ty mn nu Es Q V := by
  obtain ⟨a1, a2, a3, a4, a5, ⟨b1, b2⟩, c1, c2, c3, c4⟩ := h
  have hX' := hX
  obtain ⟨x1, x2, x3, x4, x5, x6, x7, x8, x9, x10, x11, x12⟩ := hX
  refine ⟨a1, a2, a3, a4, fun q c m y1 y2 y3 y4 => a5 q c m y1 y2 y3 (y4.ext hX'), ⟨b1, fun k hk => ?_⟩, fun c y => ?_, fun m y => ?_, fun e y => ?_, fun e q y1 y2 => ?_⟩
  · obtain ⟨m0, m1, m2, m3⟩ := b2 k hk
    exact ⟨m0, m1, m2, fun e q y1 y2 y3 => m3 e q y1 (by omega) (by rw [x6 e y2]; exact y3)⟩
  · rw [← x2 c y]; exact c1 c (by omega)
  · rw [← x3 m y]; exact c2 m (by omega)
  · rw [← x6 e y]; exact c3 e (by omega)
  · rw [← x7 e q y1 y2]; exact c4 e q (by omega) (by rw [x6 e y1]; exact y2)
theorem GA.fr {A A2 : Hp} {la z la2 z2 : Nat} {V2 : Nat → Nat → Int32} (h : GA A p wo inp cs cd E Q V) (hp : p = 133 ∨ p = 325) (hw : wo ∈ lW) (hL : LST A la z) (hs : exS (FRG wo) A la z A2 la2 z2) (hV : ∀ x, x < 100 ∨ 356 ≤ x → V2 x = V x) (hval : ∀ q c m, q < 256 → Q 1 q = 1 → Q 2 q / 2 ^ c % 2 = 1 → mOf E c m → A2.D (wo + 3) (q * Q 5 0 + m) = V2 (100 + q) m) : GA A2 p wo inp cs cd E Q V2 := by
  obtain ⟨a1, a2, a3, ⟨a4, a4'⟩, a5, ⟨a6, a6'⟩, a7, a8, ⟨⟨b1, b2, b3⟩, ⟨b4, b5⟩, b6, b7⟩, c1, ⟨C, c2, c3, c4⟩, c5⟩ := h
  have hwo := lW_le hw
  have hG := a1.1
  have hlen := hG.len
  have hla := hL.2.2.1
  have hi : A.sh[inp]? = some (100, 4) := a1.2.2.2.2.2.2.1
  have hil : inp < A.sh.length := (List.getElem?_eq_some_iff.mp hi).1
  have sz : ∀ b n, A.sh[b]? = some (100, n) → n ≠ 4 → inp ≠ b := fun b n y z y2 => by
    rw [y2, y] at hi
    exact z (congrArg Prod.snd (Option.some.inj hi))
  have i3 : inp ≠ la := by
    obtain ⟨t, -, ht⟩ := hL.2.2.2
    have := Nat.one_le_two_pow (n := t)
    exact sz la z hL.2.1 (by omega)
  have i0 := a1.i.1
  have j9 := sz 119 160 (rA_117_5 hG) (by decide)
  have j0 := sz 120 12 (rA_117_7 hG) (by decide)
  have j1 := sz 121 21 (rA_117_8 hG) (by decide)
  have j2 := sz 122 21 (rA_117_9 hG) (by decide)
  have j3 := sz 123 11 (rA_117_10 hG) (by decide)
  have j4 := sz 124 48 (rA_117_11 hG) (by decide)
  have jw : inp ≠ wo := fun y2 => by
    rw [y2, WS a1.2.2.1] at hi
    exact absurd (congrArg Prod.fst (Option.some.inj hi)) (by decide)
  have jw3 := sz (wo + 3) 12288 (WA_11 a1.2.2.1) (by decide)
  have f : ∀ a x, a < 626 → a ≠ 118 → ¬ FRG wo a x → A2.D a x = A.D a x := fun a x y1 y2 y3 => hs.2.2.1 a x (by omega) y3 (by omega)
  have fw : ∀ x, x = 0 ∨ x = 1 ∨ x = 9 ∨ x = 10 ∨ x = 13 → A2.D wo x = A.D wo x := fun x y => f wo x (by omega) (by omega) (by unfold FRG; omega)
  have fo : ∀ a x, a = wo + 1 ∨ a = wo + 2 ∨ a = wo + 4 ∨ (p ≤ a ∧ a ≤ p + 191) → A2.D a x = A.D a x := fun a x y => f a x (by omega) (by omega) (by unfold FRG; omega)
  have hv : VS0 A2 p wo inp cs := a1.fr hp hw (hs.gr hG) (fun f k1 k2 => hs.2.2.2.1 117 f (by omega) (by omega)) (fun s k => hs.get k) (fo p 17 (by omega))
  refine ⟨hv, a2, fun q hq => by rw [fo _ _ (by omega), fo _ _ (by omega)]; exact a3 q hq, ⟨by rw [fw 0 (by omega), hV 0 (by omega)]; exact a4, by rw [fw 1 (by omega), hV 1 (by omega)]; exact a4'⟩, fun x k => ?_, ⟨by rw [fw 10 (by omega)]; exact a6, a6'⟩, hval, fun x k => by rw [fo _ _ (by omega)]; exact a8 x k, ⟨⟨by rw [fw 9 (by omega)]; exact b1, b2, b3⟩, ⟨by rw [fw 13 (by omega)]; exact b4, b5⟩, b6, fun k hk => ?_⟩, fun c k => by rw [fo _ _ (by omega)]; exact c1 c k, ⟨C, by rw [fo _ _ (by omega)]; exact c2, c3, c4⟩, fun e k => by rw [fo _ _ (by omega)]; exact c5 e k⟩
  · rw [hs.2.2.1 inp x hil (by unfold FRG; omega) i3, hV 7 (by omega)]; exact a5 x k
  · obtain ⟨m0, m1, m2, m3⟩ := b7 k hk
    rw [hV 20 (by omega), hV 21 (by omega), hV 22 (by omega), hV (400 + k) (by omega)]
    exact ⟨by rw [fo _ _ (by omega)]; exact m0, by rw [fo _ _ (by omega)]; exact m1, by rw [fo _ _ (by omega)]; exact m2, fun e q y1 y2 y3 => by rw [fo _ _ (by omega)]; exact m3 e q y1 y2 y3⟩
theorem GB.fr {B B2 : Hp} {V2 : Nat → Nat → Int32} (h : GB B w u ir M ty mn nu E Q V) (hw : w ∈ lT) (hu : u ∈ lU) (hs : same (FRH u) B B2) (hV : ∀ x, x < 100 ∨ 356 ≤ x → V2 x = V x) (hval : ∀ q c m, q < 256 → Q 1 q = 1 → Q 2 q / 2 ^ c % 2 = 1 → mOf E c m → B2.D (u + 4) (48 * q + m) = V2 (100 + q) m) : GB B2 w u ir M ty mn nu E Q V2 := by
  obtain ⟨a1, a2, ⟨a3, a3'⟩, a4, a5, ⟨b1, b2⟩, c1, c2, c3, c4⟩ := h
  have hw' := lT_le hw
  have hu' := lU_le hu
  have hG := a1.1
  have hi : B.sh[ir]? = some (100, 4) := a1.2.2.2.2.2.2.1
  have sz : ∀ b n, B.sh[b]? = some (100, n) → n ≠ 4 → ir ≠ b := fun b n y z y2 => by
    rw [y2, y] at hi
    exact z (congrArg Prod.snd (Option.some.inj hi))
  have i0 : ir ≠ 611 := fun y => by rw [y, rS_611 hG] at hi; exact absurd (congrArg Prod.fst (Option.some.inj hi)) (by decide)
  have i1 := sz 612 393216 (rA_611_3 hG) (by decide)
  have i2 := sz 613 48 (rA_611_13 hG) (by decide)
  have i3 := sz 614 12 (rA_611_14 hG) (by decide)
  have i4 := sz (u + 4) 12288 (UA_7 a1.2.2.1) (by decide)
  have i5 : ir ≠ u := fun y => by rw [y, US a1.2.2.1] at hi; exact absurd (congrArg Prod.fst (Option.some.inj hi)) (by decide)
  have f : ∀ a x, ¬ FRH u a x → B2.D a x = B.D a x := fun a x y => hs.1 a x y
  have fo : ∀ a x, (w ≤ a ∧ a ≤ w + 30) ∨ (u < a ∧ a ≤ u + 9 ∧ a ≠ u + 4) ∨ (a = u ∧ (x = 0 ∨ x = 1 ∨ x = 8)) → B2.D a x = B.D a x := fun a x y => f a x (by unfold FRH; omega)
  refine ⟨a1.sm hs (fun i => by unfold FRH; omega), fun q hq => by rw [fo _ _ (by omega), fo _ _ (by omega), fo _ _ (by omega)]; exact a2 q hq, ⟨by rw [fo _ _ (by omega), hV 0 (by omega)]; exact a3, by rw [fo _ _ (by omega), hV 1 (by omega)]; exact a3'⟩, fun x k => by rw [f ir x (by unfold FRH; omega), hV 7 (by omega)]; exact a4 x k, hval, ⟨by rw [fo _ _ (by omega)]; exact b1, fun k hk => ?_⟩, fun c k => by rw [fo _ _ (by omega)]; exact c1 c k, fun m k => by rw [fo _ _ (by omega)]; exact c2 m k, fun e k => by rw [fo _ _ (by omega)]; exact c3 e k, fun e q k1 k2 => by rw [fo _ _ (by omega)]; exact c4 e q k1 k2⟩
  obtain ⟨m0, m1, m2, m3⟩ := b2 k hk
  rw [hV 20 (by omega), hV 21 (by omega), hV 22 (by omega), hV (400 + k) (by omega)]
  exact ⟨by rw [fo _ _ (by omega)]; exact m0, by rw [fo _ _ (by omega)]; exact m1, by rw [fo _ _ (by omega)]; exact m2, fun e q y1 y2 y3 => by rw [fo _ _ (by omega)]; exact m3 e q y1 y2 y3⟩
/-- both sides between rows, K commands listed -/
def GG (p wo inp cs w u ir M : Nat) (ty mn nu cd : Nat → Int32) (E Q : Nat → Nat → Nat) (V : Nat → Nat → Int32) (A : Hp) (la z : Nat) (B : Hp) (K : Nat) : Prop := GA A p wo inp cs cd E Q V ∧ GB B w u ir M ty mn nu E Q V ∧ LST A la z ∧ A.D 117 1 = nI K ∧ 11 * K ≤ z ∧ B.D 611 4 = nI K ∧ CMX A la B E (V 0 0) K ∧ FLR A wo B u ∧ LKG (SVx E) E Q V
theorem row_E {sy q0 la z K : Nat} {A B : Hp} (hE : WE E) (hM : M + 2 ≤ N) (hN : 2000000 ≤ N) (hp : p = 133 ∨ p = 325) (hw : wo ∈ lW) (hwT : w ∈ lT) (huU : u ∈ lU) (hK : K + 8 ≤ 32768) (hS : SYR M cs ty mn nu cd E) (hsy : sy < E 17 0) (hI : GG p wo inp cs w u ir M ty mn nu cd E Q V A la z B K) (hq : q0 < 256) (ha : Q 1 q0 = 1) (h18 : ∀ c, E 18 sy / 2 ^ c % 2 = 1 → Q 2 q0 / 2 ^ c % 2 = 1) (hst : A.D (p + 189) sy = nI (E 23 sy)) (hbt : B.D (w + 26) sy = nI (E 24 sy)) : ∃ A2 B2 la2 z2 V2 mk, F_Row_runRow N 117 (nI sy) (nI q0) A = some ((), A2) ∧ F_MRunner_row N 611 (nI sy) (nI q0) B = some ((), B2) ∧ exS (FRG wo) A la z A2 la2 z2 ∧ same (FRH u) B B2 ∧ mk ≤ 8 ∧ (∀ x, x < 100 ∨ 356 ≤ x → V2 x = V x) ∧ GG p wo inp cs w u ir M ty mn nu cd E Q V2 A2 la2 z2 B2 (K + mk) := by
  obtain ⟨i1, i2, i3, i4, i5, i6, i7, i8⟩ := hI
  obtain ⟨Es, e, ce, lk, hd, x1, x2, x3, x4, x5, x6, x7, x8⟩ := hS sy hsy
  have hwo := lW_le hw
  have hu' := lU_le huU
  have w17 : E 17 0 ≤ 16 := hE.2.2.2.2.2.2.2.2.2.2.2.1
  have e18 : E 18 sy = Es 18 sy := (x1.2.2.2.2.2.2.2.2.2.2.1 sy (by omega)).1
  have hX : ExtE (jnE Es E) E := x1.jn
  have hF' : FIX N p wo w u K M (jnE Es E) := ⟨x2.jn, hM, by omega, hp, hw, hwT, huU, hK, by rw [hi_jn]; exact hX⟩
  have h18' : ∀ c, jnE Es E 18 sy / 2 ^ c % 2 = 1 → Q 2 q0 / 2 ^ c % 2 = 1 := fun c y => h18 c (by rw [e18]; exact y)
  obtain ⟨A2, B2, la2, z2, mk, r1, r2, r3, r4, r5, r6, r7, r8, r9, r10, r11⟩ := row_jo (sy := sy) (q0 := q0) (lk := lk) (hd := hd) hF' x4.jn hN (i1.ext hX) (i2.ext hX) x3 (by omega) hq ha h18' hst hbt x8.jn x5 x6 x7 i3 i4 i5 i6 (CMX.jn.mpr i7) i8.1 (LKG.ext (S := SVx E) i8.2 x2.jn hX)
  have wlt : ∀ m, Wr (jnE Es E) m → m < Q 5 0 ∧ m < 48 := fun m ⟨c, y, _⟩ => ⟨i1.2.2.2.2.2.2.2.2.1.2.2.1 c m (y.ext hX), (mOf_lt x2.jn y).2.1⟩
  have hla := i3.2.2.1
  have hlen := i1.1.1.len
  have cA : ∀ f, (∀ m, Wr (jnE Es E) m → f ≠ q0 * Q 5 0 + m) → A2.D (wo + 3) f = A.D (wo + 3) f := fun f y => r3.2.2.1 (wo + 3) f (by omega) (fun k => by
    unfold FRR at k
    rcases k with k | k | k | k
    · omega
    · omega
    · obtain ⟨-, m, m1, m2⟩ := k
      exact y m m1 m2
    · omega) (by omega)
  have cB : ∀ f, (∀ m, Wr (jnE Es E) m → f ≠ 48 * q0 + m) → B2.D (u + 4) f = B.D (u + 4) f := fun f y => r4.1 (u + 4) f (fun k => by
    unfold FRS at k
    rcases k with k | k | k
    · omega
    · obtain ⟨-, m, m1, m2⟩ := k
      exact y m m1 m2
    · omega)
  have exG : exS (FRG wo) A la z A2 la2 z2 := r3.mono (fun a f k => by
    unfold FRR at k
    unfold FRG
    rcases k with k | k | k | k
    · exact .inl k
    · exact .inr (.inl k)
    · exact .inr (.inr (.inl k.1))
    · exact .inr (.inr (.inr k)))
  have smH : same (FRH u) B B2 := r4.mono (fun a f k => by
    unfold FRS at k
    unfold FRH
    rcases k with k | k | k
    · exact .inl k
    · exact .inr (.inl k.1)
    · exact .inr (.inr k))
  generalize hV2 : (fun x m => if x = 100 + q0 then A2.D (wo + 3) (q0 * Q 5 0 + m) else V x m : Nat → Nat → Int32) = V2
  have vo : ∀ x, x ≠ 100 + q0 → V2 x = V x := fun x y => by
    rw [← hV2]
    funext m
    exact if_neg y
  have vs : ∀ m, V2 (100 + q0) m = A2.D (wo + 3) (q0 * Q 5 0 + m) := fun m => by
    rw [← hV2]
    exact if_pos rfl
  have hV : ∀ x, x < 100 ∨ 356 ≤ x → V2 x = V x := fun x y => vo x (by omega)
  refine ⟨A2, B2, la2, z2, V2, mk, r1, r2, exG, smH, r8, hV, i1.fr hp hw i3 exG hV (fun q c m y1 y2 y3 y4 => ?_), i2.fr hwT huU smH hV (fun q c m y1 y2 y3 y4 => ?_), r3.1, r6, r9, r7, ?_, r11, i8.2.1, i8.2.2.1, fun q c m y1 y2 y3 y4 y5 => ?_, fun k hk e q y1 y2 y3 y4 => ?_⟩
  · by_cases k : q = q0
    · subst k
      exact (vs m).symm
    · rw [vo _ (by omega), cA _ (fun m2 k2 k3 => k (ix_inj k3 (wlt m2 k2).1 (i1.2.2.2.2.2.2.2.2.1.2.2.1 c m y4)).1)]
      exact i1.2.2.2.2.2.2.1 q c m y1 y2 y3 y4
  · have m48 := (mOf_lt hE y4).2.1
    by_cases k : q = q0
    · subst k
      rw [vs m]
      by_cases k2 : Wr (jnE Es E) m
      · exact (r5 m k2).1.symm
      · rw [cA _ (fun m2 k3 k4 => k2 (by rw [show m = m2 by omega]; exact k3)), cB _ (fun m2 k3 k4 => k2 (by rw [show m = m2 by omega]; exact k3)), i1.2.2.2.2.2.2.1 q c m y1 y2 y3 y4]
        exact i2.2.2.2.2.1 q c m y1 y2 y3 y4
    · rw [vo _ (by omega), cB _ (fun m2 k2 k3 => by have := (wlt m2 k2).2; omega)]
      exact i2.2.2.2.2.1 q c m y1 y2 y3 y4
  · rw [hV 0 (by omega)]
    exact CMX.jn.mp r10
  · by_cases k : q = q0
    · subst k
      rw [vs m]
      by_cases k2 : Wr (jnE Es E) m
      · rw [(r5 m k2).1]
        obtain ⟨c2, m1, m2⟩ := k2
        have e6 : E 6 m = Es 6 m := x1.2.2.1 m (mOf_lt x2 m1).1
        exact (r5 m ⟨c2, m1, m2⟩).2 (show Es 6 m = 4 by rw [← e6]; exact y5)
      · rw [cA _ (fun m2 k3 k4 => k2 (by rw [show m = m2 by omega]; exact k3)), i1.2.2.2.2.2.2.1 q c m y1 y2 y3 y4]
        exact i8.2.2.2.1 q c m y1 y2 y3 y4 y5
    · rw [vo _ (by omega)]
      exact i8.2.2.2.1 q c m y1 y2 y3 y4 y5
  · rw [hV 20 (by omega)] at y1
    rw [hV (400 + k) (by omega)]
    exact i8.2.2.2.2 k hk e q y1 y2 y3 y4
end Par
