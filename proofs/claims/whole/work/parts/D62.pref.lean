/-! ===== prefabs: the record on both sides ===== -/
/-- a member's first value -/
def fstV (kd : Nat) : Int32 := if kd = 4 then -1 else 0
theorem fst_gd {kd : Nat} : gdC kd (fstV kd) := by
  unfold fstV
  refine ⟨fun k => ?_, fun k => ?_, fun k => ?_⟩
  · rw [if_neg (by omega)]; decide
  · rw [if_neg (by omega)]; exact Or.inl rfl
  · rw [if_pos k]
section Par
variable {N p w T : Nat} {L : List (Nat × Nat × Int32 × Bool × Nat)} {g : Nat → Nat} {E : Nat → Nat → Nat} {Nm : Nat → Nat → List Nat} {Pv : Nat → Nat → Int32} {nL lc dp : Nat} {ln : Nat → List Nat} {lk lf : Nat → Nat} {hd : Nat → Int32}
theorem W2.mono {E : Nat → Nat → Nat} (h : W2 E) : ∀ k a, a + k ≤ E 4 0 → E 5 a ≤ E 5 (a + k) := by
  intro k
  induction k with
  | zero => intro a _; exact Nat.le_refl _
  | succ k ih =>
    intro a hak
    have := ih a (by omega)
    have := (h.2.2.1 (a + k) (by omega)).1
    show E 5 a ≤ E 5 (a + k + 1)
    omega
theorem W2.le {E : Nat → Nat → Nat} (h : W2 E) {a b : Nat} (hab : a ≤ b) (hb : b ≤ E 4 0) : E 5 a ≤ E 5 b := by
  have := h.mono (b - a) a (by omega)
  rw [show a + (b - a) = b by omega] at this
  exact this
theorem mOf_uq {E : Nat → Nat → Nat} {c d m : Nat} (h : W2 E) (h1 : mOf E c m) (h2 : mOf E d m) : c = d := by
  obtain ⟨a1, a2, a3⟩ := h1
  obtain ⟨b1, b2, b3⟩ := h2
  rcases Nat.lt_trichotomy c d with z | z | z
  · have := h.le (show c + 1 ≤ d by omega) (by omega); omega
  · exact z
  · have := h.le (show d + 1 ≤ c by omega) (by omega); omega
theorem mOf_48 {E : Nat → Nat → Nat} {c m : Nat} (h : W2 E) (h1 : mOf E c m) : m < E 5 (E 4 0) ∧ m < 48 := by
  obtain ⟨a1, a2, a3⟩ := h1
  have := (h.2.2.1 c a1).2.2
  have := h.2.2.2.1
  omega
/-! a prefab is declared -/
def epE (E : Nat → Nat → Nat) : Nat → Nat → Nat := upE (upE (upE (upE (upE E 0 0 (E 0 0 + 1)) 2 (E 0 0) 2) 3 (E 0 0) (E 15 0)) 15 0 (E 15 0 + 1)) 16 (E 15 0) 0
def epN (Nm : Nat → Nat → List Nat) (E : Nat → Nat → Nat) (nm : List Nat) : Nat → Nat → List Nat := upN Nm 1 (E 0 0) nm
def epV (Pv : Nat → Nat → Int32) (E : Nat → Nat → Nat) : Nat → Nat → Int32 := fun f m => if f = E 15 0 then fstV (E 6 m) else Pv f m
theorem epE_W (h : WU p E) (hc : E 15 0 < 16) : WU p (epE E) := by
  obtain ⟨hE, hp, hs, hf⟩ := h
  have h2 := hE.w2
  have h3 := hE.w3
  have h5 := hE.w5
  obtain ⟨a1, a2⟩ := hE.w4
  have e16 : ∀ f, epE E 16 f = if f = E 15 0 then 0 else E 16 f := fun f => rfl
  have e15 : epE E 15 0 = E 15 0 + 1 := rfl
  have h56 : E 0 0 < 56 := by have := h2.1; have := h3.1; have := h5.1; omega
  refine ⟨WE.mk h2 h3 ⟨?_, ?_⟩ h5 (hE.w1.tell (E' := epE E) (so := 2) (n := E 15 0) h56 rfl (fun k => rfl) (fun k => rfl) (Nat.le_refl _) (Nat.le_refl _) (by rw [e15]; omega) (Nat.le_refl _) (by omega) (by omega) (fun z => absurd z (by omega)) (fun z => absurd z (by omega)) (fun _ => by rw [e15]; omega) (fun z => absurd z (by omega))), hp, ?_, fun f hff => ?_⟩
  · rw [e15]; omega
  · intro f hff
    rw [e15] at hff
    rw [e16]
    by_cases z : f = E 15 0
    · rw [if_pos z]; decide
    · rw [if_neg z]; exact a2 f (by omega)
  · show E 0 0 + 1 = E 4 0 + E 9 0 + (E 15 0 + 1) + E 17 0
    omega
  · rw [e15] at hff
    rw [e16]
    show _ < 2 ^ E 4 0
    by_cases z : f = E 15 0
    · rw [if_pos z]; exact Nat.pow_pos (by decide)
    · rw [if_neg z]; exact hf f (by omega)
def pfA (A : Hp) (p K f s : Nat) : Hp := (((ntA A (p + 2 + K) s (nI 2) (nI f) 0).sD p 1 (nI (K + 1))).sD p 4 (nI (f + 1))).sD (p + 182) f 0
/-- ... and all its members are given their first values -/
theorem UA.pref {A A' : Hp} {i cs s : Nat} {nm : List Nat} (h : (UA p T L g E Nm Pv i cs A)) (hC : WU p E) (hc : E 15 0 < 16) (s1 : strA A s nm) (s2 : 626 ≤ s) (s3 : ∀ b, A.P s 0 = .ref b → 626 ≤ b) (hf : exA (fun a y => decide (a = p + 183 ∧ 48 * E 15 0 ≤ y)) 0 (pfA A p (E 0 0) (E 15 0) s) A') : (UA p T L g (epE E) (epN Nm E nm) (epV Pv E) i cs A') := by
  have hle := h.1.1.1.len
  obtain ⟨h1, ⟨a1, a2, a3, a4, a5, a6⟩, h3, h4, h5⟩ := h
  obtain ⟨hE, hp, hsum, hff⟩ := hC
  have h56 : E 0 0 < 56 := by have := hE.w2.1; have := hE.w3.1; have := hE.w5.1; omega
  have w2 := hE.w2
  have w3 := hE.w3
  have hx0 : exA (fun a y => decide (a = p + 2 + E 0 0 ∨ (a = p ∧ (y = 1 ∨ y = 4)) ∨ (a = p + 182 ∧ y = E 15 0))) 0 A (pfA A p (E 0 0) (E 15 0) s) := (((ntA_ex (fun y => decide_eq_true (by omega))).sD (decide_eq_true (by omega))).sD (decide_eq_true (by omega))).sD (decide_eq_true (by omega))
  have hx : exA (fun a y => decide (a = p + 2 + E 0 0 ∨ (a = p ∧ (y = 1 ∨ y = 4)) ∨ (a = p + 182 ∧ y = E 15 0) ∨ (a = p + 183 ∧ 48 * E 15 0 ≤ y))) 0 A A' := (hx0.mono (fun a f z => decide_eq_false (fun q => (of_decide_eq_false z) (by omega))) (Nat.le_refl _)).tr (hf.mono (fun a f z => decide_eq_false (fun q => (of_decide_eq_false z) (by omega))) (Nat.le_refl _))
  have hxS : exA (SX p) 0 A A' := hx.mono (fun a f z => decide_eq_false (fun q => by have := of_decide_eq_false z; omega)) (Nat.le_refl _)
  have lt : ∀ a y, decide (a = p + 2 + E 0 0 ∨ (a = p ∧ (y = 1 ∨ y = 4)) ∨ (a = p + 182 ∧ y = E 15 0) ∨ (a = p + 183 ∧ 48 * E 15 0 ≤ y)) = true → a < 626 := fun a y z => by
    have := of_decide_eq_true z
    omega
  have d : ∀ a y, a < 626 → ¬ (a = p + 2 + E 0 0 ∨ (a = p ∧ (y = 1 ∨ y = 4)) ∨ (a = p + 182 ∧ y = E 15 0) ∨ (a = p + 183 ∧ 48 * E 15 0 ≤ y)) → A'.D a y = A.D a y := fun a y h6 z => (hx.2.2.2 a y (by omega) (decide_eq_false z)).1
  have nm' : ∀ a n, a < 626 → ¬ (a = p + 2 + E 0 0 ∨ (a = p ∧ (0 = 1 ∨ 0 = 4)) ∨ (a = p + 182 ∧ 0 = E 15 0) ∨ (a = p + 183 ∧ 48 * E 15 0 ≤ 0)) → nmd A a n → nmd A' a n := fun a n h6 z q => hx.nmd lt (decide_eq_false z) (by omega) q
  have lt2 : ∀ a y, decide (a = p + 183 ∧ 48 * E 15 0 ≤ y) = true → a < 626 := fun a y z => by
    have := of_decide_eq_true z
    omega
  have hle2 : 626 ≤ (pfA A p (E 0 0) (E 15 0) s).sh.length := hle
  have d2 : ∀ a y, a < 626 → a ≠ p + 183 → A'.D a y = (pfA A p (E 0 0) (E 15 0) s).D a y := fun a y h6 z => (hf.2.2.2 a y (by omega) (decide_eq_false (by omega))).1
  have e16 : ∀ f, epE E 16 f = if f = E 15 0 then 0 else E 16 f := fun f => rfl
  have t1 : EA1 ((ntA A (p + 2 + E 0 0) s (nI 2) (nI (E 15 0)) 0).sD p 1 (nI (E 0 0 + 1))) p (epE E) (epN Nm E nm) := EA1.tell (show EA1 A p E Nm from a1) hp h56 s1 s2 s3 rfl (fun k => rfl) (fun k => rfl) (fun k => rfl) rfl
  refine ⟨h1.ex hxS (SX_ok hp) (decide_eq_false (by omega)) (decide_eq_false (by omega)) (decide_eq_false (by omega)) (decide_eq_false (by omega)), ⟨?_, ?_, ?_, ⟨?_, ?_⟩, ?_, ?_⟩, ?_, ?_, ?_⟩
  · refine EA1.fr t1 (fun a f z1 z2 => ?_) (fun a n z1 z2 z3 => ?_)
    · have z2' : a < p + 2 + (E 0 0 + 1) := z2
      rw [d2 a f (by omega) (by omega)]
      unfold pfA; rw [rdw (by omega), rdw (by omega)]
    · have z2' : a < p + 2 + (E 0 0 + 1) := z2
      refine hf.nmd lt2 (decide_eq_false (by omega)) (by omega) ?_
      unfold pfA
      exact (z3.sD (by omega)).sD (by omega)
  · exact EA2.fr (E := E) (Nm := Nm) a2 hE (fun a f z => d a f (by omega) (by omega)) (fun a n z1 z2 z3 => nm' a n (by omega) (by omega) z3)
  · exact EA3.fr (E := E) (Nm := Nm) a3 hE (fun a f z => d a f (by omega) (by omega)) (fun a n z1 z2 z3 => nm' a n (by omega) (by omega) z3)
  · rw [d2 _ _ (by omega) (by omega)]
    unfold pfA
    rw [rdw (by omega), rds]; rfl
  · intro f hff'
    have hff' : f < E 15 0 + 1 := hff'
    by_cases z : f = E 15 0
    · refine ⟨?_, fun c m hm hb => ?_⟩
      · rw [e16, if_pos z, z, d2 _ _ (by omega) (by omega)]
        exact rds
      · rw [e16, if_pos z, Nat.zero_div] at hb
        exact absurd hb (by decide)
    · obtain ⟨b1, b2⟩ := a4.2 f (by omega)
      refine ⟨?_, fun c m hm hb => ?_⟩
      · rw [e16, if_neg z, d _ _ (by omega) (by omega)]; exact b1
      · rw [e16, if_neg z] at hb
        have hm' : mOf E c m := hm
        have := (mOf_48 w2 hm').2
        show A'.D (p + 183) (48 * f + m) = if f = E 15 0 then _ else Pv f m
        rw [if_neg z, d _ _ (by omega) (by omega)]; exact b2 c m hm' hb
  · exact EA5.fr (E := E) a5 (fun a f z => d a f (by omega) (by omega))
  · rw [d _ _ (by omega) (by omega)]; exact a6
  · rw [d2 _ _ (by omega) (by omega)]
    unfold pfA
    rw [rdw (by omega), rdf (by decide), rds]; rfl
  · rw [d _ _ (by omega) (by omega)]; exact h4
  · rw [(hx.2.2.2 8 2 (by omega) (decide_eq_false (by omega))).2]; exact h5
def pfB (B : Hp) (w i K f : Nat) : Hp := ((tdB B w i K 2 f).sD w 26 (nI (f + 1))).sD (w + 19) f 0
theorem UB.pref {B : Hp} {i : Nat} (h : (UB w T L g E Nm Pv i B)) (hi : i + 1 < L.length) : (UB w T L g (epE E) (epN Nm E (nmT g L i)) (epV Pv E) (i + 1) (pfB B w i (E 0 0) (E 15 0))) := by
  obtain ⟨h1, ⟨b1, b2, b3, b4, b5⟩, h3, h4⟩ := h
  have hs : same (fun a f => (a = w ∧ (f = 11 ∨ f = 12 ∨ f = 26)) ∨ ((a = w + 8 ∨ a = w + 9 ∨ a = w + 10) ∧ f = E 0 0) ∨ (a = w + 19 ∧ f = E 15 0)) B (pfB B w i (E 0 0) (E 15 0)) := ((tdB_s.mono (fun a f z => by omega)).sD (by omega)).sD (by omega)
  have hl : ltr w B (pfB B w i (E 0 0) (E 15 0)) := by refine ⟨?_, ?_, ?_⟩ <;> (funext f; exact hs.1 _ _ (by omega))
  have e16 : ∀ f, epE E 16 f = if f = E 15 0 then 0 else E 16 f := fun f => rfl
  have t1 : EB1 (tdB B w i (E 0 0) 2 (E 15 0)) w (epE E) (epN Nm E (nmT g L i)) := EB1.tell (show EB1 B w E Nm from b1) h1 (by omega) rfl (fun k => rfl) (fun k => rfl) (fun k => rfl)
  refine ⟨(((tdB_LB h1 hi).sD (by omega)).sD (by omega)), ⟨?_, ?_, ?_, ⟨?_, ?_⟩, ?_⟩, ?_, fun f c m hf hm hb => ?_⟩
  · refine EB1.fr t1 ⟨?_, ?_, ?_⟩ (fun a f z => ?_)
    · unfold pfB; funext f; rw [rdw (by omega), rdw (by omega)]
    · unfold pfB; funext f; rw [rdw (by omega), rdw (by omega)]
    · unfold pfB; funext f; rw [rdw (by omega), rdw (by omega)]
    · unfold pfB
      by_cases z2 : a = w
      · subst z2; rw [rdw (by omega), rdf (by omega)]
      · rw [rdw (by omega), rdw (by omega)]
  · exact EB2.fr (E := E) (Nm := Nm) b2 hl (fun a f z => hs.1 _ _ (by omega))
  · exact EB3.fr (E := E) (Nm := Nm) b3 hl (fun a f z => hs.1 _ _ (by omega))
  · unfold pfB; rw [rdw (by omega)]; exact rds
  · intro f hff'
    have hff' : f < E 15 0 + 1 := hff'
    by_cases z : f = E 15 0
    · refine ⟨?_, fun c m hm hb => ?_⟩
      · rw [e16, if_pos z, z]; exact rds
      · rw [e16, if_pos z, Nat.zero_div] at hb
        exact absurd hb (by decide)
    · obtain ⟨c1, c2⟩ := b4.2 f (by omega)
      refine ⟨?_, fun c m hm hb => ?_⟩
      · rw [e16, if_neg z, hs.1 _ _ (by omega)]; exact c1
      · rw [e16, if_neg z] at hb
        show _ = if f = E 15 0 then _ else Pv f m
        rw [if_neg z, hs.1 _ _ (by omega)]; exact c2 c m hm hb
  · exact EB5.fr (E := E) b5 (fun a f z => hs.1 a f (by omega))
  · rw [hs.1 _ _ (by omega)]; exact h3
  · have hf : f < E 15 0 + 1 := hf
    rw [e16] at hb
    by_cases z : f = E 15 0
    · rw [if_pos z, Nat.zero_div] at hb
      exact absurd hb (by decide)
    · rw [if_neg z] at hb
      show gdC (E 6 m) (if f = E 15 0 then _ else Pv f m)
      rw [if_neg z]; exact h4 f c m (by omega) hm hb
/-! a part, a value -/
def etE (E : Nat → Nat → Nat) (f c : Nat) : Nat → Nat → Nat := upE E 16 f (E 16 f ||| 2 ^ c)
theorem bit_or {x c d : Nat} : (x ||| 2 ^ c) / 2 ^ d % 2 = 1 ↔ x / 2 ^ d % 2 = 1 ∨ d = c := by
  rw [bit_tb, bit_tb, Nat.testBit_or, Nat.testBit_two_pow]
  by_cases z : c = d
  · subst z; simp
  · rw [decide_eq_false z, Bool.or_false]
    exact ⟨Or.inl, fun y => y.resolve_right (fun q => z q.symm)⟩
theorem etE_W {f c : Nat} (h : WU p E) (hf : f < E 15 0) (hc : c < E 4 0) : WU p (etE E f c) := by
  obtain ⟨hE, hp, hs, hff⟩ := h
  obtain ⟨a1, a2⟩ := hE.w4
  have e16 : ∀ x, etE E f c 16 x = if x = f then E 16 f ||| 2 ^ c else E 16 x := fun x => rfl
  have h4 := hE.w2.1
  have hlt : E 16 f ||| 2 ^ c < 2 ^ E 4 0 := Nat.or_lt_two_pow (hff f hf) (Nat.pow_lt_pow_right (by decide) hc)
  have h16 : 2 ^ E 4 0 ≤ 65536 := Nat.pow_le_pow_right (n := 2) (by decide) h4
  refine ⟨WE.mk hE.w2 hE.w3 ⟨a1, fun x hx => ?_⟩ hE.w5 hE.w1, hp, hs, fun x hx => ?_⟩
  · rw [e16]
    by_cases z : x = f
    · rw [if_pos z]; omega
    · rw [if_neg z]; exact a2 x hx
  · rw [e16]
    show _ < 2 ^ E 4 0
    by_cases z : x = f
    · rw [if_pos z]; exact hlt
    · rw [if_neg z]; exact hff x hx
/-- the class notes a part -/
theorem UA.part {A : Hp} {i cs f c : Nat} (h : (UA p T L g E Nm Pv i cs A)) (hC : WU p E) (hf : f < E 15 0) (hV : ∀ m, m < E 5 (E 4 0) → A.D (p + 183) (48 * f + m) = Pv f m) : (UA p T L g (etE E f c) Nm Pv i cs (A.sD (p + 182) f (nI (E 16 f ||| 2 ^ c)))) := by
  have hle := h.1.1.1.len
  obtain ⟨h1, ⟨a1, a2, a3, a4, a5, a6⟩, h3, h4, h5⟩ := h
  obtain ⟨hE, hp, hsum, hff⟩ := hC
  have e16 : ∀ x, etE E f c 16 x = if x = f then E 16 f ||| 2 ^ c else E 16 x := fun x => rfl
  have w56 := hE.w1.1
  have hx : exA (SX p) 0 A (A.sD (p + 182) f (nI (E 16 f ||| 2 ^ c))) := exA.rf.sD (decide_eq_true (by omega))
  have nm' : ∀ a n, nmd A a n → nmd (A.sD (p + 182) f (nI (E 16 f ||| 2 ^ c))) a n := fun a n h => h.sD (by omega)
  refine ⟨h1.ex hx (SX_ok hp) (decide_eq_false (by omega)) (decide_eq_false (by omega)) (decide_eq_false (by omega)) (decide_eq_false (by omega)), ⟨?_, ?_, ?_, ⟨?_, fun x hx' => ⟨?_, fun d m hm hb => ?_⟩⟩, ?_, ?_⟩, ?_, ?_, h5⟩
  · exact EA1.fr (E := E) (Nm := Nm) a1 (fun a f z1 z2 => rdw (by omega)) (fun a n z1 z2 z3 => nm' a n z3)
  · exact EA2.fr (E := E) (Nm := Nm) a2 hE (fun a f z => rdw (by omega)) (fun a n z1 z2 z3 => nm' a n z3)
  · exact EA3.fr (E := E) (Nm := Nm) a3 hE (fun a f z => rdw (by omega)) (fun a n z1 z2 z3 => nm' a n z3)
  · rw [rdw (by omega)]; exact a4.1
  · rw [e16]
    by_cases z : x = f
    · rw [if_pos z, z, rds]
    · rw [if_neg z, rdf z]; exact (a4.2 x hx').1
  · rw [rdw (by omega)]
    have hm' : mOf E d m := hm
    rw [e16] at hb
    by_cases z : x = f
    · rw [z]; exact hV m (mOf_48 hE.w2 hm').1
    · rw [if_neg z] at hb
      exact (a4.2 x hx').2 d m hm' hb
  · exact EA5.fr (E := E) a5 (fun a f z => rdw (by omega))
  · rw [rdw (by omega)]; exact a6
  · rw [rdw (by omega)]; exact h3
  · rw [rdw (by omega)]; exact h4
/-- the reference notes a part and gives its members their first values -/
theorem UB.part {B B' : Hp} {i f c : Nat} (h : (UB w T L g E Nm Pv i B)) (hC : WU p E) (hf : f < E 15 0) (hc : c < E 4 0) (hb0 : ¬ E 16 f / 2 ^ c % 2 = 1) (hU : ∀ d m, mOf E d m → ¬ E 16 f / 2 ^ d % 2 = 1 → Pv f m = fstV (E 6 m)) (hs : same (fun a y => (a = w + 19 ∧ y = f) ∨ (a = w + 20 ∧ 48 * f + E 5 c ≤ y ∧ y < 48 * f + E 5 (c + 1))) B B') (h19 : B'.D (w + 19) f = nI (E 16 f ||| 2 ^ c)) (h20 : ∀ m, E 5 c ≤ m → m < E 5 (c + 1) → B'.D (w + 20) (48 * f + m) = fstV (E 6 m)) (hl : LB B' w L T g i) : (UB w T L g (etE E f c) Nm Pv i B') := by
  obtain ⟨h1, ⟨b1, b2, b3, b4, b5⟩, h3, h4⟩ := h
  have hE := hC.1
  have w2 := hE.w2
  have e16 : ∀ x, etE E f c 16 x = if x = f then E 16 f ||| 2 ^ c else E 16 x := fun x => rfl
  have hlt : ltr w B B' := by refine ⟨?_, ?_, ?_⟩ <;> (funext f; exact hs.1 _ _ (by omega))
  have hc5 := (w2.2.2.1 c hc).2.2
  have h48 := w2.2.2.2.1
  refine ⟨hl, ⟨?_, ?_, ?_, ⟨?_, fun x hx' => ⟨?_, fun d m hm hb => ?_⟩⟩, ?_⟩, ?_, fun x d m hx' hm hb => ?_⟩
  · exact EB1.fr (E := E) (Nm := Nm) b1 hlt (fun a f z => hs.1 a f (by omega))
  · exact EB2.fr (E := E) (Nm := Nm) b2 hlt (fun a f z => hs.1 a f (by omega))
  · exact EB3.fr (E := E) (Nm := Nm) b3 hlt (fun a f z => hs.1 a f (by omega))
  · rw [hs.1 _ _ (by omega)]; exact b4.1
  · rw [e16]
    by_cases z : x = f
    · rw [if_pos z, z, h19]
    · rw [if_neg z, hs.1 _ _ (by omega)]; exact (b4.2 x hx').1
  · have hm' : mOf E d m := hm
    have m48 := (mOf_48 w2 hm').2
    rw [e16] at hb
    by_cases z : x = f
    · rw [if_pos z] at hb
      by_cases y : d = c
      · rw [z, h20 m (by have := hm'.2.1; rw [y] at this; exact this) (by have := hm'.2.2; rw [y] at this; exact this), hU d m hm' (by rw [y]; exact hb0)]
      · have hb' := (bit_or.mp hb).resolve_right y
        have nin : ¬ (E 5 c ≤ m ∧ m < E 5 (c + 1)) := fun q => y (mOf_uq w2 hm' ⟨hc, q.1, q.2⟩)
        rw [z, hs.1 _ _ (by omega)]
        exact (b4.2 f hf).2 d m hm' hb'
    · rw [if_neg z] at hb
      rw [hs.1 _ _ (by omega)]
      exact (b4.2 x hx').2 d m hm' hb
  · exact EB5.fr (E := E) b5 (fun a f z => hs.1 a f (by omega))
  · rw [hs.1 _ _ (by omega)]; exact h3
  · have hm' : mOf E d m := hm
    rw [e16] at hb
    by_cases z : x = f
    · rw [if_pos z] at hb
      by_cases y : d = c
      · rw [z, hU d m hm' (by rw [y]; exact hb0)]; exact fst_gd
      · have hb' := (bit_or.mp hb).resolve_right y
        rw [z]; exact h4 f d m hf hm' hb'
    · rw [if_neg z] at hb
      exact h4 x d m hx' hm' hb
/-- a value is given -/
def pvU (Pv : Nat → Nat → Int32) (f m : Nat) (v : Int32) : Nat → Nat → Int32 := fun a b => if a = f ∧ b = m then v else Pv a b
theorem UA.val {A : Hp} {i cs f m : Nat} {v : Int32} (h : (UA p T L g E Nm Pv i cs A)) (hC : WU p E) (hm : m < 48) : (UA p T L g E Nm (pvU Pv f m v) i cs (A.sD (p + 183) (48 * f + m) v)) := by
  have hle := h.1.1.1.len
  obtain ⟨h1, ⟨a1, a2, a3, a4, a5, a6⟩, h3, h4, h5⟩ := h
  obtain ⟨hE, hp, hsum, hff⟩ := hC
  have w56 := hE.w1.1
  have hx : exA (SX p) 0 A (A.sD (p + 183) (48 * f + m) v) := exA.rf.sD (decide_eq_true (by omega))
  have nm' : ∀ a n, nmd A a n → nmd (A.sD (p + 183) (48 * f + m) v) a n := fun a n h => h.sD (by omega)
  refine ⟨h1.ex hx (SX_ok hp) (decide_eq_false (by omega)) (decide_eq_false (by omega)) (decide_eq_false (by omega)) (decide_eq_false (by omega)), ⟨?_, ?_, ?_, ⟨?_, fun x hx' => ⟨?_, fun d n hn hb => ?_⟩⟩, ?_, ?_⟩, ?_, ?_, h5⟩
  · exact EA1.fr (E := E) (Nm := Nm) a1 (fun a f z1 z2 => rdw (by omega)) (fun a n z1 z2 z3 => nm' a n z3)
  · exact EA2.fr (E := E) (Nm := Nm) a2 hE (fun a f z => rdw (by omega)) (fun a n z1 z2 z3 => nm' a n z3)
  · exact EA3.fr (E := E) (Nm := Nm) a3 hE (fun a f z => rdw (by omega)) (fun a n z1 z2 z3 => nm' a n z3)
  · rw [rdw (by omega)]; exact a4.1
  · rw [rdw (by omega)]; exact (a4.2 x hx').1
  · have n48 := (mOf_48 hE.w2 hn).2
    show _ = if x = f ∧ n = m then v else Pv x n
    by_cases z : x = f ∧ n = m
    · rw [if_pos z, z.1, z.2, rds]
    · rw [if_neg z, rdf (by omega)]; exact (a4.2 x hx').2 d n hn hb
  · exact EA5.fr (E := E) a5 (fun a f z => rdw (by omega))
  · rw [rdw (by omega)]; exact a6
  · rw [rdw (by omega)]; exact h3
  · rw [rdw (by omega)]; exact h4
theorem UB.val {B : Hp} {i f m : Nat} {v : Int32} (h : (UB w T L g E Nm Pv i B)) (hC : WU p E) (hm : m < 48) (hg : gdC (E 6 m) v) : (UB w T L g E Nm (pvU Pv f m v) i (B.sD (w + 20) (48 * f + m) v)) := by
  obtain ⟨h1, ⟨b1, b2, b3, b4, b5⟩, h3, h4⟩ := h
  have hE := hC.1
  have hs : same (fun a y => a = w + 20 ∧ y = 48 * f + m) B (B.sD (w + 20) (48 * f + m) v) := same.rf.sD (by omega)
  have hlt : ltr w B (B.sD (w + 20) (48 * f + m) v) := by refine ⟨?_, ?_, ?_⟩ <;> (funext f; exact hs.1 _ _ (by omega))
  refine ⟨h1.sD (by omega), ⟨?_, ?_, ?_, ⟨?_, fun x hx' => ⟨?_, fun d n hn hb => ?_⟩⟩, ?_⟩, ?_, fun x d n hx' hn hb => ?_⟩
  · exact EB1.fr (E := E) (Nm := Nm) b1 hlt (fun a f z => hs.1 a f (by omega))
  · exact EB2.fr (E := E) (Nm := Nm) b2 hlt (fun a f z => hs.1 a f (by omega))
  · exact EB3.fr (E := E) (Nm := Nm) b3 hlt (fun a f z => hs.1 a f (by omega))
  · rw [hs.1 _ _ (by omega)]; exact b4.1
  · rw [hs.1 _ _ (by omega)]; exact (b4.2 x hx').1
  · have n48 := (mOf_48 hE.w2 hn).2
    show _ = if x = f ∧ n = m then v else Pv x n
    by_cases z : x = f ∧ n = m
    · rw [if_pos z, z.1, z.2, rds]
    · rw [if_neg z, rdf (by omega)]; exact (b4.2 x hx').2 d n hn hb
  · exact EB5.fr (E := E) b5 (fun a f z => hs.1 a f (by omega))
  · rw [hs.1 _ _ (by omega)]; exact h3
  · show gdC (E 6 n) (if x = f ∧ n = m then v else Pv x n)
    by_cases z : x = f ∧ n = m
    · rw [if_pos z, z.2]; exact hg
    · rw [if_neg z]; exact h4 x d n hx' hn hb
end Par
