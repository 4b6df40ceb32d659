/-! ===== records that grow ===== -/
def W1 (E : Nat → Nat → Nat) : Prop := E 0 0 ≤ 56 ∧ (∀ k, k < E 0 0 → E 2 k ≤ 3 ∧ E 3 k < 16 ∧ (E 2 k = 0 → E 3 k < E 4 0) ∧ (E 2 k = 1 → E 3 k < E 9 0) ∧ (E 2 k = 2 → E 3 k < E 15 0) ∧ (E 2 k = 3 → E 3 k < E 17 0))
def W2 (E : Nat → Nat → Nat) : Prop := E 4 0 ≤ 16 ∧ E 5 0 = 0 ∧ (∀ c, c < E 4 0 → E 5 c ≤ E 5 (c + 1) ∧ E 5 (c + 1) ≤ E 5 c + 8 ∧ E 5 (c + 1) ≤ E 5 (E 4 0)) ∧ E 5 (E 4 0) ≤ 48 ∧ (∀ m, m < E 5 (E 4 0) → E 6 m ≤ 4)
def W3 (E : Nat → Nat → Nat) : Prop := E 9 0 ≤ 8 ∧ E 11 0 = 0 ∧ (∀ e, e < E 9 0 → E 10 e ≤ 4 ∧ E 11 (e + 1) = E 11 e + E 10 e ∧ E 11 e + E 10 e ≤ 4 * (e + 1)) ∧ (∀ e q, e < E 9 0 → q < E 10 e → E 12 (4 * e + q) ≤ 4)
def W4 (E : Nat → Nat → Nat) : Prop := E 15 0 ≤ 16 ∧ (∀ f, f < E 15 0 → E 16 f < 65536)
def W5 (E : Nat → Nat → Nat) : Prop := E 17 0 ≤ 16 ∧ (∀ s, s < E 17 0 → E 18 s < 65536 ∧ E 19 s < 65536 ∧ E 20 s < 65536 ∧ E 21 s < 65536 ∧ E 22 s < 65536)
theorem WE.w1 {E : Nat → Nat → Nat} (h : WE E) : W1 E := h.2.2.2.2.2.2.2.2.2.2.2.2.2
theorem WE.w2 {E : Nat → Nat → Nat} (h : WE E) : W2 E := ⟨h.1, h.2.1, h.2.2.1, h.2.2.2.1, h.2.2.2.2.1⟩
theorem WE.w3 {E : Nat → Nat → Nat} (h : WE E) : W3 E := ⟨h.2.2.2.2.2.1, h.2.2.2.2.2.2.1, h.2.2.2.2.2.2.2.1, h.2.2.2.2.2.2.2.2.1⟩
theorem WE.w4 {E : Nat → Nat → Nat} (h : WE E) : W4 E := ⟨h.2.2.2.2.2.2.2.2.2.1, h.2.2.2.2.2.2.2.2.2.2.1⟩
theorem WE.w5 {E : Nat → Nat → Nat} (h : WE E) : W5 E := ⟨h.2.2.2.2.2.2.2.2.2.2.2.1, h.2.2.2.2.2.2.2.2.2.2.2.2.1⟩
theorem WE.mk {E : Nat → Nat → Nat} (h2 : W2 E) (h3 : W3 E) (h4 : W4 E) (h5 : W5 E) (h1 : W1 E) : WE E := ⟨h2.1, h2.2.1, h2.2.2.1, h2.2.2.2.1, h2.2.2.2.2, h3.1, h3.2.1, h3.2.2.1, h3.2.2.2, h4.1, h4.2, h5.1, h5.2, h1.1, h1.2⟩
/-- one more thing is told -/
theorem W1.tell {E E' : Nat → Nat → Nat} {so n : Nat} (h : W1 E) (hK : E 0 0 < 56) (e0 : E' 0 0 = E 0 0 + 1) (e2 : ∀ k, E' 2 k = if k = E 0 0 then so else E 2 k) (e3 : ∀ k, E' 3 k = if k = E 0 0 then n else E 3 k) (m4 : E 4 0 ≤ E' 4 0) (m9 : E 9 0 ≤ E' 9 0) (m15 : E 15 0 ≤ E' 15 0) (m17 : E 17 0 ≤ E' 17 0) (hso : so ≤ 3) (hn : n < 16) (n0 : so = 0 → n < E' 4 0) (n1 : so = 1 → n < E' 9 0) (n2 : so = 2 → n < E' 15 0) (n3 : so = 3 → n < E' 17 0) : W1 E' := by
  refine ⟨by omega, fun k hk => ?_⟩
  rw [e2 k, e3 k]
  by_cases z : k = E 0 0
  · rw [if_pos z, if_pos z]; exact ⟨hso, hn, n0, n1, n2, n3⟩
  · rw [if_neg z, if_neg z]
    obtain ⟨a1, a2, a3, a4, a5, a6⟩ := h.2 k (by omega)
    exact ⟨a1, a2, fun q => by have := a3 q; omega, fun q => by have := a4 q; omega, fun q => by have := a5 q; omega, fun q => by have := a6 q; omega⟩
theorem EA1.tell {A A' : Hp} {p s so n : Nat} {v : Int32} {E E' : Nat → Nat → Nat} {Nm Nm' : Nat → Nat → List Nat} {nm : List Nat} (h : EA1 A p E Nm) (hp : p = 133 ∨ p = 325) (hK : E 0 0 < 56) (s1 : strA A s nm) (s2 : 626 ≤ s) (s3 : ∀ b, A.P s 0 = .ref b → 626 ≤ b) (e0 : E' 0 0 = E 0 0 + 1) (e2 : ∀ k, E' 2 k = if k = E 0 0 then so else E 2 k) (e3 : ∀ k, E' 3 k = if k = E 0 0 then n else E 3 k) (e1 : ∀ k, Nm' 1 k = if k = E 0 0 then nm else Nm 1 k) (hA' : A' = (ntA A (p + 2 + E 0 0) s (nI so) (nI n) 0).sD p 1 v) : EA1 A' p E' Nm' := by
  intro k hk
  rw [e2 k, e3 k, e1 k, hA']
  by_cases z : k = E 0 0
  · subst z
    rw [if_pos rfl, if_pos rfl, if_pos rfl, rdw (by omega), rdw (by omega), rdw (by omega)]
    exact ⟨(ntA_nm s1 s2 s3 (by omega)).sD (by omega), ntA_D.1, ntA_D.2.1, ntA_D.2.2⟩
  · obtain ⟨a1, a2, a3, a4⟩ := h k (by omega)
    rw [if_neg z, if_neg z, if_neg z, rdw (by omega), rdw (by omega), rdw (by omega), ntA_Do (by omega), ntA_Do (by omega), ntA_Do (by omega)]
    exact ⟨(ntA_nmo a1 (by omega) (by omega)).sD (by omega), a2, a3, a4⟩
/-- what telling a thing changes, reference -/
def tdB (B : Hp) (w i K so n : Nat) : Hp := ((((B.sD w 11 (nI (i + 1))).sD (w + 8) K (nI i)).sD (w + 9) K (nI (so + 2))).sD (w + 10) K (nI n)).sD w 12 (nI (K + 1))
theorem tdB_s {B : Hp} {w i K so n : Nat} : same (fun a f => (a = w ∧ (f = 11 ∨ f = 12)) ∨ ((a = w + 8 ∨ a = w + 9 ∨ a = w + 10) ∧ f = K)) B (tdB B w i K so n) := ((((same.rf.sD (by omega)).sD (by omega)).sD (by omega)).sD (by omega)).sD (by omega)
theorem tdB_LB {B : Hp} {w T i K so n : Nat} {L : List (Nat × Nat × Int32 × Bool × Nat)} {g : Nat → Nat} (h : LB B w L T g i) (hi : i + 1 < L.length) : LB (tdB B w i K so n) w L T g (i + 1) := ((((h.nx hi).sD (by omega)).sD (by omega)).sD (by omega)).sD (by omega)
theorem EB1.tell {B : Hp} {w T i so n : Nat} {L : List (Nat × Nat × Int32 × Bool × Nat)} {g : Nat → Nat} {E E' : Nat → Nat → Nat} {Nm Nm' : Nat → Nat → List Nat} (h : EB1 B w E Nm) (hb : LB B w L T g i) (hi : i < L.length) (e0 : E' 0 0 = E 0 0 + 1) (e2 : ∀ k, E' 2 k = if k = E 0 0 then so else E 2 k) (e3 : ∀ k, E' 3 k = if k = E 0 0 then n else E 3 k) (e1 : ∀ k, Nm' 1 k = if k = E 0 0 then nmT g L i else Nm 1 k) : EB1 (tdB B w i (E 0 0) so n) w E' Nm' := by
  have hs := tdB_s (B := B) (w := w) (i := i) (K := E 0 0) (so := so) (n := n)
  have t1 : (tdB B w i (E 0 0) so n).D (w + 1) = B.D (w + 1) := by funext f; exact hs.1 _ _ (by omega)
  have t3 : (tdB B w i (E 0 0) so n).D (w + 3) = B.D (w + 3) := by funext f; exact hs.1 _ _ (by omega)
  have t4 : (tdB B w i (E 0 0) so n).D (w + 4) = B.D (w + 4) := by funext f; exact hs.1 _ _ (by omega)
  refine ⟨by rw [e0]; exact rds, fun k hk => ?_⟩
  rw [e2 k, e3 k, e1 k]
  by_cases z : k = E 0 0
  · subst z
    rw [if_pos rfl, if_pos rfl, if_pos rfl]
    refine ⟨⟨i, ?_, (hb.tn hi).ex t1 t3 t4⟩, ?_, ?_⟩
    · unfold tdB; rw [rdw (by omega), rdw (by omega), rdw (by omega), rds]
    · unfold tdB; rw [rdw (by omega), rdw (by omega), rds]
    · unfold tdB; rw [rdw (by omega), rds]
  · obtain ⟨⟨u, u1, u2⟩, a2, a3⟩ := h.2 k (by omega)
    rw [if_neg z, if_neg z, if_neg z]
    exact ⟨⟨u, by rw [hs.1 _ _ (by omega)]; exact u1, u2.ex t1 t3 t4⟩, by rw [hs.1 _ _ (by omega)]; exact a2, by rw [hs.1 _ _ (by omega)]; exact a3⟩
/-! a component is declared -/
def ecE (E : Nat → Nat → Nat) : Nat → Nat → Nat := upE (upE (upE (upE (upE E 0 0 (E 0 0 + 1)) 2 (E 0 0) 0) 3 (E 0 0) (E 4 0)) 4 0 (E 4 0 + 1)) 5 (E 4 0 + 1) (E 5 (E 4 0))
def ecN (Nm : Nat → Nat → List Nat) (E : Nat → Nat → Nat) (nm : List Nat) : Nat → Nat → List Nat := upN (upN Nm 1 (E 0 0) nm) 8 (E 4 0) nm
theorem ecE_W {p : Nat} {E : Nat → Nat → Nat} (h : WU p E) (hc : E 4 0 < 16) : WU p (ecE E) := by
  obtain ⟨hE, hp, hs, hf⟩ := h
  have h3 := hE.w3
  have h4 := hE.w4
  have h5 := hE.w5
  obtain ⟨a1, a2, a3, a4, a5⟩ := hE.w2
  have e5 : ∀ c, ecE E 5 c = if c = E 4 0 + 1 then E 5 (E 4 0) else E 5 c := fun c => rfl
  have e4 : ecE E 4 0 = E 4 0 + 1 := rfl
  have h56 : E 0 0 < 56 := by have := h3.1; have := h4.1; have := h5.1; omega
  refine ⟨WE.mk ⟨?_, ?_, ?_, ?_, ?_⟩ h3 h4 h5 (hE.w1.tell (E' := ecE E) (so := 0) (n := E 4 0) h56 rfl (fun k => rfl) (fun k => rfl) (by rw [e4]; omega) (Nat.le_refl _) (Nat.le_refl _) (Nat.le_refl _) (by omega) (by omega) (fun _ => by rw [e4]; omega) (fun z => absurd z (by omega)) (fun z => absurd z (by omega)) (fun z => absurd z (by omega))), hp, ?_, fun f hff => ?_⟩
  · rw [e4]; omega
  · rw [e5, if_neg (by omega)]; exact a2
  · intro c hcc
    rw [e4] at hcc ⊢
    rw [e5, e5, e5, if_pos rfl, if_neg (by omega)]
    by_cases z : c = E 4 0
    · rw [if_pos (by omega), z]; omega
    · rw [if_neg (by omega)]; exact a3 c (by omega)
  · rw [e4, e5, if_pos rfl]; exact a4
  · intro m hm
    rw [e4, e5, if_pos rfl] at hm
    exact a5 m hm
  · show E 0 0 + 1 = E 4 0 + 1 + E 9 0 + E 15 0 + E 17 0
    omega
  · have := hf f hff
    show E 16 f < 2 ^ (E 4 0 + 1)
    rw [Nat.pow_succ]; omega
