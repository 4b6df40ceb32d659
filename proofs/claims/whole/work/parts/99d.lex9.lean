theorem note_s1 (s : Nat → Int32) : sp_note_s s 1 = s 1 := by
  unfold sp_note_s
  split
  · rfl
  · rfl
theorem note_s10 {s : Nat → Int32} {c : Nat} (h : s 10 = nI c) (hc : c < 6001) : sp_note_s s 10 = nI (c + 1) := by
  unfold sp_note_s
  rw [if_pos (by rw [h]; exact fun z => absurd ((nI_leI (a := 6001) (by omega) (by omega)).mp z) (by omega))]
  show s 10 + 1 = _
  rw [h, nI_1]
theorem note_a {s : Nat → Int32} {a : Nat → Nat → Int32} {k p v t : Int32} {j : Nat} (h : j ≠ 6 ∧ j ≠ 7 ∧ j ≠ 8 ∧ j ≠ 9) : sp_note_a s a k p v t j = a j := by
  unfold sp_note_a
  split
  · unfold upa
    rw [if_neg h.2.2.2, if_neg h.2.2.1, if_neg h.2.1, if_neg h.1]
  · rfl
theorem note_a6 {s : Nat → Int32} {a : Nat → Nat → Int32} {k p v t : Int32} {c : Nat} (h : s 10 = nI c) (hc : c < 6001) : sp_note_a s a k p v t 6 c = k := by
  unfold sp_note_a
  rw [if_pos (by rw [h]; exact fun z => absurd ((nI_leI (a := 6001) (by omega) (by omega)).mp z) (by omega))]
  show upd (a 6) (s 10).toNatClampNeg k c = k
  rw [h, nI_clamp (by omega)]
  exact if_pos rfl
theorem note_bf (s : Nat → Int32) (a : Nat → Nat → Int32) (k p v t i : Int32) : lx_byte (sp_note_s s) (sp_note_a s a k p v t) i = lx_byte s a i := by
  unfold lx_byte
  rw [note_s1, note_a (by decide)]
def lx_bbn (bf : Int32 → Int32) (T f : Nat) : Nat := (lx_bb bf T f).toNatClampNeg
theorem bb_in {bf : Int32 → Int32} {T : Nat} (hT : T < 2 ^ 31) : ∀ (n i : Nat) (r : Int32), i ≤ T → (∀ x, sp_bb bf T n i r = .inl x → ∃ j, i ≤ j ∧ j < T ∧ x = nI j) := by
  intro n
  induction n with
  | zero => intro i r _ x h; rw [sp_bb_0] at h; cases h
  | succ n ih =>
    intro i r hi x h
    rw [sp_bb] at h
    by_cases h1 : nI T ≤ nI i
    · rw [if_pos h1] at h; cases h
    · rw [if_neg h1] at h
      have hlt : i < T := Nat.lt_of_not_le (fun z => h1 (nI_le z (by omega)))
      have go : ∀ r', sp_bb bf T n (i + 1) r' = .inl x → ∃ j, i ≤ j ∧ j < T ∧ x = nI j := fun r' q => by
        obtain ⟨j, q1, q2, q3⟩ := ih (i + 1) r' (by omega) x q
        exact ⟨j, by omega, q2, q3⟩
      repeat' split at h
      all_goals first | exact go _ h | (cases h; exact ⟨i, Nat.le_refl _, hlt, rfl⟩)
theorem bbn_eq {bf : Int32 → Int32} {T f : Nat} (hT : T < 2 ^ 31) (hf : f ≤ T) : lx_bb bf T f = nI (lx_bbn bf T f) ∧ f ≤ lx_bbn bf T f ∧ lx_bbn bf T f ≤ T := by
  unfold lx_bbn lx_bb
  cases h : sp_bb bf T (T - f) f 0 with
  | inl r =>
    obtain ⟨j, q1, q2, rfl⟩ := bb_in hT _ _ _ hf r h
    dsimp only
    rw [nI_clamp (by omega)]
    exact ⟨rfl, q1, by omega⟩
  | inr e =>
    dsimp only
    rw [nI_clamp hT]
    exact ⟨rfl, hf, Nat.le_refl _⟩
theorem bbn_out {bf : Int32 → Int32} {T f : Nat} (hT : T < 2 ^ 31) (hf : T ≤ f) : lx_bb bf T f = nI T ∧ lx_bbn bf T f = T := by
  unfold lx_bbn lx_bb
  rw [show T - f = 0 by omega, sp_bb_0]
  exact ⟨rfl, nI_clamp hT⟩
theorem bn_ge {bf : Int32 → Int32} {T : Nat} : ∀ (n i : Nat), i ≤ sp_bn bf T n i ∧ (i + n ≤ T → sp_bn bf T n i ≤ T) := by
  intro n
  induction n with
  | zero => intro i; rw [sp_bn_0]; exact ⟨Nat.le_refl _, fun h => by omega⟩
  | succ n ih =>
    intro i
    have go := ih (i + 1)
    rw [sp_bn]
    repeat' split
    all_goals first | exact ⟨Nat.le_refl _, fun h => by omega⟩ | exact ⟨by omega, fun h => go.2 (by omega)⟩
