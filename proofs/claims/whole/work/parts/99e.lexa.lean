theorem n1_ge {bf : Int32 → Int32} {T : Nat} : ∀ (n i : Nat) (wl : Int64), i ≤ (sp_n1 bf T n i wl).1 ∧ (i + n ≤ T → (sp_n1 bf T n i wl).1 ≤ T) := by
  intro n
  induction n with
  | zero => intro i wl; rw [sp_n1_0]; exact ⟨Nat.le_refl _, fun h => by show i ≤ T; omega⟩
  | succ n ih =>
    intro i wl
    rw [sp_n1]
    repeat' split
    all_goals first | exact ⟨Nat.le_refl _, fun h => by show i ≤ T; omega⟩ | exact ⟨Nat.le_trans (Nat.le_succ i) (ih (i + 1) _).1, fun h => (ih (i + 1) _).2 (by omega)⟩ | exact ⟨Nat.le_trans (Nat.le_succ i) (ih (i + 1) _ _ _).1, fun h => (ih (i + 1) _ _ _).2 (by omega)⟩
theorem n2_ge {bf : Int32 → Int32} {T : Nat} : ∀ (n i : Nat) (pt : Int64) (sc : Int64) (dg : Int32), i ≤ (sp_n2 bf T n i pt sc dg).1 ∧ (i + n ≤ T → (sp_n2 bf T n i pt sc dg).1 ≤ T) := by
  intro n
  induction n with
  | zero => intro i pt sc dg; rw [sp_n2_0]; exact ⟨Nat.le_refl _, fun h => by show i ≤ T; omega⟩
  | succ n ih =>
    intro i pt sc dg
    rw [sp_n2]
    repeat' split
    all_goals first | exact ⟨Nat.le_refl _, fun h => by show i ≤ T; omega⟩ | exact ⟨Nat.le_trans (Nat.le_succ i) (ih (i + 1) _).1, fun h => (ih (i + 1) _).2 (by omega)⟩ | exact ⟨Nat.le_trans (Nat.le_succ i) (ih (i + 1) _ _ _).1, fun h => (ih (i + 1) _ _ _).2 (by omega)⟩
theorem n1_adv {bf : Int32 → Int32} {T f : Nat} (hf : f < T) (hT : T ≤ 6000) (hd : ¬ sp_digit (bf (nI f)) = 0) : f + 1 ≤ (lx_n1 bf T f).1 ∧ (lx_n1 bf T f).1 ≤ T := by
  refine ⟨?_, (n1_ge (T - f) f 0).2 (by omega)⟩
  unfold lx_n1
  obtain ⟨k, hk⟩ : ∃ k, T - f = k + 1 := ⟨T - f - 1, by omega⟩
  rw [hk, sp_n1, if_neg (fun z => absurd ((nI_leI (by omega) (by omega)).mp z) (by omega)), if_neg hd]
  exact (n1_ge k (f + 1) _).1
theorem bn_adv {bf : Int32 → Int32} {T f : Nat} (hf : f < T) (hT : T ≤ 6000) (hd : ¬ sp_letter (bf (nI f)) = 0) : f + 1 ≤ lx_bn bf T f ∧ lx_bn bf T f ≤ T := by
  refine ⟨?_, (bn_ge (T - f) f).2 (by omega)⟩
  unfold lx_bn
  obtain ⟨k, hk⟩ : ∃ k, T - f = k + 1 := ⟨T - f - 1, by omega⟩
  rw [hk, sp_bn, if_neg (fun z => absurd ((nI_leI (by omega) (by omega)).mp z) (by omega)), if_pos hd]
  exact (bn_ge k (f + 1)).1
theorem num_adv {bf : Int32 → Int32} {T f : Nat} (hf : f < T) (hT : T ≤ 6000) (hd : ¬ sp_digit (bf (nI f)) = 0) (hj : ∀ j, j < 2 ^ 31 → ¬ sp_digit (bf (nI j)) = 0 → j < T) : f + 1 ≤ (lx_num bf T f).1 ∧ (lx_num bf T f).1 ≤ T := by
  obtain ⟨h1, h2⟩ := n1_adv hf hT hd
  have h3 : ¬ sp_digit (bf (nI ((lx_n1 bf T f).1 + 1))) = 0 → f + 1 ≤ (lx_n2 bf T ((lx_n1 bf T f).1 + 1)).1 ∧ (lx_n2 bf T ((lx_n1 bf T f).1 + 1)).1 ≤ T := fun q => by
    have h4 := hj _ (by omega) q
    have h5 := n2_ge (bf := bf) (T := T) (T - ((lx_n1 bf T f).1 + 1)) ((lx_n1 bf T f).1 + 1) 0 1 0
    exact ⟨Nat.le_trans (by omega) h5.1, h5.2 (by omega)⟩
  unfold lx_num
  repeat' split
  all_goals first | exact ⟨h1, h2⟩ | exact h3 (by assumption)
def sgP (f : Nat) (z : Nat × Int32) : Prop := f + 1 ≤ z.1 ∧ z.1 ≤ f + 2
theorem sgP_ite {f : Nat} {c : Prop} [Decidable c] {x y : Nat × Int32} (hx : sgP f x) (hy : sgP f y) : sgP f (if c then x else y) := by
  split
  · exact hx
  · exact hy
theorem sgP_1 {f : Nat} {k : Int32} : sgP f (f + 1, k) := ⟨Nat.le_refl _, by show f + 1 ≤ f + 2; omega⟩
theorem sgP_2 {f : Nat} {k : Int32} : sgP f (f + 2, k) := ⟨by show f + 1 ≤ f + 2; omega, Nat.le_refl _⟩
theorem sign_adv {bf : Int32 → Int32} {T f : Nat} : f + 1 ≤ (lx_sign bf T f).1 ∧ (lx_sign bf T f).1 ≤ f + 2 := by
  show sgP f (lx_sign bf T f)
  unfold lx_sign
  repeat' first | refine sgP_ite ?_ ?_ | exact sgP_1 | exact sgP_2
theorem tok_adv {bf : Int32 → Int32} {T f : Nat} (hf : f < T) (hT : T ≤ 6000) (hj : ∀ j, j < 2 ^ 31 → ¬ sp_digit (bf (nI j)) = 0 → j < T) : f + 1 ≤ (lx_tok bf T f).1 ∧ (lx_tok bf T f).1 ≤ T + 1 := by
  unfold lx_tok
  split
  · split
    · have := sign_adv (bf := bf) (T := T) (f := f)
      exact ⟨this.1, by show (lx_sign bf T f).1 ≤ _; omega⟩
    · have := num_adv hf hT (by assumption) hj
      exact ⟨this.1, by omega⟩
  · have := bn_adv hf hT (by assumption)
    exact ⟨this.1, by show lx_bn bf T f ≤ _; omega⟩
