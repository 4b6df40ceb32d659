/-! ===== locals that are told and forgotten ===== -/
def SJ (p n : Nat) (a f : Nat) : Bool := decide ((a = 9 ∧ (f = 3 ∨ f = 5 ∨ f = 6)) ∨ a = 10 ∨ (a = p ∧ (f = 1 ∨ f = 17)) ∨ (p + 2 + n ≤ a ∧ a < p + 70) ∨ a = p + 191)
theorem SJ_lt {p n : Nat} (hp : p ≤ 400) : ∀ a f, SJ p n a f = true → a < 626 := fun a f h => by
  have := of_decide_eq_true h
  omega
theorem okJ133 : ∀ n : Fin 57, okS (SJ 133 n.val) = true := by decide +kernel
theorem okJ325 : ∀ n : Fin 57, okS (SJ 325 n.val) = true := by decide +kernel
theorem SJ_SBo {p n : Nat} : ∀ a f, SBo p n a f = false → SJ p n a f = false := fun a f h => by
  have := of_decide_eq_false h
  exact decide_eq_false (by omega)
theorem SJ_ok {p n : Nat} (hp : p = 133 ∨ p = 325) (hn : n ≤ 56) : okL (SJ p n) := by
  refine ⟨?_, fun f => decide_eq_false (by omega), fun f => decide_eq_false (by omega), fun f => decide_eq_false (by omega), fun f => decide_eq_false (by omega), fun f => decide_eq_false (by omega), decide_eq_false (by omega), decide_eq_false (by omega)⟩
  rcases hp with rfl | rfl
  · exact okJ133 ⟨n, by omega⟩
  · exact okJ325 ⟨n, by omega⟩
