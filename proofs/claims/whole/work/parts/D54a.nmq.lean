/-! ===== names: told once ===== -/
def NMQ (E : Nat → Nat → Nat) (Nm : Nat → Nat → List Nat) : Prop :=
  (∀ j k, j < E 0 0 → k < E 0 0 → Nm 1 j = Nm 1 k → j = k) ∧
  (∀ k, k < E 0 0 → E 2 k = 0 → Nm 1 k = Nm 8 (E 3 k)) ∧ (∀ c, c < E 4 0 → ∃ k, k < E 0 0 ∧ E 2 k = 0 ∧ E 3 k = c) ∧
  (∀ k, k < E 0 0 → E 2 k = 1 → Nm 1 k = Nm 14 (E 3 k)) ∧ (∀ c, c < E 9 0 → ∃ k, k < E 0 0 ∧ E 2 k = 1 ∧ E 3 k = c) ∧
  (∀ c m m2, mOf E c m → mOf E c m2 → Nm 7 m = Nm 7 m2 → m = m2)
theorem NMQ.z : NMQ (fun _ _ => 0) (fun _ _ => []) := ⟨fun j k h => absurd h (Nat.not_lt_zero _), fun k h => absurd h (Nat.not_lt_zero _), fun c h => absurd h (Nat.not_lt_zero _), fun k h => absurd h (Nat.not_lt_zero _), fun c h => absurd h (Nat.not_lt_zero _), fun c m m2 h => absurd h.1 (Nat.not_lt_zero _)⟩
theorem NMQ.tell {E E' : Nat → Nat → Nat} {Nm Nm' : Nat → Nat → List Nat} {so n : Nat} {nm : List Nat} (h : NMQ E Nm) (hf : fnm (Nm 1) nm (E 0 0) 0 = none) (hW : W1 E) (e0 : E' 0 0 = E 0 0 + 1) (e2 : ∀ k, E' 2 k = if k = E 0 0 then so else E 2 k) (e3 : ∀ k, E' 3 k = if k = E 0 0 then n else E 3 k) (n1 : ∀ k, Nm' 1 k = if k = E 0 0 then nm else Nm 1 k)
    (c4 : (so = 0 ∧ n = E 4 0 ∧ E' 4 0 = E 4 0 + 1 ∧ ∀ c, Nm' 8 c = if c = E 4 0 then nm else Nm 8 c) ∨ (so ≠ 0 ∧ E' 4 0 = E 4 0 ∧ ∀ c, Nm' 8 c = Nm 8 c))
    (c9 : (so = 1 ∧ n = E 9 0 ∧ E' 9 0 = E 9 0 + 1 ∧ ∀ c, Nm' 14 c = if c = E 9 0 then nm else Nm 14 c) ∨ (so ≠ 1 ∧ E' 9 0 = E 9 0 ∧ ∀ c, Nm' 14 c = Nm 14 c))
    (c7 : ∀ c m, mOf E' c m → mOf E c m) (n7 : ∀ m, Nm' 7 m = Nm 7 m) : NMQ E' Nm' := by
  obtain ⟨h1, h2, h3, h4, h5, h6⟩ := h
  have fr : ∀ k, k < E 0 0 → Nm 1 k ≠ nm := fun k hk => fnm_none _ _ hf k (Nat.zero_le _) (by omega)
  refine ⟨fun j k hj hk q => ?_, fun k hk q => ?_, fun c hc => ?_, fun k hk q => ?_, fun c hc => ?_, fun c m m2 a b q => ?_⟩
  · rw [n1, n1] at q
    by_cases y1 : j = E 0 0
    · by_cases y2 : k = E 0 0
      · omega
      · rw [if_pos y1, if_neg y2] at q
        exact absurd q.symm (fr k (by omega))
    · by_cases y2 : k = E 0 0
      · rw [if_neg y1, if_pos y2] at q
        exact absurd q (fr j (by omega))
      · rw [if_neg y1, if_neg y2] at q
        exact h1 j k (by omega) (by omega) q
  · rw [n1, e3]
    rw [e2] at q
    by_cases y : k = E 0 0
    · rw [if_pos y] at q
      rw [if_pos y, if_pos y]
      rcases c4 with ⟨-, c2, -, c3⟩ | ⟨c1, -⟩
      · rw [c3, if_pos c2]
      · exact absurd q c1
    · rw [if_neg y] at q
      rw [if_neg y, if_neg y]
      have hb := ((hW.2 k (by omega)).2.2.1) q
      rw [h2 k (by omega) q]
      rcases c4 with ⟨-, -, -, c3⟩ | ⟨-, -, c3⟩
      · rw [c3, if_neg (by omega)]
      · rw [c3]
  · by_cases y : so = 0 ∧ c = E 4 0
    · refine ⟨E 0 0, by omega, by rw [e2, if_pos rfl]; exact y.1, ?_⟩
      rw [e3, if_pos rfl]
      rcases c4 with ⟨-, c2, -⟩ | ⟨c1, -⟩
      · omega
      · exact absurd y.1 c1
    · obtain ⟨k, k1, k2, k3⟩ := h3 c (by
        rcases c4 with ⟨c1, -, c3, -⟩ | ⟨-, c3, -⟩
        · omega
        · omega)
      exact ⟨k, by omega, by rw [e2, if_neg (by omega)]; exact k2, by rw [e3, if_neg (by omega)]; exact k3⟩
  · rw [n1, e3]
    rw [e2] at q
    by_cases y : k = E 0 0
    · rw [if_pos y] at q
      rw [if_pos y, if_pos y]
      rcases c9 with ⟨-, c2, -, c3⟩ | ⟨c1, -⟩
      · rw [c3, if_pos c2]
      · exact absurd q c1
    · rw [if_neg y] at q
      rw [if_neg y, if_neg y]
      have hb := ((hW.2 k (by omega)).2.2.2.1) q
      rw [h4 k (by omega) q]
      rcases c9 with ⟨-, -, -, c3⟩ | ⟨-, -, c3⟩
      · rw [c3, if_neg (by omega)]
      · rw [c3]
  · by_cases y : so = 1 ∧ c = E 9 0
    · refine ⟨E 0 0, by omega, by rw [e2, if_pos rfl]; exact y.1, ?_⟩
      rw [e3, if_pos rfl]
      rcases c9 with ⟨-, c2, -⟩ | ⟨c1, -⟩
      · omega
      · exact absurd y.1 c1
    · obtain ⟨k, k1, k2, k3⟩ := h5 c (by
        rcases c9 with ⟨c1, -, c3, -⟩ | ⟨-, c3, -⟩
        · omega
        · omega)
      exact ⟨k, by omega, by rw [e2, if_neg (by omega)]; exact k2, by rw [e3, if_neg (by omega)]; exact k3⟩
  · rw [n7, n7] at q
    exact h6 c m m2 (c7 c m a) (c7 c m2 b) q
section Par
variable {N p w T : Nat} {L : List (Nat × Nat × Int32 × Bool × Nat)} {g : Nat → Nat} {E : Nat → Nat → Nat} {Nm : Nat → Nat → List Nat} {Pv : Nat → Nat → Int32} {nL lc dp : Nat} {ln : Nat → List Nat} {lk lf : Nat → Nat} {hd : Nat → Int32}
theorem NMQ.co {nm : List Nat} (h : NMQ E Nm) (hC : WU p E) (hf : fnm (Nm 1) nm (E 0 0) 0 = none) : NMQ (ecE E) (ecN Nm E nm) := h.tell (so := 0) (n := E 4 0) hf hC.1.w1 rfl (fun k => rfl) (fun k => rfl) (fun k => rfl) (.inl ⟨rfl, rfl, rfl, fun c => rfl⟩) (.inr ⟨by decide, rfl, fun c => rfl⟩) (fun c m y => mOf_ec y) (fun m => rfl)
theorem NMQ.me {kd c : Nat} {nm : List Nat} (h : NMQ E Nm) (hC : WU p E) (hc : E 4 0 = c + 1) (hf : fnm (Nm 7) nm (E 5 (c + 1) - E 5 c) (E 5 c) = none) : NMQ (emE E kd) (emN Nm E nm) := by
  obtain ⟨h1, h2, h3, h4, h5, h6⟩ := h
  obtain ⟨w1, w2, w3, w4, w5⟩ := hC.1.w2
  refine ⟨h1, h2, h3, h4, h5, fun d m m2 a b q => ?_⟩
  have e5 : ∀ x, emE E kd 5 x = if x = E 4 0 then E 5 (E 4 0) + 1 else E 5 x := fun x => rfl
  have n7 : ∀ m, emN Nm E nm 7 m = if m = E 5 (E 4 0) then nm else Nm 7 m := fun m => rfl
  obtain ⟨a1, a2, a3⟩ := a
  obtain ⟨b1, b2, b3⟩ := b
  have a1' : d < E 4 0 := a1
  rw [e5] at a2 a3 b2 b3
  rw [if_neg (by omega)] at a2 b2
  have fr : ∀ k, E 5 c ≤ k → k < E 5 (c + 1) → Nm 7 k ≠ nm := fun k y1 y2 => fnm_none _ _ hf k y1 (by omega)
  rw [n7, n7] at q
  have m1 := w3 d a1'
  by_cases y : d = c
  · subst y
    rw [if_pos (by omega), hc] at a3 b3
    rw [hc] at q
    by_cases y1 : m = E 5 (d + 1)
    · by_cases y2 : m2 = E 5 (d + 1)
      · omega
      · rw [if_pos y1, if_neg y2] at q
        exact absurd q.symm (fr m2 b2 (by omega))
    · by_cases y2 : m2 = E 5 (d + 1)
      · rw [if_neg y1, if_pos y2] at q
        exact absurd q (fr m a2 (by omega))
      · rw [if_neg y1, if_neg y2] at q
        exact h6 d m m2 ⟨a1', a2, by omega⟩ ⟨a1', b2, by omega⟩ q
  · rw [if_neg (by omega)] at a3 b3
    rw [if_neg (by omega), if_neg (by omega)] at q
    exact h6 d m m2 ⟨a1', a2, a3⟩ ⟨a1', b2, b3⟩ q
end Par
