/-! ===== spawn: the offsets behind its code ===== -/
section Par
variable {N p w T : Nat} {L : List (Nat × Nat × Int32 × Bool × Nat)} {g : Nat → Nat} {E : Nat → Nat → Nat} {Nm : Nat → Nat → List Nat} {Pv : Nat → Nat → Int32} {nL lc dp : Nat} {ln : Nat → List Nat} {lk lf : Nat → Nat} {hd : Nat → Int32}
theorem ev_169 {i a n : Nat} {of : Nat → Nat} (hC : (CX p E Nm nL lc dp ln lk lf hd)) (ha6 : 626 ≤ a) (hn : n ≤ 4) : ∀ d k cs A fu, n - k ≤ d → k ≤ n → d < fu → (JA p T L g E Nm Pv nL lc dp ln lk lf hd i cs A) → A.sh[a]? = some (100, 4) → (∀ t, t < n → A.D a t = nI (of t)) → cs + (n - k) < 12000 →
    ∃ A', B_Body_readSpawn_169 N 9 fu a (nI n) (nI k) A = some (.inl (), A') ∧ (JA p T L g E Nm Pv nL lc dp ln lk lf hd i (cs + (n - k)) A') ∧ exA (SBo p (E 0 0)) 0 A A' ∧ (∀ x, x < cs → A'.D (p + 191) x = A.D (p + 191) x) ∧ ∀ t, k ≤ t → t < n → A'.D (p + 191) (cs + (t - k)) = nI (of t) := by
  have hp := hC.2.1
  intro d
  induction d with
  | zero =>
    intro k cs A fu hd hk hfu ha hs hof hcs
    obtain ⟨fu, rfl⟩ : ∃ z, fu = z + 1 := ⟨fu - 1, by omega⟩
    refine ⟨A, ?_, ?_, exA.rf, fun x hx => rfl, fun t h1 h2 => absurd h2 (by omega)⟩
    · rw [B_Body_readSpawn_169, if_pos (show nI n ≤ nI k from nI_le (by omega) (by omega))]
    · rw [show n - k = 0 by omega]; exact ha
  | succ d ihd =>
    intro k cs A fu hd hk hfu ha hs hof hcs
    obtain ⟨fu, rfl⟩ : ∃ z, fu = z + 1 := ⟨fu - 1, by omega⟩
    by_cases q : k < n
    · have hG := ha.1.1.1
      have hP := ha.pP hC
      have hA1 := ha.add (v := nI (of k)) hC
      have hs1 : (addA A p cs (nI (of k))).sh[a]? = some (100, 4) := hs
      have ho1 : ∀ t, t < n → (addA A p cs (nI (of k))).D a t = nI (of t) := fun t ht => by
        unfold addA
        rw [rdw (by omega), rdw (by omega)]; exact hof t ht
      obtain ⟨A', e1, e2, e3, e4, e5⟩ := ihd (k + 1) (cs + 1) _ fu (by omega) (by omega) (by omega) hA1 hs1 ho1 (by omega)
      refine ⟨A', ?_, ?_, add_ex.tr e3, fun x hx => ?_, fun t h1 h2 => ?_⟩
      · rw [B_Body_readSpawn_169, if_neg (show ¬ nI n ≤ nI k from nI_ge q (by omega)), ck_t (rS_9 hG), rf_t ha.2.2.1, ar_t hs, rdI (show k < 4 by omega) (by decide), hof k q, ck_t (PrS hP), bC_t (ev_add ha hP (by omega)), nI_1, e1]
      · rw [show cs + (n - k) = cs + 1 + (n - (k + 1)) by omega]; exact e2
      · rw [e4 x (by omega), code_add, if_neg (by omega)]
      · by_cases z : t = k
        · subst z
          have e6 := e4 cs (by omega)
          rw [code_add, if_pos rfl] at e6
          rw [show cs + (t - t) = cs by omega]
          exact e6
        · rw [show cs + (t - k) = cs + 1 + (t - (k + 1)) by omega]
          exact e5 t (by omega) h2
    · refine ⟨A, ?_, ?_, exA.rf, fun x hx => rfl, fun t h1 h2 => absurd h2 (by omega)⟩
      · rw [B_Body_readSpawn_169, if_pos (show nI n ≤ nI k from nI_le (by omega) (by omega))]
      · rw [show n - k = 0 by omega]; exact ha
end Par
