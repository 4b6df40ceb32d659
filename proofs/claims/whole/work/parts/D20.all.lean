/-! ===== expressions at every depth ===== -/
section Par
variable {N p w T : Nat} {L : List (Nat × Nat × Int32 × Bool × Nat)} {g : Nat → Nat} {E : Nat → Nat → Nat} {Nm : Nat → Nat → List Nat} {Pv : Nat → Nat → Int32} {nL lc dp : Nat} {ln : Nat → List Nat} {lk lf : Nat → Nat} {hd : Nat → Int32}
theorem jo_levels {m dt : Nat} (hN : 7000 ≤ N) (hC : (CX p E Nm nL lc dp ln lk lf hd)) (h5 : ∀ dc, 6 * m ≤ dc → IH5 (X_BodyE N (dc + 1)) (X_TextE N dt) p w T L g E Nm Pv nL lc dp ln lk lf hd) : ∀ dc, 6 * m + 5 ≤ dc → IH0 (X_BodyE N (dc + 1)) (X_TextE N (dt + 1)) p w T L g E Nm Pv nL lc dp ln lk lf hd := by
  have l4 : ∀ dc, 6 * m + 1 ≤ dc → ∀ i cs A B, (JA p T L g E Nm Pv nL lc dp ln lk lf hd i cs A) → (JB w T L g E Nm Pv nL lc dp ln lk lf hd i B) → cs + 8 ≤ 2 * tkp L i → (Out (SBo p (E 0 0)) (SRo w) w L i A B ((X_BodyE N (dc + 1)).1 9 (nI 4) A) (F_MText_product N (X_TextE N dt) w B) ((PE p w T L g E Nm Pv nL lc dp ln lk lf hd 4 i cs A B))) := by
    intro dc hdc i cs A B ha hb hcs
    obtain ⟨d, rfl⟩ : ∃ d, dc = d + 1 := ⟨dc - 1, by omega⟩
    have e : F_MText_product N (X_TextE N dt) w B = bC ((X_TextE N dt).2 w B) (fun v H => B_MText_product_5 N (X_TextE N dt) w N v H) := by
      unfold F_MText_product
      rw [ck_t (TS hb.1.1.1)]
    rw [e]
    exact jo_start (l := 4) (o := X_BodyE N (d + 1)) (RL := fun n v H => B_MText_product_5 N (X_TextE N dt) w n v H) (RN := (X_TextE N dt).2 w) (RK := rkP N (X_TextE N dt) w) (by omega) hC (by omega) (fun i B n k hb h => pr_0 hb h) (fun i B n k hb h => pr_1 hb h) (fun n i k k2 j H hb hi h hk => pr_2 hb hi h hk) (fun n i k y H kf p0 hz hi => pr_3 hz hi) (fun n v H kf p0 hz => pr_4 hz) (fun i cs A B ha hb hcs => by rw [if_pos rfl]; exact h5 d (by omega) i cs A B ha hb hcs) ha hb hcs
  have l3 : ∀ dc, 6 * m + 2 ≤ dc → ∀ i cs A B, (JA p T L g E Nm Pv nL lc dp ln lk lf hd i cs A) → (JB w T L g E Nm Pv nL lc dp ln lk lf hd i B) → cs + 8 ≤ 2 * tkp L i → (Out (SBo p (E 0 0)) (SRo w) w L i A B ((X_BodyE N (dc + 1)).1 9 (nI 3) A) (F_MText_sum N (X_TextE N dt) w B) ((PE p w T L g E Nm Pv nL lc dp ln lk lf hd 3 i cs A B))) := by
    intro dc hdc i cs A B ha hb hcs
    obtain ⟨d, rfl⟩ : ∃ d, dc = d + 1 := ⟨dc - 1, by omega⟩
    have e : F_MText_sum N (X_TextE N dt) w B = bC (F_MText_product N (X_TextE N dt) w B) (fun v H => B_MText_sum_5 N (X_TextE N dt) w N v H) := by
      unfold F_MText_sum
      rw [ck_t (TS hb.1.1.1)]
    rw [e]
    exact jo_start (l := 3) (o := X_BodyE N (d + 1)) (RL := fun n v H => B_MText_sum_5 N (X_TextE N dt) w n v H) (RN := F_MText_product N (X_TextE N dt) w) (RK := rkS N (X_TextE N dt) w) (by omega) hC (by omega) (fun i B n k hb h => su_0 hb h) (fun i B n k hb h => su_1 hb h) (fun n i k k2 j H hb hi h hk => su_2 hb hi h hk) (fun n i k y H kf p0 hz hi => su_3 hz hi) (fun n v H kf p0 hz => su_4 hz) (fun i cs A B ha hb hcs => by rw [if_neg (by decide)]; exact l4 d (by omega) i cs A B ha hb hcs) ha hb hcs
  have l2 : ∀ dc, 6 * m + 3 ≤ dc → ∀ i cs A B, (JA p T L g E Nm Pv nL lc dp ln lk lf hd i cs A) → (JB w T L g E Nm Pv nL lc dp ln lk lf hd i B) → cs + 8 ≤ 2 * tkp L i → (Out (SBo p (E 0 0)) (SRo w) w L i A B ((X_BodyE N (dc + 1)).1 9 (nI 2) A) (F_MText_compared N (X_TextE N dt) w B) ((PE p w T L g E Nm Pv nL lc dp ln lk lf hd 2 i cs A B))) := by
    intro dc hdc i cs A B ha hb hcs
    obtain ⟨d, rfl⟩ : ∃ d, dc = d + 1 := ⟨dc - 1, by omega⟩
    exact jo_cmp (o := X_BodyE N (d + 1)) (by omega) hC (fun i cs A B ha hb hcs => l3 d (by omega) i cs A B ha hb hcs) ha hb hcs
  have l1 : ∀ dc, 6 * m + 4 ≤ dc → ∀ i cs A B, (JA p T L g E Nm Pv nL lc dp ln lk lf hd i cs A) → (JB w T L g E Nm Pv nL lc dp ln lk lf hd i B) → cs + 8 ≤ 2 * tkp L i → (Out (SBo p (E 0 0)) (SRo w) w L i A B ((X_BodyE N (dc + 1)).1 9 (nI 1) A) (F_MText_both N (X_TextE N dt) w B) ((PE p w T L g E Nm Pv nL lc dp ln lk lf hd 1 i cs A B))) := by
    intro dc hdc i cs A B ha hb hcs
    obtain ⟨d, rfl⟩ : ∃ d, dc = d + 1 := ⟨dc - 1, by omega⟩
    have e : F_MText_both N (X_TextE N dt) w B = bC (F_MText_compared N (X_TextE N dt) w B) (fun v H => B_MText_both_5 N (X_TextE N dt) w N v H) := by
      unfold F_MText_both
      rw [ck_t (TS hb.1.1.1)]
    rw [e]
    exact jo_start (l := 1) (o := X_BodyE N (d + 1)) (RL := fun n v H => B_MText_both_5 N (X_TextE N dt) w n v H) (RN := F_MText_compared N (X_TextE N dt) w) (RK := rkB N (X_TextE N dt) w) (by omega) hC (by omega) (fun i B n k hb h => bo_0 hb h) (fun i B n k hb h => bo_1 hb h) (fun n i k k2 j H hb hi h hk => bo_2 hb hi h hk) (fun n i k y H kf p0 hz hi => bo_3 hz hi) (fun n v H kf p0 hz => bo_4 hz) (fun i cs A B ha hb hcs => by rw [if_neg (by decide)]; exact l2 d (by omega) i cs A B ha hb hcs) ha hb hcs
  intro dc hdc i cs A B ha hb hcs
  obtain ⟨d, rfl⟩ : ∃ d, dc = d + 1 := ⟨dc - 1, by omega⟩
  show (Out (SBo p (E 0 0)) (SRo w) w L i A B ((X_BodyE N (d + 1 + 1)).1 9 (nI 0) A) (F_MText_value N (X_TextE N dt) w B) ((PE p w T L g E Nm Pv nL lc dp ln lk lf hd 0 i cs A B)))
  have e : F_MText_value N (X_TextE N dt) w B = bC (F_MText_both N (X_TextE N dt) w B) (fun v H => B_MText_value_5 N (X_TextE N dt) w N v H) := by
    unfold F_MText_value
    rw [ck_t (TS hb.1.1.1)]
  rw [e]
  exact jo_start (l := 0) (o := X_BodyE N (d + 1)) (RL := fun n v H => B_MText_value_5 N (X_TextE N dt) w n v H) (RN := F_MText_both N (X_TextE N dt) w) (RK := rkV N (X_TextE N dt) w) (by omega) hC (by omega) (fun i B n k hb h => va_0 hb h) (fun i B n k hb h => va_1 hb h) (fun n i k k2 j H hb hi h hk => va_2 hb hi h hk) (fun n i k y H kf p0 hz hi => va_3 hz hi) (fun n v H kf p0 hz => va_4 hz) (fun i cs A B ha hb hcs => by rw [if_neg (by decide)]; exact l1 d (by omega) i cs A B ha hb hcs) ha hb hcs
theorem jo_depth (hN : 7000 ≤ N) : ∀ m dp, 20 - dp ≤ m → dp ≤ 20 → (CX p E Nm nL lc dp ln lk lf hd) → ∀ dt, 2 * m + 2 ≤ dt →
    (∀ dc, 6 * m ≤ dc → IH5 (X_BodyE N (dc + 1)) (X_TextE N (dt + 1)) p w T L g E Nm Pv nL lc dp ln lk lf hd) ∧ ∀ dc, 6 * m + 5 ≤ dc → IH0 (X_BodyE N (dc + 1)) (X_TextE N (dt + 1 + 1)) p w T L g E Nm Pv nL lc dp ln lk lf hd := by
  intro m
  induction m with
  | zero =>
    intro dp hm hdp hC dt hdt
    have h5 : ∀ dc, 6 * 0 ≤ dc → IH5 (X_BodyE N (dc + 1)) (X_TextE N (dt + 1)) p w T L g E Nm Pv nL lc dp ln lk lf hd := by
      intro dc hdc i cs A B ha hb hcs
      obtain ⟨d2, rfl⟩ : ∃ z, dt = z + 2 := ⟨dt - 2, by omega⟩
      exact jo_unary (o := X_BodyE N dc) (o' := X_TextE N (d2 + 2)) (ZO_X (by omega)) (fun h => absurd h (by omega)) (fun h => absurd h (by omega)) ha hb hC hcs hN
    exact ⟨h5, jo_levels hN hC h5⟩
  | succ m ihm =>
    intro dp hm hdp hC dt hdt
    have h5 : ∀ dc, 6 * (m + 1) ≤ dc → IH5 (X_BodyE N (dc + 1)) (X_TextE N (dt + 1)) p w T L g E Nm Pv nL lc dp ln lk lf hd := by
      intro dc hdc i cs A B ha hb hcs
      obtain ⟨d2, rfl⟩ : ∃ z, dt = z + 2 := ⟨dt - 2, by omega⟩
      obtain ⟨c2, rfl⟩ : ∃ z, dc = z + 1 := ⟨dc - 1, by omega⟩
      refine jo_unary (o := X_BodyE N (c2 + 1)) (o' := X_TextE N (d2 + 2)) (ZO_X (by omega)) (fun h => ?_) (fun h => ?_) ha hb hC hcs hN
      · exact (ihm (dp + 1) (by omega) (by omega) ⟨hC.1, hC.2.1, hC.2.2.1, hC.2.2.2.1, by have := hC.2.2.2.2.1; omega, by omega, hC.2.2.2.2.2.2⟩ d2 (by omega)).2 c2 (by omega)
      · exact (ihm (dp + 1) (by omega) (by omega) ⟨hC.1, hC.2.1, hC.2.2.1, hC.2.2.2.1, by have := hC.2.2.2.2.1; omega, by omega, hC.2.2.2.2.2.2⟩ (d2 + 1) (by omega)).1 c2 (by omega)
    exact ⟨h5, jo_levels hN hC h5⟩
/-- every expression -/
theorem jo_expr (hN : 7000 ≤ N) (hC : (CX p E Nm nL lc dp ln lk lf hd)) : IH0 (X_BodyE N 140) (X_TextE N 50) p w T L g E Nm Pv nL lc dp ln lk lf hd :=
  (jo_depth hN 20 dp (by omega) hC.2.2.2.2.2.1 hC 48 (by omega)).2 139 (by omega)
theorem ZO_50 (hN : 1 ≤ N) : ZO w (X_TextE N 50) := ZO_X (d := 48) hN
end Par
