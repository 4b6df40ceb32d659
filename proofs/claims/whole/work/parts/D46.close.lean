/-! ===== spawn: the parenthesis closes ===== -/
section Par
variable {N p w T : Nat} {L : List (Nat × Nat × Int32 × Bool × Nat)} {g : Nat → Nat} {E : Nat → Nat → Nat} {Nm : Nat → Nat → List Nat} {Pv : Nat → Nat → Int32} {nL lc dp : Nat} {ln : Nat → List Nat} {lk lf : Nat → Nat} {hd : Nat → Int32}
theorem jo_spClose {A B : Hp} {m cs f n a : Nat} {of : Nat → Nat} (ha : (JA p T L g E Nm Pv nL lc (dp + 1) ln lk lf hd m cs A)) (hb : (JB w T L g E Nm Pv nL lc (dp + 1) ln lk lf hd m B)) (hC : (CX p E Nm nL lc dp ln lk lf hd)) (h20 : dp < 20) (hN : 7000 ≤ N) (hn : n ≤ 4) (hcs : cs + 8 ≤ 12000) (hs : A.sh[a]? = some (100, 4)) (ha6 : 626 ≤ a) (hof : ∀ t, t < n → A.D a t = nI (of t)) :
    (Out (SBo p (E 0 0)) (SRo w) w L m A B (B_Body_readSpawn_125 N 9 (nI f) a (nI n) A) (B_MText_spawns_154 N w B) (fun j _ A' _ B' => j = m + 2 ∧ tkk L m = 13 ∧ tkk L (m + 1) = 15 ∧ (JA p T L g E Nm Pv nL lc dp ln lk lf hd j (cs + 3 + n) A') ∧ (JB w T L g E Nm Pv nL lc dp ln lk lf hd j B') ∧ cfr p cs A A' ∧ (∀ z, mfr w z B B') ∧ A'.D (p + 191) cs = 20 ∧ A'.D (p + 191) (cs + 1) = nI f ∧ A'.D (p + 191) (cs + 2) = nI n ∧ ∀ t, t < n → A'.D (p + 191) (cs + 3 + t) = nI (of t))) := by
  have hp := hC.2.1
  have hG := ha.1.1.1
  unfold B_Body_readSpawn_125 B_MText_spawns_154
  rw [ck_t (rS_9 hG), ck_t (TS hb.1.1.1)]
  refine Out.bind (jo_closes (N := N) ha hb hC h20) ?_ ?_
  rotate_left
  · intro y B' k p0 hz
    exact ⟨(), B', by unfold B_MText_spawns_158; rw [ck_t (TS hz.1), bC_t (fz_takes hz)], hz, same.rf⟩
  intro j v A1 y B1 hij hxa1 hsb1 hQ
  obtain ⟨rfl, q13, rfl, rfl, hA1, hB1⟩ := hQ
  have hs1 : ((advA A L m).sD 9 6 (nI dp)).sh[a]? = some (100, 4) := hs
  have ho1 : ∀ t, t < n → ((advA A L m).sD 9 6 (nI dp)).D a t = nI (of t) := fun t ht => by
    unfold advA
    rw [rdw (by omega), rdw (by omega), rdw (by omega), rdw (by omega)]
    exact hof t ht
  refine Out.wk (jo_spTail (f := f) (of := of) hA1 hB1 hC hN hn hcs hs1 ha6 ho1) ?_
  intro j v A2 y B2 hij2 hxa2 hsb2 hQ
  obtain ⟨rfl, q15, hA2, hB2, hcf, hmf, c0, c1, c2, c3⟩ := hQ
  refine ⟨rfl, q13, q15, hA2, hB2, fun x hx => ?_, fun z t ht => ?_, c0, c1, c2, c3⟩
  · rw [hcf x hx, rdw (by omega), code_adv hp]
  · rw [(hmf z t ht).1, (hmf z t ht).2, rdw (by omega), rdw (by omega), rdw (by omega), rdw (by omega)]
    exact ⟨rfl, rfl⟩
end Par
