/-! ===== spawn: its end ===== -/
section Par
variable {N p w T : Nat} {L : List (Nat × Nat × Int32 × Bool × Nat)} {g : Nat → Nat} {E : Nat → Nat → Nat} {Nm : Nat → Nat → List Nat} {Pv : Nat → Nat → Int32} {nL lc dp : Nat} {ln : Nat → List Nat} {lk lf : Nat → Nat} {hd : Nat → Int32}
theorem jo_spTail {A B : Hp} {m cs f n a : Nat} {of : Nat → Nat} (ha : (JA p T L g E Nm Pv nL lc dp ln lk lf hd m cs A)) (hb : (JB w T L g E Nm Pv nL lc dp ln lk lf hd m B)) (hC : (CX p E Nm nL lc dp ln lk lf hd)) (hN : 7000 ≤ N) (hn : n ≤ 4) (hcs : cs + 8 ≤ 12000) (hs : A.sh[a]? = some (100, 4)) (ha6 : 626 ≤ a) (hof : ∀ t, t < n → A.D a t = nI (of t)) :
    (Out (SBo p (E 0 0)) (SRo w) w L m A B (B_Body_readSpawn_129 N 9 (nI f) a (nI n) A) (B_MText_spawns_158 N w B) (fun j _ A' _ B' => j = m + 1 ∧ tkk L m = 15 ∧ (JA p T L g E Nm Pv nL lc dp ln lk lf hd j (cs + 3 + n) A') ∧ (JB w T L g E Nm Pv nL lc dp ln lk lf hd j B') ∧ cfr p cs A A' ∧ (∀ z, mfr w z B B') ∧ A'.D (p + 191) cs = 20 ∧ A'.D (p + 191) (cs + 1) = nI f ∧ A'.D (p + 191) (cs + 2) = nI n ∧ ∀ t, t < n → A'.D (p + 191) (cs + 3 + t) = nI (of t))) := by
  have hp := hC.2.1
  have hG := ha.1.1.1
  unfold B_Body_readSpawn_129 B_MText_spawns_158
  rw [ck_t (rS_9 hG), rf_t (rP_9_0 hG), ck_t (rS_1 hG), ck_t (TS hb.1.1.1)]
  refine Out.bind (show _ from jo_take (k := 15) ha hb hC (by decide) (by decide)) ?_ (fun y B' k p0 hz => ⟨(), B', rfl, hz, same.rf⟩)
  intro j v A1 y B1 hij hxa1 hsb1 hQ
  obtain ⟨rfl, q15, rfl, rfl, hA1, hB1⟩ := hQ
  have hl1 := hB1.1.2.2.2.2.1
  have hA2 := hA1.add (v := 20) hC
  have hA3 := hA2.add (v := nI f) hC
  have hA4 := hA3.add (v := nI n) hC
  have hs4 : (addA (addA (addA (advA A L m) p cs 20) p (cs + 1) (nI f)) p (cs + 1 + 1) (nI n)).sh[a]? = some (100, 4) := hs
  have ho4 : ∀ t, t < n → (addA (addA (addA (advA A L m) p cs 20) p (cs + 1) (nI f)) p (cs + 1 + 1) (nI n)).D a t = nI (of t) := fun t ht => by
    unfold addA advA
    rw [rdw (by omega), rdw (by omega), rdw (by omega), rdw (by omega), rdw (by omega), rdw (by omega), rdw (by omega), rdw (by omega), rdw (by omega)]
    exact hof t ht
  obtain ⟨A5, e1, e2, e3, e4, e5⟩ := ev_169 (N := N) (a := a) (n := n) (of := of) hC ha6 hn 4 0 _ _ N (by omega) (by omega) (by omega) hA4 hs4 ho4 (by omega)
  rw [rf_t hA1.2.2.1, ck_t (PrS (hA1.pP hC)), bC_t (ev_add hA1 (hA1.pP hC) (by omega)), rf_t hA2.2.2.1, ck_t (PrS (hA2.pP hC)), bC_t (ev_add hA2 (hA2.pP hC) (by omega)), rf_t hA3.2.2.1, ck_t (PrS (hA3.pP hC)), bC_t (ev_add hA3 (hA3.pP hC) (by omega)), show B_Body_readSpawn_169 N 9 N a (nI n) (0 : Int32) _ = _ from e1]
  refine Or.inr ⟨_, _, _, _, m + 1, rfl, rfl, Nat.le_refl _, hl1, (((add_ex.tr add_ex).tr add_ex).tr e3).mono (fun _ _ h => h) (by omega), same.rf, rfl, q15, ?_, hB1, fun x hx => ?_, fun z t ht => ?_, ?_, ?_, ?_, fun t ht => ?_⟩
  · rw [show cs + 3 + n = cs + 1 + 1 + 1 + (n - 0) by omega]; exact e2
  · rw [e4 x (by omega), code_add, if_neg (by omega), code_add, if_neg (by omega), code_add, if_neg (by omega), code_adv hp]
  · rw [rdw (by omega), rdw (by omega)]; exact ⟨rfl, rfl⟩
  · rw [e4 cs (by omega), code_add, if_neg (by omega), code_add, if_neg (by omega), code_add, if_pos rfl]
  · rw [e4 (cs + 1) (by omega), code_add, if_neg (by omega), code_add, if_pos rfl]
  · rw [e4 (cs + 2) (by omega), code_add, if_pos rfl]
  · have := e5 t (by omega) ht
    rw [show cs + 3 + t = cs + 1 + 1 + 1 + (t - 0) by omega]
    exact this
end Par
