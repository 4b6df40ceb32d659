/-! ===== a pending event is moved (reference) ===== -/
section Par
variable {N p wo inp cs w u ir M K0 : Nat} {s pl : Int32} {ty mn nu cd : Nat → Int32} {E Q : Nat → Nat → Nat} {V : Nat → Nat → Int32} {nL lc : Nat} {lk : Nat → Nat} {hd : Nat → Int32}
theorem ev_mvs {u2 a b : Nat} (ha : a < 256) (hb : b < 256) (hd : u2 = u ∨ u + 9 < u2 ∨ u2 + 9 < u) : ∀ j n i B, i + j = 4 → j < n → isU B u → isU B u2 → ∃ B2, B_MWorld_moves_39 N u u2 (nI a) (nI b) n (nI i) B = some ((), B2) ∧ same (fun x f => x = u + 8 ∧ 4 * b + i ≤ f ∧ f < 4 * b + 4) B B2 ∧ ∀ q, i ≤ q → q < 4 → B2.D (u + 8) (4 * b + q) = B.D (u2 + 8) (4 * a + q) := by
  intro j
  induction j with
  | zero =>
    intro n i B hi hn U U2
    obtain ⟨n, rfl⟩ : ∃ y, n = y + 1 := ⟨n - 1, by omega⟩
    refine ⟨B, ?_, same.rf, fun q _ _ => by omega⟩
    rw [B_MWorld_moves_39, if_pos (show (4 : Int32) ≤ nI i from nI_le (a := 4) (by omega) (by omega))]
  | succ j ih =>
    intro n i B hi hn U U2
    obtain ⟨n, rfl⟩ : ∃ y, n = y + 1 := ⟨n - 1, by omega⟩
    obtain ⟨B2, r1, r2, r3⟩ := ih n (i + 1) (B.sD (u + 8) (4 * b + i) (B.D (u2 + 8) (4 * a + i))) (by omega) (by omega) U U2
    refine ⟨B2, ?_, ((same.rf (H := B)).sD (by omega)).tr (r2.mono fun a f y => by omega), fun q h1 h2 => ?_⟩
    · rw [B_MWorld_moves_39, if_neg (show ¬ (4 : Int32) ≤ nI i from nI_ge (b := 4) (by omega) (by omega)), ck_t (US U), rf_t (UP_12 U), ck_t (US U2), rf_t (UP_12 U2), ar_t (UA_12 U2), show (4 : Int32) * nI a + nI i = nI (4 * a + i) from nI_ma 4 _ i, rdI (show 4 * a + i < 1024 by omega) (by decide), ar_t (UA_12 U), show (4 : Int32) * nI b + nI i = nI (4 * b + i) from nI_ma 4 _ i, wrI (show 4 * b + i < 1024 by omega) (by decide), nI_1]
      exact r1
    · by_cases y : q = i
      · rw [r2.1 _ _ (by omega), y, rds]
      · rw [r3 q (by omega) h2, rdnn (by omega)]
def MVB (u b x f : Nat) : Prop := (x = u + 5 ∧ f = b) ∨ (x = u + 6 ∧ f = b) ∨ (x = u + 7 ∧ f = b) ∨ (x = u + 8 ∧ 4 * b ≤ f ∧ f < 4 * b + 4)
theorem ev_mv {B : Hp} {u2 a b : Nat} (hN : 300 ≤ N) (ha : a < 256) (hb : b < 256) (hd : u2 = u ∨ u + 9 < u2 ∨ u2 + 9 < u) (U : isU B u) (U2 : isU B u2) : ∃ B2, F_MWorld_moves N u u2 (nI a) (nI b) B = some ((), B2) ∧ same (MVB u b) B B2 ∧ B2.D (u + 5) b = B.D (u2 + 5) a ∧ B2.D (u + 6) b = B.D (u2 + 6) a ∧ B2.D (u + 7) b = B.D (u2 + 7) a ∧ ∀ q, q < 4 → B2.D (u + 8) (4 * b + q) = B.D (u2 + 8) (4 * a + q) := by
  have V1 : isU (B.sD (u + 5) b (B.D (u2 + 5) a)) u := U
  have V12 : isU (B.sD (u + 5) b (B.D (u2 + 5) a)) u2 := U2
  have V2 : isU ((B.sD (u + 5) b (B.D (u2 + 5) a)).sD (u + 6) b (B.D (u2 + 6) a)) u := U
  have V22 : isU ((B.sD (u + 5) b (B.D (u2 + 5) a)).sD (u + 6) b (B.D (u2 + 6) a)) u2 := U2
  obtain ⟨B2, r1, r2, r3⟩ := ev_mvs (N := N) ha hb hd 4 N 0 (((B.sD (u + 5) b (B.D (u2 + 5) a)).sD (u + 6) b (B.D (u2 + 6) a)).sD (u + 7) b (B.D (u2 + 7) a)) rfl (by omega) U U2
  refine ⟨B2, ?_, ((((same.rf (H := B)).sD (.inl ⟨rfl, rfl⟩)).sD (.inr (.inl ⟨rfl, rfl⟩))).sD (.inr (.inr (.inl ⟨rfl, rfl⟩)))).tr (r2.mono fun x f y => .inr (.inr (.inr (by omega)))), ?_, ?_, ?_, fun q hq => ?_⟩
  · unfold F_MWorld_moves
    rw [ck_t (US U), rf_t (UP_9 U), ck_t (US U2), rf_t (UP_9 U2), ar_t (UA_9 U2), rdI ha (by decide), ar_t (UA_9 U), wrI hb (by decide), rf_t (UP_10 V1), rf_t (UP_10 V12), ar_t (UA_10 V12), rdI ha (by decide), rdw (by omega), ar_t (UA_10 V1), wrI hb (by decide), rf_t (UP_11 V2), rf_t (UP_11 V22), ar_t (UA_11 V22), rdI ha (by decide), rdw (by omega), rdw (by omega), ar_t (UA_11 V2), wrI hb (by decide)]
    exact r1
  · rw [r2.1 _ _ (by omega), rdw (by omega), rdw (by omega), rds]
  · rw [r2.1 _ _ (by omega), rdw (by omega), rds]
  · rw [r2.1 _ _ (by omega), rds]
  · rw [r3 q (by omega) hq, rdw (by omega), rdw (by omega), rdw (by omega)]
end Par
