/-! ===== a world is copied: reference ===== -/
theorem lU_dj {u u2 : Nat} (h : u ∈ lU) (h2 : u2 ∈ lU) (hn : u ≠ u2) : u + 9 < u2 ∨ u2 + 9 < u := by
  unfold lU at h h2
  simp only [List.mem_cons, List.not_mem_nil, or_false] at h h2
  omega
def cU (u a f : Nat) : Prop := u ≤ a ∧ a ≤ u + 9
section Par
variable {N p wo inp cs w u ir M K0 : Nat} {s pl : Int32} {ty mn nu cd : Nat → Int32} {E Q : Nat → Nat → Nat} {V : Nat → Nat → Int32} {nL lc : Nat} {lk : Nat → Nat} {hd : Nat → Int32}
theorem cb74 {u2 : Nat} (dj : u + 9 < u2 ∨ u2 + 9 < u) : ∀ j n i B, i + j = 32 → j < n → isU B u → isU B u2 → ∃ B2, B_MWorld_copies_74 N u u2 n (nI i) B = B_MWorld_copies_100 N u u2 N (nI 0) B2 ∧ same (fun a f => a = u + 9 ∧ i ≤ f ∧ f < 32) B B2 ∧ ∀ x, i ≤ x → x < 32 → B2.D (u + 9) x = B.D (u2 + 9) x := by
  intro j
  induction j with
  | zero =>
    intro n i B hi hn U U2
    obtain ⟨n, rfl⟩ : ∃ y, n = y + 1 := ⟨n - 1, by omega⟩
    refine ⟨B, ?_, same.rf, fun x _ _ => by omega⟩
    rw [B_MWorld_copies_74, if_pos (show (32 : Int32) ≤ nI i from nI_le (a := 32) (by omega) (by omega))]
    rfl
  | succ j ih =>
    intro n i B hi hn U U2
    obtain ⟨n, rfl⟩ : ∃ y, n = y + 1 := ⟨n - 1, by omega⟩
    obtain ⟨B2, r1, r2, r3⟩ := ih n (i + 1) (B.sD (u + 9) i (B.D (u2 + 9) i)) (by omega) (by omega) U U2
    refine ⟨B2, ?_, ((same.rf (H := B)).sD (by omega)).tr (r2.mono fun a f y => by omega), fun x h1 h2 => ?_⟩
    · rw [B_MWorld_copies_74, if_neg (show ¬ (32 : Int32) ≤ nI i from nI_ge (b := 32) (by omega) (by omega)), ck_t (US U), rf_t (UP_17 U), ck_t (US U2), rf_t (UP_17 U2), ar_t (UA_17 U2), rdI (show i < 32 by omega) (by decide), ar_t (UA_17 U), wrI (show i < 32 by omega) (by decide), nI_1]
      exact r1
    · by_cases y : x = i
      · rw [r2.1 _ _ (by omega), y, rds]
      · rw [r3 x (by omega) h2, rdnn (by omega)]
theorem cb100 {u2 : Nat} (dj : u + 9 < u2 ∨ u2 + 9 < u) : ∀ j n i B, i + j = 256 → j < n → isU B u → isU B u2 → (∀ x, x < 256 → vp_nar .boolean (B.D (u2 + 2) x) = B.D (u2 + 2) x) → ∃ B2, B_MWorld_copies_100 N u u2 n (nI i) B = B_MWorld_copies_151 N u u2 N (nI 0) B2 ∧ same (fun a f => (a = u + 1 ∨ a = u + 2 ∨ a = u + 3) ∧ i ≤ f ∧ f < 256) B B2 ∧ ∀ x, i ≤ x → x < 256 → B2.D (u + 1) x = B.D (u2 + 1) x ∧ B2.D (u + 2) x = B.D (u2 + 2) x ∧ B2.D (u + 3) x = B.D (u2 + 3) x := by
  intro j
  induction j with
  | zero =>
    intro n i B hi hn U U2 hb
    obtain ⟨n, rfl⟩ : ∃ y, n = y + 1 := ⟨n - 1, by omega⟩
    refine ⟨B, ?_, same.rf, fun x _ _ => by omega⟩
    rw [B_MWorld_copies_100, if_pos (show (256 : Int32) ≤ nI i from nI_le (a := 256) (by omega) (by omega))]
    rfl
  | succ j ih =>
    intro n i B hi hn U U2 hb
    obtain ⟨n, rfl⟩ : ∃ y, n = y + 1 := ⟨n - 1, by omega⟩
    have X1 : isU (B.sD (u + 1) i (B.D (u2 + 1) i)) u := U
    have X12 : isU (B.sD (u + 1) i (B.D (u2 + 1) i)) u2 := U2
    have X2 : isU ((B.sD (u + 1) i (B.D (u2 + 1) i)).sD (u + 2) i (B.D (u2 + 2) i)) u := U
    have X22 : isU ((B.sD (u + 1) i (B.D (u2 + 1) i)).sD (u + 2) i (B.D (u2 + 2) i)) u2 := U2
    obtain ⟨B2, r1, r2, r3⟩ := ih n (i + 1) (((B.sD (u + 1) i (B.D (u2 + 1) i)).sD (u + 2) i (B.D (u2 + 2) i)).sD (u + 3) i (B.D (u2 + 3) i)) (by omega) (by omega) U U2 (fun x hx => by rw [rdw (by omega), rdw (by omega), rdw (by omega)]; exact hb x hx)
    refine ⟨B2, ?_, ((((same.rf (H := B)).sD (by omega)).sD (by omega)).sD (by omega)).tr (r2.mono fun a f y => by omega), fun x h1 h2 => ?_⟩
    · rw [B_MWorld_copies_100, if_neg (show ¬ (256 : Int32) ≤ nI i from nI_ge (b := 256) (by omega) (by omega)), ck_t (US U), rf_t (UP_4 U), ck_t (US U2), rf_t (UP_4 U2), ar_t (UA_4 U2), rdI (show i < 256 by omega) (by decide), ar_t (UA_4 U), wrI (show i < 256 by omega) (by decide), rf_t (UP_5 X1), rf_t (UP_5 X12), ar_t (UA_5 X12), rdI (show i < 256 by omega) (by decide), rdw (show u2 + 2 ≠ u + 1 by omega), hb i (by omega), ar_t (UA_5 X1), wrI (show i < 256 by omega) (by decide), rf_t (UP_6 X2), rf_t (UP_6 X22), ar_t (UA_6 X22), rdI (show i < 256 by omega) (by decide), rdw (show u2 + 3 ≠ u + 2 by omega), rdw (show u2 + 3 ≠ u + 1 by omega), ar_t (UA_6 X2), wrI (show i < 256 by omega) (by decide), nI_1]
      exact r1
    · by_cases y : x = i
      · subst y
        rw [r2.1 _ _ (by omega), r2.1 _ _ (by omega), r2.1 _ _ (by omega)]
        refine ⟨?_, ?_, rds⟩
        · rw [rdw (by omega), rdw (by omega), rds]
        · rw [rdw (by omega), rds]
      · obtain ⟨k1, k2, k3⟩ := r3 x (by omega) h2
        rw [k1, k2, k3]
        refine ⟨?_, ?_, ?_⟩ <;> rw [rdw (by omega), rdw (by omega), rdw (by omega)]
theorem cb151 {u2 : Nat} (dj : u + 9 < u2 ∨ u2 + 9 < u) : ∀ j n i B, i + j = 12288 → j < n → isU B u → isU B u2 → ∃ B2, B_MWorld_copies_151 N u u2 n (nI i) B = B_MWorld_copies_178 N u u2 N (nI 0) B2 ∧ same (fun a f => a = u + 4 ∧ i ≤ f ∧ f < 12288) B B2 ∧ ∀ x, i ≤ x → x < 12288 → B2.D (u + 4) x = B.D (u2 + 4) x := by
  intro j
  induction j with
  | zero =>
    intro n i B hi hn U U2
    obtain ⟨n, rfl⟩ : ∃ y, n = y + 1 := ⟨n - 1, by omega⟩
    refine ⟨B, ?_, same.rf, fun x _ _ => by omega⟩
    rw [B_MWorld_copies_151, if_pos (show (12288 : Int32) ≤ nI i from nI_le (a := 12288) (by omega) (by omega))]
    rfl
  | succ j ih =>
    intro n i B hi hn U U2
    obtain ⟨n, rfl⟩ : ∃ y, n = y + 1 := ⟨n - 1, by omega⟩
    obtain ⟨B2, r1, r2, r3⟩ := ih n (i + 1) (B.sD (u + 4) i (B.D (u2 + 4) i)) (by omega) (by omega) U U2
    refine ⟨B2, ?_, ((same.rf (H := B)).sD (by omega)).tr (r2.mono fun a f y => by omega), fun x h1 h2 => ?_⟩
    · rw [B_MWorld_copies_151, if_neg (show ¬ (12288 : Int32) ≤ nI i from nI_ge (b := 12288) (by omega) (by omega)), ck_t (US U), rf_t (UP_7 U), ck_t (US U2), rf_t (UP_7 U2), ar_t (UA_7 U2), rdI (show i < 12288 by omega) (by decide), ar_t (UA_7 U), wrI (show i < 12288 by omega) (by decide), nI_1]
      exact r1
    · by_cases y : x = i
      · rw [r2.1 _ _ (by omega), y, rds]
      · rw [r3 x (by omega) h2, rdnn (by omega)]
theorem cb178 {u2 P : Nat} (hN : 300 ≤ N) (dj : u + 9 < u2 ∨ u2 + 9 < u) (hP : P ≤ 256) : ∀ j n i B, i + j = P → j < n → isU B u → isU B u2 → B.D u 8 = nI P → ∃ B2, B_MWorld_copies_178 N u u2 n (nI i) B = some ((), B2) ∧ same (fun a f => u + 5 ≤ a ∧ a ≤ u + 8) B B2 ∧ (∀ k, k < i → B2.D (u + 5) k = B.D (u + 5) k ∧ B2.D (u + 6) k = B.D (u + 6) k ∧ B2.D (u + 7) k = B.D (u + 7) k ∧ ∀ q, q < 4 → B2.D (u + 8) (4 * k + q) = B.D (u + 8) (4 * k + q)) ∧ ∀ k, i ≤ k → k < P → B2.D (u + 5) k = B.D (u2 + 5) k ∧ B2.D (u + 6) k = B.D (u2 + 6) k ∧ B2.D (u + 7) k = B.D (u2 + 7) k ∧ ∀ q, q < 4 → B2.D (u + 8) (4 * k + q) = B.D (u2 + 8) (4 * k + q) := by
  intro j
  induction j with
  | zero =>
    intro n i B hi hn U U2 h8
    obtain ⟨n, rfl⟩ : ∃ y, n = y + 1 := ⟨n - 1, by omega⟩
    refine ⟨B, ?_, same.rf, fun k _ => ⟨rfl, rfl, rfl, fun _ _ => rfl⟩, fun k _ _ => by omega⟩
    rw [B_MWorld_copies_178, ck_t (US U), bnd_t, h8, if_pos (nI_le (by omega) (by omega))]
  | succ j ih =>
    intro n i B hi hn U U2 h8
    obtain ⟨n, rfl⟩ : ∃ y, n = y + 1 := ⟨n - 1, by omega⟩
    obtain ⟨B1, k1, k2, k3, k4, k5, k6⟩ := ev_mv (N := N) (u := u) (u2 := u2) (a := i) (b := i) hN (by omega) (by omega) (by omega) U U2
    have tr : ∀ v, isU B v → isU B1 v := fun v V => by
      obtain ⟨q1, q2, q3, q4, q5⟩ := k2
      unfold isU at V ⊢
      rw [q2, q4]
      exact V
    have d2 : ∀ a f, u2 ≤ a → a ≤ u2 + 9 → B1.D a f = B.D a f := fun a f y1 y2 => k2.1 a f (by unfold MVB; omega)
    obtain ⟨B2, r1, r2, r3, r4⟩ := ih n (i + 1) B1 (by omega) (by omega) (tr u U) (tr u2 U2) (by rw [k2.1 _ _ (by unfold MVB; omega)]; exact h8)
    refine ⟨B2, ?_, (k2.mono fun a f y => by unfold MVB at y; omega).tr r2, fun k hk => ?_, fun k h1 h2 => ?_⟩
    · rw [B_MWorld_copies_178, ck_t (US U), bnd_t, h8, if_neg (nI_ge (by omega) (by omega)), bC_t k1, nI_1]
      exact r1
    · obtain ⟨x1, x2, x3, x4⟩ := r3 k (by omega)
      rw [x1, x2, x3]
      refine ⟨k2.1 _ _ (by unfold MVB; omega), k2.1 _ _ (by unfold MVB; omega), k2.1 _ _ (by unfold MVB; omega), fun q hq => ?_⟩
      rw [x4 q hq]
      exact k2.1 _ _ (by unfold MVB; omega)
    · by_cases y : k = i
      · subst y
        obtain ⟨x1, x2, x3, x4⟩ := r3 k (by omega)
        rw [x1, x2, x3]
        exact ⟨k3, k4, k5, fun q hq => by rw [x4 q hq]; exact k6 q hq⟩
      · obtain ⟨x1, x2, x3, x4⟩ := r4 k (by omega) h2
        rw [x1, x2, x3]
        exact ⟨d2 _ _ (by omega) (by omega), d2 _ _ (by omega) (by omega), d2 _ _ (by omega) (by omega), fun q hq => by rw [x4 q hq]; exact d2 _ _ (by omega) (by omega)⟩
/-- the reference's fields -/
theorem cp_B0 {B : Hp} {u2 : Nat} (hn : u2 ≠ u) (U : isU B u) (U2 : isU B u2) : ∃ B1, F_MWorld_copies N u u2 B = B_MWorld_copies_74 N u u2 N (nI 0) B1 ∧ same (fun a f => a = u) B B1 ∧ ∀ f, f < 4 ∨ f = 8 ∨ (13 ≤ f ∧ f ≤ 16) → B1.D u f = B.D u2 f := by
  unfold F_MWorld_copies
  have o2 : ∀ H : Hp, same (fun a f => a = u) B H → ∀ f, H.D u2 f = B.D u2 f := fun H h f => h.1 u2 f hn
  have S0 : same (fun a f => a = u) B B := same.rf
  rw [ck_t (US U2)]
  rw [bnd_t, ck_t (US U), bnd_t]
  generalize g1 : B.sD u 0 (B.D u2 0) = H1
  have S1 : same (fun a f => a = u) B H1 := by
    rw [← g1]
    exact S0.sD rfl
  have N1 : H1.D u 0 = B.D u2 0 := by rw [← g1, rds]
  have D1 : ∀ f, f ≠ 0 → H1.D u f = B.D u f := fun f y => by rw [← g1, rdf y]
  rw [bnd_t, o2 _ S1 1, bnd_t]
  generalize g2 : H1.sD u 1 (B.D u2 1) = H2
  have S2 : same (fun a f => a = u) B H2 := by
    rw [← g2]
    exact S1.sD rfl
  have N2 : H2.D u 1 = B.D u2 1 := by rw [← g2, rds]
  have D2 : ∀ f, f ≠ 1 → H2.D u f = H1.D u f := fun f y => by rw [← g2, rdf y]
  rw [bnd_t, o2 _ S2 2, bnd_t]
  generalize g3 : H2.sD u 2 (B.D u2 2) = H3
  have S3 : same (fun a f => a = u) B H3 := by
    rw [← g3]
    exact S2.sD rfl
  have N3 : H3.D u 2 = B.D u2 2 := by rw [← g3, rds]
  have D3 : ∀ f, f ≠ 2 → H3.D u f = H2.D u f := fun f y => by rw [← g3, rdf y]
  rw [bnd_t, o2 _ S3 3, bnd_t]
  generalize g4 : H3.sD u 3 (B.D u2 3) = H4
  have S4 : same (fun a f => a = u) B H4 := by
    rw [← g4]
    exact S3.sD rfl
  have N4 : H4.D u 3 = B.D u2 3 := by rw [← g4, rds]
  have D4 : ∀ f, f ≠ 3 → H4.D u f = H3.D u f := fun f y => by rw [← g4, rdf y]
  rw [bnd_t, o2 _ S4 8, bnd_t]
  generalize g5 : H4.sD u 8 (B.D u2 8) = H5
  have S5 : same (fun a f => a = u) B H5 := by
    rw [← g5]
    exact S4.sD rfl
  have N5 : H5.D u 8 = B.D u2 8 := by rw [← g5, rds]
  have D5 : ∀ f, f ≠ 8 → H5.D u f = H4.D u f := fun f y => by rw [← g5, rdf y]
  rw [bnd_t, o2 _ S5 13, bnd_t]
  generalize g6 : H5.sD u 13 (B.D u2 13) = H6
  have S6 : same (fun a f => a = u) B H6 := by
    rw [← g6]
    exact S5.sD rfl
  have N6 : H6.D u 13 = B.D u2 13 := by rw [← g6, rds]
  have D6 : ∀ f, f ≠ 13 → H6.D u f = H5.D u f := fun f y => by rw [← g6, rdf y]
  rw [bnd_t, o2 _ S6 14, bnd_t]
  generalize g7 : H6.sD u 14 (B.D u2 14) = H7
  have S7 : same (fun a f => a = u) B H7 := by
    rw [← g7]
    exact S6.sD rfl
  have N7 : H7.D u 14 = B.D u2 14 := by rw [← g7, rds]
  have D7 : ∀ f, f ≠ 14 → H7.D u f = H6.D u f := fun f y => by rw [← g7, rdf y]
  rw [bnd_t, o2 _ S7 15, bnd_t]
  generalize g8 : H7.sD u 15 (B.D u2 15) = H8
  have S8 : same (fun a f => a = u) B H8 := by
    rw [← g8]
    exact S7.sD rfl
  have N8 : H8.D u 15 = B.D u2 15 := by rw [← g8, rds]
  have D8 : ∀ f, f ≠ 15 → H8.D u f = H7.D u f := fun f y => by rw [← g8, rdf y]
  rw [bnd_t, o2 _ S8 16, bnd_t]
  generalize g9 : H8.sD u 16 (B.D u2 16) = H9
  have S9 : same (fun a f => a = u) B H9 := by
    rw [← g9]
    exact S8.sD rfl
  have N9 : H9.D u 16 = B.D u2 16 := by rw [← g9, rds]
  have D9 : ∀ f, f ≠ 16 → H9.D u f = H8.D u f := fun f y => by rw [← g9, rdf y]
  refine ⟨H9, rfl, S9, fun f y => ?_⟩
  have : f = 0 ∨ f = 1 ∨ f = 2 ∨ f = 3 ∨ f = 8 ∨ f = 13 ∨ f = 14 ∨ f = 15 ∨ f = 16 := by omega
  rcases this with rfl | rfl | rfl | rfl | rfl | rfl | rfl | rfl | rfl
  · rw [D9 _ (by decide), D8 _ (by decide), D7 _ (by decide), D6 _ (by decide), D5 _ (by decide), D4 _ (by decide), D3 _ (by decide), D2 _ (by decide), N1]
  · rw [D9 _ (by decide), D8 _ (by decide), D7 _ (by decide), D6 _ (by decide), D5 _ (by decide), D4 _ (by decide), D3 _ (by decide), N2]
  · rw [D9 _ (by decide), D8 _ (by decide), D7 _ (by decide), D6 _ (by decide), D5 _ (by decide), D4 _ (by decide), N3]
  · rw [D9 _ (by decide), D8 _ (by decide), D7 _ (by decide), D6 _ (by decide), D5 _ (by decide), N4]
  · rw [D9 _ (by decide), D8 _ (by decide), D7 _ (by decide), D6 _ (by decide), N5]
  · rw [D9 _ (by decide), D8 _ (by decide), D7 _ (by decide), N6]
  · rw [D9 _ (by decide), D8 _ (by decide), N7]
  · rw [D9 _ (by decide), N8]
  · rw [N9]
end Par
