/-! ===== the tape: feed, end ===== -/
/-- both tapes hold the same -/
def RTP (A B : Hp) : Prop := ∃ (T : Nat) (g : Nat → Nat), T ≤ 6000 ∧ A.D 1 1 = nI T ∧ B.D 517 2 = nI T ∧ (∀ i, g i < 256) ∧ ∀ i, i < T → A.D 2 i = sx (g i) ∧ B.D 518 i = sx (g i)
theorem sx_255 : ∀ c : Fin 256, sx c.val &&& 255 = nI c.val := by decide +kernel
theorem RTP.fr {A B A' B' : Hp} (h : RTP A B) (hA : ∀ a f, (a = 1 ∧ f = 1) ∨ a = 2 → A'.D a f = A.D a f) (hB : ∀ a f, (a = 517 ∧ f = 2) ∨ a = 518 → B'.D a f = B.D a f) : RTP A' B' := by
  obtain ⟨T, g, h1, h2, h3, h4, h5⟩ := h
  exact ⟨T, g, h1, by rw [hA _ _ (.inl ⟨rfl, rfl⟩)]; exact h2, by rw [hB _ _ (.inl ⟨rfl, rfl⟩)]; exact h3, h4, fun i hi => by rw [hA _ _ (.inr rfl), hB _ _ (.inr rfl)]; exact h5 i hi⟩
theorem RTP.ta {A B : Hp} (h : RTP A B) (hGA : Gr A) (hGB : Gr B) : ∃ T g, TA A T g ∧ TM B T g ∧ B.D 517 2 = nI T := by
  obtain ⟨T, g, h1, h2, h3, h4, h5⟩ := h
  refine ⟨T, fun i => if i < T then g i else 0, ⟨hGA, h2, h1, fun i hi => ?_, fun i => ?_, fun i hi => if_neg (by omega)⟩, ⟨rA_517_1 hGB, h1, fun i hi => ?_, fun i => ?_, fun i hi => if_neg (by omega)⟩, h3⟩
  · show A.D 2 i &&& 255 = nI (if i < T then g i else 0)
    rw [if_pos hi, (h5 i hi).1]
    exact sx_255 ⟨g i, h4 i⟩
  · show (if i < T then g i else 0) < 256
    split
    · exact h4 i
    · decide
  · show B.D 518 i = sx (if i < T then g i else 0)
    rw [if_pos hi]
    exact (h5 i hi).2
  · show (if i < T then g i else 0) < 256
    split
    · exact h4 i
    · decide
theorem sx_int {c : Nat} (h : c < 256) : (sx c).toInt = if c < 128 then (c : Int) else (c : Int) - 256 := by
  unfold sx
  split
  · exact nI_int (by omega)
  · rw [Int32.toInt_sub, nI_int (by omega), show ((256 : Int32)).toInt = 256 from rfl, Int.bmod_eq_of_le (by omega) (by omega)]
theorem t8_sx (x : Int32) : x.toInt8.toInt32 = sx (lo8 x) := by
  apply Int32.toInt_inj.mp
  rw [Int8.toInt_toInt32, Int32.toInt_toInt8, sx_int lo8_lt]
  have e : x.toInt = Int.bmod (x.toUInt32.toNat : Int) (2 ^ 32) := by
    show x.toBitVec.toInt = _
    rw [BitVec.toInt_eq_toNat_bmod]
    rfl
  have hl : lo8 x = x.toUInt32.toNat % 256 := rfl
  have hb : x.toUInt32.toNat < 2 ^ 32 := x.toUInt32.toNat_lt
  rw [e, hl]
  generalize x.toUInt32.toNat = a at hb
  simp only [Int.bmod_def]
  repeat' split
  all_goals omega
theorem ns_sx (x : Int32) : vp_nar .byte (x.toInt8.toInt32) = sx (lo8 x) := by
  rw [t8_sx, sx_nar lo8_lt]
/-- byte k of five words -/
def fbB (a b c d e : Int32) (k : Nat) : Nat := lo8 ((if k < 4 then a else if k < 8 then b else if k < 12 then c else if k < 16 then d else e) >>> (nI (24 - 8 * (k % 4)) &&& 31))
section Par
variable {N p wo inp cs w u ir M K0 : Nat} {s pl : Int32} {ty mn nu cd : Nat → Int32} {E Q : Nat → Nat → Nat} {V : Nat → Nat → Int32} {nL lc : Nat} {lk : Nat → Nat} {hd : Nat → Int32}
theorem ad_lp {v : Int32} : ∀ s n T A, s ≤ 4 → s < n → Gr A → A.D 1 1 = nI T → T + s ≤ 6000 → ∃ A2, B_Lexer_addInt_3 N 1 v n (if s = 0 then -8 else nI (8 * (s - 1))) A = some ((), A2) ∧ same (fun a f => (a = 2 ∧ T ≤ f ∧ f < T + s) ∨ (a = 1 ∧ f = 1)) A A2 ∧ A2.D 1 1 = nI (T + s) ∧ ∀ j, j < s → A2.D 2 (T + j) = sx (lo8 (v >>> (nI (8 * (s - 1 - j)) &&& 31))) := by
  intro s
  induction s with
  | zero =>
    intro n T A h4 hn hG hT h6
    obtain ⟨n, rfl⟩ : ∃ y, n = y + 1 := ⟨n - 1, by omega⟩
    exact ⟨A, by rw [B_Lexer_addInt_3, if_pos rfl, if_pos (by decide)], same.rf, hT, fun j hj => by omega⟩
  | succ s ih =>
    intro n T A h4 hn hG hT h6
    obtain ⟨n, rfl⟩ : ∃ y, n = y + 1 := ⟨n - 1, by omega⟩
    have nx : nI (8 * s) + (-8) = (if s = 0 then -8 else nI (8 * (s - 1))) := by
      have : s = 0 ∨ s = 1 ∨ s = 2 ∨ s = 3 := by omega
      rcases this with rfl | rfl | rfl | rfl <;> decide
    have hG2 : Gr ((A.sD 2 T (sx (lo8 (v >>> (nI (8 * s) &&& 31))))).sD 1 1 (nI (T + 1))) := hG.sD.sD
    have d : ∀ a f, ¬ (a = 2 ∧ f = T) → ¬ (a = 1 ∧ f = 1) → ((A.sD 2 T (sx (lo8 (v >>> (nI (8 * s) &&& 31))))).sD 1 1 (nI (T + 1))).D a f = A.D a f := fun a f y1 y2 => by rw [rdnn y2, rdnn y1]
    have d2 : ((A.sD 2 T (sx (lo8 (v >>> (nI (8 * s) &&& 31))))).sD 1 1 (nI (T + 1))).D 2 T = sx (lo8 (v >>> (nI (8 * s) &&& 31))) := by rw [rdw (by decide), rds]
    have e0 : B_Lexer_addInt_3 N 1 v (n + 1) (nI (8 * s)) A = B_Lexer_addInt_3 N 1 v n (if s = 0 then -8 else nI (8 * (s - 1))) ((A.sD 2 T (sx (lo8 (v >>> (nI (8 * s) &&& 31))))).sD 1 1 (nI (T + 1))) := by
      rw [B_Lexer_addInt_3, if_neg (show ¬ nI (8 * s) < (0 : Int32) from nI_nlt (b := 0) (by omega) (by omega)), ck_t (rS_1 hG), bnd_t, hT, if_neg (show ¬ (6000 : Int32) ≤ nI T from nI_ge (b := 6000) (by omega) (by decide)), rf_t (rP_1_0 hG), bnd_t, ar_t (rA_1_0 hG), wrI (show T < 6000 by omega) (by decide), ns_sx, bnd_t, rdw (by decide), hT, nI_1, bnd_t]
      unfold B_Lexer_addInt_40
      rw [nx]
    have sm : same (fun a f => (a = 2 ∧ T ≤ f ∧ f < T + (s + 1)) ∨ (a = 1 ∧ f = 1)) A ((A.sD 2 T (sx (lo8 (v >>> (nI (8 * s) &&& 31))))).sD 1 1 (nI (T + 1))) := (same.rf.sD (.inl ⟨rfl, by omega, by omega⟩)).sD (.inr ⟨rfl, rfl⟩)
    have d11 : ((A.sD 2 T (sx (lo8 (v >>> (nI (8 * s) &&& 31))))).sD 1 1 (nI (T + 1))).D 1 1 = nI (T + 1) := rds
    generalize (A.sD 2 T (sx (lo8 (v >>> (nI (8 * s) &&& 31))))).sD 1 1 (nI (T + 1)) = A1 at *
    obtain ⟨A2, r1, r2, r3, r4⟩ := ih n (T + 1) A1 (by omega) (by omega) hG2 d11 (by omega)
    refine ⟨A2, ?_, sm.tr (r2.mono fun a f y => by omega), by rw [r3, show T + 1 + s = T + (s + 1) by omega], fun j hj => ?_⟩
    · rw [if_neg (by omega), show s + 1 - 1 = s by omega, e0]
      exact r1
    · cases j with
      | zero => rw [Nat.add_zero, r2.1 _ _ (by omega), d2, show s + 1 - 1 - 0 = s by omega]
      | succ j => rw [show T + (j + 1) = T + 1 + j by omega, r4 j (by omega), show s + 1 - 1 - (j + 1) = s - 1 - j by omega]
theorem ad_int {v : Int32} {T : Nat} {A : Hp} (hN : 300 ≤ N) (hG : Gr A) (hT : A.D 1 1 = nI T) (h6 : T + 4 ≤ 6000) : ∃ A2, F_Lexer_addInt N 1 v A = some ((), A2) ∧ same (fun a f => (a = 2 ∧ T ≤ f ∧ f < T + 4) ∨ (a = 1 ∧ f = 1)) A A2 ∧ A2.D 1 1 = nI (T + 4) ∧ ∀ j, j < 4 → A2.D 2 (T + j) = sx (lo8 (v >>> (nI (24 - 8 * j) &&& 31))) := by
  obtain ⟨A2, r1, r2, r3, r4⟩ := ad_lp (N := N) (v := v) 4 N T A (by omega) (by omega) hG hT (by omega)
  refine ⟨A2, r1, r2, r3, fun j hj => ?_⟩
  rw [r4 j hj, show 8 * (4 - 1 - j) = 24 - 8 * j by omega]
theorem fd_k : ∀ k : Fin 20, (24 : Int32) - ((8 : Int32) * (nI k.val - nI k.val / (4 : Int32) * (4 : Int32))) = nI (24 - 8 * (k.val % 4)) := by decide +kernel
theorem fd_lp {a b c d e : Int32} {T : Nat} (hT6 : T + 20 ≤ 6000) : ∀ j k n B, k + j = 20 → j < n → Gr B → B.D 517 2 = nI (T + k) → ∃ B2, B_M_feed_23 N 517 a b c d e n (nI k) B = some (1, B2) ∧ same (fun x f => (x = 518 ∧ T + k ≤ f ∧ f < T + 20) ∨ (x = 517 ∧ f = 2)) B B2 ∧ B2.D 517 2 = nI (T + 20) ∧ ∀ i, k ≤ i → i < 20 → B2.D 518 (T + i) = sx (fbB a b c d e i) := by
  intro j
  induction j with
  | zero =>
    intro k n B hk hn hG h2
    obtain ⟨n, rfl⟩ : ∃ y, n = y + 1 := ⟨n - 1, by omega⟩
    refine ⟨B, ?_, same.rf, by rw [h2, show k = 20 by omega], fun i y1 y2 => by omega⟩
    rw [B_M_feed_23, if_pos (show (20 : Int32) ≤ nI k from nI_le (a := 20) (by omega) (by omega))]
  | succ j ih =>
    intro k n B hk hn hG h2
    obtain ⟨n, rfl⟩ : ∃ y, n = y + 1 := ⟨n - 1, by omega⟩
    have fk := fd_k ⟨k, by omega⟩
    simp only at fk
    have go : ∀ v : Int32, v = (if k < 4 then a else if k < 8 then b else if k < 12 then c else if k < 16 then d else e) → ∃ B2, B_M_feed_76 N 517 a b c d e (fun l6 H => B_M_feed_23 N 517 a b c d e n l6 H) (nI k) v B = some (1, B2) ∧ same (fun x f => (x = 518 ∧ T + k ≤ f ∧ f < T + 20) ∨ (x = 517 ∧ f = 2)) B B2 ∧ B2.D 517 2 = nI (T + 20) ∧ ∀ i, k ≤ i → i < 20 → B2.D 518 (T + i) = sx (fbB a b c d e i) := fun v hv => by
      have fe : lo8 (v >>> (nI (24 - 8 * (k % 4)) &&& 31)) = fbB a b c d e k := by rw [hv]; rfl
      have hG2 : Gr ((B.sD 518 (T + k) (sx (fbB a b c d e k))).sD 517 2 (nI (T + k + 1))) := hG.sD.sD
      have d1 : ((B.sD 518 (T + k) (sx (fbB a b c d e k))).sD 517 2 (nI (T + k + 1))).D 518 (T + k) = sx (fbB a b c d e k) := by rw [rdw (by decide), rds]
      have d2 : ((B.sD 518 (T + k) (sx (fbB a b c d e k))).sD 517 2 (nI (T + k + 1))).D 517 2 = nI (T + (k + 1)) := rds
      have sm : same (fun x f => (x = 518 ∧ T + k ≤ f ∧ f < T + 20) ∨ (x = 517 ∧ f = 2)) B ((B.sD 518 (T + k) (sx (fbB a b c d e k))).sD 517 2 (nI (T + k + 1))) := (same.rf.sD (.inl ⟨rfl, by omega, by omega⟩)).sD (.inr ⟨rfl, rfl⟩)
      have e0 : B_M_feed_76 N 517 a b c d e (fun l6 H => B_M_feed_23 N 517 a b c d e n l6 H) (nI k) v B = B_M_feed_23 N 517 a b c d e n (nI (k + 1)) ((B.sD 518 (T + k) (sx (fbB a b c d e k))).sD 517 2 (nI (T + k + 1))) := by
        unfold B_M_feed_76
        rw [ck_t (rS_517 hG), rf_t (rP_517_1 hG), bnd_t, h2, fk, bnd_t, ar_t (rA_517_1 hG), wrI (show T + k < 6000 by omega) (by decide), ns_sx, fe, bnd_t, rdw (by decide), h2, nI_1, bnd_t, nI_1]
      generalize (B.sD 518 (T + k) (sx (fbB a b c d e k))).sD 517 2 (nI (T + k + 1)) = B1 at *
      obtain ⟨B2, r1, r2, r3, r4⟩ := ih (k + 1) n B1 (by omega) (by omega) hG2 d2
      refine ⟨B2, e0.trans r1, sm.tr (r2.mono fun x f y => by omega), r3, fun i y1 y2 => ?_⟩
      by_cases y : i = k
      · rw [y, r2.1 _ _ (by omega), d1]
      · exact r4 i (by omega) y2
    rw [B_M_feed_23, if_neg (show ¬ (20 : Int32) ≤ nI k from nI_ge (b := 20) (by omega) (by decide))]
    by_cases k4 : k < 4
    · rw [if_neg (show ¬ (4 : Int32) ≤ nI k from nI_ge (b := 4) (by omega) (by decide))]
      exact go a (by rw [if_pos k4])
    rw [if_pos (show (4 : Int32) ≤ nI k from nI_le (a := 4) (by omega) (by omega))]
    by_cases k8 : k < 8
    · rw [if_neg (show ¬ (8 : Int32) ≤ nI k from nI_ge (b := 8) (by omega) (by decide))]
      exact go b (by rw [if_neg k4, if_pos k8])
    rw [if_pos (show (8 : Int32) ≤ nI k from nI_le (a := 8) (by omega) (by omega))]
    by_cases k12 : k < 12
    · rw [if_neg (show ¬ (12 : Int32) ≤ nI k from nI_ge (b := 12) (by omega) (by decide))]
      exact go c (by rw [if_neg k4, if_neg k8, if_pos k12])
    rw [if_pos (show (12 : Int32) ≤ nI k from nI_le (a := 12) (by omega) (by omega))]
    by_cases k16 : k < 16
    · rw [if_neg (show ¬ (16 : Int32) ≤ nI k from nI_ge (b := 16) (by omega) (by decide))]
      exact go d (by rw [if_neg k4, if_neg k8, if_neg k12, if_pos k16])
    rw [if_pos (show (16 : Int32) ≤ nI k from nI_le (a := 16) (by omega) (by omega))]
    exact go e (by rw [if_neg k4, if_neg k8, if_neg k12, if_neg k16])
/-- the call feed -/
theorem feed_jo {a b c d e : Int32} {A B : Hp} (hN : 300 ≤ N) (hGA : Gr A) (hGB : Gr B) (h : RTP A B) : ∃ r A2 B2, F_W_feed N 0 a b c d e A = some (r, A2) ∧ F_M_feed N 517 a b c d e B = some (r, B2) ∧ RTP A2 B2 ∧ same (fun x f => (x = 1 ∧ f = 1) ∨ x = 2) A A2 ∧ same (fun x f => (x = 517 ∧ (f = 0 ∨ f = 2)) ∨ x = 518) B B2 := by
  have h' := h
  obtain ⟨T, g, h1, h2, h3, h4, h5⟩ := h
  have G0 : Gr (B.sD 517 0 0) := hGB.sD
  have s0 : same (fun x f => (x = 517 ∧ (f = 0 ∨ f = 2)) ∨ x = 518) B (B.sD 517 0 0) := same.rf.sD (.inl ⟨rfl, .inl rfl⟩)
  have d0 : ∀ x f, ¬ (x = 517 ∧ f = 0) → (B.sD 517 0 0).D x f = B.D x f := fun x f y => rdnn y
  have eR : F_Lexer_hasRoom N 1 20 A = some (if T ≤ 5980 then 1 else 0, A) := by
    unfold F_Lexer_hasRoom
    rw [ck_t (rS_1 hGA), bnd_t, h2, show (6000 : Int32) - 20 = nI 5980 from rfl]
    by_cases y : T ≤ 5980
    · rw [if_pos y, if_neg (nI_nlt (by omega) (by omega))]
    · rw [if_neg y, if_pos (nI_lt (by omega) (by omega))]
  have eB : F_M_feed N 517 a b c d e B = (if nI (T + 20) ≤ (6000 : Int32) then B_M_feed_23 N 517 a b c d e N 0 (B.sD 517 0 0) else some (0, B.sD 517 0 0)) := by
    unfold F_M_feed
    rw [ck_t (rS_517 hGB), bnd_t, bnd_t, d0 _ _ (by omega), h3, show nI T + (20 : Int32) = nI (T + 20) from nI_ad T 20]
  by_cases y : T ≤ 5980
  · rw [if_pos y] at eR
    rw [if_pos (show nI (T + 20) ≤ (6000 : Int32) from nI_le (b := 6000) (by omega) (by decide))] at eB
    obtain ⟨B2, q1, q2, q3, q4⟩ := fd_lp (N := N) (a := a) (b := b) (c := c) (d := d) (e := e) (T := T) (by omega) 20 0 N (B.sD 517 0 0) (by omega) (by omega) G0 (by rw [d0 _ _ (by omega)]; exact h3)
    obtain ⟨A1, a1, a2, a3, a4⟩ := ad_int (N := N) (v := a) hN hGA h2 (by omega)
    have G1 := a2.gr hGA
    obtain ⟨A2, b1, b2, b3, b4⟩ := ad_int (N := N) (v := b) hN G1 a3 (by omega)
    have G2 := b2.gr G1
    obtain ⟨A3, c1, c2, c3, c4⟩ := ad_int (N := N) (v := c) hN G2 b3 (by omega)
    have G3 := c2.gr G2
    obtain ⟨A4, e1, e2, e3, e4⟩ := ad_int (N := N) (v := d) hN G3 c3 (by omega)
    have G4 := e2.gr G3
    obtain ⟨A5, f1, f2, f3, f4⟩ := ad_int (N := N) (v := e) hN G4 e3 (by omega)
    refine ⟨1, A5, B2, ?_, eB.trans q1, ⟨T + 20, fun i => if i < T then g i else fbB a b c d e (i - T), by omega, by rw [f3], q3, fun i => ?_, fun i hi => ?_⟩, ((((a2.mono fun x f y => by omega).tr (b2.mono fun x f y => by omega)).tr (c2.mono fun x f y => by omega)).tr (e2.mono fun x f y => by omega)).tr (f2.mono fun x f y => by omega), s0.tr (q2.mono fun x f y => by omega)⟩
    · unfold F_W_feed
      rw [ck_t (rS_0 hGA), rf_t (rP_0_0 hGA), ck_t (rS_1 hGA), bC_t eR, if_neg (by decide), rf_t (rP_0_0 hGA), ck_t (rS_1 hGA), bC_t a1, rf_t (rP_0_0 G1), ck_t (rS_1 G1), bC_t b1, rf_t (rP_0_0 G2), ck_t (rS_1 G2), bC_t c1, rf_t (rP_0_0 G3), ck_t (rS_1 G3), bC_t e1, rf_t (rP_0_0 G4), ck_t (rS_1 G4), bC_t f1]
    · show (if i < T then g i else fbB a b c d e (i - T)) < 256
      split
      · exact h4 i
      · exact lo8_lt
    · show A5.D 2 i = sx (if i < T then g i else fbB a b c d e (i - T)) ∧ B2.D 518 i = sx (if i < T then g i else fbB a b c d e (i - T))
      by_cases z : i < T
      · rw [if_pos z, f2.1 _ _ (by omega), e2.1 _ _ (by omega), c2.1 _ _ (by omega), b2.1 _ _ (by omega), a2.1 _ _ (by omega), q2.1 _ _ (by omega), d0 _ _ (by omega)]
        exact h5 i z
      · rw [if_neg z]
        obtain ⟨k, rfl⟩ : ∃ k, i = T + k := ⟨i - T, by omega⟩
        rw [show T + k - T = k by omega]
        refine ⟨?_, q4 k (by omega) (by omega)⟩
        unfold fbB
        by_cases k4 : k < 4
        · rw [if_pos k4, f2.1 _ _ (by omega), e2.1 _ _ (by omega), c2.1 _ _ (by omega), b2.1 _ _ (by omega), a4 k k4, show k % 4 = k by omega]
        by_cases k8 : k < 8
        · rw [if_neg k4, if_pos k8, f2.1 _ _ (by omega), e2.1 _ _ (by omega), c2.1 _ _ (by omega), show T + k = T + 4 + (k - 4) by omega, b4 (k - 4) (by omega), show k % 4 = k - 4 by omega]
        by_cases k12 : k < 12
        · rw [if_neg k4, if_neg k8, if_pos k12, f2.1 _ _ (by omega), e2.1 _ _ (by omega), show T + k = T + 4 + 4 + (k - 8) by omega, c4 (k - 8) (by omega), show k % 4 = k - 8 by omega]
        by_cases k16 : k < 16
        · rw [if_neg k4, if_neg k8, if_neg k12, if_pos k16, f2.1 _ _ (by omega), show T + k = T + 4 + 4 + 4 + (k - 12) by omega, e4 (k - 12) (by omega), show k % 4 = k - 12 by omega]
        · rw [if_neg k4, if_neg k8, if_neg k12, if_neg k16, show T + k = T + 4 + 4 + 4 + 4 + (k - 16) by omega, f4 (k - 16) (by omega), show k % 4 = k - 16 by omega]
  · rw [if_neg y] at eR
    rw [if_neg (show ¬ nI (T + 20) ≤ (6000 : Int32) from nI_ge (a := 6000) (by omega) (by omega))] at eB
    refine ⟨0, A, B.sD 517 0 0, ?_, eB, h'.fr (fun _ _ _ => rfl) (fun x f y => d0 x f (by omega)), same.rf, s0⟩
    unfold F_W_feed
    rw [ck_t (rS_0 hGA), rf_t (rP_0_0 hGA), ck_t (rS_1 hGA), bC_t eR, if_pos rfl]
/-- the call end -/
theorem end_jo {q : Int32} {A B : Hp} (hGA : Gr A) (hGB : Gr B) (h : RTP A B) : ∃ r A2 B2, F_W_end N 0 q A = some (r, A2) ∧ F_M_end N 517 q B = some (r, B2) ∧ RTP A2 B2 ∧ same (fun x f => x = 1 ∧ f = 1) A A2 ∧ same (fun x f => x = 517 ∧ (f = 0 ∨ f = 2)) B B2 := by
  have h' := h
  obtain ⟨T, g, h1, h2, h3, h4, h5⟩ := h
  have G0 : Gr (B.sD 517 0 0) := hGB.sD
  have s0 : same (fun x f => x = 517 ∧ (f = 0 ∨ f = 2)) B (B.sD 517 0 0) := same.rf.sD ⟨rfl, .inl rfl⟩
  have d0 : ∀ x f, ¬ (x = 517 ∧ f = 0) → (B.sD 517 0 0).D x f = B.D x f := fun x f y => rdnn y
  have eB : F_M_end N 517 q B = (if (if q < 0 then (0 : Int32) else if nI T < q then 0 else 1) = 0 then some (0, B.sD 517 0 0) else some (1, (B.sD 517 0 0).sD 517 2 q)) := by
    unfold F_M_end
    rw [ck_t (rS_517 hGB), bnd_t, bnd_t, d0 _ _ (by omega), h3, bC_t (ev_in (a := (0 : Int64)) (b := (nI T).toInt64) (lo := 0) (hi := nI T) rfl rfl), bnd_t]
  have eA : F_W_end N 0 q A = (if q < 0 then some (0, A) else if q ≤ nI T then some (1, A.sD 1 1 q) else some (0, A)) := by
    unfold F_W_end
    rw [ck_t (rS_0 hGA), rf_t (rP_0_0 hGA), ck_t (rS_1 hGA), bnd_t, h2, rf_t (rP_0_0 hGA), ck_t (rS_1 hGA), bnd_t]
  have no : F_W_end N 0 q A = some (0, A) → F_M_end N 517 q B = some (0, B.sD 517 0 0) → ∃ r A2 B2, F_W_end N 0 q A = some (r, A2) ∧ F_M_end N 517 q B = some (r, B2) ∧ RTP A2 B2 ∧ same (fun x f => x = 1 ∧ f = 1) A A2 ∧ same (fun x f => x = 517 ∧ (f = 0 ∨ f = 2)) B B2 := fun k1 k2 => ⟨0, A, _, k1, k2, h'.fr (fun _ _ _ => rfl) (fun x f y => d0 x f (by omega)), same.rf, s0⟩
  by_cases q1 : q < 0
  · rw [if_pos q1] at eA
    rw [if_pos q1, if_pos rfl] at eB
    exact no eA eB
  rw [if_neg q1] at eA eB
  by_cases q2 : q ≤ nI T
  · rw [if_pos q2] at eA
    rw [if_neg (Int32.not_lt.mpr q2), if_neg (by decide)] at eB
    obtain ⟨k, hk, rfl⟩ := to_nI (by omega) q1 q2
    refine ⟨1, _, _, eA, eB, ⟨k, g, by omega, rds, rds, h4, fun i hi => ?_⟩, same.rf.sD ⟨rfl, rfl⟩, s0.sD ⟨rfl, .inr rfl⟩⟩
    rw [rdw (by decide), rdw (by decide), d0 _ _ (by omega)]
    exact h5 i (by omega)
  · rw [if_neg q2] at eA
    rw [if_pos (Int32.not_le.mp q2), if_pos rfl] at eB
    exact no eA eB
end Par
