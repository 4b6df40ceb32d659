/-! ===== a world begins; inputs are forgotten ===== -/
def Q0 (wd : Nat) : Nat → Nat → Nat := fun x y => if x = 5 ∧ y = 0 then wd else 0
section Par
variable {N p wo inp cs w u ir M K0 : Nat} {s pl : Int32} {ty mn nu cd : Nat → Int32} {E Q : Nat → Nat → Nat} {V : Nat → Nat → Int32} {nL lc : Nat} {lk : Nat → Nat} {hd : Nat → Int32}
theorem fl_lp {a n : Nat} {v : Int32} (hn : n < 2 ^ 31) : ∀ j i f A, i + j = n → j < f → A.sh[a]? = some (100, n) → ∃ A2, B_Arr_fill_5 N a v f (nI i) (nI n) A = some ((), A2) ∧ same (fun x g => x = a ∧ i ≤ g) A A2 ∧ ∀ k, i ≤ k → k < n → A2.D a k = v := by
  intro j
  induction j with
  | zero =>
    intro i f A hi hf hs
    obtain ⟨f, rfl⟩ : ∃ y, f = y + 1 := ⟨f - 1, by omega⟩
    exact ⟨A, by rw [B_Arr_fill_5, if_pos (nI_le (by omega) (by omega))], same.rf, fun k _ _ => by omega⟩
  | succ j ih =>
    intro i f A hi hf hs
    obtain ⟨f, rfl⟩ : ∃ y, f = y + 1 := ⟨f - 1, by omega⟩
    obtain ⟨A2, r1, r2, r3⟩ := ih (i + 1) f (A.sD a i v) (by omega) (by omega) hs
    refine ⟨A2, ?_, (same.rf.sD ⟨rfl, Nat.le_refl _⟩).tr (r2.mono fun x g y => ⟨y.1, by omega⟩), fun k k1 k2 => ?_⟩
    · rw [B_Arr_fill_5, if_neg (nI_ge (by omega) (by omega)), ar_t hs, wrI (show i < n by omega) (by omega), nI_1]
      exact r1
    · by_cases y : k = i
      · rw [y, r2.1 _ _ (by omega), rds]
      · exact r3 k (by omega) k2
theorem ev_fill {a n : Nat} {v : Int32} {A : Hp} (hN : n < N) (hn : n < 2 ^ 31) (hs : A.sh[a]? = some (100, n)) : ∃ A2, F_Arr_fill N a v A = some ((), A2) ∧ same (fun x g => x = a) A A2 ∧ ∀ k, k < n → A2.D a k = v := by
  obtain ⟨A2, r1, r2, r3⟩ := fl_lp (N := N) (v := v) hn n 0 N A (by omega) hN hs
  refine ⟨A2, ?_, r2.mono fun x g y => y.1, fun k hk => r3 k (by omega) hk⟩
  unfold F_Arr_fill
  rw [ar_t hs]
  exact r1
theorem cl_A {A : Hp} {sd : Int32} {wd : Nat} (hN : 300 ≤ N) (W : isW A wo) : ∃ A2, F_World_clear N wo sd (nI wd) A = some ((), A2) ∧ same (cW wo) A A2 ∧ (A2.D wo 0 = 0 ∧ A2.D wo 1 = sd ∧ A2.D wo 2 = 0 ∧ A2.D wo 3 = 0 ∧ A2.D wo 6 = 0 ∧ A2.D wo 9 = 0 ∧ A2.D wo 10 = nI wd ∧ A2.D wo 13 = 0 ∧ A2.D wo 15 = 0) ∧ ∀ q, q < 256 → A2.D (wo + 1) q = 0 ∧ A2.D (wo + 2) q = -1 := by
  generalize h6 : ((((A.sD wo 0 0).sD wo 1 sd).sD wo 2 0).sD wo 3 0).sD wo 6 0 = H6
  have iW : ∀ (R : Nat → Nat → Prop) (H K : Hp), same R H K → isW H wo → isW K wo := fun R H K h V => by
    obtain ⟨q1, q2, q3, q4, q5⟩ := h
    unfold isW at V ⊢
    rw [q2, q4]
    exact V
  have s6 : same (cW wo) A H6 := by
    rw [← h6]
    exact ((((same.rf.sD ⟨by omega, by omega⟩).sD ⟨by omega, by omega⟩).sD ⟨by omega, by omega⟩).sD ⟨by omega, by omega⟩).sD ⟨by omega, by omega⟩
  have v6 : H6.D wo 0 = 0 ∧ H6.D wo 1 = sd ∧ H6.D wo 2 = 0 ∧ H6.D wo 3 = 0 ∧ H6.D wo 6 = 0 := by
    rw [← h6]
    refine ⟨?_, ?_, ?_, ?_, rds⟩
    · rw [rdf (by decide), rdf (by decide), rdf (by decide), rdf (by decide), rds]
    · rw [rdf (by decide), rdf (by decide), rdf (by decide), rds]
    · rw [rdf (by decide), rdf (by decide), rds]
    · rw [rdf (by decide), rds]
  have W6 := iW _ _ _ s6 W
  obtain ⟨H7, a1, a2, a3⟩ := ev_fill (N := N) (v := 0) (by omega) (by decide) (WA_7 W6)
  have W7 := iW _ _ _ a2 W6
  obtain ⟨H8, b1, b2, b3⟩ := ev_fill (N := N) (v := -1) (by omega) (by decide) (WA_8 W7)
  refine ⟨(((H8.sD wo 9 0).sD wo 10 (nI wd)).sD wo 13 0).sD wo 15 0, ?_, ?_, ⟨?_, ?_, ?_, ?_, ?_, ?_, ?_, ?_, rds⟩, fun q hq => ⟨?_, ?_⟩⟩
  · unfold F_World_clear
    rw [ck_t (WS W), bnd_t, bnd_t, bnd_t, bnd_t, bnd_t, h6, rf_t (WP_7 W6), bC_t a1, rf_t (WP_8 W7), bC_t b1, bnd_t, bnd_t, bnd_t, bnd_t]
  · exact ((((((s6.tr (a2.mono fun x f y => ⟨by omega, by omega⟩)).tr (b2.mono fun x f y => ⟨by omega, by omega⟩)).sD ⟨by omega, by omega⟩).sD ⟨by omega, by omega⟩).sD ⟨by omega, by omega⟩).sD ⟨by omega, by omega⟩)
  · rw [rdf (by decide), rdf (by decide), rdf (by decide), rdf (by decide), b2.1 _ _ (by omega), a2.1 _ _ (by omega)]; exact v6.1
  · rw [rdf (by decide), rdf (by decide), rdf (by decide), rdf (by decide), b2.1 _ _ (by omega), a2.1 _ _ (by omega)]; exact v6.2.1
  · rw [rdf (by decide), rdf (by decide), rdf (by decide), rdf (by decide), b2.1 _ _ (by omega), a2.1 _ _ (by omega)]; exact v6.2.2.1
  · rw [rdf (by decide), rdf (by decide), rdf (by decide), rdf (by decide), b2.1 _ _ (by omega), a2.1 _ _ (by omega)]; exact v6.2.2.2.1
  · rw [rdf (by decide), rdf (by decide), rdf (by decide), rdf (by decide), b2.1 _ _ (by omega), a2.1 _ _ (by omega)]; exact v6.2.2.2.2
  · rw [rdf (by decide), rdf (by decide), rdf (by decide), rds]
  · rw [rdf (by decide), rdf (by decide), rds]
  · rw [rdf (by decide), rds]
  · rw [rdw (by omega), rdw (by omega), rdw (by omega), rdw (by omega), b2.1 _ _ (by omega)]; exact a3 q hq
  · rw [rdw (by omega), rdw (by omega), rdw (by omega), rdw (by omega)]; exact b3 q hq
theorem bg_lp : ∀ j i n B, i + j = 256 → j < n → isU B u → ∃ B2, B_MWorld_begin_37 N u n (nI i) B = some ((), B2) ∧ same (fun a f => (a = u + 1 ∨ a = u + 2 ∨ a = u + 3) ∧ i ≤ f) B B2 ∧ ∀ q, i ≤ q → q < 256 → B2.D (u + 1) q = 0 ∧ B2.D (u + 2) q = 0 ∧ B2.D (u + 3) q = 0 := by
  intro j
  induction j with
  | zero =>
    intro i n B hi hn U
    obtain ⟨n, rfl⟩ : ∃ y, n = y + 1 := ⟨n - 1, by omega⟩
    exact ⟨B, by rw [B_MWorld_begin_37, if_pos (show (256 : Int32) ≤ nI i from nI_le (a := 256) (by omega) (by omega))], same.rf, fun q _ _ => by omega⟩
  | succ j ih =>
    intro i n B hi hn U
    obtain ⟨n, rfl⟩ : ∃ y, n = y + 1 := ⟨n - 1, by omega⟩
    have U1 : isU (B.sD (u + 1) i 0) u := U
    have U2 : isU ((B.sD (u + 1) i 0).sD (u + 2) i 0) u := U
    have U3 : isU (((B.sD (u + 1) i 0).sD (u + 2) i 0).sD (u + 3) i 0) u := U
    obtain ⟨B2, r1, r2, r3⟩ := ih (i + 1) n _ (by omega) (by omega) U3
    refine ⟨B2, ?_, (((same.rf.sD ⟨.inl rfl, Nat.le_refl _⟩).sD ⟨.inr (.inl rfl), Nat.le_refl _⟩).sD ⟨.inr (.inr rfl), Nat.le_refl _⟩).tr (r2.mono fun a f y => ⟨y.1, by omega⟩), fun q q1 q2 => ?_⟩
    · rw [B_MWorld_begin_37, if_neg (show ¬ (256 : Int32) ≤ nI i from nI_ge (b := 256) (by omega) (by decide)), ck_t (US U), rf_t (UP_4 U), ar_t (UA_4 U), wrI (show i < 256 by omega) (by decide), rf_t (UP_5 U1), ar_t (UA_5 U1), wrI (show i < 256 by omega) (by decide), show vp_nar .boolean (0 : Int32) = (0 : Int32) from rfl, rf_t (UP_6 U2), ar_t (UA_6 U2), wrI (show i < 256 by omega) (by decide), nI_1]
      exact r1
    · by_cases y : q = i
      · subst y
        rw [r2.1 _ _ (by omega), r2.1 _ _ (by omega), r2.1 _ _ (by omega)]
        refine ⟨?_, ?_, rds⟩
        · rw [rdw (by omega), rdw (by omega), rds]
        · rw [rdw (by omega), rds]
      · exact r3 q (by omega) q2
theorem bg_B {B : Hp} (hN : 300 ≤ N) (U : isU B u) : ∃ B2, F_MWorld_begin N u B = some ((), B2) ∧ same (cU u) B B2 ∧ (B2.D u 0 = 0 ∧ B2.D u 1 = 0 ∧ B2.D u 2 = 0 ∧ B2.D u 3 = 0 ∧ B2.D u 8 = 0 ∧ B2.D u 13 = -1 ∧ B2.D u 16 = 0) ∧ ∀ q, q < 256 → B2.D (u + 1) q = 0 ∧ B2.D (u + 2) q = 0 ∧ B2.D (u + 3) q = 0 := by
  generalize h8 : ((((((B.sD u 0 0).sD u 1 0).sD u 2 0).sD u 3 0).sD u 8 0).sD u 13 (-1)).sD u 16 0 = H8
  have s8 : same (cU u) B H8 := by
    rw [← h8]
    exact ((((((same.rf.sD ⟨by omega, by omega⟩).sD ⟨by omega, by omega⟩).sD ⟨by omega, by omega⟩).sD ⟨by omega, by omega⟩).sD ⟨by omega, by omega⟩).sD ⟨by omega, by omega⟩).sD ⟨by omega, by omega⟩
  have v8 : H8.D u 0 = 0 ∧ H8.D u 1 = 0 ∧ H8.D u 2 = 0 ∧ H8.D u 3 = 0 ∧ H8.D u 8 = 0 ∧ H8.D u 13 = -1 ∧ H8.D u 16 = 0 := by
    rw [← h8]
    refine ⟨?_, ?_, ?_, ?_, ?_, ?_, rds⟩
    · rw [rdf (by decide), rdf (by decide), rdf (by decide), rdf (by decide), rdf (by decide), rdf (by decide), rds]
    · rw [rdf (by decide), rdf (by decide), rdf (by decide), rdf (by decide), rdf (by decide), rds]
    · rw [rdf (by decide), rdf (by decide), rdf (by decide), rdf (by decide), rds]
    · rw [rdf (by decide), rdf (by decide), rdf (by decide), rds]
    · rw [rdf (by decide), rdf (by decide), rds]
    · rw [rdf (by decide), rds]
  have U8 : isU H8 u := by rw [← h8]; exact U
  obtain ⟨B2, r1, r2, r3⟩ := bg_lp (N := N) 256 0 N H8 (by omega) (by omega) U8
  refine ⟨B2, ?_, s8.tr (r2.mono fun a f y => by unfold cU; omega), ?_, fun q hq => r3 q (by omega) hq⟩
  · unfold F_MWorld_begin
    rw [ck_t (US U), bnd_t, bnd_t, bnd_t, bnd_t, bnd_t, bnd_t, bnd_t, h8]
    exact r1
  · rw [r2.1 _ _ (by omega), r2.1 _ _ (by omega), r2.1 _ _ (by omega), r2.1 _ _ (by omega), r2.1 _ _ (by omega), r2.1 _ _ (by omega), r2.1 _ _ (by omega)]
    exact v8
/-- both begin alike -/
theorem nw_wp {A B : Hp} {wd : Nat} (hwd : wd ≤ 48) (hmo : ∀ c m, mOf E c m → m < wd) (a0 : A.D wo 0 = 0 ∧ A.D wo 2 = 0 ∧ A.D wo 3 = 0 ∧ A.D wo 6 = 0 ∧ A.D wo 9 = 0 ∧ A.D wo 10 = nI wd ∧ A.D wo 13 = 0 ∧ A.D wo 15 = 0) (a1 : ∀ q, q < 256 → A.D (wo + 1) q = 0 ∧ A.D (wo + 2) q = -1) (b0 : B.D u 0 = 0 ∧ B.D u 2 = 0 ∧ B.D u 3 = 0 ∧ B.D u 8 = 0 ∧ B.D u 13 = -1 ∧ B.D u 16 = 0) (b1 : ∀ q, q < 256 → B.D (u + 1) q = 0 ∧ B.D (u + 2) q = 0) (hs : A.D wo 1 = B.D u 1) : WPR A wo B u E (Q0 wd) ∧ RVB (fun _ => 0) E (Q0 wd) B u ∧ GNV (fun _ => 0) 0 (Q0 wd) := by
  have z : ∀ x y, ¬ (x = 5 ∧ y = 0) → Q0 wd x y = 0 := fun x y h => if_neg h
  have z1 : ∀ q, ¬ Q0 wd 1 q = 1 := fun q y => by rw [z _ _ (by omega)] at y; exact absurd y (by decide)
  have z5 : Q0 wd 5 0 = wd := if_pos ⟨rfl, rfl⟩
  obtain ⟨c0, c2, c3, c6, c9, c10, c13, c15⟩ := a0
  obtain ⟨d0, d2, d3, d8, d13, d16⟩ := b0
  refine ⟨⟨⟨fun q hq => ?_, fun q hq => ?_, fun q c m _ y => absurd y (z1 q), ⟨by rw [z5]; exact c10, by rw [z5]; exact hwd, fun c m y => by rw [z5]; exact hmo c m y⟩, ⟨by rw [z _ _ (by omega)]; exact c9, by rw [z _ _ (by omega)]; decide, fun q _ _ => z1 q⟩, ⟨by rw [z _ _ (by omega)]; exact c13, by rw [z _ _ (by omega)]; exact d8, by rw [z _ _ (by omega)]; decide, fun k hk => by rw [z _ _ (by omega)] at hk; omega⟩, by rw [z _ _ (by omega)]; exact c15, by rw [z _ _ (by omega)]; exact d16, by rw [z _ _ (by omega)]; decide, fun k hk => by rw [z _ _ (by omega)] at hk; omega⟩, by rw [c0, d0], hs, by rw [c3, d3], by rw [c2, d2], .inl ⟨c6, by rw [d13]; decide⟩⟩, ⟨fun q c m _ y => absurd y (z1 q), fun k hk => by rw [z _ _ (by omega)] at hk; omega, fun k hk => by rw [z _ _ (by omega)] at hk; omega⟩, fun q hq => by rw [z _ _ (by omega)]; exact Nat.zero_le _⟩
  · rw [z _ _ (by omega), z _ _ (by omega), if_neg (z1 q)]
    exact ⟨(a1 q hq).1, by decide, by decide, (a1 q hq).2⟩
  · rw [z _ _ (by omega), z _ _ (by omega), if_neg (z1 q)]
    exact ⟨(b1 q hq).1, by decide, by decide, (b1 q hq).2, fun y => absurd y (z1 q)⟩
theorem fg_lp : ∀ j i n A, i + j = 256 → j < n → Gr A → ∃ A2, B_Play_forgetInputs_13 N 11 n (nI i) A = (bC (F_Arr_fill N 127 0 A2) fun _ H17 => some ((), H17)) ∧ same (fun a f => a = 125 ∧ i ≤ f) A A2 ∧ ∀ q, i ≤ q → q < 256 → A2.D 125 q = 0 := by
  intro j
  induction j with
  | zero =>
    intro i n A hi hn hG
    obtain ⟨n, rfl⟩ : ∃ y, n = y + 1 := ⟨n - 1, by omega⟩
    refine ⟨A, ?_, same.rf, fun q _ _ => by omega⟩
    rw [B_Play_forgetInputs_13, ck_t (rS_11 hG), rf_t (rP_11_8 hG), ar_t (rA_11_8 hG), if_pos (show Int32.ofNat 256 ≤ nI i from nI_le (a := 256) (by omega) (by omega)), rf_t (rP_11_10 hG)]
  | succ j ih =>
    intro i n A hi hn hG
    obtain ⟨n, rfl⟩ : ∃ y, n = y + 1 := ⟨n - 1, by omega⟩
    have hG1 : Gr (A.sD 125 i 0) := hG.sD
    obtain ⟨A2, r1, r2, r3⟩ := ih (i + 1) n (A.sD 125 i 0) (by omega) (by omega) hG1
    refine ⟨A2, ?_, (same.rf.sD ⟨rfl, Nat.le_refl _⟩).tr (r2.mono fun a f y => ⟨y.1, by omega⟩), fun q q1 q2 => ?_⟩
    · rw [B_Play_forgetInputs_13, ck_t (rS_11 hG), rf_t (rP_11_8 hG), ar_t (rA_11_8 hG), if_neg (show ¬ Int32.ofNat 256 ≤ nI i from nI_ge (b := 256) (by omega) (by omega)), rf_t (rP_11_8 hG), ar_t (rA_11_8 hG), wrI (show i < 256 by omega) (by decide), show vp_nar .boolean (0 : Int32) = (0 : Int32) from rfl, nI_1]
      exact r1
    · by_cases y : q = i
      · rw [y, r2.1 _ _ (by omega), rds]
      · exact r3 q (by omega) q2
theorem fg_A {A : Hp} (hN : 300 ≤ N) (hG : Gr A) : ∃ A2, F_Play_forgetInputs N 11 A = some ((), A2) ∧ same (fun a f => (a = 11 ∧ f = 1) ∨ a = 125 ∨ a = 127) A A2 ∧ A2.D 11 1 = A.D 12 0 ∧ (∀ q, q < 256 → A2.D 125 q = 0) ∧ ∀ q, q < 4 → A2.D 127 q = 0 := by
  have hG1 : Gr (A.sD 11 1 (A.D 12 0)) := hG.sD
  obtain ⟨A1, r1, r2, r3⟩ := fg_lp (N := N) 256 0 N (A.sD 11 1 (A.D 12 0)) (by omega) (by omega) hG1
  have hG2 := r2.gr hG1
  obtain ⟨A2, a1, a2, a3⟩ := ev_fill (N := N) (v := 0) (by omega) (by decide) (rA_11_10 hG2)
  refine ⟨A2, ?_, ((same.rf.sD (.inl ⟨rfl, rfl⟩)).tr (r2.mono fun a f y => .inr (.inl y.1))).tr (a2.mono fun a f y => .inr (.inr y)), ?_, fun q hq => ?_, a3⟩
  · unfold F_Play_forgetInputs
    rw [ck_t (rS_11 hG), rf_t (rP_11_0 hG), ck_t (rA_11_0 hG), bnd_t, bnd_t]
    exact r1.trans (bC_t a1)
  · rw [a2.1 _ _ (by omega), r2.1 _ _ (by omega), rds]
  · rw [a2.1 _ _ (by omega)]
    exact r3 q (by omega) hq
theorem fh_lp : ∀ j i n B, i + j = 4 → j < n → Gr B → ∃ B2, B_M_forgets_24 N 517 n (nI i) B = some ((), B2) ∧ same (fun a f => a = 619 ∧ i ≤ f) B B2 ∧ ∀ q, i ≤ q → q < 4 → B2.D 619 q = 0 := by
  intro j
  induction j with
  | zero =>
    intro i n B hi hn hG
    obtain ⟨n, rfl⟩ : ∃ y, n = y + 1 := ⟨n - 1, by omega⟩
    exact ⟨B, by rw [B_M_forgets_24, if_pos (show (4 : Int32) ≤ nI i from nI_le (a := 4) (by omega) (by omega))], same.rf, fun q _ _ => by omega⟩
  | succ j ih =>
    intro i n B hi hn hG
    obtain ⟨n, rfl⟩ : ∃ y, n = y + 1 := ⟨n - 1, by omega⟩
    have hG1 : Gr (B.sD 619 i 0) := hG.sD
    obtain ⟨B2, r1, r2, r3⟩ := ih (i + 1) n (B.sD 619 i 0) (by omega) (by omega) hG1
    refine ⟨B2, ?_, (same.rf.sD ⟨rfl, Nat.le_refl _⟩).tr (r2.mono fun a f y => ⟨y.1, by omega⟩), fun q q1 q2 => ?_⟩
    · rw [B_M_forgets_24, if_neg (show ¬ (4 : Int32) ≤ nI i from nI_ge (b := 4) (by omega) (by omega)), ck_t (rS_517 hG), rf_t (rP_517_17 hG), ar_t (rA_517_17 hG), wrI (show i < 4 by omega) (by decide), nI_1]
      exact r1
    · by_cases y : q = i
      · rw [y, r2.1 _ _ (by omega), rds]
      · exact r3 q (by omega) q2
theorem fi_lp : ∀ j i n B, i + j = 256 → j < n → Gr B → ∃ B2, B_M_forgets_2 N 517 n (nI i) B = B_M_forgets_24 N 517 N 0 B2 ∧ same (fun a f => a = 617 ∧ i ≤ f) B B2 ∧ ∀ q, i ≤ q → q < 256 → B2.D 617 q = 0 := by
  intro j
  induction j with
  | zero =>
    intro i n B hi hn hG
    obtain ⟨n, rfl⟩ : ∃ y, n = y + 1 := ⟨n - 1, by omega⟩
    exact ⟨B, by rw [B_M_forgets_2, if_pos (show (256 : Int32) ≤ nI i from nI_le (a := 256) (by omega) (by omega))], same.rf, fun q _ _ => by omega⟩
  | succ j ih =>
    intro i n B hi hn hG
    obtain ⟨n, rfl⟩ : ∃ y, n = y + 1 := ⟨n - 1, by omega⟩
    have hG1 : Gr (B.sD 617 i 0) := hG.sD
    obtain ⟨B2, r1, r2, r3⟩ := ih (i + 1) n (B.sD 617 i 0) (by omega) (by omega) hG1
    refine ⟨B2, ?_, (same.rf.sD ⟨rfl, Nat.le_refl _⟩).tr (r2.mono fun a f y => ⟨y.1, by omega⟩), fun q q1 q2 => ?_⟩
    · rw [B_M_forgets_2, if_neg (show ¬ (256 : Int32) ≤ nI i from nI_ge (b := 256) (by omega) (by omega)), ck_t (rS_517 hG), rf_t (rP_517_15 hG), ar_t (rA_517_15 hG), wrI (show i < 256 by omega) (by decide), show vp_nar .boolean (0 : Int32) = (0 : Int32) from rfl, nI_1]
      exact r1
    · by_cases y : q = i
      · rw [y, r2.1 _ _ (by omega), rds]
      · exact r3 q (by omega) q2
theorem fg_B {B : Hp} (hN : 300 ≤ N) (hG : Gr B) : ∃ B2, F_M_forgets N 517 B = some ((), B2) ∧ same (fun a f => a = 617 ∨ a = 619) B B2 ∧ (∀ q, q < 256 → B2.D 617 q = 0) ∧ ∀ q, q < 4 → B2.D 619 q = 0 := by
  obtain ⟨B1, r1, r2, r3⟩ := fi_lp (N := N) 256 0 N B (by omega) (by omega) hG
  obtain ⟨B2, s1, s2, s3⟩ := fh_lp (N := N) 4 0 N B1 (by omega) (by omega) (r2.gr hG)
  refine ⟨B2, r1.trans s1, (r2.mono fun a f y => .inl y.1).tr (s2.mono fun a f y => .inr y.1), fun q hq => ?_, fun q hq => s3 q (by omega) hq⟩
  rw [s2.1 _ _ (by omega)]
  exact r3 q (by omega) hq
/-- the play, newly begun at tick n -/
theorem PLI.nw {S : Nat → Nat} {b la z us un n : Nat} {Nm : Nat → Nat → List Nat} {Pv : Nat → Nat → Int32} {A B : Hp} (hGA : Gr A) (hGB : Gr B) (hT : TXF A p B w cs M ty mn nu cd E Nm Pv) (hL : LST A la z) (hus : us ∈ lU) (hun : un ∈ lU) (hne : us ≠ un) (b8 : B.P 517 8 = .ref us) (b9 : B.P 517 9 = .ref un) (b3 : B.P 517 3 = .ref w) (hn : n < 2000000000) (a11 : A.D 11 1 = nI n) (a12 : A.D 12 0 = nI n) (x1 : WPR A 12 B un E Q) (x2 : RVB S E Q B un) (x3 : GNV S b Q) (y1 : WPR A 12 B us E Q) (y2 : RVB S E Q B us) (c1 : ∀ q, q < 256 → A.D 125 q = 0 ∧ B.D 617 q = 0) (c2 : ∀ q, q < 4 → A.D 127 q = 0 ∧ B.D 619 q = 0) : PLI N p cs w M ty mn nu cd E Nm Pv S b n A la z B us un n n := by
  have ew : wt n n = 12 := if_pos rfl
  refine ⟨⟨hGA, hGB, hT, hL⟩, ⟨hus, hun, hne, b8, b9, b3⟩, ⟨Nat.le_refl _, Nat.le_refl _, by omega, hn, a11, by rw [← y1.2.1]; exact a12, a12⟩, ⟨Q, x1, x2, x3.mono (by omega)⟩, ⟨Q, by rw [ew]; exact y1, y2, x3.mono (by omega)⟩, fun t z1 z2 => by omega, fun t z1 z2 => by omega, fun x hx => ?_, fun x hx => ?_⟩
  · rw [(c1 x hx).1, (c1 x hx).2]
    exact ⟨rfl, fun y => absurd rfl y⟩
  · rw [(c2 x hx).1, (c2 x hx).2]
end Par
