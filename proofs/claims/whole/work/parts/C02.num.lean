/-! ===== numbers ===== -/
theorem bm64 {x : Int} (h1 : -9223372036854775808 ≤ x) (h2 : x < 9223372036854775808) : x.bmod (2 ^ 64) = x := by
  rw [Int.bmod_def]
  split <;> omega
theorem lNt {n : Nat} (h : n < 2 ^ 63) : (lN n).toInt = (n : Int) := Int64.toInt_ofNat_of_lt h
theorem lN_lgle {a b : Nat} (ha : a < 2 ^ 63) (hb : b < 2 ^ 63) : lg_cmp (lN a) (lN b) ≤ 0 ↔ a ≤ b := by
  rw [← Int32.not_lt, lg_pos, Int64.lt_iff_toInt_lt, lNt ha, lNt hb]
  omega
theorem lN_lgpos {a b : Nat} (ha : a < 2 ^ 63) (hb : b < 2 ^ 63) : 0 < lg_cmp (lN a) (lN b) ↔ b < a := by
  rw [lg_pos, Int64.lt_iff_toInt_lt, lNt ha, lNt hb]
  omega
theorem lN_lglt {a b : Nat} (ha : a < 2 ^ 63) (hb : b < 2 ^ 63) : lg_cmp (lN a) (lN b) < 0 ↔ a < b := by
  rw [lg_lt, Int64.lt_iff_toInt_lt, lNt ha, lNt hb]
  omega
theorem lN_div {a b : Nat} (ha : a < 2 ^ 63) (hb : b < 2 ^ 63) : lN a / lN b = lN (a / b) := by
  have h : a / b ≤ a := Nat.div_le_self a b
  apply Int64.toInt_inj.mp
  rw [Int64.toInt_div, lNt ha, lNt hb, lNt (show a / b < 2 ^ 63 by omega), ← Int.ofNat_tdiv]
  obtain ⟨q, hq⟩ : ∃ q, q = a / b := ⟨_, rfl⟩
  rw [← hq] at h ⊢
  exact bm64 (by omega) (by omega)
theorem lN_ne0 {a : Nat} (ha : a < 2 ^ 63) (h : 0 < a) : ¬ lN a = 0 := by
  intro z
  have z2 : (lN a).toInt = (0 : Int64).toInt := by rw [z]
  rw [lNt ha, show (0 : Int64).toInt = 0 by decide] at z2
  omega
theorem lN_sh (w : Nat) : lN w <<< (((16 : Int32) : Int32).toInt64 &&& 63) = lN (w * 65536) := by
  have e : (((16 : Int32) : Int32).toInt64 &&& 63) = (16 : Int64) := by decide
  rw [e]
  apply Int64.toBitVec_inj.mp
  rw [Int64.toBitVec_shiftLeft]
  apply BitVec.eq_of_toNat_eq
  show ((BitVec.ofNat 64 w) <<< ((16 : Int64).toBitVec.smod 64)).toNat = (BitVec.ofNat 64 (w * 65536)).toNat
  rw [show ((16 : Int64).toBitVec.smod 64) = 16#64 by decide, BitVec.shiftLeft_eq', BitVec.toNat_shiftLeft, BitVec.toNat_ofNat, BitVec.toNat_ofNat, Nat.shiftLeft_eq]
  show (w % 2 ^ 64) * 2 ^ 16 % 2 ^ 64 = (w * 65536) % 2 ^ 64
  omega
/-- digits: their end, their value -/
def de (g : Nat → Nat) : Nat → Nat → Nat
  | 0, i => i
  | n + 1, i => if isDg (g i) = true then de g n (i + 1) else i
def dq (g : Nat → Nat) : Nat → Nat → Nat → Nat
  | 0, _, x => x
  | n + 1, i, x => if isDg (g i) = true then dq g n (i + 1) (10 * x + (g i - 48)) else x
/-- behind the point: value, scale, how many -/
def fq (g : Nat → Nat) : Nat → Nat → Nat → Nat → Nat → Nat × Nat × Nat
  | 0, _, d, y, s => (y, s, d)
  | n + 1, i, d, y, s => if isDg (g i) = true then (if d < 4 then fq g n (i + 1) (d + 1) (10 * y + (g i - 48)) (10 * s) else fq g n (i + 1) (d + 1) y s) else (y, s, d)
theorem de_ge {g : Nat → Nat} : ∀ (k i : Nat), i ≤ de g k i ∧ de g k i ≤ i + k := by
  intro k
  induction k with
  | zero => intro i; exact ⟨Nat.le_refl _, Nat.le_refl _⟩
  | succ k ih =>
    intro i
    have h1 := ih (i + 1)
    simp only [de]
    (repeat' split) <;> omega
theorem fq_bd {g : Nat → Nat} : ∀ (k i d y s : Nat), y < s → s = 10 ^ (min d 4) → (fq g k i d y s).1 < (fq g k i d y s).2.1 ∧ (fq g k i d y s).2.1 = 10 ^ (min (fq g k i d y s).2.2 4) ∧ d ≤ (fq g k i d y s).2.2 ∧ (fq g k i d y s).2.2 ≤ d + k := by
  intro k
  induction k with
  | zero => intro i d y s h1 h2; exact ⟨h1, h2, Nat.le_refl _, Nat.le_refl _⟩
  | succ k ih =>
    intro i d y s h1 h2
    simp only [fq]
    split
    · next hd =>
      have hd2 := dg_le hd
      split
      · next h4 =>
        have := ih (i + 1) (d + 1) (10 * y + (g i - 48)) (10 * s) (by omega) (by rw [h2, show min d 4 = d by omega, show min (d + 1) 4 = d + 1 by omega, Nat.pow_succ, Nat.mul_comm])
        exact ⟨this.1, this.2.1, by omega, by omega⟩
      · next h4 =>
        have := ih (i + 1) (d + 1) y s h1 (by rw [h2, show min d 4 = 4 by omega, show min (d + 1) 4 = 4 by omega])
        exact ⟨this.1, this.2.1, by omega, by omega⟩
    · exact ⟨h1, h2, Nat.le_refl _, Nat.le_add_right _ _⟩
theorem tk_min {N a : Nat} {H : Hp} (ha : a < 2 ^ 63) : F_Math_min2 N (lN a) (1099511627776 : Int64) H = some (lN (min a 1099511627776), H) := by
  unfold F_Math_min2
  by_cases c : 1099511627776 < a
  · rw [if_pos (show 0 < lg_cmp (lN a) (1099511627776 : Int64) from (lN_lgpos (b := 1099511627776) ha (by decide)).mpr c), show min a 1099511627776 = 1099511627776 by omega]
    rfl
  · rw [if_neg (show ¬ 0 < lg_cmp (lN a) (1099511627776 : Int64) from fun z => c ((lN_lgpos (b := 1099511627776) ha (by decide)).mp z)), show min a 1099511627776 = a by omega]
theorem tk_n5 {N T : Nat} {p1 : Int32} {g : Nat → Nat} {A : Hp} (h : TA A T g) : ∀ (k n i x : Nat), i + k = T → k < n → B_Lexer_behindNumber_5 N 1 p1 n (lN (min x 1099511627776)) (nI i) A = B_Lexer_behindNumber_56 N 1 p1 (lN (min (dq g k i x) 1099511627776)) (nI (de g k i)) A := by
  have h0 := h
  obtain ⟨hG, hT, h6, hb, hg, hz⟩ := h0
  intro k
  induction k with
  | zero =>
    intro n i x hi hn
    obtain ⟨n, rfl⟩ : ∃ m, n = m + 1 := ⟨n - 1, by omega⟩
    rw [B_Lexer_behindNumber_5, ck_t (rS_1 hG), bnd_t, hT, if_pos (nI_le (by omega) (by omega))]
    rfl
  | succ k ih =>
    intro n i x hi hn
    obtain ⟨n, rfl⟩ : ∃ m, n = m + 1 := ⟨n - 1, by omega⟩
    rw [B_Lexer_behindNumber_5, ck_t (rS_1 hG), bnd_t, hT, if_neg (nI_ge (by omega) (by omega)), bC_t (tk_byte h (by omega)), bC_t ev_CD, dgv_n (hg i)]
    simp only [dq, de]
    cases c1 : isDg (g i)
    · simp only [bI_f, if_true, if_false, Bool.false_eq_true]
    · simp only [bI_t0, if_true, if_false]
      have hd := dg_le c1
      rw [bC_t (tk_byte h (by omega)), bnd_t, nI_l (by omega), show lN (min x 1099511627776) * (10 : Int64) + lN (g i) - (48 : Int64) = lN (min x 1099511627776 * 10 + g i - 48) by
        rw [show (10 : Int64) = lN 10 from rfl, lN_mul, lN_add, show (48 : Int64) = lN 48 from rfl, lN_sub (by omega)], bC_t (tk_min (by omega)), nI_1, show min (min x 1099511627776 * 10 + g i - 48) 1099511627776 = min (10 * x + (g i - 48)) 1099511627776 by omega]
      exact ih n (i + 1) _ (by omega) (by omega)
theorem tk_n130 {N T : Nat} {p1 : Int32} {l2 : Int64} {g : Nat → Nat} {A : Hp} (h : TA A T g) : ∀ (k n i d y s : Nat), i + k = T → k < n → d ≤ i → B_Lexer_behindNumber_130 N 1 p1 n l2 (nI i) (lN y) (lN s) (nI d) A = B_Lexer_behindNumber_194 N 1 p1 l2 (nI (de g k i)) (lN (fq g k i d y s).1) (lN (fq g k i d y s).2.1) (nI (fq g k i d y s).2.2) A := by
  have h0 := h
  obtain ⟨hG, hT, h6, hb, hg, hz⟩ := h0
  intro k
  induction k with
  | zero =>
    intro n i d y s hi hn hd
    obtain ⟨n, rfl⟩ : ∃ m, n = m + 1 := ⟨n - 1, by omega⟩
    rw [B_Lexer_behindNumber_130, ck_t (rS_1 hG), bnd_t, hT, if_pos (nI_le (by omega) (by omega))]
    rfl
  | succ k ih =>
    intro n i d y s hi hn hd
    obtain ⟨n, rfl⟩ : ∃ m, n = m + 1 := ⟨n - 1, by omega⟩
    rw [B_Lexer_behindNumber_130, ck_t (rS_1 hG), bnd_t, hT, if_neg (nI_ge (by omega) (by omega)), bC_t (tk_byte h (by omega)), bC_t ev_CD, dgv_n (hg i)]
    simp only [fq, de, nI_1, B_Lexer_behindNumber_188]
    cases c1 : isDg (g i)
    · simp only [bI_f, if_true, if_false, Bool.false_eq_true]
    · simp only [bI_t0, if_true, if_false]
      have hd2 := dg_le c1
      by_cases c4 : d < 4
      · rw [if_neg (show ¬ (4 : Int32) < nI (d + 1) from nI_nlt (a := 4) (by omega) (by decide)), bC_t (tk_byte h (by omega)), bnd_t, bnd_t, nI_l (by omega), show lN y * (10 : Int64) + lN (g i) - (48 : Int64) = lN (10 * y + (g i - 48)) by
          rw [show (10 : Int64) = lN 10 from rfl, lN_mul, lN_add, show (48 : Int64) = lN 48 from rfl, lN_sub (by omega)]; congr 1; omega, show lN s * (10 : Int64) = lN (10 * s) by rw [show (10 : Int64) = lN 10 from rfl, lN_mul, Nat.mul_comm]]
        simp only [c4, if_true]
        exact ih n (i + 1) (d + 1) _ _ (by omega) (by omega) (by omega)
      · rw [if_pos (show (4 : Int32) < nI (d + 1) from nI_lt (a := 4) (by omega) (by omega))]
        simp only [c4, if_false]
        exact ih n (i + 1) (d + 1) _ _ (by omega) (by omega) (by omega)
/-- a number: end, kind, value, too large -/
def nmS (g : Nat → Nat) (T i : Nat) : Nat × Nat × Int32 × Bool :=
  if g (de g (T - i) i) = 46 ∧ isDg (g (de g (T - i) i + 1)) = true then
    (de g (T - (de g (T - i) i + 1)) (de g (T - i) i + 1), 4,
      (if 32767 < dq g (T - i) i 0 ∨ 4 < (fq g (T - (de g (T - i) i + 1)) (de g (T - i) i + 1) 0 0 1).2.2 then 0 else
        nI (65536 * dq g (T - i) i 0 + (131072 * (fq g (T - (de g (T - i) i + 1)) (de g (T - i) i + 1) 0 0 1).1 + (fq g (T - (de g (T - i) i + 1)) (de g (T - i) i + 1) 0 0 1).2.1) / (2 * (fq g (T - (de g (T - i) i + 1)) (de g (T - i) i + 1) 0 0 1).2.1))),
      decide (32767 < dq g (T - i) i 0 ∨ 4 < (fq g (T - (de g (T - i) i + 1)) (de g (T - i) i + 1) 0 0 1).2.2))
  else (de g (T - i) i, 3, (if 2147483647 < dq g (T - i) i 0 then 0 else nI (dq g (T - i) i 0)), decide (2147483647 < dq g (T - i) i 0))
/-! what a lexer notes -/
theorem rdw {H : Hp} {a f x y : Nat} {v : Int32} (h : x ≠ a) : (H.sD a f v).D x y = H.D x y := by rw [sD_D, up2_o h]
theorem rds {H : Hp} {a f : Nat} {v : Int32} : (H.sD a f v).D a f = v := by rw [sD_D, up2_eq]
theorem rdf {H : Hp} {a f y : Nat} {v : Int32} (h : y ≠ f) : (H.sD a f v).D a y = H.D a y := by rw [sD_D, up2_ne (fun z => h z.2)]
theorem ar_sD {α : Type} {H : Hp} {a f k b : Nat} {v : Int32} {K : Nat → Option α} : ar (H.sD a f v) k b K = ar H k b K := rfl
theorem Gr.sD {H : Hp} (h : Gr H) {a f : Nat} {v : Int32} : Gr (H.sD a f v) := ⟨h.1, h.2⟩
def noteA (A : Hp) (c : Nat) (k p v o : Int32) : Hp := ((((A.sD 3 c k).sD 4 c p).sD 5 c v).sD 6 c o).sD 1 10 (nI (c + 1))
theorem tk_note {N c : Nat} {k p v o : Int32} {A : Hp} (hG : Gr A) (hc : A.D 1 10 = nI c) (h : c < 6001) : F_Lexer_note N 1 k p v o A = some ((), noteA A c k p v (vp_nar .boolean o)) := by
  unfold F_Lexer_note
  rw [ck_t (rS_1 hG), bnd_t, rf_t (rP_1_6 hG), ar_t (rA_1_6 hG), hc, if_neg (show ¬ Int32.ofNat 6001 ≤ nI c from nI_ge (b := 6001) h (by decide))]
  simp only [rf_t (rP_1_6 hG), ar_t (rA_1_6 hG), rf_t (rP_1_7 hG), ar_t (rA_1_7 hG), rf_t (rP_1_8 hG), ar_t (rA_1_8 hG), rf_t (rP_1_9 hG), ar_t (rA_1_9 hG), bnd_t, hc, sD_P, ar_sD, rdw (show 1 ≠ 3 by decide), rdw (show 1 ≠ 4 by decide), rdw (show 1 ≠ 5 by decide), rdw (show 1 ≠ 6 by decide), ck_t (nI_in h (by decide)), nI_clamp (show c < 2 ^ 31 by omega), nI_1]
  rfl
theorem TA.sD {A : Hp} {T : Nat} {g : Nat → Nat} (h : TA A T g) {a f : Nat} {v : Int32} (h1 : ¬ (1 = a ∧ 1 = f)) (h2 : 2 ≠ a) : TA (A.sD a f v) T g := by
  obtain ⟨hG, hT, h6, hb, hg, hz⟩ := h
  refine ⟨hG.sD, ?_, h6, fun i hi => ?_, hg, hz⟩
  · rw [sD_D, up2_ne h1]; exact hT
  · rw [rdw h2]; exact hb i hi
theorem TA.note {A : Hp} {T c : Nat} {g : Nat → Nat} {k p v o : Int32} (h : TA A T g) : TA (noteA A c k p v o) T g := ((((h.sD (by omega) (by decide)).sD (by omega) (by decide)).sD (by omega) (by decide)).sD (by omega) (by decide)).sD (by omega) (by decide)
theorem StA.note {A : Hp} {c : Nat} {k p v o : Int32} (h : StA A) : StA (noteA A c k p v o) := by
  intro w hw
  unfold noteA
  rw [rdw (by decide), rdw (by decide), rdw (by decide), rdw (by decide), rdw (by decide)]
  exact h w hw
theorem tk_n81 {N c x e : Nat} {p1 : Int32} {A : Hp} (hG : Gr A) (hc : A.D 1 10 = nI c) (h : c < 6001) : B_Lexer_behindNumber_81 N 1 p1 (lN (min x 1099511627776)) (nI e) A = some (nI e, noteA A c 3 p1 (if 2147483647 < x then 0 else nI x) (bI (decide (2147483647 < x)))) := by
  unfold B_Lexer_behindNumber_81 B_Lexer_behindNumber_94 B_Lexer_behindNumber_110
  by_cases q : 2147483647 < x
  · rw [if_neg (show ¬ lg_cmp (lN (min x 1099511627776)) (2147483647 : Int64) ≤ 0 from fun z => by have := (lN_lgle (b := 2147483647) (by omega) (by decide)).mp z; omega), if_neg (by decide), ck_t (rS_1 hG), bC_t (tk_note hG hc h), if_pos q, show vp_nar .boolean 1 = bI true from bI_nar true]
    simp only [q, decide_true]
  · rw [if_pos (show lg_cmp (lN (min x 1099511627776)) (2147483647 : Int64) ≤ 0 from (lN_lgle (b := 2147483647) (by omega) (by decide)).mpr (by omega)), if_pos rfl, ck_t (rS_1 hG), bC_t (tk_note hG hc h), if_neg q, show vp_nar .boolean 0 = bI false from bI_nar false, lN_i, show min x 1099511627776 = x by omega]
    simp only [q, decide_false]
theorem tk_n213 {N c x y s e : Nat} {p1 w0 : Int32} {A : Hp} (hG : Gr A) (hc : A.D 1 10 = nI c) (h : c < 6001) (hy : y < s) (hs : 2 ≤ s) (hs2 : s ≤ 10000) : B_Lexer_behindNumber_213 N 1 p1 (lN (min x 1099511627776)) (nI e) (lN y) (lN s) w0 A = some (nI e, noteA A c 4 p1 (if w0 = 0 then nI (min x 1099511627776 * 65536 + (y * 65536 + s / 2) / s) else 0) (vp_nar .boolean w0)) := by
  have em : F_Math_max2 N (1 : Int64) (lN s) A = some (lN s, A) := by
    unfold F_Math_max2
    rw [if_pos (show lg_cmp (1 : Int64) (lN s) < 0 from (lN_lglt (a := 1) (by decide) (by omega)).mpr (by omega))]
  unfold B_Lexer_behindNumber_213 B_Lexer_behindNumber_257
  rw [bC_t em, ck_t (lN_ne0 (by omega) (by omega)), bnd_t, lN_sh, show lN y * (65536 : Int64) + lN s / (2 : Int64) = lN (y * 65536 + s / 2) by rw [show (65536 : Int64) = lN 65536 from rfl, show (2 : Int64) = lN 2 from rfl, lN_mul, lN_div (by omega) (by decide), lN_add], lN_div (by omega) (by omega), lN_add]
  simp only [ck_t (rS_1 hG), bC_t (tk_note hG hc h), lN_i]
  split <;> rfl
theorem hf_even {y s : Nat} (h : ∃ t, s = 2 * t) (h0 : 0 < s) : (131072 * y + s) / (2 * s) = (y * 65536 + s / 2) / s := by
  obtain ⟨t, rfl⟩ := h
  rw [show 131072 * y + 2 * t = 2 * (y * 65536 + t) by omega, Nat.mul_div_mul_left _ _ (by decide), show 2 * t / 2 = t by omega]
theorem pw_even {d : Nat} (h : 1 ≤ d) : (∃ t, 10 ^ (min d 4) = 2 * t) ∧ 2 ≤ 10 ^ (min d 4) ∧ 10 ^ (min d 4) ≤ 10000 := by
  have : min d 4 = 1 ∨ min d 4 = 2 ∨ min d 4 = 3 ∨ min d 4 = 4 := by omega
  rcases this with e | e | e | e <;> rw [e]
  · exact ⟨⟨5, rfl⟩, by decide, by decide⟩
  · exact ⟨⟨50, rfl⟩, by decide, by decide⟩
  · exact ⟨⟨500, rfl⟩, by decide, by decide⟩
  · exact ⟨⟨5000, rfl⟩, by decide, by decide⟩
theorem tk_number {N T i c : Nat} {g : Nat → Nat} {A : Hp} (h : TA A T g) (hN : 6001 ≤ N) (hi : i ≤ T) (hc : A.D 1 10 = nI c) (hc6 : c < 6001) : F_Lexer_behindNumber N 1 (nI i) A = some (nI (nmS g T i).1, noteA A c (nI (nmS g T i).2.1) (nI i) (nmS g T i).2.2.1 (bI (nmS g T i).2.2.2)) := by
  have h0 := h
  obtain ⟨hG, hT, h6, hb, hg, hz⟩ := h0
  unfold F_Lexer_behindNumber
  refine (tk_n5 h (T - i) N i 0 (by omega) (by omega)).trans ?_
  have hd := de_ge (g := g) (T - i) i
  unfold nmS
  obtain ⟨e, he⟩ : ∃ e, e = de g (T - i) i := ⟨_, rfl⟩
  obtain ⟨x, hx⟩ : ∃ x, x = dq g (T - i) i 0 := ⟨_, rfl⟩
  rw [← he] at hd
  rw [← he, ← hx]
  unfold B_Lexer_behindNumber_56
  rw [ck_t (rS_1 hG), bC_t (tk_byte h (by omega))]
  by_cases c1 : g e = 46
  · have hlt : e < T := by
      rcases Nat.lt_or_ge e T with z | z
      · exact z
      · have := hz e z; omega
    rw [if_pos (Eq.mpr (nk46 (hg e)) c1), nI_1, bC_t (tk_byte h (by omega)), bC_t ev_CD, dgv_n (hg (e + 1))]
    cases c2 : isDg (g (e + 1))
    · simp only [bI_f, c1, true_and, if_true, if_false, Bool.false_eq_true]
      rw [tk_n81 hG hc hc6]
      rfl
    · simp only [bI_t0, c1, true_and, if_true, if_false]
      obtain ⟨q, hq⟩ : ∃ q, q = fq g (T - (e + 1)) (e + 1) 0 0 1 := ⟨_, rfl⟩
      have hlt2 : e + 1 < T := by
        rcases Nat.lt_or_ge (e + 1) T with z | z
        · exact z
        · have z2 := hz (e + 1) z
          rw [z2] at c2
          cases c2
      have hf : q.1 < q.2.1 ∧ q.2.1 = 10 ^ (min q.2.2 4) ∧ 1 ≤ q.2.2 ∧ q.2.2 ≤ T := by
        rw [hq, show T - (e + 1) = (T - (e + 2)) + 1 by omega]
        simp only [fq, c2, if_true, show (0 : Nat) < 4 by decide]
        have hd1 := dg_le c2
        have z := fq_bd (g := g) (T - (e + 2)) (e + 1 + 1) (0 + 1) (10 * 0 + (g (e + 1) - 48)) (10 * 1) (by omega) (by decide)
        exact ⟨z.1, z.2.1, z.2.2.1, by have := z.2.2.2; omega⟩
      obtain ⟨f1, f2, f3, f4⟩ := hf
      obtain ⟨p1, p2, p3⟩ := pw_even f3
      rw [← f2] at p1 p2 p3
      refine (tk_n130 h (T - (e + 1)) N (e + 1) 0 0 1 (by omega) (by omega) (by omega)).trans ?_
      rw [← hq]
      unfold B_Lexer_behindNumber_194 B_Lexer_behindNumber_208
      by_cases c3 : 32767 < x
      · rw [if_pos (show 0 < lg_cmp (lN (min x 1099511627776)) (32767 : Int64) from (lN_lgpos (b := 32767) (by omega) (by decide)).mpr (by omega)), tk_n213 hG hc hc6 f1 p2 p3]
        simp only [c3, true_or, if_true, decide_true]
        rw [if_neg (by decide)]
        rfl
      · rw [if_neg (show ¬ 0 < lg_cmp (lN (min x 1099511627776)) (32767 : Int64) from fun z => by have := (lN_lgpos (b := 32767) (by omega) (by decide)).mp z; omega)]
        by_cases c4 : 4 < q.2.2
        · rw [if_neg (show ¬ nI q.2.2 ≤ (4 : Int32) from nI_ge (a := 4) c4 (by omega)), tk_n213 hG hc hc6 f1 p2 p3]
          simp only [c4, or_true, if_true, decide_true]
          rw [if_neg (by decide)]
          rfl
        · rw [if_pos (show nI q.2.2 ≤ (4 : Int32) from nI_le (b := 4) (by omega) (by decide)), tk_n213 hG hc hc6 f1 p2 p3]
          simp only [c3, c4, or_self, if_true, if_false, decide_false]
          rw [show min x 1099511627776 = x by omega, hf_even p1 (by omega), Nat.mul_comm x 65536]
          rfl
  · rw [if_neg (fun z => c1 (Eq.mp (nk46 (hg e)) z)), tk_n81 hG hc hc6]
    simp only [c1, false_and, if_false]
    rfl
