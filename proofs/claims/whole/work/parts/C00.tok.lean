/-! ===== tokens: bytes, and what a lexer finds ===== -/
def sx (c : Nat) : Int32 := if c < 128 then nI c else nI c - 256
def isLt (c : Nat) : Bool := (decide (97 ≤ c) && decide (c ≤ 122)) || (decide (65 ≤ c) && decide (c ≤ 90))
def isDg (c : Nat) : Bool := decide (48 ≤ c) && decide (c ≤ 57)
def isBl (c : Nat) : Bool := decide (c = 9) || decide (c = 13) || decide (c = 32)
def bI (b : Bool) : Int32 := if b then 1 else 0
def ltv (v : Int32) : Int32 := if v < 97 then (if v < 65 then 0 else if 90 < v then 0 else 1) else if v ≤ 122 then 1 else (if v < 65 then 0 else if 90 < v then 0 else 1)
def dgv (v : Int32) : Int32 := if v < 48 then 0 else if 57 < v then 0 else 1
theorem ltv_n0 : ∀ c : Fin 256, ltv (nI c.val) = bI (isLt c.val) := by decide +kernel
theorem ltv_s0 : ∀ c : Fin 256, ltv (sx c.val) = bI (isLt c.val) := by decide +kernel
theorem dgv_n0 : ∀ c : Fin 256, dgv (nI c.val) = bI (isDg c.val) := by decide +kernel
theorem dgv_s0 : ∀ c : Fin 256, dgv (sx c.val) = bI (isDg c.val) := by decide +kernel
theorem sx_eq0 : ∀ c : Fin 256, ∀ k : Fin 128, (sx c.val = nI k.val ↔ c.val = k.val) := by decide +kernel
theorem ltv_n {c : Nat} (h : c < 256) : ltv (nI c) = bI (isLt c) := ltv_n0 ⟨c, h⟩
theorem ltv_s {c : Nat} (h : c < 256) : ltv (sx c) = bI (isLt c) := ltv_s0 ⟨c, h⟩
theorem dgv_n {c : Nat} (h : c < 256) : dgv (nI c) = bI (isDg c) := dgv_n0 ⟨c, h⟩
theorem dgv_s {c : Nat} (h : c < 256) : dgv (sx c) = bI (isDg c) := dgv_s0 ⟨c, h⟩
theorem sx_dg {c : Nat} (h : isDg c = true) : sx c = nI c := by
  unfold isDg at h
  simp only [Bool.and_eq_true, decide_eq_true_eq] at h
  unfold sx
  rw [if_pos (by omega)]
theorem dg_le {c : Nat} (h : isDg c = true) : 48 ≤ c ∧ c ≤ 57 := by
  unfold isDg at h
  simp only [Bool.and_eq_true, decide_eq_true_eq] at h
  exact h
theorem bI_t : bI true = 1 := rfl
theorem bI_f : bI false = 0 := rfl
theorem bI_t0 : ¬ bI true = 0 := by decide
theorem bI_nar (b : Bool) : vp_nar .boolean (bI b) = bI b := by cases b <;> decide +kernel
theorem ev_CL {N : Nat} {v : Int32} {H : Hp} : F_Lexer_isLetter N v H = some (ltv v, H) := by
  unfold F_Lexer_isLetter B_Lexer_isLetter_12 B_Lexer_isLetter_24 ltv
  (repeat' split) <;> rfl
theorem ev_CD {N : Nat} {v : Int32} {H : Hp} : F_Lexer_isDigit N v H = some (dgv v, H) := by
  unfold F_Lexer_isDigit dgv
  (repeat' split) <;> rfl
theorem ev_ML {N : Nat} {v : Int32} {H : Hp} : F_MText_isLetter N v H = some (ltv v, H) := by
  unfold F_MText_isLetter B_MText_isLetter_12 B_MText_isLetter_24 ltv
  (repeat' split) <;> rfl
theorem ev_MD {N : Nat} {v : Int32} {H : Hp} : F_MText_isDigit N v H = some (dgv v, H) := by
  unfold F_MText_isDigit dgv
  (repeat' split) <;> rfl
/-- the tape as the class has it -/
def TA (A : Hp) (T : Nat) (g : Nat → Nat) : Prop := Gr A ∧ A.D 1 1 = nI T ∧ T ≤ 6000 ∧ (∀ i, i < T → A.D 2 i &&& 255 = nI (g i)) ∧ (∀ i, g i < 256) ∧ ∀ i, T ≤ i → g i = 0
/-- the letters as the reference has them -/
def TB (B : Hp) (w T : Nat) (g : Nat → Nat) : Prop := isT B w ∧ B.D w 1 = nI T ∧ T ≤ 6000 ∧ (∀ i, i < T → B.D (w + 1) i = sx (g i)) ∧ (∀ i, g i < 256) ∧ ∀ i, T ≤ i → g i = 0
theorem tk_byte {N T i : Nat} {g : Nat → Nat} {A : Hp} (h : TA A T g) (hi : i < 2 ^ 31) : F_Lexer_byteAt N 1 (nI i) A = some (nI (g i), A) := by
  obtain ⟨hG, hT, h6, hb, hg, hz⟩ := h
  simp only [F_Lexer_byteAt, ck_t (rS_1 hG), bnd_t, hT]
  by_cases c : i < T
  · rw [if_neg (nI_ge c (by omega)), rf_t (rP_1_0 hG), ar_t (rA_1_0 hG), ck_t (nI_in (by omega) (by omega)), nI_clamp hi, hb i c]
  · rw [if_pos (nI_le (by omega) hi), hz i (by omega)]
    rfl
theorem tk_letter {N w T i : Nat} {g : Nat → Nat} {B : Hp} (h : TB B w T g) (hi : i < 2 ^ 31) : F_MText_letter N w (nI i) B = some (sx (g i), B) := by
  obtain ⟨hG, hT, h6, hb, hg, hz⟩ := h
  simp only [F_MText_letter, ck_t (TS hG), bnd_t, hT]
  by_cases c : i < T
  · rw [if_neg (nI_ge c (by omega)), rf_t (TP_0 hG), ar_t (TA_0 hG), ck_t (nI_in (by omega) (by omega)), nI_clamp hi, hb i c]
  · rw [if_pos (nI_le (by omega) hi), hz i (by omega)]
    rfl
theorem nk35 {c : Nat} (hc : c < 256) : (nI c = (35 : Int32)) = (c = 35) := propext (nI_eq (a := c) (b := 35) (by omega) (by decide))
theorem nk10 {c : Nat} (hc : c < 256) : (nI c = (10 : Int32)) = (c = 10) := propext (nI_eq (a := c) (b := 10) (by omega) (by decide))
theorem nk9 {c : Nat} (hc : c < 256) : (nI c = (9 : Int32)) = (c = 9) := propext (nI_eq (a := c) (b := 9) (by omega) (by decide))
theorem nk13 {c : Nat} (hc : c < 256) : (nI c = (13 : Int32)) = (c = 13) := propext (nI_eq (a := c) (b := 13) (by omega) (by decide))
theorem nk32 {c : Nat} (hc : c < 256) : (nI c = (32 : Int32)) = (c = 32) := propext (nI_eq (a := c) (b := 32) (by omega) (by decide))
theorem nk46 {c : Nat} (hc : c < 256) : (nI c = (46 : Int32)) = (c = 46) := propext (nI_eq (a := c) (b := 46) (by omega) (by decide))
theorem sk35 {c : Nat} (hc : c < 256) : (sx c = (35 : Int32)) = (c = 35) := propext (sx_eq0 ⟨c, hc⟩ ⟨35, by decide⟩)
theorem sk10 {c : Nat} (hc : c < 256) : (sx c = (10 : Int32)) = (c = 10) := propext (sx_eq0 ⟨c, hc⟩ ⟨10, by decide⟩)
theorem sk9 {c : Nat} (hc : c < 256) : (sx c = (9 : Int32)) = (c = 9) := propext (sx_eq0 ⟨c, hc⟩ ⟨9, by decide⟩)
theorem sk13 {c : Nat} (hc : c < 256) : (sx c = (13 : Int32)) = (c = 13) := propext (sx_eq0 ⟨c, hc⟩ ⟨13, by decide⟩)
theorem sk32 {c : Nat} (hc : c < 256) : (sx c = (32 : Int32)) = (c = 32) := propext (sx_eq0 ⟨c, hc⟩ ⟨32, by decide⟩)
theorem sk46 {c : Nat} (hc : c < 256) : (sx c = (46 : Int32)) = (c = 46) := propext (sx_eq0 ⟨c, hc⟩ ⟨46, by decide⟩)
theorem sk60 {c : Nat} (hc : c < 256) : (sx c = (60 : Int32)) = (c = 60) := propext (sx_eq0 ⟨c, hc⟩ ⟨60, by decide⟩)
theorem sk61 {c : Nat} (hc : c < 256) : (sx c = (61 : Int32)) = (c = 61) := propext (sx_eq0 ⟨c, hc⟩ ⟨61, by decide⟩)
theorem sk62 {c : Nat} (hc : c < 256) : (sx c = (62 : Int32)) = (c = 62) := propext (sx_eq0 ⟨c, hc⟩ ⟨62, by decide⟩)
theorem sk33 {c : Nat} (hc : c < 256) : (sx c = (33 : Int32)) = (c = 33) := propext (sx_eq0 ⟨c, hc⟩ ⟨33, by decide⟩)
theorem sk38 {c : Nat} (hc : c < 256) : (sx c = (38 : Int32)) = (c = 38) := propext (sx_eq0 ⟨c, hc⟩ ⟨38, by decide⟩)
theorem sk124 {c : Nat} (hc : c < 256) : (sx c = (124 : Int32)) = (c = 124) := propext (sx_eq0 ⟨c, hc⟩ ⟨124, by decide⟩)
theorem sk123 {c : Nat} (hc : c < 256) : (sx c = (123 : Int32)) = (c = 123) := propext (sx_eq0 ⟨c, hc⟩ ⟨123, by decide⟩)
theorem sk125 {c : Nat} (hc : c < 256) : (sx c = (125 : Int32)) = (c = 125) := propext (sx_eq0 ⟨c, hc⟩ ⟨125, by decide⟩)
theorem sk40 {c : Nat} (hc : c < 256) : (sx c = (40 : Int32)) = (c = 40) := propext (sx_eq0 ⟨c, hc⟩ ⟨40, by decide⟩)
theorem sk41 {c : Nat} (hc : c < 256) : (sx c = (41 : Int32)) = (c = 41) := propext (sx_eq0 ⟨c, hc⟩ ⟨41, by decide⟩)
theorem sk44 {c : Nat} (hc : c < 256) : (sx c = (44 : Int32)) = (c = 44) := propext (sx_eq0 ⟨c, hc⟩ ⟨44, by decide⟩)
theorem sk59 {c : Nat} (hc : c < 256) : (sx c = (59 : Int32)) = (c = 59) := propext (sx_eq0 ⟨c, hc⟩ ⟨59, by decide⟩)
theorem sk43 {c : Nat} (hc : c < 256) : (sx c = (43 : Int32)) = (c = 43) := propext (sx_eq0 ⟨c, hc⟩ ⟨43, by decide⟩)
theorem sk45 {c : Nat} (hc : c < 256) : (sx c = (45 : Int32)) = (c = 45) := propext (sx_eq0 ⟨c, hc⟩ ⟨45, by decide⟩)
theorem sk42 {c : Nat} (hc : c < 256) : (sx c = (42 : Int32)) = (c = 42) := propext (sx_eq0 ⟨c, hc⟩ ⟨42, by decide⟩)
theorem sk47 {c : Nat} (hc : c < 256) : (sx c = (47 : Int32)) = (c = 47) := propext (sx_eq0 ⟨c, hc⟩ ⟨47, by decide⟩)
theorem sk37 {c : Nat} (hc : c < 256) : (sx c = (37 : Int32)) = (c = 37) := propext (sx_eq0 ⟨c, hc⟩ ⟨37, by decide⟩)
/-- behind blanks -/
def sk (g : Nat → Nat) : Nat → Bool → Nat → Nat
  | 0, _, i => i
  | n + 1, r, i => if g i = 35 then sk g n true (i + 1) else if g i = 10 then sk g n false (i + 1) else if r = true then sk g n true (i + 1) else if isBl (g i) = true then sk g n false (i + 1) else i
theorem sk_ge {g : Nat → Nat} : ∀ (k : Nat) (r : Bool) (i : Nat), i ≤ sk g k r i ∧ sk g k r i ≤ i + k := by
  intro k
  induction k with
  | zero => intro r i; exact ⟨Nat.le_refl _, Nat.le_refl _⟩
  | succ k ih =>
    intro r i
    have h1 := ih true (i + 1)
    have h2 := ih false (i + 1)
    simp only [sk]
    (repeat' split) <;> omega
theorem tk_bb {N T : Nat} {p1 : Int32} {g : Nat → Nat} {A : Hp} (h : TA A T g) : ∀ (k n i : Nat) (r : Bool), i + k = T → k < n → B_Lexer_behindBlanks_4 N 1 p1 n (bI r) (nI i) A = some (nI (sk g k r i), A) := by
  have h0 := h
  obtain ⟨hG, hT, h6, hb, hg, hz⟩ := h0
  intro k
  induction k with
  | zero =>
    intro n i r hi hn
    obtain ⟨n, rfl⟩ : ∃ m, n = m + 1 := ⟨n - 1, by omega⟩
    rw [B_Lexer_behindBlanks_4]
    simp only [ck_t (rS_1 hG), bnd_t, hT]
    rw [if_pos (nI_le (by omega) (by omega)), show T = i by omega]
    rfl
  | succ k ih =>
    intro n i r hi hn
    obtain ⟨n, rfl⟩ : ∃ m, n = m + 1 := ⟨n - 1, by omega⟩
    rw [B_Lexer_behindBlanks_4]
    simp only [ck_t (rS_1 hG), bnd_t, hT]
    rw [if_neg (nI_ge (by omega) (by omega)), bC_t (tk_byte h (by omega))]
    simp only [B_Lexer_behindBlanks_70, nI_1, nk35 (hg i), nk10 (hg i), nk9 (hg i), nk13 (hg i), nk32 (hg i), sk]
    by_cases c1 : g i = 35
    · simp only [c1, if_true]
      exact ih n (i + 1) true (by omega) (by omega)
    · by_cases c2 : g i = 10
      · simp only [c1, c2, if_true, if_false]
        exact ih n (i + 1) false (by omega) (by omega)
      · cases r
        · by_cases c3 : g i = 9
          · simp only [c1, c2, c3, bI_f, if_true, if_false, Bool.false_eq_true, show isBl 9 = true from rfl]
            exact ih n (i + 1) false (by omega) (by omega)
          · by_cases c4 : g i = 13
            · simp only [c1, c2, c3, c4, bI_f, if_true, if_false, Bool.false_eq_true, show isBl 13 = true from rfl]
              exact ih n (i + 1) false (by omega) (by omega)
            · by_cases c5 : g i = 32
              · simp only [c1, c2, c3, c4, c5, bI_f, if_true, if_false, Bool.false_eq_true, show isBl 32 = true from rfl]
                exact ih n (i + 1) false (by omega) (by omega)
              · have c6 : isBl (g i) = false := by unfold isBl; simp [c3, c4, c5]
                simp only [c1, c2, c3, c4, c5, c6, bI_f, if_true, if_false, Bool.false_eq_true]
        · simp only [c1, c2, bI_t0, if_true, if_false]
          exact ih n (i + 1) true (by omega) (by omega)
theorem tk_blanks {N T i : Nat} {g : Nat → Nat} {A : Hp} (h : TA A T g) (hN : 6001 ≤ N) (hi : i ≤ T) : F_Lexer_behindBlanks N 1 (nI i) A = some (nI (sk g (T - i) false i), A) := by
  have h6 : T ≤ 6000 := h.2.2.1
  unfold F_Lexer_behindBlanks
  exact tk_bb h (T - i) N i false (by omega) (by omega)
theorem tk_ms {N w T : Nat} {p1 : Int32} {g : Nat → Nat} {B : Hp} (h : TB B w T g) (hN : 6001 ≤ N) : ∀ (k i : Nat), i + k = T →
    (∀ n, k < n → B_MText_skips_4 N w p1 n (nI i) 1 B = some (nI (sk g k false i), B)) ∧
    (∀ n m, k < n → k < m → B_MText_skips_31 N w p1 (fun l2 l3 H => B_MText_skips_4 N w p1 m l2 l3 H) n (nI i) 1 B = some (nI (sk g k true i), B)) := by
  have h0 := h
  obtain ⟨hG, hT, h6, hb, hg, hz⟩ := h0
  intro k
  induction k with
  | zero =>
    intro i hi
    have e4 : ∀ n, 0 < n → B_MText_skips_4 N w p1 n (nI i) 1 B = some (nI (sk g 0 false i), B) := by
      intro n hn
      obtain ⟨n, rfl⟩ : ∃ m, n = m + 1 := ⟨n - 1, by omega⟩
      rw [B_MText_skips_4]
      simp only [ck_t (TS hG), bnd_t, hT]
      rw [if_neg (by decide), if_pos (nI_le (by omega) (by omega))]
      rfl
    refine ⟨e4, ?_⟩
    intro n m hn hm
    obtain ⟨n, rfl⟩ : ∃ m, n = m + 1 := ⟨n - 1, by omega⟩
    rw [B_MText_skips_31]
    simp only [ck_t (TS hG), bnd_t, hT, B_MText_skips_102]
    rw [if_pos (nI_le (by omega) (by omega))]
    exact e4 m hm
  | succ k ih =>
    intro i hi
    have hbi := hb i (by omega)
    have rd : ∀ {α : Type} (K : Int32 → Option α), (rf (B.P w 0) fun a5 => ar B 101 a5 fun n7 => ck (inb (nI i) n7) <| bnd ((B.D a5 (nI i).toNatClampNeg)) K) = K (sx (g i)) := by
      intro α K
      rw [rf_t (TP_0 hG), ar_t (TA_0 hG), ck_t (nI_in (by omega) (by omega)), nI_clamp (by omega), hbi]
      rfl
    have e4 : ∀ n, k + 1 < n → B_MText_skips_4 N w p1 n (nI i) 1 B = some (nI (sk g (k + 1) false i), B) := by
      intro n hn
      obtain ⟨n, rfl⟩ : ∃ m, n = m + 1 := ⟨n - 1, by omega⟩
      rw [B_MText_skips_4]
      simp only [ck_t (TS hG), hT]
      rw [if_neg (by decide), bnd_t, if_neg (nI_ge (by omega) (by omega)), rd]
      simp only [B_MText_skips_84, B_MText_skips_89, B_MText_skips_100, B_MText_skips_102, sk35 (hg i), sk10 (hg i), sk9 (hg i), sk13 (hg i), sk32 (hg i), sk]
      have z10 : ¬ (1 : Int32) = 0 := by decide
      by_cases c1 : g i = 35
      · simp only [c1, if_true]
        obtain ⟨N', rfl⟩ : ∃ m, N = m + 1 := ⟨N - 1, by omega⟩
        rw [B_MText_skips_31]
        simp only [ck_t (TS hG), hT]
        rw [bnd_t, if_neg (nI_ge (by omega) (by omega)), rd]
        simp only [sk10 (hg i), c1]
        rw [if_neg (by decide), nI_1]
        exact (ih (i + 1) (by omega)).2 N' n (by omega) (by omega)
      · by_cases c3 : g i = 9
        · simp only [c1, c3, z10, if_true, if_false, Bool.false_eq_true, show isBl 9 = true from rfl, show ¬ 9 = 10 by decide, show ¬ 9 = 35 by decide, nI_1]
          exact (ih (i + 1) (by omega)).1 n (by omega)
        · by_cases c2 : g i = 10
          · simp only [c1, c2, z10, if_true, if_false, Bool.false_eq_true, show ¬ 10 = 9 by decide, show ¬ 10 = 35 by decide, nI_1]
            exact (ih (i + 1) (by omega)).1 n (by omega)
          · by_cases c4 : g i = 13
            · simp only [c1, c2, c3, c4, z10, if_true, if_false, Bool.false_eq_true, show isBl 13 = true from rfl, show ¬ 13 = 9 by decide, show ¬ 13 = 10 by decide, show ¬ 13 = 35 by decide, nI_1]
              exact (ih (i + 1) (by omega)).1 n (by omega)
            · by_cases c5 : g i = 32
              · simp only [c1, c2, c3, c4, c5, z10, if_true, if_false, Bool.false_eq_true, show isBl 32 = true from rfl, show ¬ 32 = 9 by decide, show ¬ 32 = 10 by decide, show ¬ 32 = 13 by decide, show ¬ 32 = 35 by decide, nI_1]
                exact (ih (i + 1) (by omega)).1 n (by omega)
              · have c6 : isBl (g i) = false := by unfold isBl; simp [c3, c4, c5]
                simp only [c1, c2, c3, c4, c5, c6, if_true, if_false, Bool.false_eq_true]
                obtain ⟨n, rfl⟩ : ∃ m, n = m + 1 := ⟨n - 1, by omega⟩
                rw [B_MText_skips_4, if_pos rfl, show (0 : Int32) = nI 0 from rfl, nI_add]
                rfl
    refine ⟨e4, ?_⟩
    intro n m hn hm
    obtain ⟨n, rfl⟩ : ∃ m, n = m + 1 := ⟨n - 1, by omega⟩
    rw [B_MText_skips_31]
    simp only [ck_t (TS hG), hT, B_MText_skips_102]
    rw [bnd_t, if_neg (nI_ge (by omega) (by omega)), rd]
    simp only [sk10 (hg i)]
    by_cases c2 : g i = 10
    · rw [if_pos c2, e4 m hm]
      simp only [sk, c2, if_true]
    · rw [if_neg c2, nI_1, (ih (i + 1) (by omega)).2 n m (by omega) (by omega)]
      simp only [sk, c2, if_false, if_true, ite_self]
theorem tk_skips {N w T i : Nat} {g : Nat → Nat} {B : Hp} (h : TB B w T g) (hN : 6001 ≤ N) (hi : i ≤ T) : F_MText_skips N w (nI i) B = some (nI (sk g (T - i) false i), B) := by
  have h6 : T ≤ 6000 := h.2.2.1
  unfold F_MText_skips
  exact (tk_ms h hN (T - i) i (by omega)).1 N (by omega)
/-- a name's end -/
def we (g : Nat → Nat) : Nat → Nat → Nat
  | 0, i => i
  | n + 1, i => if isLt (g i) = true then we g n (i + 1) else if isDg (g i) = true then we g n (i + 1) else i
theorem we_ge {g : Nat → Nat} : ∀ (k i : Nat), i ≤ we g k i ∧ we g k i ≤ i + k := by
  intro k
  induction k with
  | zero => intro i; exact ⟨Nat.le_refl _, Nat.le_refl _⟩
  | succ k ih =>
    intro i
    have h1 := ih (i + 1)
    simp only [we]
    (repeat' split) <;> omega
theorem tk_nm {N T : Nat} {p1 : Int32} {g : Nat → Nat} {A : Hp} (h : TA A T g) : ∀ (k n i : Nat), i + k = T → k < n → B_Lexer_behindName_2 N 1 p1 n (nI i) A = B_Lexer_behindName_38 N 1 p1 (nI (we g k i)) A := by
  have h0 := h
  obtain ⟨hG, hT, h6, hb, hg, hz⟩ := h0
  intro k
  induction k with
  | zero =>
    intro n i hi hn
    obtain ⟨n, rfl⟩ : ∃ m, n = m + 1 := ⟨n - 1, by omega⟩
    rw [B_Lexer_behindName_2]
    simp only [ck_t (rS_1 hG), bnd_t, hT]
    rw [if_pos (nI_le (by omega) (by omega))]
    rfl
  | succ k ih =>
    intro n i hi hn
    obtain ⟨n, rfl⟩ : ∃ m, n = m + 1 := ⟨n - 1, by omega⟩
    rw [B_Lexer_behindName_2]
    simp only [ck_t (rS_1 hG), bnd_t, hT]
    rw [if_neg (nI_ge (by omega) (by omega))]
    simp only [bC_t (tk_byte h (show i < 2 ^ 31 by omega)), bC_t ev_CL, bC_t ev_CD, ltv_n (hg i), dgv_n (hg i), B_Lexer_behindName_32, nI_1, we]
    cases c1 : isLt (g i)
    · simp only [bI_f, if_true, if_false, Bool.false_eq_true]
      cases c2 : isDg (g i)
      · simp only [bI_f, if_true, if_false, Bool.false_eq_true]
      · simp only [bI_t0, if_true, if_false]
        exact ih n (i + 1) (by omega) (by omega)
    · simp only [bI_t0, if_true, if_false]
      exact ih n (i + 1) (by omega) (by omega)
theorem tk_mn {N w T : Nat} {p1 : Int32} {g : Nat → Nat} {B : Hp} (h : TB B w T g) : ∀ (k n i : Nat), i + k = T → k < n → B_MText_word_2 N w p1 n (nI i) B = B_MText_word_38 N w p1 N (nI (we g k i)) 1 0 0 B := by
  have h0 := h
  obtain ⟨hG, hT, h6, hb, hg, hz⟩ := h0
  intro k
  induction k with
  | zero =>
    intro n i hi hn
    obtain ⟨n, rfl⟩ : ∃ m, n = m + 1 := ⟨n - 1, by omega⟩
    rw [B_MText_word_2]
    simp only [ck_t (TS hG), bC_t (tk_letter h (show i < 2 ^ 31 by omega)), bC_t ev_ML, bC_t ev_MD, ltv_s (hg i), dgv_s (hg i), hz i (by omega)]
    rw [if_pos (by decide), if_pos (by decide)]
    rfl
  | succ k ih =>
    intro n i hi hn
    obtain ⟨n, rfl⟩ : ∃ m, n = m + 1 := ⟨n - 1, by omega⟩
    rw [B_MText_word_2]
    simp only [ck_t (TS hG), bC_t (tk_letter h (show i < 2 ^ 31 by omega)), bC_t ev_ML, bC_t ev_MD, ltv_s (hg i), dgv_s (hg i), B_MText_word_24, nI_1, we]
    cases c1 : isLt (g i)
    · simp only [bI_f, if_true, if_false, Bool.false_eq_true]
      cases c2 : isDg (g i)
      · simp only [bI_f, if_true, if_false, Bool.false_eq_true]
      · simp only [bI_t0, if_true, if_false]
        exact ih n (i + 1) (by omega) (by omega)
    · simp only [bI_t0, if_true, if_false]
      exact ih n (i + 1) (by omega) (by omega)
