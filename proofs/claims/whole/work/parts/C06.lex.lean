/-! ===== the rows of tokens ===== -/
def kdK : Option Nat → Nat
  | none => 2
  | some v => 40 + v
theorem kdK_ne (o : Option Nat) : kdK o ≠ 1 ∧ kdK o ≠ 3 ∧ kdK o ≠ 4 := by
  cases o with
  | none => decide
  | some v => exact ⟨by show 40 + v ≠ 1; omega, by show 40 + v ≠ 3; omega, by show 40 + v ≠ 4; omega⟩
/-- a token at i: its end, kind, value, whether it is too much, its length -/
def tkS (g : Nat → Nat) (T i : Nat) : Nat × Nat × Int32 × Bool × Nat :=
  if isLt (g i) = true then (we g (T - i) i, kdK (kf g i (we g (T - i) i - i) 41 0), nI (we g (T - i) i - i), decide (12 < we g (T - i) i - i), we g (T - i) i - i)
  else if isDg (g i) = true then ((nmS g T i).1, (nmS g T i).2.1, (nmS g T i).2.2.1, (nmS g T i).2.2.2, (nmS g T i).1 - i)
  else ((if sgK (g i) (g (i + 1)) < 26 then i + 1 else i + 2), sgK (g i) (g (i + 1)), 0, false, (if sgK (g i) (g (i + 1)) < 26 then 1 else 2))
/-- all tokens from i on: place, kind, value, too much, length -/
def tkL (g : Nat → Nat) (T : Nat) : Nat → Nat → List (Nat × Nat × Int32 × Bool × Nat)
  | 0, _ => []
  | n + 1, i => if T ≤ i then [(T, 0, 0, false, 0)] else if (tkS g T i).2.1 = 1 then [(i, 1, 0, false, 1)] else (i, (tkS g T i).2) :: tkL g T n (sk g (T - (tkS g T i).1) false (tkS g T i).1)
theorem sg_bd {c d : Nat} : sgK c d = 1 ∨ (10 ≤ sgK c d ∧ sgK c d < 26) ∨ (26 ≤ sgK c d ∧ sgK c d < 32 ∧ d ≠ 0) := by
  unfold sgK
  (repeat' split) <;> omega
theorem nmS_bd {g : Nat → Nat} {T i : Nat} (hi : i < T) (hd : isDg (g i) = true) (hz : ∀ i, T ≤ i → g i = 0) : i < (nmS g T i).1 ∧ (nmS g T i).1 ≤ T ∧ ((nmS g T i).2.1 = 3 ∨ (nmS g T i).2.1 = 4) := by
  have h1 : i + 1 ≤ de g (T - i) i := by
    rw [show T - i = (T - (i + 1)) + 1 by omega]
    simp only [de, hd, if_true]
    exact (de_ge _ _).1
  have h2 := (de_ge (g := g) (T - i) i).2
  unfold nmS
  split
  · next q =>
    have hlt : de g (T - i) i + 1 < T := by
      rcases Nat.lt_or_ge (de g (T - i) i + 1) T with z | z
      · exact z
      · have z2 := hz _ z
        rw [z2] at q
        cases q.2
    have h3 := de_ge (g := g) (T - (de g (T - i) i + 1)) (de g (T - i) i + 1)
    exact ⟨by show i < de g _ _; omega, by show de g _ _ ≤ T; omega, Or.inr rfl⟩
  · exact ⟨by show i < de g _ _; omega, by show de g _ _ ≤ T; omega, Or.inl rfl⟩
theorem tkS_bd {g : Nat → Nat} {T i : Nat} (hi : i < T) (hz : ∀ i, T ≤ i → g i = 0) (hb : (tkS g T i).2.1 ≠ 1) : i < (tkS g T i).1 ∧ (tkS g T i).1 ≤ T := by
  unfold tkS at hb ⊢
  split
  · next q =>
    have h1 : i + 1 ≤ we g (T - i) i := by
      rw [show T - i = (T - (i + 1)) + 1 by omega]
      simp only [we, q, if_true]
      exact (we_ge _ _).1
    have h2 := (we_ge (g := g) (T - i) i).2
    exact ⟨by show i < we g _ _; omega, by show we g _ _ ≤ T; omega⟩
  · next q =>
    split
    · next q2 =>
      have := nmS_bd hi q2 hz
      exact ⟨this.1, this.2.1⟩
    · next q2 =>
      rw [if_neg q, if_neg q2] at hb
      rcases sg_bd (c := g i) (d := g (i + 1)) with e | e | e
      · exact absurd e hb
      · exact ⟨by show i < (if _ then _ else _); rw [if_pos e.2]; omega, by show (if _ then _ else _) ≤ T; rw [if_pos e.2]; omega⟩
      · have : i + 1 < T := by
          rcases Nat.lt_or_ge (i + 1) T with z | z
          · exact z
          · exact absurd (hz _ z) e.2.2
        exact ⟨by show i < (if _ then _ else _); rw [if_neg (by omega)]; omega, by show (if _ then _ else _) ≤ T; rw [if_neg (by omega)]; omega⟩
theorem tk_tokenA {N T i c : Nat} {g : Nat → Nat} {A : Hp} (h : TA A T g) (hs : StA A) (hN : 6001 ≤ N) (hi : i < T) (hc : A.D 1 10 = nI c) (hc6 : c < 6001) : ∃ e, F_Lexer_behindToken N 1 (nI i) A = some (nI e, noteA A c (nI (tkS g T i).2.1) (nI i) (tkS g T i).2.2.1 (bI (tkS g T i).2.2.2.1)) ∧ ((tkS g T i).2.1 ≠ 1 → e = (tkS g T i).1) ∧ i < e ∧ e < 2 ^ 31 := by
  have h0 := h
  obtain ⟨hG, hT, h6, hb, hg, hz⟩ := h0
  unfold F_Lexer_behindToken tkS
  rw [ck_t (rS_1 hG), bC_t (tk_byte h (by omega)), bC_t ev_CL, ltv_n (hg i)]
  by_cases c1 : isLt (g i) = true
  · have h1 : i + 1 ≤ we g (T - i) i := by
      rw [show T - i = (T - (i + 1)) + 1 by omega]
      simp only [we, c1, if_true]
      exact (we_ge _ _).1
    have h2 := (we_ge (g := g) (T - i) i).2
    rw [c1, if_neg bI_t0, if_pos rfl]
    have ew : F_Lexer_behindName N 1 (nI i) A = some (nI (we g (T - i) i), noteA A c (nI (kdK (kf g i (we g (T - i) i - i) 41 0))) (nI i) (nI (we g (T - i) i - i)) (bI (decide (12 < we g (T - i) i - i)))) := by
      unfold F_Lexer_behindName
      rw [tk_nm h (T - i) N i (by omega) (by omega)]
      unfold B_Lexer_behindName_38 B_Lexer_behindName_62
      have el : nI (we g (T - i) i) - nI i = nI (we g (T - i) i - i) := pk_sub (by omega)
      have ek : kwk (kf g i (we g (T - i) i - i) 41 0) = nI (kdK (kf g i (we g (T - i) i - i) 41 0)) := by
        cases kf g i (we g (T - i) i - i) 41 0 <;> rfl
      rw [el, ck_t (rS_1 hG), bC_t (tk_word h hs hN (by omega)), ek]
      by_cases q : 12 < we g (T - i) i - i
      · rw [if_neg (show ¬ nI (we g (T - i) i - i) ≤ (12 : Int32) from nI_ge (a := 12) q (by omega)), ck_t (rS_1 hG), bC_t (tk_note hG hc hc6), show decide (12 < we g (T - i) i - i) = true from decide_eq_true q]
        rfl
      · rw [if_pos (show nI (we g (T - i) i - i) ≤ (12 : Int32) from nI_le (b := 12) (by omega) (by decide)), ck_t (rS_1 hG), bC_t (tk_note hG hc hc6), show decide (12 < we g (T - i) i - i) = false from decide_eq_false q]
        rfl
    rw [bC_t ew]
    exact ⟨_, rfl, fun _ => rfl, by omega, by omega⟩
  · have c1' : isLt (g i) = false := by cases z : isLt (g i); rfl; exact absurd z c1
    rw [c1', if_pos bI_f, if_neg (by decide), bC_t ev_CD, dgv_n (hg i)]
    by_cases c2 : isDg (g i) = true
    · rw [c2, if_neg bI_t0, bC_t (tk_number h hN (by omega) hc hc6), if_pos rfl]
      have := nmS_bd hi c2 hz
      exact ⟨_, rfl, fun _ => rfl, this.1, by omega⟩
    · have c2' : isDg (g i) = false := by cases z : isDg (g i); rfl; exact absurd z c2
      obtain ⟨e, w1, w2, w3⟩ := tk_sign h hN hi hc hc6
      rw [c2', if_pos bI_f, bC_t w1, if_neg (by decide)]
      exact ⟨e, rfl, w2, w3.1, by omega⟩
theorem tk_blanks_ge {N T e : Nat} {g : Nat → Nat} {A : Hp} (h : TA A T g) (hN : 6001 ≤ N) (he : e < 2 ^ 31) : ∃ j, F_Lexer_behindBlanks N 1 (nI e) A = some (nI j, A) ∧ (e ≤ T → j = sk g (T - e) false e) ∧ j ≤ T := by
  rcases Nat.lt_or_ge T e with z | z
  · refine ⟨T, ?_, fun q => by omega, Nat.le_refl _⟩
    obtain ⟨hG, hT, h6, hb, hg, hz⟩ := h
    unfold F_Lexer_behindBlanks
    obtain ⟨N, rfl⟩ : ∃ m, N = m + 1 := ⟨N - 1, by omega⟩
    rw [B_Lexer_behindBlanks_4, ck_t (rS_1 hG), bnd_t, hT, if_pos (nI_le (by omega) he), bnd_t]
  · have := sk_ge (g := g) (T - e) false e
    exact ⟨_, tk_blanks h hN z, fun _ => rfl, by omega⟩
/-- the class's rows of tokens from the c-th on are L -/
def tokA (A : Hp) (c : Nat) (L : List (Nat × Nat × Int32 × Bool × Nat)) : Prop := ∀ j t, L[j]? = some t → A.D 3 (c + j) = nI t.2.1 ∧ A.D 4 (c + j) = nI t.1 ∧ A.D 5 (c + j) = t.2.2.1 ∧ A.D 6 (c + j) = bI t.2.2.2.1
/-- what a lexer leaves -/
def lexS (a f : Nat) : Prop := a = 3 ∨ a = 4 ∨ a = 5 ∨ a = 6 ∨ (a = 1 ∧ f = 10)
theorem same.tr {S : Nat → Nat → Prop} {H K M : Hp} (h1 : same S H K) (h2 : same S K M) : same S H M := by
  obtain ⟨a1, a2, a3, a4, a5⟩ := h1
  obtain ⟨b1, b2, b3, b4, b5⟩ := h2
  exact ⟨fun a f h => (b1 a f h).trans (a1 a f h), b2.trans a2, b3.trans a3, b4.trans a4, b5.trans a5⟩
theorem note_same {A : Hp} {c : Nat} {k p v o : Int32} : same lexS A (noteA A c k p v o) := ((((same.rf.sD (Or.inl rfl)).sD (Or.inr (Or.inl rfl))).sD (Or.inr (Or.inr (Or.inl rfl)))).sD (Or.inr (Or.inr (Or.inr (Or.inl rfl))))).sD (Or.inr (Or.inr (Or.inr (Or.inr ⟨rfl, rfl⟩))))
theorem note_c {A : Hp} {c : Nat} {k p v o : Int32} : (noteA A c k p v o).D 1 10 = nI (c + 1) := rds
theorem note_at {A : Hp} {c : Nat} {k p v o : Int32} : (noteA A c k p v o).D 3 c = k ∧ (noteA A c k p v o).D 4 c = p ∧ (noteA A c k p v o).D 5 c = v ∧ (noteA A c k p v o).D 6 c = o := by
  unfold noteA
  refine ⟨?_, ?_, ?_, ?_⟩ <;> simp [sD_D, up2]
theorem note_lt {A : Hp} {c a j : Nat} {k p v o : Int32} (h : j < c) (ha : a ≠ 1) : (noteA A c k p v o).D a j = A.D a j := by
  unfold noteA
  simp only [sD_D]
  rw [up2_ne (by omega), up2_ne (by omega), up2_ne (by omega), up2_ne (by omega), up2_ne (by omega)]
theorem tk_loopA {N T : Nat} {g : Nat → Nat} (hN : 6001 ≤ N) : ∀ (m n i c : Nat) (A : Hp), TA A T g → StA A → T - i < m → m < n → c ≤ i → i ≤ T → A.D 1 10 = nI c →
    ∃ A', B_Lexer_begin_25 N 1 n 1 (nI i) (nI c) A = B_Lexer_begin_103 N 1 A' ∧ same lexS A A' ∧ A'.D 1 10 = nI (c + (tkL g T m i).length) ∧ tokA A' c (tkL g T m i) ∧ (∀ a j, a ≠ 1 → j < c → A'.D a j = A.D a j) ∧ c + (tkL g T m i).length ≤ T + 1 := by
  intro m
  induction m with
  | zero => intro n i c A _ _ h; omega
  | succ m ih =>
    intro n i c A h hs hm hn hci hiT hc
    have h0 := h
    obtain ⟨hG, hT, h6, hb, hg, hz⟩ := h0
    obtain ⟨n, rfl⟩ : ∃ m, n = m + 1 := ⟨n - 1, by omega⟩
    rw [B_Lexer_begin_25]
    simp only [tkL]
    by_cases q : T ≤ i
    · simp only [q, if_true]
      have e88 : B_Lexer_begin_88 N 1 1 A = B_Lexer_begin_103 N 1 (noteA A c 0 (nI T) 0 (bI false)) := by
        unfold B_Lexer_begin_88
        rw [if_neg (by decide), ck_t (rS_1 hG), bnd_t, hT, bC_t (tk_note hG hc (by omega))]
        rfl
      refine ⟨noteA A c 0 (nI T) 0 (bI false), ?_, note_same, note_c, ?_, fun a j ha hj => note_lt hj ha, by show c + 1 ≤ T + 1; omega⟩
      · rw [← e88]
        by_cases q2 : 6000 ≤ c
        · rw [if_pos (show (6000 : Int32) ≤ nI c from nI_le (a := 6000) q2 (by omega))]
        · rw [if_neg (show ¬ (6000 : Int32) ≤ nI c from nI_ge (b := 6000) (by omega) (by decide)), if_neg (by decide), ck_t (rS_1 hG), bnd_t, hT, if_pos (nI_le q (by omega))]
      · intro j t hj
        match j, hj with
        | 0, hj =>
          simp only [List.getElem?_cons_zero, Option.some.injEq] at hj
          subst hj
          exact note_at
        | j + 1, hj => simp at hj
    · simp only [q, if_false]
      rw [if_neg (show ¬ (6000 : Int32) ≤ nI c from nI_ge (b := 6000) (by omega) (by decide)), if_neg (by decide), ck_t (rS_1 hG), bnd_t, hT, if_neg (nI_ge (by omega) (by omega))]
      obtain ⟨e, w1, w2, w3, w4⟩ := tk_tokenA h hs hN (show i < T by omega) hc (by omega)
      obtain ⟨A1, hA1⟩ : ∃ A1, A1 = noteA A c (nI (tkS g T i).2.1) (nI i) (tkS g T i).2.2.1 (bI (tkS g T i).2.2.2.1) := ⟨_, rfl⟩
      rw [bC_t w1, ← hA1]
      have t1 : TA A1 T g := by rw [hA1]; exact h.note
      have s1 : StA A1 := by rw [hA1]; exact hs.note
      have g1 : Gr A1 := t1.1
      have c1 : A1.D 1 10 = nI (c + 1) := by rw [hA1]; exact note_c
      have k1 : A1.D 3 c = nI (tkS g T i).2.1 := by rw [hA1]; exact note_at.1
      have f1 : same lexS A A1 := by rw [hA1]; exact note_same
      have l1 : ∀ a j, a ≠ 1 → j < c → A1.D a j = A.D a j := fun a j ha hj => by rw [hA1]; exact note_lt hj ha
      have a1 := note_at (A := A) (c := c) (k := nI (tkS g T i).2.1) (p := nI i) (v := (tkS g T i).2.2.1) (o := bI (tkS g T i).2.2.2.1)
      rw [← hA1] at a1
      obtain ⟨j, b1, b2, b3⟩ := tk_blanks_ge t1 hN w4
      have hk : (tkS g T i).2.1 < 2 ^ 31 := by
        unfold tkS
        split
        · show kdK (kf g i (we g (T - i) i - i) 41 0) < 2 ^ 31
          cases hkf : kf g i (we g (T - i) i - i) 41 0 with
          | none => decide
          | some v => have := (kf_some 41 0 v (by omega) hkf).1; show 40 + v < 2 ^ 31; omega
        · next q1 =>
          split
          · next q2 => have := (nmS_bd (show i < T by omega) q2 hz).2.2; show (nmS g T i).2.1 < 2 ^ 31; omega
          · show sgK (g i) (g (i + 1)) < 2 ^ 31
            have := sg_bd (c := g i) (d := g (i + 1)); omega
      rw [bC_t b1, bnd_t, c1, if_neg (show ¬ nI (c + 1) ≤ (0 : Int32) from nI_nle (by omega) (by omega)), rf_t (rP_1_6 g1), bnd_t, ar_t (rA_1_6 g1), nI_m, ck_t (nI_in (by omega) (by decide)), nI_clamp (by omega), bnd_t, k1]
      by_cases kb : (tkS g T i).2.1 = 1
      · rw [if_pos (by rw [kb]; rfl), if_pos kb]
        unfold B_Lexer_begin_80 B_Lexer_begin_81
        obtain ⟨n, rfl⟩ : ∃ m, n = m + 1 := ⟨n - 1, by omega⟩
        refine ⟨A1, ?_, f1, by rw [c1]; rfl, ?_, l1, by show c + 1 ≤ T + 1; omega⟩
        · simp only
          rw [B_Lexer_begin_25]
          unfold B_Lexer_begin_88
          simp only [if_true, ite_self]
        · intro j t hj
          match j, hj with
          | 0, hj =>
            simp only [List.getElem?_cons_zero, Option.some.injEq] at hj
            subst hj
            rw [kb] at a1
            have hv : (tkS g T i).2.2.1 = 0 ∧ (tkS g T i).2.2.2.1 = false := by
              unfold tkS at kb ⊢
              split
              · next q1 =>
                rw [if_pos q1] at kb
                exact absurd kb (kdK_ne _).1
              · next q1 =>
                rw [if_neg q1] at kb
                split
                · next q2 =>
                  rw [if_pos q2] at kb
                  have := (nmS_bd (show i < T by omega) q2 hz).2.2
                  simp only at kb
                  omega
                · exact ⟨rfl, rfl⟩
            rw [hv.1, hv.2] at a1
            exact a1
          | j + 1, hj => simp at hj
      · have hbd := tkS_bd (show i < T by omega) hz kb
        have he := w2 kb
        subst he
        have hj2 := b2 hbd.2
        subst hj2
        have hsk := sk_ge (g := g) (T - (tkS g T i).1) false (tkS g T i).1
        rw [if_neg (show ¬ nI (tkS g T i).2.1 = (1 : Int32) from fun z => kb ((nI_eq (b := 1) hk (by decide)).mp z)), if_neg kb]
        unfold B_Lexer_begin_81
        rw [nI_1]
        obtain ⟨A2, r1, r2, r3, r4, r5, r6⟩ := ih n (sk g (T - (tkS g T i).1) false (tkS g T i).1) (c + 1) A1 t1 s1 (by omega) (by omega) (by omega) (by omega) c1
        refine ⟨A2, r1, f1.tr r2, by rw [r3, List.length_cons]; congr 1; omega, ?_, fun a j ha hj => (r5 a j ha (by omega)).trans (l1 a j ha hj), by rw [List.length_cons]; omega⟩
        intro j t hj
        match j, hj with
        | 0, hj =>
          simp only [List.getElem?_cons_zero, Option.some.injEq] at hj
          subst hj
          simp only [Nat.add_zero]
          rw [r5 3 c (by decide) (by omega), r5 4 c (by decide) (by omega), r5 5 c (by decide) (by omega), r5 6 c (by decide) (by omega)]
          exact a1
        | j + 1, hj =>
          rw [List.getElem?_cons_succ] at hj
          have := r4 j t hj
          rw [show c + (j + 1) = c + 1 + j by omega]
          exact this
