/-! ===== all tokens, on both sides ===== -/
def lexL (g : Nat → Nat) (T : Nat) : List (Nat × Nat × Int32 × Bool × Nat) := tkL g T (T + 1) (sk g T false 0)
def begS (a f : Nat) : Prop := a = 3 ∨ a = 4 ∨ a = 5 ∨ a = 6 ∨ (a = 1 ∧ (f = 2 ∨ f = 3 ∨ f = 4 ∨ f = 5 ∨ f = 10 ∨ f = 11))
theorem same.mono {S R : Nat → Nat → Prop} {H K : Hp} (h : same S H K) (hs : ∀ a f, S a f → R a f) : same R H K := ⟨fun a f n => h.1 a f (fun z => n (hs a f z)), h.2⟩
theorem same.gr {S : Nat → Nat → Prop} {H K : Hp} (h : same S H K) (g : Gr H) : Gr K := by
  obtain ⟨h1, h2, h3, h4, h5⟩ := h
  refine ⟨by rw [h4]; exact g.1, fun q hq => by rw [h2]; exact g.2 q hq⟩
theorem tkL_pos {g : Nat → Nat} {T : Nat} : ∀ (m i : Nat), 0 < m → 0 < (tkL g T m i).length := by
  intro m i hm
  obtain ⟨m, rfl⟩ : ∃ k, m = k + 1 := ⟨m - 1, by omega⟩
  simp only [tkL]
  (repeat' split) <;> simp
theorem tk_begin {N T : Nat} {g : Nat → Nat} {A : Hp} (h : TA A T g) (hs : StA A) (hN : 7000 ≤ N) : ∃ A', F_Lexer_begin N 1 A = some ((), A') ∧ same begS A A' ∧ tokA A' 0 (lexL g T) ∧ A'.D 1 10 = nI (lexL g T).length ∧ A'.D 1 11 = 0 ∧ A'.D 1 2 = A'.D 3 0 ∧ A'.D 1 3 = A'.D 4 0 ∧ A'.D 1 4 = 0 ∧ A'.D 1 5 = 0 ∧ (lexL g T).length ≤ T + 1 ∧ 0 < (lexL g T).length := by
  have h0 := h
  obtain ⟨hG, hT, h6, hb, hg, hz⟩ := h0
  obtain ⟨A1, hA1⟩ : ∃ A1, A1 = ((A.sD 1 10 0).sD 1 4 0).sD 1 5 0 := ⟨_, rfl⟩
  have t1 : TA A1 T g := by rw [hA1]; exact ((h.sD (by decide) (by decide)).sD (by decide) (by decide)).sD (by decide) (by decide)
  have s1 : StA A1 := by
    rw [hA1]
    intro w hw
    rw [rdw (by decide), rdw (by decide), rdw (by decide)]
    exact hs w hw
  have c1 : A1.D 1 10 = nI 0 := by
    rw [hA1, rdf (by decide), rdf (by decide), rds]; rfl
  have d4 : A1.D 1 4 = 0 := by rw [hA1, rdf (by decide), rds]
  have d5 : A1.D 1 5 = 0 := by rw [hA1, rds]
  have f1 : same begS A A1 := by
    rw [hA1]
    exact ((same.rf.sD (Or.inr (Or.inr (Or.inr (Or.inr ⟨rfl, by omega⟩))))).sD (Or.inr (Or.inr (Or.inr (Or.inr ⟨rfl, by omega⟩))))).sD (Or.inr (Or.inr (Or.inr (Or.inr ⟨rfl, by omega⟩))))
  have hsk := sk_ge (g := g) T false 0
  obtain ⟨A2, r1, r2, r3, r4, r5, r6⟩ := tk_loopA (g := g) (show 6001 ≤ N by omega) (T + 1) N (sk g T false 0) 0 A1 t1 s1 (by omega) (by omega) (by omega) (by omega) c1
  have g2 : Gr A2 := r2.gr t1.1
  unfold F_Lexer_begin
  rw [ck_t (rS_1 hG), bnd_t, bnd_t, bnd_t, ← hA1, bC_t (show F_Lexer_behindBlanks N 1 0 A1 = some (nI (sk g T false 0), A1) from tk_blanks (i := 0) t1 (by omega) (by omega))]
  refine ⟨((A2.sD 1 11 0).sD 1 2 (A2.D 3 0)).sD 1 3 (A2.D 4 0), ?_, ?_, ?_, ?_, ?_, ?_, ?_, ?_, ?_, ?_, ?_⟩
  · refine Eq.trans r1 ?_
    unfold B_Lexer_begin_103
    simp only [ck_t (rS_1 g2), bnd_t, sD_P, ar_sD, rf_t (rP_1_6 g2), ar_t (rA_1_6 g2), rf_t (rP_1_7 g2), ar_t (rA_1_7 g2)]
    rw [ck_t (by decide), ck_t (by decide)]
    rfl
  · refine f1.tr ((r2.mono ?_).tr (((same.rf.sD (Or.inr (Or.inr (Or.inr (Or.inr ⟨rfl, by omega⟩))))).sD (Or.inr (Or.inr (Or.inr (Or.inr ⟨rfl, by omega⟩))))).sD (Or.inr (Or.inr (Or.inr (Or.inr ⟨rfl, by omega⟩))))))
    intro a f q
    unfold lexS at q
    unfold begS
    omega
  · intro j t hj
    have := r4 j t hj
    rw [rdw (by decide), rdw (by decide), rdw (by decide), rdw (by decide), rdw (by decide), rdw (by decide), rdw (by decide), rdw (by decide), rdw (by decide), rdw (by decide), rdw (by decide), rdw (by decide)]
    exact this
  · rw [rdf (by decide), rdf (by decide), rdf (by decide), r3, Nat.zero_add]
    rfl
  · rw [rdf (by decide), rdf (by decide), rds]
  · rw [rdf (by decide), rds, rdw (by decide), rdw (by decide), rdw (by decide)]
  · rw [rds, rdw (by decide), rdw (by decide), rdw (by decide)]
  · rw [rdf (by decide), rdf (by decide), rdf (by decide), r2.1 1 4 (by unfold lexS; omega)]
    exact d4
  · rw [rdf (by decide), rdf (by decide), rdf (by decide), r2.1 1 5 (by unfold lexS; omega)]
    exact d5
  · have : (lexL g T).length = (tkL g T (T + 1) (sk g T false 0)).length := rfl
    omega
  · exact tkL_pos _ _ (by omega)
/-- the reference's rows of tokens from the c-th on are L -/
def tokM (B : Hp) (w c : Nat) (L : List (Nat × Nat × Int32 × Bool × Nat)) : Prop := ∀ j t, L[j]? = some t → B.D (w + 2) (c + j) = nI (tyK t.2.1) ∧ B.D (w + 3) (c + j) = nI t.1 ∧ B.D (w + 4) (c + j) = nI t.2.2.2.2 ∧ B.D (w + 6) (c + j) = bI t.2.2.2.1 ∧ B.D (w + 7) (c + j) = -1 ∧ ((t.2.1 = 3 ∨ t.2.1 = 4) → t.2.2.2.1 = false → B.D (w + 5) (c + j) = t.2.2.1)
def lexM (w a f : Nat) : Prop := a = w + 2 ∨ a = w + 3 ∨ a = w + 4 ∨ a = w + 5 ∨ a = w + 6 ∨ a = w + 7 ∨ (a = w ∧ f = 2)
theorem tok_same {B : Hp} {w c : Nat} {t b m : Int32} : same (lexM w) B (tokB B w c t b m) := by
  unfold tokB
  exact (((((same.rf.sD (by unfold lexM; omega)).sD (by unfold lexM; omega)).sD (by unfold lexM; omega)).sD (by unfold lexM; omega)).sD (by unfold lexM; omega)).sD (by unfold lexM; omega)
theorem tok_at {B : Hp} {w c : Nat} {t b m : Int32} : (tokB B w c t b m).D (w + 2) c = t ∧ (tokB B w c t b m).D (w + 3) c = b ∧ (tokB B w c t b m).D (w + 4) c = m ∧ (tokB B w c t b m).D (w + 6) c = 0 ∧ (tokB B w c t b m).D (w + 7) c = -1 := by
  unfold tokB
  refine ⟨?_, ?_, ?_, ?_, ?_⟩ <;> simp [sD_D, up2]
theorem tok_lt {B : Hp} {w c a j : Nat} {t b m : Int32} (h : j < c) (ha : a ≠ w) : (tokB B w c t b m).D a j = B.D a j := by
  unfold tokB
  simp only [sD_D]
  rw [up2_ne (by omega), up2_ne (by omega), up2_ne (by omega), up2_ne (by omega), up2_ne (by omega), up2_ne (by omega)]
/-- the heap behind a token -/
theorem tk_stepB {N w T i c : Nat} {g : Nat → Nat} {B : Hp} (h : TB B w T g) (hN : 6001 ≤ N) (hi : i < T) (hc : B.D w 2 = nI c) (hc6 : c < 6002) : ∃ B1, same (lexM w) B B1 ∧ TB B1 w T g ∧ B1.D w 2 = nI (c + 1) ∧ tokM B1 w c [(i, (tkS g T i).2)] ∧ (∀ a j, a ≠ w → j < c → B1.D a j = B.D a j) ∧
    (isLt (g i) = true → F_MText_word N w (nI i) B = some (nI (tkS g T i).1, B1)) ∧ (isLt (g i) = false → isDg (g i) = true → F_MText_digits N w (nI i) B = some (nI (tkS g T i).1, B1)) ∧
    (isLt (g i) = false → isDg (g i) = false → F_MText_sign N w (nI i) (sx (g i)) (sx (g (i + 1))) B = some (nI (tkS g T i).1, B1) ∧ B1.D (w + 2) c = nI (tyK (sgK (g i) (g (i + 1))))) := by
  have h0 := h
  obtain ⟨hG, hT, h6, hb, hg, hz⟩ := h0
  have one : ∀ (P : (Nat × Nat × Int32 × Bool × Nat) → Nat → Prop) (x : Nat × Nat × Int32 × Bool × Nat), P x 0 → ∀ j t, [x][j]? = some t → P t j := by
    intro P x hx j t hj
    match j, hj with
    | 0, hj =>
      simp only [List.getElem?_cons_zero, Option.some.injEq] at hj
      subst hj
      exact hx
    | j + 1, hj => simp at hj
  by_cases c1 : isLt (g i) = true
  · have ek : tkS g T i = (we g (T - i) i, kdK (kf g i (we g (T - i) i - i) 41 0), nI (we g (T - i) i - i), decide (12 < we g (T - i) i - i), we g (T - i) i - i) := by unfold tkS; rw [if_pos c1]
    refine ⟨wdB B w c (kwt (kf g i (we g (T - i) i - i) 41 0)) (nI i) (nI (we g (T - i) i - i)) (decide (12 < we g (T - i) i - i)), tok_same.sD (by unfold lexM; omega), h.wd, wd_n, ?_, ?_, fun _ => ?_, fun z => ?_, fun z => ?_⟩
    · refine one (fun t j => _) _ ?_
      rw [ek]
      obtain ⟨a1, a2, a3, a4, a5⟩ := tok_at (B := B) (w := w) (c := c) (t := kwt (kf g i (we g (T - i) i - i) 41 0)) (b := nI i) (m := nI (we g (T - i) i - i))
      unfold wdB
      simp only [Nat.add_zero]
      refine ⟨?_, ?_, ?_, ?_, ?_, ?_⟩
      · rw [rdw (by omega), a1]
        cases kf g i (we g (T - i) i - i) 41 0 with
        | none => rfl
        | some v =>
          show nI (200 + v) = nI (tyK (40 + v))
          unfold tyK
          rw [if_neg (by omega), if_neg (by omega), if_neg (by omega), if_neg (by omega), if_neg (by omega), if_neg (by omega), if_neg (by omega)]
          congr 1; omega
      · rw [rdw (by omega), a2]
      · rw [rdw (by omega), a3]
      · rw [rds]
      · rw [rdw (by omega), a5]
      · intro z
        have := kdK_ne (kf g i (we g (T - i) i - i) 41 0)
        have z' : kdK (kf g i (we g (T - i) i - i) 41 0) = 3 ∨ kdK (kf g i (we g (T - i) i - i) 41 0) = 4 := z
        omega
    · intro a j ha hj
      unfold wdB
      rw [sD_D, up2_ne (by omega)]
      exact tok_lt hj ha
    · rw [tk_mword h hN (by omega) hc hc6, ek]
    · rw [c1] at z; cases z
    · rw [c1] at z; cases z
  · have c1' : isLt (g i) = false := by cases z : isLt (g i); rfl; exact absurd z c1
    by_cases c2 : isDg (g i) = true
    · have ek : tkS g T i = ((nmS g T i).1, (nmS g T i).2.1, (nmS g T i).2.2.1, (nmS g T i).2.2.2, (nmS g T i).1 - i) := by unfold tkS; rw [if_neg c1, if_pos c2]
      obtain ⟨v, w1, w2⟩ := tk_digits h hN (show i ≤ T by omega) hc hc6
      have hbd := nmS_bd hi c2 hz
      rw [show nI (nmS g T i).1 - nI i = nI ((nmS g T i).1 - i) from pk_sub (by omega)] at w1
      refine ⟨numB B w c (nI (tyK (nmS g T i).2.1)) (nI i) (nI ((nmS g T i).1 - i)) (nmS g T i).2.2.2 v, (tok_same.sD (by unfold lexM; omega)).sD (by unfold lexM; omega), h.num, num_n, ?_, ?_, fun z => absurd z c1, fun _ _ => ?_, fun _ z => ?_⟩
      · refine one (fun t j => _) _ ?_
        rw [ek]
        obtain ⟨a1, a2, a3, a4, a5⟩ := tok_at (B := B) (w := w) (c := c) (t := nI (tyK (nmS g T i).2.1)) (b := nI i) (m := nI ((nmS g T i).1 - i))
        unfold numB
        simp only [Nat.add_zero]
        refine ⟨?_, ?_, ?_, ?_, ?_, ?_⟩
        · rw [rdw (by omega), rdw (by omega), a1]
        · rw [rdw (by omega), rdw (by omega), a2]
        · rw [rdw (by omega), rdw (by omega), a3]
        · rw [rdw (by omega), rds]
        · rw [rdw (by omega), rdw (by omega), a5]
        · intro _ z; rw [rds]; exact w2 z
      · intro a j ha hj
        unfold numB
        rw [sD_D, up2_ne (by omega), sD_D, up2_ne (by omega)]
        exact tok_lt hj ha
      · rw [w1, ek]
      · rw [c2] at z; cases z
    · have c2' : isDg (g i) = false := by cases z : isDg (g i); rfl; exact absurd z c2
      have ek : tkS g T i = ((if sgK (g i) (g (i + 1)) < 26 then i + 1 else i + 2), sgK (g i) (g (i + 1)), 0, false, (if sgK (g i) (g (i + 1)) < 26 then 1 else 2)) := by unfold tkS; rw [if_neg c1, if_neg c2]
      refine ⟨tokB B w c (nI (tyK (sgK (g i) (g (i + 1))))) (nI i) (nI (if sgK (g i) (g (i + 1)) < 26 then 1 else 2)), tok_same, h.tok, tok_n, ?_, fun a j ha hj => tok_lt hj ha, fun z => absurd z c1, fun _ z => absurd z c2, fun _ _ => ⟨?_, tok_at.1⟩⟩
      · refine one (fun t j => _) _ ?_
        rw [ek]
        obtain ⟨a1, a2, a3, a4, a5⟩ := tok_at (B := B) (w := w) (c := c) (t := nI (tyK (sgK (g i) (g (i + 1))))) (b := nI i) (m := nI (if sgK (g i) (g (i + 1)) < 26 then 1 else 2))
        simp only [Nat.add_zero]
        refine ⟨a1, a2, a3, a4, a5, fun z => ?_⟩
        have := sg_bd (c := g i) (d := g (i + 1))
        omega
      · rw [tk_msign hG hc hc6 (hg i) (hg (i + 1)) (by omega), ek]
theorem tyK_bad {k : Nat} (hk : k = 1 ∨ (10 ≤ k ∧ k < 32)) : tyK k = 4 ↔ k = 1 := by
  have h0 : ∀ k : Fin 32, (k.val = 1 ∨ 10 ≤ k.val) → (tyK k.val = 4 ↔ k.val = 1) := by decide +kernel
  exact h0 ⟨k, by omega⟩ (by simp only; omega)
theorem tyK_lt {k : Nat} (hk : k < 100) : tyK k < 300 := by
  have h0 : ∀ k : Fin 100, tyK k.val < 300 := by decide +kernel
  exact h0 ⟨k, hk⟩
theorem tk_loopB {N w T p1 : Nat} {p2 : Int32} {g : Nat → Nat} (hN : 7000 ≤ N) : ∀ (m n i0 c : Nat) (B : Hp), TB B w T g → i0 ≤ T → T - sk g (T - i0) false i0 < m → m < n → c ≤ i0 → B.D w 2 = nI c →
    ∃ B', B_MText_scans_37 N w p1 p2 n (nI i0) 1 B = some ((), B') ∧ same (lexM w) B B' ∧ TB B' w T g ∧ B'.D w 2 = nI (c + (tkL g T m (sk g (T - i0) false i0)).length) ∧ tokM B' w c (tkL g T m (sk g (T - i0) false i0)) ∧ (∀ a j, a ≠ w → j < c → B'.D a j = B.D a j) := by
  intro m
  induction m with
  | zero => intro n i c A _ _ h; omega
  | succ m ih =>
    intro n i0 c B h hi0 hm hn hci hc
    have h0 := h
    obtain ⟨hG, hT, h6, hb, hg, hz⟩ := h0
    obtain ⟨n, rfl⟩ : ∃ m, n = m + 1 := ⟨n - 1, by omega⟩
    have hsk := sk_ge (g := g) (T - i0) false i0
    obtain ⟨i, hi⟩ : ∃ i, i = sk g (T - i0) false i0 := ⟨_, rfl⟩
    rw [B_MText_scans_37, if_neg (by decide), ck_t (TS hG), bC_t (tk_skips h (by omega) hi0), ← hi]
    rw [← hi] at hm hsk
    rw [bC_t (tk_letter h (by omega)), bnd_t, hT]
    simp only [tkL]
    by_cases q : T ≤ i
    · simp only [q, if_true]
      rw [if_neg (nI_nlt q (by omega)), bnd_t, bnd_t, bC_t (tk_token hG hc (by omega))]
      unfold B_MText_scans_153
      obtain ⟨n, rfl⟩ : ∃ m, n = m + 1 := ⟨n - 1, by omega⟩
      refine ⟨tokB B w c 0 (nI T) (nI T - nI T), ?_, tok_same, h.tok, tok_n, ?_, fun a j ha hj => tok_lt hj ha⟩
      · simp only
        rw [B_MText_scans_37, if_pos rfl]
      · intro j t hj
        match j, hj with
        | 0, hj =>
          simp only [List.getElem?_cons_zero, Option.some.injEq] at hj
          subst hj
          obtain ⟨a1, a2, a3, a4, a5⟩ := tok_at (B := B) (w := w) (c := c) (t := 0) (b := nI T) (m := nI T - nI T)
          simp only [Nat.add_zero]
          refine ⟨a1, a2, ?_, a4, a5, fun z => by omega⟩
          rw [a3, pk_sub (Nat.le_refl _), Nat.sub_self]
        | j + 1, hj => simp at hj
    · simp only [q, if_false]
      rw [if_pos (nI_lt (by omega) (by omega)), bC_t ev_ML, ltv_s (hg i)]
      obtain ⟨B1, f1, t1, n1, k1, l1, s1, s2, s3⟩ := tk_stepB (N := N) h (by omega) (show i < T by omega) hc (by omega)
      have g1 : isT B1 w := t1.1
      have k1' := k1 0 _ rfl
      simp only [Nat.add_zero] at k1'
      -- what comes behind a token that is not bad
      have rest : (tkS g T i).2.1 ≠ 1 → ∃ B', B_MText_scans_37 N w p1 p2 n (nI (tkS g T i).1) 1 B1 = some ((), B') ∧ same (lexM w) B B' ∧ TB B' w T g ∧ B'.D w 2 = nI (c + ((i, (tkS g T i).2) :: tkL g T m (sk g (T - (tkS g T i).1) false (tkS g T i).1)).length) ∧ tokM B' w c ((i, (tkS g T i).2) :: tkL g T m (sk g (T - (tkS g T i).1) false (tkS g T i).1)) ∧ (∀ a j, a ≠ w → j < c → B'.D a j = B.D a j) := by
        intro kb
        have hbd := tkS_bd (show i < T by omega) hz kb
        have hsk2 := sk_ge (g := g) (T - (tkS g T i).1) false (tkS g T i).1
        obtain ⟨B2, r1, r2, r3, r4, r5, r6⟩ := ih n (tkS g T i).1 (c + 1) B1 t1 hbd.2 (by omega) (by omega) (by omega) n1
        refine ⟨B2, r1, f1.tr r2, r3, by rw [r4, List.length_cons]; congr 1; omega, ?_, fun a j ha hj => (r6 a j ha (by omega)).trans (l1 a j ha hj)⟩
        intro j t hj
        match j, hj with
        | 0, hj =>
          simp only [List.getElem?_cons_zero, Option.some.injEq] at hj
          subst hj
          simp only [Nat.add_zero]
          rw [r6 (w + 2) c (by omega) (by omega), r6 (w + 3) c (by omega) (by omega), r6 (w + 4) c (by omega) (by omega), r6 (w + 5) c (by omega) (by omega), r6 (w + 6) c (by omega) (by omega), r6 (w + 7) c (by omega) (by omega)]
          exact k1'
        | j + 1, hj =>
          rw [List.getElem?_cons_succ] at hj
          have := r5 j t hj
          rw [show c + (j + 1) = c + 1 + j by omega]
          exact this
      by_cases c1 : isLt (g i) = true
      · have kb : (tkS g T i).2.1 ≠ 1 := by
          unfold tkS
          rw [if_pos c1]
          exact (kdK_ne _).1
        rw [c1, if_neg bI_t0, bC_t (s1 c1), if_neg kb]
        exact rest kb
      · have c1' : isLt (g i) = false := by cases z : isLt (g i); rfl; exact absurd z c1
        rw [c1', if_pos bI_f, bC_t ev_MD, dgv_s (hg i)]
        by_cases c2 : isDg (g i) = true
        · have kb : (tkS g T i).2.1 ≠ 1 := by
            have := (nmS_bd (show i < T by omega) c2 hz).2.2
            unfold tkS
            rw [if_neg c1, if_pos c2]
            simp only
            omega
          rw [c2, if_neg bI_t0, bC_t (s2 c1' c2), if_neg kb]
          exact rest kb
        · have c2' : isDg (g i) = false := by cases z : isDg (g i); rfl; exact absurd z c2
          obtain ⟨s4, s5⟩ := s3 c1' c2'
          have ek : (tkS g T i).2.1 = sgK (g i) (g (i + 1)) := by unfold tkS; rw [if_neg c1, if_neg c2]
          have hsb := sg_bd (c := g i) (d := g (i + 1))
          rw [c2', if_pos bI_f, nI_1, bC_t (tk_letter h (by omega)), bC_t s4, rf_t (TP_3 g1), bnd_t, n1, ar_t (TA_3 g1), nI_m, ck_t (nI_in (by omega) (by decide)), nI_clamp (by omega), bnd_t, s5]
          unfold B_MText_scans_151 B_MText_scans_153
          have hlt := tyK_lt (k := sgK (g i) (g (i + 1))) (by omega)
          by_cases kb : sgK (g i) (g (i + 1)) = 1
          · rw [if_pos (by rw [kb]; rfl), if_pos (by rw [ek]; exact kb)]
            obtain ⟨n, rfl⟩ : ∃ m, n = m + 1 := ⟨n - 1, by omega⟩
            refine ⟨B1, ?_, f1, t1, n1, ?_, l1⟩
            · simp only
              rw [B_MText_scans_37, if_pos rfl]
            · have e2 : (i, (tkS g T i).2) = (i, 1, 0, false, 1) := by
                unfold tkS
                rw [if_neg c1, if_neg c2, kb]
                rfl
              rw [← e2]
              exact k1
          · rw [if_neg (show ¬ nI (tyK (sgK (g i) (g (i + 1)))) = (4 : Int32) from fun z => kb ((tyK_bad (by omega)).mp ((nI_eq (b := 4) (by omega) (by decide)).mp z))), if_neg (by rw [ek]; exact kb)]
            exact rest (by rw [ek]; exact kb)
