/-! ===== the reference scans a tape ===== -/
theorem sx_nar0 : ∀ c : Fin 256, vp_nar .byte (sx c.val) = sx c.val := by
  intro c
  rw [vp_nar_byte]
  revert c
  decide +kernel
theorem sx_nar {c : Nat} (h : c < 256) : vp_nar .byte (sx c) = sx c := sx_nar0 ⟨c, h⟩
/-- the reference's tape at 518 -/
def TM (B : Hp) (T : Nat) (g : Nat → Nat) : Prop := B.sh[518]? = some (101, 6000) ∧ T ≤ 6000 ∧ (∀ i, i < T → B.D 518 i = sx (g i)) ∧ (∀ i, g i < 256) ∧ ∀ i, T ≤ i → g i = 0
def scaS (w a f : Nat) : Prop := a = w + 1 ∨ a = w + 2 ∨ a = w + 3 ∨ a = w + 4 ∨ a = w + 5 ∨ a = w + 6 ∨ a = w + 7 ∨ (a = w ∧ (f = 1 ∨ f = 2))
theorem same_isT {S : Nat → Nat → Prop} {H K : Hp} {w : Nat} (h : same S H K) (g : isT H w) : isT K w := by
  obtain ⟨h1, h2, h3, h4, h5⟩ := h
  unfold isT at g ⊢
  rw [h2, h4]
  exact g
theorem tk_copy {N w T : Nat} {g : Nat → Nat} (hw : w + 1 ≠ 518) : ∀ (k n l : Nat) (B : Hp), TM B T g → isT B w → l + k = T → k < n → (∀ i, i < l → B.D (w + 1) i = sx (g i)) → ∃ B1, B_MText_scans_7 N w 518 (nI T) n (nI l) B = B_MText_scans_37 N w 518 (nI T) N 0 1 (B1.sD w 2 0) ∧ same (fun a _ => a = w + 1) B B1 ∧ ∀ i, i < T → B1.D (w + 1) i = sx (g i) := by
  intro k
  induction k with
  | zero =>
    intro n l B hM hG hl hn hd
    obtain ⟨n, rfl⟩ : ∃ m, n = m + 1 := ⟨n - 1, by omega⟩
    have h6 := hM.2.1
    rw [B_MText_scans_7, if_pos (nI_le (by omega) (by omega)), ck_t (TS hG), bnd_t]
    exact ⟨B, rfl, same.rf, fun i hi => hd i (by omega)⟩
  | succ k ih =>
    intro n l B hM hG hl hn hd
    obtain ⟨n, rfl⟩ : ∃ m, n = m + 1 := ⟨n - 1, by omega⟩
    have hM0 := hM
    obtain ⟨m1, m2, m3, m4, m5⟩ := hM0
    rw [B_MText_scans_7, if_neg (nI_ge (by omega) (by omega)), ck_t (TS hG), rf_t (TP_0 hG), ar_t m1, ck_t (nI_in (by omega) (by decide)), bnd_t, ar_t (TA_0 hG), ck_t (nI_in (by omega) (by decide)), bnd_t, nI_clamp (by omega), m3 l (by omega), sx_nar (m4 l), nI_1]
    obtain ⟨B1, r1, r2, r3⟩ := ih n (l + 1) (B.sD (w + 1) l (sx (g l))) ⟨m1, m2, fun i hi => by rw [rdw (by omega)]; exact m3 i hi, m4, m5⟩ hG (by omega) (by omega) (by
      intro i hi
      by_cases q : i = l
      · subst q; rw [rds]
      · rw [rdf q]; exact hd i (by omega))
    exact ⟨B1, r1, (same.sD (S := fun a _ => a = w + 1) same.rf rfl).tr r2, r3⟩
theorem tk_scans {N w T : Nat} {g : Nat → Nat} {B : Hp} (hw : w + 1 ≠ 518) (hw2 : w ≠ 518) (hM : TM B T g) (hG : isT B w) (hN : 7000 ≤ N) : ∃ B', F_MText_scans N w 518 (nI T) B = some ((), B') ∧ same (scaS w) B B' ∧ TB B' w T g ∧ B'.D w 2 = nI (lexL g T).length ∧ tokM B' w 0 (lexL g T) := by
  have hM0 := hM
  obtain ⟨m1, m2, m3, m4, m5⟩ := hM0
  have hM1 : TM (B.sD w 1 (nI T)) T g := ⟨m1, m2, fun i hi => by rw [rdw (by omega)]; exact m3 i hi, m4, m5⟩
  obtain ⟨B1, r1, r2, r3⟩ := tk_copy (N := N) hw T N 0 (B.sD w 1 (nI T)) hM1 hG (by omega) (by omega) (fun i hi => by omega)
  have g1 : isT B1 w := same_isT r2 hG
  have t1 : TB (B1.sD w 2 0) w T g := by
    refine ⟨g1, ?_, m2, fun i hi => ?_, m4, m5⟩
    · rw [rdf (by decide), r2.1 w 1 (by omega), rds]
    · rw [rdw (by omega)]; exact r3 i hi
  have hsk := sk_ge (g := g) T false 0
  obtain ⟨B2, q1, q2, q3, q4, q5, q6⟩ := tk_loopB (w := w) (p1 := 518) (p2 := nI T) (g := g) (T := T) hN (T + 1) N 0 0 (B1.sD w 2 0) t1 (by omega) (by rw [Nat.sub_zero]; omega) (by omega) (by omega) rds
  unfold F_MText_scans
  refine ⟨B2, ?_, ?_, q3, ?_, ?_⟩
  · rw [ck_t (TS hG), bnd_t]
    exact Eq.trans r1 q1
  · refine ((same.rf.sD (by unfold scaS; omega)).tr (r2.mono ?_)).tr ((same.rf.sD (by unfold scaS; omega)).tr (q2.mono ?_))
    · intro a f z; unfold scaS; omega
    · intro a f z; unfold lexM at z; unfold scaS; omega
  · rw [q4, Nat.zero_add]; rfl
  · exact q5
/-- token j of both sides -/
def tkk (L : List (Nat × Nat × Int32 × Bool × Nat)) (j : Nat) : Nat := (L.getD j (0, 1, 0, false, 0)).2.1
def tkp (L : List (Nat × Nat × Int32 × Bool × Nat)) (j : Nat) : Nat := (L.getD j (0, 1, 0, false, 0)).1
def tkv (L : List (Nat × Nat × Int32 × Bool × Nat)) (j : Nat) : Int32 := (L.getD j (0, 1, 0, false, 0)).2.2.1
def tko (L : List (Nat × Nat × Int32 × Bool × Nat)) (j : Nat) : Bool := (L.getD j (0, 1, 0, false, 0)).2.2.2.1
def tkn (L : List (Nat × Nat × Int32 × Bool × Nat)) (j : Nat) : Nat := (L.getD j (0, 1, 0, false, 0)).2.2.2.2
theorem tokA_at {A : Hp} {L : List (Nat × Nat × Int32 × Bool × Nat)} {j : Nat} (h : tokA A 0 L) (hj : j < L.length) : A.D 3 j = nI (tkk L j) ∧ A.D 4 j = nI (tkp L j) ∧ A.D 5 j = tkv L j ∧ A.D 6 j = bI (tko L j) := by
  have e : L[j]? = some (L.getD j (0, 1, 0, false, 0)) := by rw [List.getD_eq_getElem?_getD, List.getElem?_eq_getElem hj]; rfl
  have := h j _ e
  rw [Nat.zero_add] at this
  exact this
theorem tokM_at {B : Hp} {w : Nat} {L : List (Nat × Nat × Int32 × Bool × Nat)} {j : Nat} (h : tokM B w 0 L) (hj : j < L.length) : B.D (w + 2) j = nI (tyK (tkk L j)) ∧ B.D (w + 3) j = nI (tkp L j) ∧ B.D (w + 4) j = nI (tkn L j) ∧ B.D (w + 6) j = bI (tko L j) ∧ B.D (w + 7) j = -1 ∧ ((tkk L j = 3 ∨ tkk L j = 4) → tko L j = false → B.D (w + 5) j = tkv L j) := by
  have e : L[j]? = some (L.getD j (0, 1, 0, false, 0)) := by rw [List.getD_eq_getElem?_getD, List.getElem?_eq_getElem hj]; rfl
  have := h j _ e
  rw [Nat.zero_add] at this
  exact this
/-- what the rows of tokens are like: the last is an end or a bad one, none before it is; places grow by a token's length; a name's value is its length -/
def Lx (L : List (Nat × Nat × Int32 × Bool × Nat)) (T : Nat) (g : Nat → Nat) : Prop :=
  0 < L.length ∧ L.length ≤ T + 1 ∧ T ≤ 6000 ∧
  (∀ j, j + 1 < L.length → tkk L j ≠ 0 ∧ tkk L j ≠ 1 ∧ tkp L j + tkn L j ≤ tkp L (j + 1) ∧ 1 ≤ tkn L j ∧ (40 ≤ tkk L j → 2 ≤ tkn L j)) ∧
  (∀ j, j < L.length → tkp L j + tkn L j ≤ T ∧ (tkk L j ≤ 4 ∨ (10 ≤ tkk L j ∧ tkk L j < 32) ∨ (40 ≤ tkk L j ∧ tkk L j < 81)) ∧ (tkk L j = 2 → tkv L j = nI (tkn L j) ∧ (tko L j = false → tkn L j ≤ 12) ∧ 1 ≤ tkn L j)) ∧
  (tkk L (L.length - 1) = 0 ∨ tkk L (L.length - 1) = 1)
theorem tkS_of {g : Nat → Nat} {T i : Nat} (hi : i < T) (hz : ∀ i, T ≤ i → g i = 0) (hb : (tkS g T i).2.1 ≠ 1) : (tkS g T i).2.1 ≠ 0 ∧ i + (tkS g T i).2.2.2.2 = (tkS g T i).1 ∧ 1 ≤ (tkS g T i).2.2.2.2 ∧ (40 ≤ (tkS g T i).2.1 → 2 ≤ (tkS g T i).2.2.2.2) ∧ ((tkS g T i).2.1 ≤ 4 ∨ (10 ≤ (tkS g T i).2.1 ∧ (tkS g T i).2.1 < 32) ∨ (40 ≤ (tkS g T i).2.1 ∧ (tkS g T i).2.1 < 81)) ∧ ((tkS g T i).2.1 = 2 → (tkS g T i).2.2.1 = nI (tkS g T i).2.2.2.2 ∧ ((tkS g T i).2.2.2.1 = false → (tkS g T i).2.2.2.2 ≤ 12)) := by
  have hbd := tkS_bd hi hz hb
  unfold tkS at hb hbd ⊢
  by_cases q : isLt (g i) = true
  · rw [if_pos q] at hb hbd ⊢
    obtain ⟨b1, b2⟩ := hbd
    simp only at b1 b2
    have hk := kdK_ne (kf g i (we g (T - i) i - i) 41 0)
    refine ⟨?_, ?_, ?_, ?_, ?_, ?_⟩
    · show kdK _ ≠ 0
      cases kf g i (we g (T - i) i - i) 41 0 with
      | none => decide
      | some v => show 40 + v ≠ 0; omega
    · show i + (we g (T - i) i - i) = we g (T - i) i; omega
    · show 1 ≤ we g (T - i) i - i; omega
    · show 40 ≤ kdK (kf g i (we g (T - i) i - i) 41 0) → 2 ≤ we g (T - i) i - i
      cases hkf : kf g i (we g (T - i) i - i) 41 0 with
      | none => intro z; exact absurd z (by decide)
      | some v =>
        intro _
        obtain ⟨v1, v2⟩ := kf_some 41 0 v (by omega) hkf
        have := (ws_n v1).2.2.1
        omega
    · show (kdK (kf g i (we g (T - i) i - i) 41 0) ≤ 4 ∨ (10 ≤ kdK (kf g i (we g (T - i) i - i) 41 0) ∧ kdK (kf g i (we g (T - i) i - i) 41 0) < 32) ∨ (40 ≤ kdK (kf g i (we g (T - i) i - i) 41 0) ∧ kdK (kf g i (we g (T - i) i - i) 41 0) < 81))
      cases hkf : kf g i (we g (T - i) i - i) 41 0 with
      | none => decide
      | some v =>
        obtain ⟨v1, v2⟩ := kf_some 41 0 v (by omega) hkf
        show ((40 + v) ≤ 4 ∨ (10 ≤ (40 + v) ∧ (40 + v) < 32) ∨ (40 ≤ (40 + v) ∧ (40 + v) < 81))
        omega
    · intro _
      refine ⟨rfl, fun z => ?_⟩
      have z2 : ¬ 12 < we g (T - i) i - i := of_decide_eq_false z
      show we g (T - i) i - i ≤ 12
      omega
  · rw [if_neg q] at hb hbd ⊢
    by_cases q2 : isDg (g i) = true
    · rw [if_pos q2] at hb hbd ⊢
      have h3 := nmS_bd hi q2 hz
      obtain ⟨b1, b2⟩ := hbd
      simp only at b1 b2
      refine ⟨by show (nmS g T i).2.1 ≠ 0; omega, by show i + ((nmS g T i).1 - i) = (nmS g T i).1; omega, by show 1 ≤ (nmS g T i).1 - i; omega, ?_, by show ((nmS g T i).2.1 ≤ 4 ∨ (10 ≤ (nmS g T i).2.1 ∧ (nmS g T i).2.1 < 32) ∨ (40 ≤ (nmS g T i).2.1 ∧ (nmS g T i).2.1 < 81)); omega, ?_⟩
      · intro z
        have z' : 40 ≤ (nmS g T i).2.1 := z
        omega
      · intro z
        have z' : (nmS g T i).2.1 = 2 := z
        omega
    · rw [if_neg q2] at hb hbd ⊢
      have h3 := sg_bd (c := g i) (d := g (i + 1))
      have hb' : sgK (g i) (g (i + 1)) ≠ 1 := hb
      by_cases q3 : sgK (g i) (g (i + 1)) < 26
      · simp only [q3, if_true]
        exact ⟨by omega, trivial, by omega, by omega, by omega, fun z => by omega⟩
      · simp only [q3, if_false]
        exact ⟨by omega, trivial, by omega, by omega, by omega, fun z => by omega⟩
theorem tk_c0 {t : Nat × Nat × Int32 × Bool × Nat} {L : List (Nat × Nat × Int32 × Bool × Nat)} : tkk (t :: L) 0 = t.2.1 ∧ tkp (t :: L) 0 = t.1 ∧ tkv (t :: L) 0 = t.2.2.1 ∧ tko (t :: L) 0 = t.2.2.2.1 ∧ tkn (t :: L) 0 = t.2.2.2.2 := ⟨rfl, rfl, rfl, rfl, rfl⟩
theorem tk_cs {t : Nat × Nat × Int32 × Bool × Nat} {L : List (Nat × Nat × Int32 × Bool × Nat)} {j : Nat} : tkk (t :: L) (j + 1) = tkk L j ∧ tkp (t :: L) (j + 1) = tkp L j ∧ tkv (t :: L) (j + 1) = tkv L j ∧ tko (t :: L) (j + 1) = tko L j ∧ tkn (t :: L) (j + 1) = tkn L j := ⟨rfl, rfl, rfl, rfl, rfl⟩
theorem tkL_ok {g : Nat → Nat} {T : Nat} (hz : ∀ i, T ≤ i → g i = 0) : ∀ (m i : Nat), T - i < m → i ≤ T → 0 < (tkL g T m i).length ∧ i ≤ tkp (tkL g T m i) 0 ∧
  (∀ j, j + 1 < (tkL g T m i).length → tkk (tkL g T m i) j ≠ 0 ∧ tkk (tkL g T m i) j ≠ 1 ∧ tkp (tkL g T m i) j + tkn (tkL g T m i) j ≤ tkp (tkL g T m i) (j + 1) ∧ 1 ≤ tkn (tkL g T m i) j ∧ (40 ≤ tkk (tkL g T m i) j → 2 ≤ tkn (tkL g T m i) j)) ∧
  (∀ j, j < (tkL g T m i).length → tkp (tkL g T m i) j + tkn (tkL g T m i) j ≤ T ∧ (tkk (tkL g T m i) j ≤ 4 ∨ (10 ≤ tkk (tkL g T m i) j ∧ tkk (tkL g T m i) j < 32) ∨ (40 ≤ tkk (tkL g T m i) j ∧ tkk (tkL g T m i) j < 81)) ∧ (tkk (tkL g T m i) j = 2 → tkv (tkL g T m i) j = nI (tkn (tkL g T m i) j) ∧ (tko (tkL g T m i) j = false → tkn (tkL g T m i) j ≤ 12) ∧ 1 ≤ tkn (tkL g T m i) j)) ∧
  (tkk (tkL g T m i) ((tkL g T m i).length - 1) = 0 ∨ tkk (tkL g T m i) ((tkL g T m i).length - 1) = 1) := by
  intro m
  induction m with
  | zero => intro i h; omega
  | succ m ih =>
    intro i hm hi
    simp only [tkL]
    by_cases q : T ≤ i
    · simp only [q, if_true]
      refine ⟨by simp, by show i ≤ T; omega, fun j hj => by simp at hj, fun j hj => ?_, Or.inl rfl⟩
      have : j = 0 := by simp at hj; exact hj
      subst this
      refine ⟨by show T + 0 ≤ T; omega, Or.inl (Nat.zero_le 4), fun z => by cases z⟩
    · simp only [q, if_false]
      by_cases kb : (tkS g T i).2.1 = 1
      · simp only [kb, if_true]
        refine ⟨by simp, by show i ≤ i; omega, fun j hj => by simp at hj, fun j hj => ?_, Or.inr rfl⟩
        have : j = 0 := by simp at hj; exact hj
        subst this
        refine ⟨by show i + 1 ≤ T; omega, Or.inl (show 1 ≤ 4 by decide), fun z => by cases z⟩
      · simp only [kb, if_false]
        have hbd := tkS_bd (show i < T by omega) hz kb
        obtain ⟨o1, o2, o3, o4, o5, o6⟩ := tkS_of (show i < T by omega) hz kb
        have hsk := sk_ge (g := g) (T - (tkS g T i).1) false (tkS g T i).1
        obtain ⟨r1, r2, r3, r4, r5⟩ := ih (sk g (T - (tkS g T i).1) false (tkS g T i).1) (by omega) (by omega)
        obtain ⟨L, hL⟩ : ∃ L, L = tkL g T m (sk g (T - (tkS g T i).1) false (tkS g T i).1) := ⟨_, rfl⟩
        rw [← hL] at r1 r2 r3 r4 r5 ⊢
        refine ⟨by simp, by show i ≤ i; omega, ?_, ?_, ?_⟩
        · intro j hj
          match j, hj with
          | 0, hj =>
            refine ⟨o1, kb, ?_, o3, o4⟩
            show i + (tkS g T i).2.2.2.2 ≤ tkp L 0
            omega
          | j + 1, hj =>
            rw [List.length_cons] at hj
            exact r3 j (by omega)
        · intro j hj
          match j, hj with
          | 0, hj => exact ⟨by show i + (tkS g T i).2.2.2.2 ≤ T; omega, o5, fun z => ⟨(o6 z).1, (o6 z).2, o3⟩⟩
          | j + 1, hj =>
            rw [List.length_cons] at hj
            exact r4 j (by omega)
        · rw [List.length_cons, show L.length + 1 - 1 = (L.length - 1) + 1 by omega]
          exact r5
theorem lexL_len {g : Nat → Nat} {T : Nat} (hz : ∀ i, T ≤ i → g i = 0) : ∀ (m i : Nat), T - i < m → i ≤ T → (tkL g T m i).length + i ≤ T + 1 := by
  intro m
  induction m with
  | zero => intro i h; omega
  | succ m ih =>
    intro i hm hi
    simp only [tkL]
    by_cases q : T ≤ i
    · simp only [q, if_true]; show 1 + i ≤ T + 1; omega
    · simp only [q, if_false]
      by_cases kb : (tkS g T i).2.1 = 1
      · simp only [kb, if_true]; show 1 + i ≤ T + 1; omega
      · simp only [kb, if_false]
        have hbd := tkS_bd (show i < T by omega) hz kb
        have hsk := sk_ge (g := g) (T - (tkS g T i).1) false (tkS g T i).1
        have := ih (sk g (T - (tkS g T i).1) false (tkS g T i).1) (by omega) (by omega)
        rw [List.length_cons]
        omega
theorem lexL_ok {g : Nat → Nat} {T : Nat} (h6 : T ≤ 6000) (hz : ∀ i, T ≤ i → g i = 0) : Lx (lexL g T) T g := by
  have hsk := sk_ge (g := g) T false 0
  obtain ⟨r1, r2, r3, r4, r5⟩ := tkL_ok hz (T + 1) (sk g T false 0) (by omega) (by omega)
  have := lexL_len hz (T + 1) (sk g T false 0) (by omega) (by omega)
  refine ⟨r1, ?_, h6, r3, r4, r5⟩
  show (tkL g T (T + 1) (sk g T false 0)).length ≤ T + 1
  omega
