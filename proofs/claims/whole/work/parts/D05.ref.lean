/-! ===== reading tokens: the reference ===== -/
def MB (B : Hp) (w : Nat) (L : List (Nat × Nat × Int32 × Bool × Nat)) : Prop := ∀ j, j < L.length → B.D (w + 2) j = nI (tyK (tkk L j)) ∧ B.D (w + 3) j = nI (tkp L j) ∧ B.D (w + 4) j = nI (tkn L j) ∧ B.D (w + 6) j = bI (tko L j) ∧ ((tkk L j = 3 ∨ tkk L j = 4) → tko L j = false → B.D (w + 5) j = tkv L j)
/-- the reference reads token i, without a fault -/
def LB (B : Hp) (w : Nat) (L : List (Nat × Nat × Int32 × Bool × Nat)) (T : Nat) (g : Nat → Nat) (i : Nat) : Prop := TB B w T g ∧ MB B w L ∧ B.D w 11 = nI i ∧ B.D w 9 = 0 ∧ i < L.length ∧ Lx L T g
theorem LB.tn {B : Hp} {w T i t : Nat} {L : List (Nat × Nat × Int32 × Bool × Nat)} {g : Nat → Nat} (h : LB B w L T g i) (ht : t < L.length) : tokN B w t (nmT g L t) := by
  obtain ⟨t1, t2, t3, t4, t5, t6⟩ := h
  obtain ⟨m1, m2, m3, m4, m5⟩ := t2 t ht
  obtain ⟨x1, x2, x3⟩ := t6.2.2.2.2.1 t ht
  have h6 := t6.2.2.1
  have h61 := t6.2.1
  refine ⟨by omega, nmT_lt t1.2.2.2.2.1, by rw [nmT_len]; exact m3, tkp L t, m2, by rw [nmT_len]; omega, fun j hj => ?_⟩
  rw [nmT_len] at hj
  rw [nmT_at hj, t1.2.2.2.1 _ (by omega)]
theorem sD_self {H : Hp} {a f : Nat} : H.sD a f (H.D a f) = H := by
  unfold Hp.sD
  have : up2 H.D a f (H.D a f) = H.D := by
    funext x y
    unfold up2
    split
    · next e =>
      split
      · next e2 => subst e e2; rfl
      · rfl
    · rfl
  rw [this]
  rfl
def kvd (k : Nat) : Bool := decide (k ≤ 4 ∨ (10 ≤ k ∧ k < 32) ∨ (40 ≤ k ∧ k < 81))
theorem tyK_inj0 : ∀ a : Fin 81, ∀ b : Fin 81, kvd a.val = true → kvd b.val = true → tyK a.val = tyK b.val → a.val = b.val := by decide +kernel
theorem tyK_inj {a b : Nat} (ha : a ≤ 4 ∨ (10 ≤ a ∧ a < 32) ∨ (40 ≤ a ∧ a < 81)) (hb : kvd b = true) (h : tyK a = tyK b) : a = b := by
  have hb' := of_decide_eq_true hb
  exact tyK_inj0 ⟨a, by omega⟩ ⟨b, by omega⟩ (decide_eq_true ha) hb h
theorem LB.ty {B : Hp} {w T i : Nat} {L : List (Nat × Nat × Int32 × Bool × Nat)} {g : Nat → Nat} (h : LB B w L T g i) {k : Nat} (hk : kvd k = true) : (nI (tyK (tkk L i)) = nI (tyK k)) ↔ tkk L i = k := by
  have hb' := of_decide_eq_true hk
  have x2 := (h.2.2.2.2.2.2.2.2.2.1 i h.2.2.2.2.1).2.1
  constructor
  · intro z
    exact tyK_inj x2 hk ((nI_eq (by have := tyK_lt (k := tkk L i) (by omega); omega) (by have := tyK_lt (k := k) (by omega); omega)).mp z)
  · intro z; rw [z]
/-- a fault is noted -/
def failB (B : Hp) (w k p : Nat) : Hp := (B.sD w 9 (nI k)).sD w 10 (nI p)
/-- a fault has been met -/
def Zf (B : Hp) (w k p : Nat) : Prop := isT B w ∧ B.D w 9 = nI k ∧ B.D w 10 = nI p ∧ 0 < k ∧ k < 100 ∧ ∃ i, B.D w 11 = nI i ∧ i < 6002
theorem LB.fail {B : Hp} {w T i k p : Nat} {L : List (Nat × Nat × Int32 × Bool × Nat)} {g : Nat → Nat} (h : LB B w L T g i) (h0 : 0 < k) (hk : k < 100) : Zf (failB B w k p) w k p := by
  have h6 := h.2.2.2.2.2.2.2.1
  have h61 := h.2.2.2.2.2.2.1
  have h5 := h.2.2.2.2.1
  refine ⟨h.1.1, ?_, ?_, h0, hk, i, ?_, by omega⟩
  · unfold failB; rw [rdf (by decide), rds]
  · unfold failB; rw [rds]
  · unfold failB; rw [rdf (by decide), rdf (by decide)]; exact h.2.2.1
theorem ev_fails {N w T i k t : Nat} {L : List (Nat × Nat × Int32 × Bool × Nat)} {g : Nat → Nat} {B : Hp} (h : LB B w L T g i) (ht : t < L.length) : F_MText_fails N w (nI k) (nI t) B = some ((), failB B w k (tkp L t)) := by
  have hG := h.1.1
  have h6 := h.2.2.2.2.2.2.2.1
  have h61 := h.2.2.2.2.2.2.1
  obtain ⟨m1, m2, m3, m4, m5⟩ := h.2.1 t ht
  unfold F_MText_fails
  rw [ck_t (TS hG), bnd_t, h.2.2.2.1, if_pos (by decide), bnd_t, rf_t (show (B.sD w 9 (nI k)).P w 4 = .ref (w + 3) from TP_4 hG), ar_sD, ar_t (TA_4 hG), rdI (by omega) (by decide), rdw (by omega), m2, bnd_t]
  rfl
theorem ev_is {N w T i k : Nat} {L : List (Nat × Nat × Int32 × Bool × Nat)} {g : Nat → Nat} {B : Hp} (h : LB B w L T g i) (hk : kvd k = true) : F_MText_is N w (nI (tyK k)) B = some (bI (decide (tkk L i = k)), B) := by
  have hG := h.1.1
  have h6 := h.2.2.2.2.2.2.2.1
  have h61 := h.2.2.2.2.2.2.1
  have h5 := h.2.2.2.2.1
  obtain ⟨m1, m2, m3, m4, m5⟩ := h.2.1 i h5
  unfold F_MText_is
  rw [ck_t (TS hG), bnd_t, h.2.2.2.1, if_pos rfl, rf_t (TP_3 hG), bnd_t, h.2.2.1, ar_t (TA_3 hG), rdI (by omega) (by decide), m1]
  by_cases q : tkk L i = k
  · rw [if_pos ((h.ty hk).mpr q), decide_eq_true q]; rfl
  · rw [if_neg (fun z => q ((h.ty hk).mp z)), decide_eq_false q]; rfl
theorem LB.nx {B : Hp} {w T i : Nat} {L : List (Nat × Nat × Int32 × Bool × Nat)} {g : Nat → Nat} (h : LB B w L T g i) (hi : i + 1 < L.length) : LB (B.sD w 11 (nI (i + 1))) w L T g (i + 1) := by
  obtain ⟨t1, t2, t3, t4, t5, t6⟩ := h
  refine ⟨t1.sD (by omega) (by omega), fun j hj => ?_, rds, by rw [rdf (by decide)]; exact t4, hi, t6⟩
  rw [rdw (by omega), rdw (by omega), rdw (by omega), rdw (by omega), rdw (by omega)]
  exact t2 j hj
theorem LB.gt {B : Hp} {w T i : Nat} {L : List (Nat × Nat × Int32 × Bool × Nat)} {g : Nat → Nat} (h : LB B w L T g i) (hk : 2 ≤ tkk L i) : i + 1 < L.length := h.2.2.2.2.2.nx h.2.2.2.2.1 hk
theorem ev_accepts {N w T i k : Nat} {L : List (Nat × Nat × Int32 × Bool × Nat)} {g : Nat → Nat} {B : Hp} (h : LB B w L T g i) (hk : kvd k = true) : F_MText_accepts N w (nI (tyK k)) B = if tkk L i = k then some (1, B.sD w 11 (nI (i + 1))) else some (0, B) := by
  have hG := h.1.1
  unfold F_MText_accepts
  rw [ck_t (TS hG), bC_t (ev_is h hk), bnd_t]
  by_cases q : tkk L i = k
  · rw [if_pos q, decide_eq_true q, if_neg bI_t0, bnd_t, ck_t (by decide), h.2.2.1, nI_1]; rfl
  · rw [if_neg q, decide_eq_false q, if_pos bI_f, bnd_t, ck_t (by decide), Int32.add_zero, sD_self]; rfl
theorem ev_takes {N w T i k : Nat} {L : List (Nat × Nat × Int32 × Bool × Nat)} {g : Nat → Nat} {B : Hp} (h : LB B w L T g i) (hk : kvd k = true) : F_MText_takes N w (nI (tyK k)) B = if tkk L i = k then some ((), B.sD w 11 (nI (i + 1))) else some ((), failB B w 1 (tkp L i)) := by
  have hG := h.1.1
  unfold F_MText_takes
  rw [ck_t (TS hG), ev_accepts h hk]
  by_cases q : tkk L i = k
  · rw [if_pos q, if_pos q, bC_v, if_neg (by decide)]
  · rw [if_neg q, if_neg q, bC_v, if_pos rfl, bnd_t, h.2.2.1, bC_t (show F_MText_fails N w (1 : Int32) (nI i) B = some ((), failB B w 1 (tkp L i)) from ev_fails (k := 1) h h.2.2.2.2.1)]
theorem ev_name {N w T i : Nat} {L : List (Nat × Nat × Int32 × Bool × Nat)} {g : Nat → Nat} {B : Hp} (h : LB B w L T g i) : F_MText_name N w B = if tkk L i = 2 then (if tko L i = true then some (nI i, failB (B.sD w 11 (nI (i + 1))) w 2 (tkp L i)) else some (nI i, B.sD w 11 (nI (i + 1)))) else some (nI i, failB B w 1 (tkp L i)) := by
  have hG := h.1.1
  have h6 := h.2.2.2.2.2.2.2.1
  have h61 := h.2.2.2.2.2.2.1
  have h5 := h.2.2.2.2.1
  obtain ⟨m1, m2, m3, m4, m5⟩ := h.2.1 i h5
  unfold F_MText_name
  rw [ck_t (TS hG), bnd_t, h.2.2.1, show (1 : Int32) = nI (tyK 2) from rfl, ev_takes h (k := 2) (by decide)]
  by_cases q : tkk L i = 2
  · have hl := h.nx (h.gt (by omega))
    rw [if_pos q, if_pos q, bC_v, bnd_t, hl.2.2.2.1, if_pos rfl, rf_t (TP_7 hl.1.1), ar_t (TA_7 hl.1.1), rdI (by omega) (by decide), rdw (by omega), m4]
    cases z : tko L i
    · rw [if_pos bI_f, if_neg (by decide)]
    · rw [if_neg bI_t0, if_pos rfl, bC_t (show F_MText_fails N w (2 : Int32) (nI i) _ = some ((), failB _ w 2 (tkp L i)) from ev_fails (k := 2) hl h5)]
  · have hz : Zf (failB B w 1 (tkp L i)) w 1 (tkp L i) := h.fail (by decide) (by decide)
    rw [if_neg q, if_neg q, bC_v, bnd_t, hz.2.1, if_neg (by decide)]
/-! in a fault nothing goes on -/
theorem Zf.n0 {B : Hp} {w k p : Nat} (h : Zf B w k p) : ¬ B.D w 9 = 0 := by rw [h.2.1]; exact nI_ne0 h.2.2.2.1 (by have := h.2.2.2.2.1; omega)
theorem Zf.nle {B : Hp} {w k p : Nat} (h : Zf B w k p) : ¬ B.D w 9 ≤ 0 := by rw [h.2.1]; exact nI_nle h.2.2.2.1 (by have := h.2.2.2.2.1; omega)
theorem Zf.pos {B : Hp} {w k p : Nat} (h : Zf B w k p) : (0 : Int32) < B.D w 9 := Int32.not_le.mp h.nle
theorem Zf.sD {B : Hp} {w k p a f : Nat} {v : Int32} (h : Zf B w k p) (hf : ¬ (a = w ∧ (f = 9 ∨ f = 10 ∨ f = 11))) : Zf (B.sD a f v) w k p := by
  obtain ⟨h1, h2, h3, h4, h5, i, h6, h7⟩ := h
  refine ⟨h1, ?_, ?_, h4, h5, i, ?_, h7⟩
  · rw [sD_D, up2_ne (by omega)]; exact h2
  · rw [sD_D, up2_ne (by omega)]; exact h3
  · rw [sD_D, up2_ne (by omega)]; exact h6
theorem fz_fails {N w k p : Nat} {a b : Int32} {B : Hp} (h : Zf B w k p) : F_MText_fails N w a b B = some ((), B) := by
  unfold F_MText_fails
  rw [ck_t (TS h.1), bnd_t, if_neg h.nle]
theorem fz_is {N w k p : Nat} {t : Int32} {B : Hp} (h : Zf B w k p) : F_MText_is N w t B = some (0, B) := by
  unfold F_MText_is
  rw [ck_t (TS h.1), bnd_t, if_neg h.n0]
theorem fz_accepts {N w k p : Nat} {t : Int32} {B : Hp} (h : Zf B w k p) : F_MText_accepts N w t B = some (0, B) := by
  unfold F_MText_accepts
  rw [ck_t (TS h.1), bC_t (fz_is h), bnd_t, if_pos rfl, bnd_t, ck_t (by decide), Int32.add_zero, sD_self]
theorem fz_takes {N w k p : Nat} {t : Int32} {B : Hp} (h : Zf B w k p) : F_MText_takes N w t B = some ((), B) := by
  unfold F_MText_takes
  rw [ck_t (TS h.1), bC_t (fz_accepts h), if_pos rfl, bnd_t, bC_t (fz_fails h)]
theorem fz_name {N w k p : Nat} {B : Hp} (h : Zf B w k p) : F_MText_name N w B = some (B.D w 11, B) := by
  unfold F_MText_name
  rw [ck_t (TS h.1), bnd_t, bC_t (fz_takes h), bnd_t, if_neg h.n0]
theorem fz_isKind {N w k p : Nat} {B : Hp} (h : Zf B w k p) : F_MText_isKind N w B = some (0, B) := by
  unfold F_MText_isKind
  rw [ck_t (TS h.1), bnd_t, if_neg h.n0]
theorem fz_kind {N w k p : Nat} {B : Hp} (h : Zf B w k p) : F_MText_kind N w B = some (0, B) := by
  obtain ⟨i, h6, h7⟩ := h.2.2.2.2.2
  unfold F_MText_kind B_MText_kind_30 B_MText_kind_47
  rw [ck_t (TS h.1), rf_t (TP_3 h.1), bnd_t, h6, ar_t (TA_3 h.1), rdI h7 (by decide), bnd_t, bC_t (fz_isKind h), if_pos rfl, bnd_t, bC_t (fz_fails h), ck_t (TS h.1), bnd_t, bnd_t, if_neg h.n0, ck_t (TS h.1), Int32.add_zero, sD_self, bnd_t, ck_t (TS h.1), bnd_t, if_neg h.n0]
theorem fz_begins {N w k p : Nat} {a b : Int32} {B : Hp} (h : Zf B w k p) : F_MText_begins N w a b B = some ((), B) := by
  have e : B_MText_begins_14 N w a b B = some ((), B) := by
    unfold B_MText_begins_14
    rw [ck_t (TS h.1), bnd_t, bnd_t, if_neg h.n0, bnd_t, Int32.add_zero, sD_self]
  unfold F_MText_begins
  rw [e, ck_t (TS h.1), bnd_t, bC_t (fz_fails h), e, ite_self]
theorem fz_told {N w k p : Nat} {a b : Int32} {B : Hp} (h : Zf B w k p) : F_MText_told N w a b B = some (B.D w 11, B) := by
  unfold F_MText_told B_MText_told_26
  rw [ck_t (TS h.1), bC_t (fz_name h), bnd_t, if_neg h.n0, ck_t (TS h.1), bnd_t, if_neg h.nle]
theorem fz_sort {N w k p : Nat} {a : Int32} {B : Hp} (h : Zf B w k p) : F_MText_sort N w a B = some (0, B) := by
  unfold F_MText_sort
  rw [ck_t (TS h.1), bnd_t, if_neg h.nle]
theorem fz_numberOf {N w k p : Nat} {a b : Int32} {B : Hp} (h : Zf B w k p) : F_MText_numberOf N w a b B = some (0, B) := by
  unfold F_MText_numberOf B_MText_numberOf_24
  rw [ck_t (TS h.1), bC_t (fz_sort h), bnd_t, if_neg h.n0, ck_t (TS h.1), bnd_t, if_neg h.nle]
theorem fz_componentOf {N w k p : Nat} {a b c d : Int32} {B : Hp} (h : Zf B w k p) : F_MText_componentOf N w a b c d B = some (0, B) := by
  unfold F_MText_componentOf B_MText_componentOf_15 B_MText_componentOf_24 B_MText_componentOf_46 B_MText_componentOf_47 B_MText_componentOf_77
  rw [ck_t (TS h.1), bnd_t, if_pos h.pos, if_pos (by decide), if_pos rfl, ck_t (TS h.1), bC_t (fz_numberOf h), bnd_t, if_neg h.n0]
theorem fz_names {N w k p : Nat} {a b : Int32} {B : Hp} (h : Zf B w k p) (hN : 1 ≤ N) : F_MText_names N w a b B = some (0, B) := by
  obtain ⟨m, rfl⟩ : ∃ m, N = m + 1 := ⟨N - 1, by omega⟩
  unfold F_MText_names
  rw [B_MText_names_5, ck_t (TS h.1), bnd_t, if_neg h.n0]
theorem fz_systemNames {N w k p : Nat} {B : Hp} (h : Zf B w k p) (hN : 1 ≤ N) : F_MText_systemNames N w B = some (0, B) := by
  obtain ⟨m, rfl⟩ : ∃ m, N = m + 1 := ⟨N - 1, by omega⟩
  unfold F_MText_systemNames
  rw [B_MText_systemNames_4, ck_t (TS h.1), bnd_t, if_neg h.n0]
