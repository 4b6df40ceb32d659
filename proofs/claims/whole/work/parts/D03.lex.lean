/-! ===== reading tokens: the class ===== -/
/-- A' is A with more objects, changed at S alone; k counts what was made -/
def exA (S : Nat → Nat → Bool) (k : Nat) (A A' : Hp) : Prop := (∃ l, A'.sh = A.sh ++ l ∧ l.length ≤ 4 * k) ∧ A.sl ≤ A'.sl ∧ A'.sl ≤ A.sl + 40 * k ∧ ∀ a f, a < A.sh.length → S a f = false → A'.D a f = A.D a f ∧ A'.P a f = A.P a f
theorem exA.rf {S : Nat → Nat → Bool} {A : Hp} : exA S 0 A A := ⟨⟨[], by simp, by simp⟩, Nat.le_refl _, Nat.le_refl _, fun _ _ _ _ => ⟨rfl, rfl⟩⟩
theorem exA.tr {S : Nat → Nat → Bool} {k j : Nat} {A B C : Hp} (h1 : exA S k A B) (h2 : exA S j B C) : exA S (k + j) A C := by
  obtain ⟨⟨l, a1, a2⟩, a3, a4, a5⟩ := h1
  obtain ⟨⟨m, b1, b2⟩, b3, b4, b5⟩ := h2
  refine ⟨⟨l ++ m, by rw [b1, a1, List.append_assoc], by rw [List.length_append]; omega⟩, by omega, by omega, fun a f ha hs => ?_⟩
  obtain ⟨c1, c2⟩ := a5 a f ha hs
  obtain ⟨d1, d2⟩ := b5 a f (by rw [a1, List.length_append]; omega) hs
  exact ⟨d1.trans c1, d2.trans c2⟩
theorem exA.mono {S R : Nat → Nat → Bool} {k j : Nat} {A B : Hp} (h : exA S k A B) (hs : ∀ a f, R a f = false → S a f = false) (hk : k ≤ j) : exA R j A B := by
  obtain ⟨⟨l, a1, a2⟩, a3, a4, a5⟩ := h
  exact ⟨⟨l, a1, by omega⟩, a3, by omega, fun a f ha hr => a5 a f ha (hs a f hr)⟩
theorem exA.sD {S : Nat → Nat → Bool} {k : Nat} {A B : Hp} {a f : Nat} {v : Int32} (h : exA S k A B) (hs : S a f = true) : exA S k A (B.sD a f v) := by
  obtain ⟨a1, a3, a4, a5⟩ := h
  refine ⟨a1, a3, a4, fun x y hx hy => ?_⟩
  obtain ⟨c1, c2⟩ := a5 x y hx hy
  refine ⟨?_, c2⟩
  rw [sD_D, up2_ne (fun z => by rw [z.1, z.2, hs] at hy; cases hy)]
  exact c1
theorem exA.sP {S : Nat → Nat → Bool} {k : Nat} {A B : Hp} {a f : Nat} {v : Value} (h : exA S k A B) (hs : S a f = true) : exA S k A (B.sP a f v) := by
  obtain ⟨a1, a3, a4, a5⟩ := h
  refine ⟨a1, a3, a4, fun x y hx hy => ?_⟩
  obtain ⟨c1, c2⟩ := a5 x y hx hy
  refine ⟨c1, ?_⟩
  rw [sP_P, up2_ne (fun z => by rw [z.1, z.2, hs] at hy; cases hy)]
  exact c2
theorem exA.get {S : Nat → Nat → Bool} {k : Nat} {A B : Hp} (h : exA S k A B) {a : Nat} {s : Nat × Nat} (hs : A.sh[a]? = some s) : B.sh[a]? = some s := by
  obtain ⟨⟨l, a1, a2⟩, -⟩ := h
  rw [a1, List.getElem?_append_left (List.getElem?_eq_some_iff.mp hs).1]
  exact hs
theorem exA.len {S : Nat → Nat → Bool} {k : Nat} {A B : Hp} (h : exA S k A B) : A.sh.length ≤ B.sh.length ∧ B.sh.length ≤ A.sh.length + 4 * k := by
  obtain ⟨⟨l, a1, a2⟩, -⟩ := h
  rw [a1, List.length_append]
  omega
theorem exA.str {S : Nat → Nat → Bool} {k s : Nat} {A B : Hp} {n : List Nat} (h : exA S k A B) (hS : ∀ a f, S a f = true → a < 626) (hs : strA A s n) (h1 : 626 ≤ s) (h2 : ∀ b, A.P s 0 = .ref b → 626 ≤ b) : strA B s n ∧ ∀ b, B.P s 0 = .ref b → 626 ≤ b := by
  obtain ⟨a1, a2, a3, a4, b, a5, a6, a7⟩ := hs
  have hn : ∀ a f, 626 ≤ a → S a f = false := fun a f ha => by
    cases z : S a f
    · rfl
    · have := hS a f z; omega
  have la := (List.getElem?_eq_some_iff.mp a1).1
  have lb := (List.getElem?_eq_some_iff.mp a6).1
  have hb := h2 b a5
  obtain ⟨e1, e2⟩ := h.2.2.2 s 0 la (hn s 0 h1)
  refine ⟨⟨h.get a1, by rw [(h.2.2.2 s 1 la (hn s 1 h1)).1]; exact a2, a3, a4, b, by rw [e2]; exact a5, h.get a6, fun i hi => by rw [(h.2.2.2 b i lb (hn b i hb)).1]; exact a7 i hi⟩, fun c hc => ?_⟩
  rw [e2, a5] at hc
  cases hc
  exact hb
theorem exA.nmd {S : Nat → Nat → Bool} {k x : Nat} {A B : Hp} {n : List Nat} (h : exA S k A B) (hS : ∀ a f, S a f = true → a < 626) (hx : S x 0 = false) (hxl : x < A.sh.length) (hn : nmd A x n) : nmd B x n := by
  obtain ⟨s, s1, s2, s3, s4⟩ := hn
  obtain ⟨t1, t2⟩ := h.str hS s2 s3 s4
  exact ⟨s, by rw [(h.2.2.2 x 0 hxl hx).2]; exact s1, t1, s3, t2⟩
/-- final references of the static heap that S leaves -/
def okS (S : Nat → Nat → Bool) : Bool := rf0.all (fun q => ! S q.1 q.2.1)
theorem exA.gr {S : Nat → Nat → Bool} {k : Nat} {A B : Hp} (h : exA S k A B) (g : Gr A) (hS : okS S = true) : Gr B := by
  have hl := g.len
  obtain ⟨⟨l, e⟩, h2⟩ := g
  obtain ⟨⟨m, a1, -⟩, -, -, a5⟩ := h
  refine ⟨⟨l ++ m, by rw [a1, e, List.append_assoc]⟩, fun q hq => ?_⟩
  have h3 := List.all_eq_true.mp rf0_fin q hq
  have h4 := List.all_eq_true.mp hS q hq
  have h5 : S q.1 q.2.1 = false := by
    cases z : S q.1 q.2.1
    · rfl
    · rw [z] at h4; cases h4
  have hb : q.1 < A.sh.length := by
    cases hs : sh0[q.1]? with
    | none => rw [hs] at h3; cases h3
    | some s =>
      have := (List.getElem?_eq_some_iff.mp hs).1
      rw [e, List.length_append]
      omega
  rw [(a5 q.1 q.2.1 hb h5).2]
  exact h2 q hq
/-- the lexer's own fields -/
def SL (a f : Nat) : Bool := decide (a = 1 ∧ (f = 2 ∨ f = 3 ∨ f = 4 ∨ f = 5 ∨ f = 11))
theorem SL_lt : ∀ a f, SL a f = true → a < 626 := fun a f h => by
  have := of_decide_eq_true h
  omega
theorem SL_ok : okS SL = true := by decide +kernel
/-- the class reads token i -/
def LA (A : Hp) (L : List (Nat × Nat × Int32 × Bool × Nat)) (T : Nat) (g : Nat → Nat) (i : Nat) : Prop := TA A T g ∧ tokA A 0 L ∧ (A.D 1 10 = nI L.length ∧ A.D 1 4 = 0) ∧ A.D 1 11 = nI i ∧ A.D 1 2 = nI (tkk L i) ∧ A.D 1 3 = nI (tkp L i) ∧ i < L.length ∧ Lx L T g
/-- what an LA heap needs of a change -/
def okL (S : Nat → Nat → Bool) : Prop := okS S = true ∧ (∀ f, S 2 f = false) ∧ (∀ f, S 3 f = false) ∧ (∀ f, S 4 f = false) ∧ (∀ f, S 5 f = false) ∧ (∀ f, S 6 f = false) ∧ S 1 1 = false ∧ S 1 10 = false
theorem exA.ta {S : Nat → Nat → Bool} {k T : Nat} {g : Nat → Nat} {L : List (Nat × Nat × Int32 × Bool × Nat)} {A B : Hp} (h : exA S k A B) (hS : okL S) (ht : TA A T g) (hk : tokA A 0 L) : TA B T g ∧ tokA B 0 L ∧ B.D 1 10 = A.D 1 10 := by
  obtain ⟨s0, s2, s3, s4, s5, s6, s7, s8⟩ := hS
  obtain ⟨t1, t2, t3, t4, t5, t6⟩ := ht
  have hl := t1.len
  refine ⟨⟨h.gr t1 s0, ?_, t3, fun i hi => ?_, t5, t6⟩, fun j t hj => ?_, (h.2.2.2 1 10 (by omega) s8).1⟩
  · rw [(h.2.2.2 1 1 (by omega) s7).1]; exact t2
  · rw [(h.2.2.2 2 i (by omega) (s2 i)).1]; exact t4 i hi
  · rw [(h.2.2.2 3 _ (by omega) (s3 _)).1, (h.2.2.2 4 _ (by omega) (s4 _)).1, (h.2.2.2 5 _ (by omega) (s5 _)).1, (h.2.2.2 6 _ (by omega) (s6 _)).1]
    exact hk j t hj
theorem SL_okL : okL SL := ⟨SL_ok, fun f => decide_eq_false (by omega), fun f => decide_eq_false (by omega), fun f => decide_eq_false (by omega), fun f => decide_eq_false (by omega), fun f => decide_eq_false (by omega), by decide, by decide⟩
theorem LA.ex {S : Nat → Nat → Bool} {k T i : Nat} {g : Nat → Nat} {L : List (Nat × Nat × Int32 × Bool × Nat)} {A B : Hp} (ha : LA A L T g i) (h : exA S k A B) (hS : okL S) (h1 : S 1 2 = false) (h2 : S 1 3 = false) (h3 : S 1 11 = false) (h4 : S 1 4 = false) : LA B L T g i := by
  obtain ⟨t, k, c1, c2, c3, c4, c5, c6⟩ := ha
  have hl := t.1.len
  obtain ⟨e1, e2, e3⟩ := h.ta hS t k
  exact ⟨e1, e2, ⟨by rw [e3]; exact c1.1, by rw [(h.2.2.2 1 4 (by omega) h4).1]; exact c1.2⟩, by rw [(h.2.2.2 1 11 (by omega) h3).1]; exact c2, by rw [(h.2.2.2 1 2 (by omega) h1).1]; exact c3, by rw [(h.2.2.2 1 3 (by omega) h2).1]; exact c4, c5, c6⟩
def advA (A : Hp) (L : List (Nat × Nat × Int32 × Bool × Nat)) (i : Nat) : Hp := ((A.sD 1 11 (nI (i + 1))).sD 1 2 (nI (tkk L (i + 1)))).sD 1 3 (nI (tkp L (i + 1)))
theorem adv_ex {A : Hp} {L : List (Nat × Nat × Int32 × Bool × Nat)} {i : Nat} : exA SL 0 A (advA A L i) := ((exA.rf.sD (by decide)).sD (by decide)).sD (by decide)
theorem adv_LA {A : Hp} {L : List (Nat × Nat × Int32 × Bool × Nat)} {T i : Nat} {g : Nat → Nat} (h : LA A L T g i) (hi : i + 1 < L.length) : LA (advA A L i) L T g (i + 1) := by
  obtain ⟨t, k, c1, c2, c3, c4, c5, c6⟩ := h
  obtain ⟨e1, e2, e3⟩ := (adv_ex (L := L) (i := i)).ta SL_okL t k
  refine ⟨e1, e2, ⟨by rw [e3]; exact c1.1, by unfold advA; rw [rdf (by decide), rdf (by decide), rdf (by decide)]; exact c1.2⟩, ?_, ?_, ?_, hi, c6⟩
  · unfold advA; rw [rdf (by decide), rdf (by decide), rds]
  · unfold advA; rw [rdf (by decide), rds]
  · unfold advA; rw [rds]
theorem ev_advance {N T i : Nat} {g : Nat → Nat} {L : List (Nat × Nat × Int32 × Bool × Nat)} {A : Hp} (h : LA A L T g i) (hi : i + 1 < L.length) : F_Lexer_advance N 1 A = some ((), advA A L i) := by
  obtain ⟨t, k, c1, c2, c3, c4, c5, c6⟩ := h
  have hG := t.1
  have h6 : L.length ≤ 6001 := by have := c6.2.1; have := c6.2.2.1; omega
  obtain ⟨k1, k2, k3, k4⟩ := tokA_at k hi
  unfold F_Lexer_advance
  rw [ck_t (rS_1 hG), bnd_t, bnd_t, c1.1, c2, nI_1, if_neg (nI_ge hi (by omega)), bnd_t, bnd_t, nI_1]
  simp only [sD_P, ar_sD, rf_t (rP_1_6 hG), ar_t (rA_1_6 hG), rds, bnd_t, rf_t (rP_1_7 hG), rdf (show (11 : Nat) ≠ 2 by decide), ar_t (rA_1_7 hG), ck_t (nI_in (show i + 1 < 6001 by omega) (by decide)), nI_clamp (show i + 1 < 2 ^ 31 by omega), rdw (show (3 : Nat) ≠ 1 by decide), rdw (show (4 : Nat) ≠ 1 by decide), k1, k2]
  rfl
/-- a token that is neither the end nor bad has one behind it -/
theorem Lx.nx {L : List (Nat × Nat × Int32 × Bool × Nat)} {T i : Nat} {g : Nat → Nat} (h : Lx L T g) (hi : i < L.length) (hk : 2 ≤ tkk L i) : i + 1 < L.length := by
  rcases Nat.lt_or_ge (i + 1) L.length with z | z
  · exact z
  · have e : i = L.length - 1 := by omega
    rw [e] at hk
    have := h.2.2.2.2.2
    omega
def refA (A : Hp) (k p : Int32) : Hp := ((A.sD 1 4 k).sD 1 5 p).nx (17, 0) 6
theorem nx_D {H : Hp} {s : Nat × Nat} {k : Nat} : (H.nx s k).D = H.D := rfl
theorem nx_P {H : Hp} {s : Nat × Nat} {k : Nat} : (H.nx s k).P = H.P := rfl
theorem exA.nx {S : Nat → Nat → Bool} {k : Nat} {A B : Hp} {s : Nat × Nat} {j : Nat} (h : exA S k A B) (hj : j ≤ 40) : exA S (k + 1) A (B.nx s j) := by
  obtain ⟨⟨l, a1, a2⟩, a3, a4, a5⟩ := h
  refine ⟨⟨l ++ [s], ?_, by rw [List.length_append]; simp; omega⟩, ?_, ?_, a5⟩
  · show B.sh ++ [s] = _
    rw [a1, List.append_assoc]
  · show A.sl ≤ B.sl + j; omega
  · show B.sl + j ≤ _; omega
theorem ref_ex {A : Hp} {k p : Int32} : exA SL 1 A (refA A k p) := ((exA.rf.sD (by decide)).sD (by decide)).nx (by decide)
theorem ref_f {A : Hp} {k p : Int32} : (refA A k p).D 1 4 = k ∧ (refA A k p).D 1 5 = p := by
  unfold refA
  rw [nx_D]
  exact ⟨by rw [rdf (by decide), rds], by rw [rds]⟩
theorem ev_refuse {N : Nat} {k p : Int32} {A : Hp} (hG : Gr A) : F_Lexer_refuse N 1 k p A = some (.inr A.sh.length, refA A k p) := by
  unfold F_Lexer_refuse
  rw [ck_t (rS_1 hG), bnd_t, bnd_t]
  rfl
theorem bT_v {α β : Type} {v : α} {H : Hp} {K : α → Hp → Option (Ot β × Hp)} : bT (some (.inl v, H)) K = K v H := rfl
theorem bT_z {α β : Type} {x : Nat} {H : Hp} {K : α → Hp → Option (Ot β × Hp)} : bT (some (.inr x, H)) K = some (.inr x, H) := rfl
theorem ev_take {N T i k : Nat} {g : Nat → Nat} {L : List (Nat × Nat × Int32 × Bool × Nat)} {A : Hp} (h : LA A L T g i) (hk : tkk L i = k) (h2 : 2 ≤ k) : F_Lexer_take N 1 (nI k) A = some (.inl (), advA A L i) := by
  have hG := h.1.1
  have hnx := h.2.2.2.2.2.2.2.nx h.2.2.2.2.2.2.1 (by omega)
  unfold F_Lexer_take B_Lexer_take_17
  rw [ck_t (rS_1 hG), bnd_t, h.2.2.2.2.1, hk, if_pos rfl, ck_t (rS_1 hG), bC_t (ev_advance h hnx)]
theorem ev_take_no {N T i k : Nat} {g : Nat → Nat} {L : List (Nat × Nat × Int32 × Bool × Nat)} {A : Hp} (h : LA A L T g i) (hk : tkk L i ≠ k) (h2 : k < 81) : F_Lexer_take N 1 (nI k) A = some (.inr A.sh.length, refA A 1 (nI (tkp L i))) := by
  have hG := h.1.1
  have h81 := (h.2.2.2.2.2.2.2.2.2.2.2.1 i h.2.2.2.2.2.2.1).2.1
  unfold F_Lexer_take
  rw [ck_t (rS_1 hG), bnd_t, h.2.2.2.2.1, if_neg (fun z => hk ((nI_eq (by omega) (by omega)).mp z)), bnd_t, h.2.2.2.2.2.1, ev_refuse hG]
  rfl
