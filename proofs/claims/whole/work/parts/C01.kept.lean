/-! ===== kept words ===== -/
def KB : List Nat := [99, 111, 109, 112, 111, 110, 101, 110, 116, 32, 101, 118, 101, 110, 116, 32, 112, 114, 101, 102, 97, 98, 32, 115, 121, 115, 116, 101, 109, 32, 97, 102, 116, 101, 114, 32, 101, 97, 99, 104, 32, 119, 105, 116, 104, 111, 117, 116, 32, 119, 114, 105, 116, 101, 115, 32, 114, 101, 97, 100, 115, 32, 105, 110, 116, 32, 98, 121, 116, 101, 32, 102, 105, 120, 32, 98, 111, 111, 108, 32, 114, 101, 102, 32, 108, 101, 116, 32, 105, 102, 32, 101, 108, 115, 101, 32, 119, 104, 105, 108, 101, 32, 102, 111, 114, 32, 105, 110, 32, 110, 101, 97, 114, 32, 104, 101, 97, 114, 32, 115, 112, 97, 119, 110, 32, 100, 114, 111, 112, 32, 103, 105, 118, 101, 32, 116, 97, 107, 101, 32, 112, 117, 116, 32, 101, 109, 105, 116, 32, 116, 111, 32, 115, 104, 111, 119, 32, 102, 97, 105, 108, 32, 116, 114, 117, 101, 32, 102, 97, 108, 115, 101, 32, 110, 111, 110, 101, 32, 115, 101, 108, 102, 32, 116, 105, 99, 107, 32, 105, 110, 112, 117, 116, 32, 100, 114, 97, 119, 32, 97, 108, 105, 118, 101, 32, 114, 111, 111, 116, 32, 104, 97, 115, 32]
def WST : List Nat := [0, 10, 16, 23, 30, 36, 41, 49, 56, 62, 66, 71, 75, 80, 84, 88, 91, 96, 102, 106, 109, 114, 119, 125, 130, 135, 140, 144, 149, 152, 157, 162, 167, 173, 178, 183, 188, 194, 199, 205, 210, 214]
def kch (k : Nat) : Nat := KB.getD k 0
def wst (w : Nat) : Nat := WST.getD w 0
def wl (w : Nat) : Nat := wst (w + 1) - 1 - wst w
theorem bC_v {α β : Type} {v : α} {H : Hp} {K : α → Hp → Option β} : bC (some (v, H)) K = K v H := rfl
theorem kb0 : ∀ k : Fin 214, (((((ab_byt.getD 0 []).getD k.val 0) &&& (255 : Int32)) : Int32).toUInt32 % 65536).toInt32 = nI (kch k.val) ∧ kch k.val < 128 := by decide +kernel
theorem ch16 : ∀ c : Fin 256, (nI c.val).toUInt32.toUInt16.toUInt32.toInt32 = nI c.val := by decide +kernel
theorem ws0 : ∀ w : Fin 41, wst (w.val + 1) = wst w.val + wl w.val + 1 ∧ wst (w.val + 1) ≤ 214 ∧ 2 ≤ wl w.val ∧ wl w.val ≤ 9 ∧ kch (wst w.val + wl w.val) = 32 := by decide +kernel
theorem ws1 : ∀ w : Fin 41, ∀ c : Fin 9, c.val < wl w.val → ¬ kch (wst w.val + c.val) = 32 := by decide +kernel
theorem ws_n {w : Nat} (h : w < 41) : wst (w + 1) = wst w + wl w + 1 ∧ wst (w + 1) ≤ 214 ∧ 2 ≤ wl w ∧ wl w ≤ 9 ∧ kch (wst w + wl w) = 32 := ws0 ⟨w, h⟩
theorem ws_b {w c : Nat} (h : w < 41) (hc : c < wl w) : ¬ kch (wst w + c) = 32 := ws1 ⟨w, h⟩ ⟨c, by have := (ws_n h).2.2.2.1; omega⟩ hc
theorem ev_kc {N k : Nat} {H : Hp} (h : k < 214) : F_Str_charAt_K0 N (nI k) H = some (nI (kch k), H) := by
  obtain ⟨e, hk⟩ := kb0 ⟨k, h⟩
  have e' : (((((ab_byt.getD 0 []).getD k 0) &&& (255 : Int32)) : Int32).toUInt32 % 65536).toInt32 = nI (kch k) := e
  have hk' : kch k < 128 := hk
  have z : (nI (kch k)).toUInt32.toUInt16.toUInt32.toInt32 = nI (kch k) := ch16 ⟨kch k, by omega⟩
  have e1 : F_Str_isLatin1_K0 N H = some (1, H) := by unfold F_Str_isLatin1_K0; rw [if_neg (by decide), if_pos rfl]
  have e2 : F_Str_checkIndex N (nI k) 214 H = some ((), H) := by
    unfold F_Str_checkIndex F_Pre_checkIndex
    rw [ck_t (nI_pos (by omega)), ck_t (show nI k < (214 : Int32) from nI_lt (b := 214) h (by decide))]
    rfl
  have e3 : F_SL_charAt_K100 N (nI k) H = some (nI (kch k), H) := by
    unfold F_SL_charAt_K100
    rw [bC_t e2, ck_t (nI_in (by omega) (by decide)), nI_clamp (by omega), bnd_t, bnd_t, e', ck_t z]
  unfold F_Str_charAt_K0
  rw [bC_t e1, if_neg (by decide), bC_t e3, ck_t z]
theorem kc_lt {k : Nat} (h : k < 214) : kch k < 128 := (kb0 ⟨k, h⟩).2
/-- the letters from c on agree with those of word w -/
def mtc (g : Nat → Nat) (i w : Nat) : Nat → Nat → Bool
  | 0, _ => true
  | k + 1, c => decide (g (i + c) = kch (wst w + c)) && mtc g i w k (c + 1)
/-- which kept word stands at i -/
def kf (g : Nat → Nat) (i len : Nat) : Nat → Nat → Option Nat
  | 0, _ => none
  | k + 1, w => if wl w = len ∧ mtc g i w len 0 = true then some w else kf g i len k (w + 1)
def kwk : Option Nat → Int32
  | none => 2
  | some w => nI (40 + w)
def kwt : Option Nat → Int32
  | none => 1
  | some w => nI (200 + w)
theorem kf_some {g : Nat → Nat} {i len : Nat} : ∀ (k w v : Nat), w + k = 41 → kf g i len k w = some v → v < 41 ∧ wl v = len := by
  intro k
  induction k with
  | zero => intro w v _ h; cases h
  | succ k ih =>
    intro w v hw h
    simp only [kf] at h
    split at h
    · next c => cases h; exact ⟨by omega, c.1⟩
    · exact ih (w + 1) v (by omega) h
def StA (A : Hp) : Prop := ∀ w, w < 42 → A.D 7 w = nI (wst w)
theorem tk_w32 {N T i len w : Nat} {g : Nat → Nat} {A : Hp} {kq : Int32 → Hp → Option (Int32 × Hp)} (h : TA A T g) (hs : StA A) (hw : w < 41) (hl : wl w = len) (hi : i + len ≤ T) : ∀ (k n c : Nat), c + k = len → k < n →
    B_Lexer_wordOf_32 N 1 (nI i) (nI len) kq n (nI w) (nI c) A = if mtc g i w k c = true then some (nI (40 + w), A) else kq (nI (w + 1)) A := by
  have h0 := h
  obtain ⟨hG, hT, h6, hb, hg, hz⟩ := h0
  obtain ⟨w1, w2, w3, w4, w5⟩ := ws_n hw
  intro k
  induction k with
  | zero =>
    intro n c hc hn
    obtain ⟨n, rfl⟩ : ∃ m, n = m + 1 := ⟨n - 1, by omega⟩
    rw [B_Lexer_wordOf_32, if_pos (nI_le (by omega) (by omega))]
    simp only [B_Lexer_wordOf_69, mtc, if_true]
    rw [if_pos (by rw [show c = len by omega])]
    rw [show (40 : Int32) = nI 40 from rfl, nI_add]
  | succ k ih =>
    intro n c hc hn
    obtain ⟨n, rfl⟩ : ∃ m, n = m + 1 := ⟨n - 1, by omega⟩
    rw [B_Lexer_wordOf_32, if_neg (nI_ge (by omega) (by omega)), ck_t (rS_1 hG), nI_add, bC_t (tk_byte h (by omega)), rf_t (rP_1_12 hG), ar_t (rA_1_12 hG), ck_t (nI_in (by omega) (by decide)), nI_clamp (by omega), bnd_t, hs w (by omega), nI_add, bC_t (ev_kc (by omega))]
    have hk := kc_lt (k := wst w + c) (by omega)
    have hgi := hg (i + c)
    simp only [mtc]
    by_cases e : g (i + c) = kch (wst w + c)
    · rw [if_pos (by rw [e]), nI_1, ih n (c + 1) (by omega) (by omega)]
      simp only [e, decide_true, Bool.true_and]
    · rw [if_neg (fun z => e ((nI_eq (by omega) (by omega)).mp z))]
      simp only [e, decide_false, Bool.false_and, Bool.false_eq_true, if_false, B_Lexer_wordOf_69, B_Lexer_wordOf_80]
      rw [if_neg (fun z => by have := (nI_eq (by omega) (by omega)).mp z; omega), nI_1]
theorem tk_w2 {N T i len : Nat} {g : Nat → Nat} {A : Hp} (h : TA A T g) (hs : StA A) (hN : 6001 ≤ N) (hi : i + len ≤ T) : ∀ (k n w : Nat), w + k = 41 → k < n →
    B_Lexer_wordOf_2 N 1 (nI i) (nI len) n (nI w) A = some (kwk (kf g i len k w), A) := by
  have h0 := h
  obtain ⟨hG, hT, h6, hb, hg, hz⟩ := h0
  intro k
  induction k with
  | zero =>
    intro n w hw hn
    obtain ⟨n, rfl⟩ : ∃ m, n = m + 1 := ⟨n - 1, by omega⟩
    rw [B_Lexer_wordOf_2, if_pos (show (41 : Int32) ≤ nI w from nI_le (a := 41) (by omega) (by omega))]
    rfl
  | succ k ih =>
    intro n w hw hn
    obtain ⟨n, rfl⟩ : ∃ m, n = m + 1 := ⟨n - 1, by omega⟩
    obtain ⟨w1, w2, w3, w4, w5⟩ := ws_n (show w < 41 by omega)
    rw [B_Lexer_wordOf_2, if_neg (show ¬ (41 : Int32) ≤ nI w from nI_ge (b := 41) (by omega) (by omega)), ck_t (rS_1 hG), rf_t (rP_1_12 hG), ar_t (rA_1_12 hG), nI_1, ck_t (nI_in (by omega) (by decide)), nI_clamp (by omega), bnd_t, rf_t (rP_1_12 hG), ar_t (rA_1_12 hG), ck_t (nI_in (by omega) (by decide)), nI_clamp (by omega), bnd_t, hs w (by omega), hs (w + 1) (by omega)]
    rw [show nI (wst (w + 1)) - 1 - nI (wst w) = nI (wl w) by
      rw [show (1 : Int32) = nI 1 from rfl, pk_sub (by omega), pk_sub (by omega)]; rfl]
    simp only [kf]
    by_cases e : wl w = len
    · rw [if_pos (by rw [e])]
      refine (tk_w32 h hs (by omega) e hi len N 0 (by omega) (by omega)).trans ?_
      by_cases e2 : mtc g i w len 0 = true
      · rw [if_pos e2, if_pos ⟨e, e2⟩]; rfl
      · rw [if_neg e2, if_neg (fun z => e2 z.2)]
        exact ih n (w + 1) (by omega) (by omega)
    · rw [if_neg (fun z => e ((nI_eq (by omega) (by omega)).mp z)), if_neg (fun z => e z.1)]
      simp only [B_Lexer_wordOf_80, nI_1]
      exact ih n (w + 1) (by omega) (by omega)
theorem tk_word {N T i len : Nat} {g : Nat → Nat} {A : Hp} (h : TA A T g) (hs : StA A) (hN : 6001 ≤ N) (hi : i + len ≤ T) : F_Lexer_wordOf N 1 (nI i) (nI len) A = some (kwk (kf g i len 41 0), A) := by
  unfold F_Lexer_wordOf
  exact tk_w2 h hs hN hi 41 N 0 (by omega) (by omega)
/-! the reference's words -/
theorem tk_m137 {N w0 i v : Nat} {B : Hp} {l2 l3 : Int32} {kq : Int32 → Int32 → Int32 → Int32 → Hp → Option (Int32 × Hp)} (hv : v < 41) : ∀ (k n c : Nat), c + k = wl v → k < n →
    B_MText_word_137 N w0 (nI i) kq n l2 l3 (nI v) (nI (wst v + c)) B = kq l2 l3 (nI (v + 1)) (nI (wst (v + 1))) B := by
  obtain ⟨w1, w2, w3, w4, w5⟩ := ws_n hv
  intro k
  induction k with
  | zero =>
    intro n c hc hn
    obtain ⟨n, rfl⟩ : ∃ m, n = m + 1 := ⟨n - 1, by omega⟩
    rw [B_MText_word_137, bC_t (ev_kc (by omega)), show c = wl v by omega, w5, if_pos (by rfl), nI_1, nI_1, w1]
  | succ k ih =>
    intro n c hc hn
    obtain ⟨n, rfl⟩ : ∃ m, n = m + 1 := ⟨n - 1, by omega⟩
    have hk := kc_lt (k := wst v + c) (by omega)
    have hb := ws_b (c := c) hv (by omega)
    rw [B_MText_word_137, bC_t (ev_kc (by omega)), if_neg (show ¬ nI (kch (wst v + c)) = (32 : Int32) from fun z => hb ((nI_eq (b := 32) (by omega) (by omega)).mp z)), nI_1]
    exact ih n (c + 1) (by omega) (by omega)
theorem tk_m56 {N w0 T i len v : Nat} {g : Nat → Nat} {B : Hp} {kq : Int32 → Int32 → Int32 → Int32 → Hp → Option (Int32 × Hp)} (h : TB B w0 T g) (hN : 6001 ≤ N) (hv : v < 41) (hi : i + len ≤ T) : ∀ (k n c : Nat), c + k = wl v → c ≤ len → k < n →
    B_MText_word_56 N w0 (nI i) kq n (nI (i + len)) 1 (nI v) (nI (wst v)) (nI c) B = if wl v = len ∧ mtc g i v (len - c) c = true then kq (nI (i + len)) (nI (200 + v)) (nI (v + 1)) (nI (wst (v + 1))) B else kq (nI (i + len)) 1 (nI (v + 1)) (nI (wst (v + 1))) B := by
  have h0 := h
  obtain ⟨hG, hT, h6, hb, hg, hz⟩ := h0
  obtain ⟨w1, w2, w3, w4, w5⟩ := ws_n hv
  have el : nI (i + len) - nI i = nI len := by rw [pk_sub (by omega)]; congr 1; omega
  have e0 : ∀ {l3 : Int32}, B_MText_word_137 N w0 (nI i) kq N (nI (i + len)) l3 (nI v) (nI (wst v)) B = kq (nI (i + len)) l3 (nI (v + 1)) (nI (wst (v + 1))) B := fun {l3} => tk_m137 (c := 0) hv (wl v) N (by omega) (by omega)
  have e107 : ∀ c, c ≤ wl v → c ≤ len → B_MText_word_107 N w0 (nI i) kq (nI (i + len)) 1 (nI v) (nI (wst v)) (nI c) B = if c = len ∧ c = wl v then kq (nI (i + len)) (nI (200 + v)) (nI (v + 1)) (nI (wst (v + 1))) B else kq (nI (i + len)) 1 (nI (v + 1)) (nI (wst (v + 1))) B := by
    intro c h1 h2
    unfold B_MText_word_107
    rw [el]
    by_cases c1 : c = len
    · rw [if_pos (by rw [c1]), nI_add, bC_t (ev_kc (by omega))]
      by_cases c2 : c = wl v
      · rw [c2, w5, if_pos (by rfl), bnd_t, show (200 : Int32) = nI 200 from rfl, nI_add, e0, if_pos ⟨by omega, rfl⟩]
      · have hk := kc_lt (k := wst v + c) (by omega)
        have hb := ws_b (c := c) hv (by omega)
        rw [if_neg (show ¬ nI (kch (wst v + c)) = (32 : Int32) from fun z => hb ((nI_eq (b := 32) (by omega) (by omega)).mp z)), e0, if_neg (fun z => c2 z.2)]
    · rw [if_neg (fun z => c1 ((nI_eq (by omega) (by omega)).mp z)), e0, if_neg (fun z => c1 z.1)]
  intro k
  induction k with
  | zero =>
    intro n c hc hcl hn
    obtain ⟨n, rfl⟩ : ∃ m, n = m + 1 := ⟨n - 1, by omega⟩
    rw [B_MText_word_56, nI_add, bC_t (ev_kc (by omega)), show wst v + c = wst v + wl v by omega, w5, if_pos (by rfl), e107 c (by omega) hcl]
    by_cases c1 : c = len
    · rw [if_pos ⟨c1, by omega⟩, if_pos ⟨by omega, by rw [show len - c = 0 by omega]; rfl⟩]
    · rw [if_neg (fun z => c1 z.1), if_neg (fun z => by omega)]
  | succ k ih =>
    intro n c hc hcl hn
    obtain ⟨n, rfl⟩ : ∃ m, n = m + 1 := ⟨n - 1, by omega⟩
    have hk := kc_lt (k := wst v + c) (by omega)
    have hbb := ws_b (c := c) hv (by omega)
    rw [B_MText_word_56, nI_add, bC_t (ev_kc (by omega)), if_neg (show ¬ nI (kch (wst v + c)) = (32 : Int32) from fun z => hbb ((nI_eq (b := 32) (by omega) (by omega)).mp z)), el]
    by_cases c1 : c = len
    · rw [if_pos (nI_le (by omega) (by omega)), e107 c (by omega) hcl, if_neg (fun z => by omega), if_neg (fun z => by omega)]
    · rw [if_neg (nI_ge (by omega) (by omega)), bC_t (ev_kc (by omega)), ck_t (TS hG), rf_t (TP_0 hG), ar_t (TA_0 hG), nI_add, ck_t (nI_in (by omega) (by omega)), nI_clamp (by omega), bnd_t, hb (i + c) (by omega)]
      have hs := sx_eq0 ⟨g (i + c), hg (i + c)⟩ ⟨kch (wst v + c), hk⟩
      simp only at hs
      rw [show len - c = (len - (c + 1)) + 1 by omega]
      simp only [mtc]
      by_cases e : g (i + c) = kch (wst v + c)
      · rw [if_pos (hs.mpr e).symm, nI_1, ih n (c + 1) (by omega) (by omega) (by omega)]
        simp only [e, decide_true, Bool.true_and]
      · rw [if_neg (fun z => e (hs.mp z.symm)), e107 c (by omega) hcl, if_neg (fun z => c1 z.1)]
        simp only [e, decide_false, Bool.false_and, Bool.false_eq_true, and_false, if_false]
theorem tk_m38 {N w0 T i len : Nat} {g : Nat → Nat} {B : Hp} (h : TB B w0 T g) (hN : 6001 ≤ N) (hi : i + len ≤ T) : ∀ (k n v : Nat), v + k = 41 → k < n →
    B_MText_word_38 N w0 (nI i) n (nI (i + len)) 1 (nI v) (nI (wst v)) B = B_MText_word_164 N w0 (nI i) (nI (i + len)) (kwt (kf g i len k v)) B := by
  have eL : ∀ H : Hp, F_Str_length_K0 N H = some (nI 214, H) := by
    intro H
    unfold F_Str_length_K0 F_Str_coder_K0
    rw [if_neg (by decide), bC_v]
    rfl
  intro k
  induction k with
  | zero =>
    intro n v hv hn
    obtain ⟨n, rfl⟩ : ∃ m, n = m + 1 := ⟨n - 1, by omega⟩
    rw [B_MText_word_38, bC_t (eL B), show v = 41 by omega, if_pos (by decide)]
    rfl
  | succ k ih =>
    intro n v hv hn
    obtain ⟨n, rfl⟩ : ∃ m, n = m + 1 := ⟨n - 1, by omega⟩
    obtain ⟨w1, w2, w3, w4, w5⟩ := ws_n (show v < 41 by omega)
    rw [B_MText_word_38, bC_t (eL B), if_neg (nI_ge (by omega) (by omega)), if_pos rfl]
    rw [show (0 : Int32) = nI 0 from rfl, tk_m56 h hN (by omega) hi (wl v) N 0 (by omega) (by omega) (by omega)]
    simp only [kf, Nat.sub_zero]
    by_cases e : wl v = len ∧ mtc g i v len 0 = true
    · rw [if_pos e, if_pos e]
      obtain ⟨n, rfl⟩ : ∃ m, n = m + 1 := ⟨n - 1, by omega⟩
      rw [B_MText_word_38, bC_t (eL B)]
      have hne : ¬ nI (200 + v) = (1 : Int32) := fun z => by have := (nI_eq (b := 1) (by omega) (by omega)).mp z; omega
      simp only [hne, if_false, ite_self]
      rfl
    · rw [if_neg e, if_neg e]
      exact ih n (v + 1) (by omega) (by omega)
