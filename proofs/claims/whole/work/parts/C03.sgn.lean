/-! ===== signs ===== -/
def SGL : List Nat := [123, 125, 40, 41, 44, 59, 46, 61, 43, 45, 42, 47, 37, 60, 62, 33]
/-- kind of a sign: c stands there, d behind it -/
def sgK (c d : Nat) : Nat :=
  if d = 61 ∧ c = 60 then 26 else if d = 61 ∧ c = 62 then 27 else if d = 61 ∧ c = 61 then 28 else if d = 61 ∧ c = 33 then 29
  else if c = 38 ∧ d = 38 then 30 else if c = 124 ∧ d = 124 then 31
  else if SGL.idxOf c < 16 then 10 + SGL.idxOf c else 1
/-- the reference's type for a kind -/
def tyK (k : Nat) : Nat := if k = 0 then 0 else if k = 1 then 4 else if k = 2 then 1 else if k = 3 then 2 else if k = 4 then 3 else if k < 26 then SGL.getD (k - 10) 0 else if k < 32 then k - 21 else k + 160
def sgix (v : Int32) : Nat → Nat → Int32
  | 0, _ => -1
  | k + 1, i => if (ab_byt.getD 2 []).getD i 0 = v then nI i else sgix v k (i + 1)
theorem sg_ix {N : Nat} {p1 p2 : Int32} {v : Int32} {H : Hp} : ∀ (k n i : Nat), i + k = 16 → k < n → B_SL_indexOfChar_K102_7 N p1 p2 16 n v (nI i) H = some (sgix v k i, H) := by
  intro k
  induction k with
  | zero =>
    intro n i hi hn
    obtain ⟨n, rfl⟩ : ∃ m, n = m + 1 := ⟨n - 1, by omega⟩
    rw [B_SL_indexOfChar_K102_7, if_pos (show (16 : Int32) ≤ nI i from nI_le (a := 16) (by omega) (by omega))]
    rfl
  | succ k ih =>
    intro n i hi hn
    obtain ⟨n, rfl⟩ : ∃ m, n = m + 1 := ⟨n - 1, by omega⟩
    rw [B_SL_indexOfChar_K102_7, if_neg (show ¬ (16 : Int32) ≤ nI i from nI_ge (b := 16) (by omega) (by omega)), ck_t (nI_in (by omega) (by decide)), nI_clamp (by omega), bnd_t]
    simp only [sgix]
    by_cases c : (ab_byt.getD 2 []).getD i 0 = v
    · rw [if_pos c, if_pos c]
    · rw [if_neg c, if_neg c, nI_1]
      exact ih n (i + 1) (by omega) (by omega)
theorem sg_all : ∀ c : Fin 256, sgix (((nI c.val).toUInt32 % 65536).toInt32.toInt8.toInt32) 16 0 = (if SGL.idxOf c.val < 16 then nI (SGL.idxOf c.val) else -1) ∧ ¬ ((nI c.val).toUInt32 % 65536).toInt32 < 0 ∧ ¬ (255 : Int32) < ((nI c.val).toUInt32 % 65536).toInt32 := by decide +kernel
theorem sg_ev {N c : Nat} {H : Hp} (hN : 6001 ≤ N) (hc : c < 256) : F_Str_indexOf_K2 N (((nI c : Int32).toUInt32 % 65536).toInt32) H = some ((if SGL.idxOf c < 16 then nI (SGL.idxOf c) else -1), H) := by
  obtain ⟨e1, e2, e3⟩ := sg_all ⟨c, hc⟩
  simp only at e1 e2 e3
  have f1 : F_Str_isLatin1_K2 N H = some (1, H) := by unfold F_Str_isLatin1_K2; rw [if_neg (by decide), if_pos rfl]
  have f2 : F_Str_length_K2 N H = some (16, H) := by
    unfold F_Str_length_K2 F_Str_coder_K2
    rw [if_neg (by decide), bC_v]
    rfl
  have f3 : F_SL_canEncode N (((nI c : Int32).toUInt32 % 65536).toInt32) H = some (1, H) := by
    unfold F_SL_canEncode
    rw [if_neg e2, if_neg e3]
  have f4 : F_Math_max N 0 0 H = some (0, H) := by unfold F_Math_max; rw [if_neg (by decide)]
  have f5 : F_Math_min N 16 16 H = some (16, H) := by unfold F_Math_min; rw [if_neg (by decide)]
  unfold F_Str_indexOf_K2 F_Str_indexOf2_K2
  rw [bC_t f1, if_neg (by decide), bC_t f2]
  unfold F_SL_indexOf_K102 F_SL_indexOfChar_K102
  rw [bC_t f3, if_neg (by decide), bC_t f4, bC_t f5, if_pos (by decide), bnd_t]
  rw [bC_t (show B_SL_indexOfChar_K102_7 N (((nI c : Int32).toUInt32 % 65536).toInt32) 0 16 N _ 0 H = some (_, H) from sg_ix 16 N 0 (by omega) (by omega)), e1]
  rfl
theorem tk_sign {N T i c : Nat} {g : Nat → Nat} {A : Hp} (h : TA A T g) (hN : 6001 ≤ N) (hi : i < T) (hc : A.D 1 10 = nI c) (hc6 : c < 6001) : ∃ e, F_Lexer_behindSign N 1 (nI i) A = some (nI e, noteA A c (nI (sgK (g i) (g (i + 1)))) (nI i) 0 (bI false)) ∧ (sgK (g i) (g (i + 1)) ≠ 1 → e = if sgK (g i) (g (i + 1)) < 26 then i + 1 else i + 2) ∧ (i < e ∧ e ≤ i + 2) := by
  have h0 := h
  obtain ⟨hG, hT, h6, hb, hg, hz⟩ := h0
  have hr : F_Lexer_behindSign N 1 (nI i) A = B_Lexer_behindSign_27 N 1 (nI i) (nI (g i)) (nI (g (i + 1))) A := by
    unfold F_Lexer_behindSign
    rw [ck_t (rS_1 hG), bC_t (tk_byte h (by omega)), bnd_t, hT, nI_1]
    by_cases q : i + 1 < T
    · rw [if_neg (nI_ge q (by omega)), bC_t (tk_byte h (by omega))]
    · rw [if_pos (nI_le (by omega) (by omega)), hz (i + 1) (by omega)]
      rfl
  rw [hr]
  have hgi := hg i
  have hg1 := hg (i + 1)
  obtain ⟨x, hx⟩ : ∃ x, x = g i := ⟨_, rfl⟩
  obtain ⟨y, hy⟩ : ∃ y, y = g (i + 1) := ⟨_, rfl⟩
  rw [← hx] at hgi ⊢
  rw [← hy] at hg1 ⊢
  have e2 : nI i + 2 = nI (i + 2) := nI_add i 2
  have en : ∀ k : Int32, F_Lexer_note N 1 k (nI i) 0 0 A = some ((), noteA A c k (nI i) 0 (bI false)) := fun k => by
    rw [tk_note hG hc hc6]
    rfl
  have e167 : ∀ k : Int32, B_Lexer_behindSign_167 N 1 (nI i) k A = some (nI (i + 2), noteA A c k (nI i) 0 (bI false)) := fun k => by
    unfold B_Lexer_behindSign_167
    rw [ck_t (rS_1 hG), bC_t (en k), e2]
  have nk : ∀ (k : Nat), k < 2 ^ 31 → ((nI x = nI k) = (x = k)) := fun k hk => propext (nI_eq (by omega) hk)
  have nk2 : ∀ (k : Nat), k < 2 ^ 31 → ((nI y = nI k) = (y = k)) := fun k hk => propext (nI_eq (by omega) hk)
  have x60 : (nI x = (60 : Int32)) = (x = 60) := nk 60 (by decide)
  have x62 : (nI x = (62 : Int32)) = (x = 62) := nk 62 (by decide)
  have x61 : (nI x = (61 : Int32)) = (x = 61) := nk 61 (by decide)
  have x33 : (nI x = (33 : Int32)) = (x = 33) := nk 33 (by decide)
  have x38 : (nI x = (38 : Int32)) = (x = 38) := nk 38 (by decide)
  have x124 : (nI x = (124 : Int32)) = (x = 124) := nk 124 (by decide)
  have y61 : (nI y = (61 : Int32)) = (y = 61) := nk2 61 (by decide)
  have yx : (nI y = nI x) = (y = x) := propext (nI_eq (by omega) (by omega))
  have e136 : ∃ e, B_Lexer_behindSign_136 N 1 (nI i) (nI x) 1 A = some (nI e, noteA A c (nI (if SGL.idxOf x < 16 then 10 + SGL.idxOf x else 1)) (nI i) 0 (bI false)) ∧ (SGL.idxOf x < 16 → e = i + 1) ∧ (i < e ∧ e ≤ i + 2) := by
    unfold B_Lexer_behindSign_136
    rw [bC_t (sg_ev hN hgi)]
    by_cases q : SGL.idxOf x < 16
    · rw [if_pos q, if_neg (nI_pos (by omega)), bC_t (sg_ev hN hgi), if_pos q, if_pos q, ck_t (rS_1 hG), bC_t (en _), nI_1, show (10 : Int32) = nI 10 from rfl, nI_add]
      exact ⟨i + 1, rfl, fun _ => rfl, by omega⟩
    · rw [if_neg q, if_pos (by decide), if_neg q, e167]
      exact ⟨i + 2, rfl, fun z => absurd z q, by omega⟩
  unfold B_Lexer_behindSign_27 B_Lexer_behindSign_61 B_Lexer_behindSign_96 B_Lexer_behindSign_101 B_Lexer_behindSign_118 B_Lexer_behindSign_131
  simp only [x60, x62, x61, x33, x38, x124, y61, yx, e167]
  obtain ⟨e, w1, w2, w3⟩ := e136
  rw [w1]
  unfold sgK
  by_cases a1 : y = 61
  · by_cases b1 : x = 60
    · simp only [a1, b1, and_self, if_true]; exact ⟨i + 2, rfl, fun _ => rfl, by omega⟩
    · by_cases b2 : x = 62
      · simp only [a1, b2, and_self, if_true, if_false, and_false, show ¬ 62 = 60 by decide]; exact ⟨i + 2, rfl, fun _ => rfl, by omega⟩
      · by_cases b3 : x = 61
        · simp only [a1, b3, and_self, if_true, if_false, and_false, show ¬ 61 = 60 by decide, show ¬ 61 = 62 by decide]; exact ⟨i + 2, rfl, fun _ => rfl, by omega⟩
        · by_cases b4 : x = 33
          · simp only [a1, b4, and_self, if_true, if_false, and_false, show ¬ 33 = 60 by decide, show ¬ 33 = 62 by decide, show ¬ 33 = 61 by decide]; exact ⟨i + 2, rfl, fun _ => rfl, by omega⟩
          · have b5 : ¬ 61 = x := fun z => b3 z.symm
            simp only [a1, b1, b2, b3, b4, b5, and_false, if_true, if_false, show ¬ 61 = 38 by decide, show ¬ 61 = 124 by decide]
            refine ⟨e, rfl, ?_, w3⟩
            split
            · next q => intro _; rw [if_pos (by omega)]; exact w2 q
            · intro z; exact absurd rfl z
  · by_cases a2 : y = x
    · by_cases b1 : x = 38
      · simp only [a2, b1, and_self, if_true, if_false, false_and, show ¬ 38 = 61 by decide]; exact ⟨i + 2, rfl, fun _ => rfl, by omega⟩
      · by_cases b2 : x = 124
        · simp only [a2, b2, and_self, if_true, if_false, false_and, show ¬ 124 = 61 by decide, show ¬ 124 = 38 by decide]; exact ⟨i + 2, rfl, fun _ => rfl, by omega⟩
        · simp only [a1, a2, b1, b2, if_true, if_false, false_and]
          rw [a2] at a1
          simp only [a1, if_false, false_and]
          refine ⟨e, rfl, ?_, w3⟩
          split
          · next q => intro _; rw [if_pos (by omega)]; exact w2 q
          · intro z; exact absurd rfl z
    · have n1 : ¬ (x = 38 ∧ y = 38) := fun z => a2 (by omega)
      have n2 : ¬ (x = 124 ∧ y = 124) := fun z => a2 (by omega)
      simp only [a1, a2, n1, n2, if_false, false_and]
      refine ⟨e, rfl, ?_, w3⟩
      split
      · next q => intro _; rw [if_pos (by omega)]; exact w2 q
      · intro z; exact absurd rfl z
