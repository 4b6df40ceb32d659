/-! ===== the reference's signs and words ===== -/
def tvK (c d : Nat) : Nat :=
  if d = 61 ∧ c = 60 then 5 else if d = 61 ∧ c = 62 then 6 else if d = 61 ∧ c = 61 then 7 else if d = 61 ∧ c = 33 then 8
  else if c = 38 ∧ d = 38 then 9 else if c = 124 ∧ d = 124 then 10 else 0
theorem tv_sg (c d : Nat) : sgK c d = if tvK c d = 0 then (if SGL.idxOf c < 16 then 10 + SGL.idxOf c else 1) else tvK c d + 21 := by
  unfold sgK tvK
  by_cases h1 : d = 61 ∧ c = 60
  · simp only [h1, and_self, if_true, show ¬ 5 = 0 by decide, if_false]
  · by_cases h2 : d = 61 ∧ c = 62
    · simp only [h1, h2, if_true, if_false, show ¬ 6 = 0 by decide, and_self, show ¬ 62 = 60 by decide, and_false]
    · by_cases h3 : d = 61 ∧ c = 61
      · simp only [h3, if_true, if_false, show ¬ 7 = 0 by decide, and_self, show ¬ 61 = 60 by decide, show ¬ 61 = 62 by decide, and_false]
      · by_cases h4 : d = 61 ∧ c = 33
        · simp only [h4, if_true, if_false, show ¬ 8 = 0 by decide, and_self, show ¬ 33 = 60 by decide, show ¬ 33 = 62 by decide, show ¬ 33 = 61 by decide, and_false]
        · by_cases h5 : c = 38 ∧ d = 38
          · simp only [h5, if_true, if_false, show ¬ 9 = 0 by decide, and_self, show ¬ 38 = 61 by decide, false_and]
          · by_cases h6 : c = 124 ∧ d = 124
            · simp only [h6, if_true, if_false, show ¬ 10 = 0 by decide, and_self, show ¬ 124 = 61 by decide, show ¬ 124 = 38 by decide, false_and]
            · simp only [h1, h2, h3, h4, h5, h6, if_false, if_true]
theorem tv_le (c d : Nat) : tvK c d ≤ 10 := by
  unfold tvK
  (repeat' split) <;> omega
theorem ms_two {N w c d : Nat} {p1 : Int32} {B : Hp} (hc : c < 256) (hd : d < 256) : F_MText_sign N w p1 (sx c) (sx d) B = B_MText_sign_102 N w p1 (sx c) (sx d) (nI (tvK c d)) B := by
  unfold F_MText_sign B_MText_sign_16 B_MText_sign_33 B_MText_sign_50 B_MText_sign_67 B_MText_sign_84 B_MText_sign_101 tvK
  simp only [sk60 hc, sk61 hc, sk62 hc, sk33 hc, sk38 hc, sk124 hc, sk61 hd, sk38 hd, sk124 hd]
  by_cases h1 : c = 60
  · subst h1
    by_cases q : d = 61
    · simp only [q, if_true, and_self]; rfl
    · simp only [q, if_false, if_true, false_and, and_false, show ¬ 60 = 62 by decide, show ¬ 60 = 61 by decide, show ¬ 60 = 33 by decide, show ¬ 60 = 38 by decide, show ¬ 60 = 124 by decide]; rfl
  · by_cases h2 : c = 62
    · subst h2
      by_cases q : d = 61
      · simp only [q, if_true, if_false, and_self, and_false, show ¬ 62 = 60 by decide]; rfl
      · simp only [q, if_false, if_true, false_and, and_false, show ¬ 62 = 60 by decide, show ¬ 62 = 61 by decide, show ¬ 62 = 33 by decide, show ¬ 62 = 38 by decide, show ¬ 62 = 124 by decide]; rfl
    · by_cases h3 : c = 61
      · subst h3
        by_cases q : d = 61
        · simp only [q, if_true, if_false, and_self, and_false, show ¬ 61 = 60 by decide, show ¬ 61 = 62 by decide]; rfl
        · simp only [q, if_false, if_true, false_and, and_false, show ¬ 61 = 60 by decide, show ¬ 61 = 62 by decide, show ¬ 61 = 33 by decide, show ¬ 61 = 38 by decide, show ¬ 61 = 124 by decide]; rfl
      · by_cases h4 : c = 33
        · subst h4
          by_cases q : d = 61
          · simp only [q, if_true, if_false, and_self, and_false, show ¬ 33 = 60 by decide, show ¬ 33 = 62 by decide, show ¬ 33 = 61 by decide]; rfl
          · simp only [q, if_false, if_true, false_and, and_false, show ¬ 33 = 60 by decide, show ¬ 33 = 62 by decide, show ¬ 33 = 61 by decide, show ¬ 33 = 38 by decide, show ¬ 33 = 124 by decide]; rfl
        · by_cases h5 : c = 38
          · subst h5
            by_cases q : d = 38
            · simp only [q, if_true, if_false, and_self, false_and, show ¬ 38 = 61 by decide, show ¬ 38 = 60 by decide, show ¬ 38 = 62 by decide, show ¬ 38 = 33 by decide]; rfl
            · simp only [q, if_false, if_true, false_and, and_false, show ¬ 38 = 60 by decide, show ¬ 38 = 62 by decide, show ¬ 38 = 61 by decide, show ¬ 38 = 33 by decide, show ¬ 38 = 124 by decide]; rfl
          · by_cases h6 : c = 124
            · subst h6
              by_cases q : d = 124
              · simp only [q, if_true, if_false, and_self, false_and, show ¬ 124 = 61 by decide, show ¬ 124 = 60 by decide, show ¬ 124 = 62 by decide, show ¬ 124 = 33 by decide, show ¬ 124 = 38 by decide]; rfl
              · simp only [q, if_false, if_true, false_and, and_false, show ¬ 124 = 60 by decide, show ¬ 124 = 62 by decide, show ¬ 124 = 61 by decide, show ¬ 124 = 33 by decide, show ¬ 124 = 38 by decide]; rfl
            · simp only [h1, h2, h3, h4, h5, h6, if_false, and_false, false_and]; rfl
theorem ms_in0 : ∀ c : Fin 256, SGL.idxOf c.val < 16 → (c.val = 123 ∨ c.val = 125 ∨ c.val = 40 ∨ c.val = 41 ∨ c.val = 44 ∨ c.val = 59 ∨ c.val = 46 ∨ c.val = 61 ∨ c.val = 43 ∨ c.val = 45 ∨ c.val = 42 ∨ c.val = 47 ∨ c.val = 37 ∨ c.val = 60 ∨ c.val = 62 ∨ c.val = 33) ∧ tyK (10 + SGL.idxOf c.val) = c.val ∧ sx c.val = nI c.val := by decide +kernel
theorem ms_out0 : ∀ c : Fin 256, ¬ SGL.idxOf c.val < 16 → ¬ c.val = 123 ∧ ¬ c.val = 125 ∧ ¬ c.val = 40 ∧ ¬ c.val = 41 ∧ ¬ c.val = 44 ∧ ¬ c.val = 59 ∧ ¬ c.val = 46 ∧ ¬ c.val = 61 ∧ ¬ c.val = 43 ∧ ¬ c.val = 45 ∧ ¬ c.val = 42 ∧ ¬ c.val = 47 ∧ ¬ c.val = 37 ∧ ¬ c.val = 60 ∧ ¬ c.val = 62 ∧ ¬ c.val = 33 := by decide +kernel
theorem ms_one {N w c : Nat} {p1 p3 l4 : Int32} {B : Hp} (hc : c < 256) : B_MText_sign_102 N w p1 (sx c) p3 l4 B = B_MText_sign_205 N w p1 (sx c) p3 l4 (bI (decide (SGL.idxOf c < 16))) B := by
  unfold B_MText_sign_102 B_MText_sign_200
  simp only [sk123 hc, sk125 hc, sk40 hc, sk41 hc, sk44 hc, sk59 hc, sk46 hc, sk61 hc, sk43 hc, sk45 hc, sk42 hc, sk47 hc, sk37 hc, sk60 hc, sk62 hc, sk33 hc]
  by_cases q : SGL.idxOf c < 16
  · rw [show decide (SGL.idxOf c < 16) = true from decide_eq_true q]
    have z := (ms_in0 ⟨c, hc⟩ q).1
    simp only at z
    rcases z with z | z | z | z | z | z | z | z | z | z | z | z | z | z | z | z <;> simp only [z, ite_self, if_true] <;> rfl
  · rw [show decide (SGL.idxOf c < 16) = false from decide_eq_false q]
    obtain ⟨z1, z2, z3, z4, z5, z6, z7, z8, z9, z10, z11, z12, z13, z14, z15, z16⟩ := ms_out0 ⟨c, hc⟩ q
    simp only at z1 z2 z3 z4 z5 z6 z7 z8 z9 z10 z11 z12 z13 z14 z15 z16
    simp only [z1, z2, z3, z4, z5, z6, z7, z8, z9, z10, z11, z12, z13, z14, z15, z16, if_false]
    rfl
theorem tk_msign {N w c d i n : Nat} {B : Hp} (hG : isT B w) (hn : B.D w 2 = nI n) (h : n < 6002) (hc : c < 256) (hd : d < 256) (hi : i < 6000) : F_MText_sign N w (nI i) (sx c) (sx d) B = some (nI (if sgK c d < 26 then i + 1 else i + 2), tokB B w n (nI (tyK (sgK c d))) (nI i) (nI (if sgK c d < 26 then 1 else 2))) := by
  rw [ms_two hc hd, ms_one hc]
  have h10 := tv_le c d
  have e240 : ∀ (l4 t m : Int32), B_MText_sign_240 N w (nI i) (sx c) (sx d) l4 w t (nI i) (nI i) m B = some ((if l4 ≤ 0 then nI i + 1 else nI i + 2), tokB B w n t (nI i) (nI i + m - nI i)) := by
    intro l4 t m
    unfold B_MText_sign_240
    rw [ck_t (TS hG), bC_t (tk_token hG hn h)]
    split <;> rfl
  have em : ∀ m : Nat, nI i + nI m - nI i = nI m := fun m => by rw [nI_add, pk_sub (by omega)]; congr 1; omega
  unfold B_MText_sign_205 B_MText_sign_228
  simp only [e240]
  rw [tv_sg]
  have hm1 : nI (i + 1) - nI i = nI 1 := by rw [← nI_add]; exact em 1
  by_cases q : tvK c d = 0
  · rw [q]
    simp only [if_true, show nI 0 ≤ (0 : Int32) from by decide]
    by_cases q2 : SGL.idxOf c < 16
    · obtain ⟨-, z2, z3⟩ := ms_in0 ⟨c, hc⟩ q2
      simp only at z2 z3
      simp only [q2, decide_true, bI_t0, if_true, if_false, show 10 + SGL.idxOf c < 26 by omega, z2, z3, nI_1, hm1]
    · simp only [q2, decide_false, bI_f, if_true, if_false, show (1 : Nat) < 26 by decide, nI_1, hm1]
      rfl
  · have z : ¬ nI (tvK c d) ≤ (0 : Int32) := nI_nle (by omega) (by omega)
    have hm : nI (i + 2) - nI i = nI 2 := by rw [← nI_add]; exact em 2
    have h5 : 5 ≤ tvK c d := by
      unfold tvK at q ⊢
      (repeat' split) <;> simp_all
    have et : tyK (tvK c d + 21) = tvK c d := by
      have : tvK c d = 5 ∨ tvK c d = 6 ∨ tvK c d = 7 ∨ tvK c d = 8 ∨ tvK c d = 9 ∨ tvK c d = 10 := by omega
      rcases this with e | e | e | e | e | e <;> rw [e] <;> rfl
    simp only [q, z, if_false, show ¬ tvK c d + 21 < 26 by omega, hm, et, show nI i + 2 = nI (i + 2) from nI_add i 2]
def wdB (B : Hp) (w c : Nat) (t b m : Int32) (o : Bool) : Hp := (tokB B w c t b m).sD (w + 6) c (bI o)
theorem TB.wd {B : Hp} {w T c : Nat} {g : Nat → Nat} {t b m : Int32} {o : Bool} (h : TB B w T g) : TB (wdB B w c t b m o) w T g := h.tok.sD (by omega) (by omega)
theorem wd_n {B : Hp} {w c : Nat} {t b m : Int32} {o : Bool} : (wdB B w c t b m o).D w 2 = nI (c + 1) := by
  unfold wdB
  rw [rdw (by omega)]
  exact tok_n
theorem tk_mword {N w T i c : Nat} {g : Nat → Nat} {B : Hp} (h : TB B w T g) (hN : 6001 ≤ N) (hi : i ≤ T) (hc : B.D w 2 = nI c) (hc6 : c < 6002) : F_MText_word N w (nI i) B = some (nI (we g (T - i) i), wdB B w c (kwt (kf g i (we g (T - i) i - i) 41 0)) (nI i) (nI (we g (T - i) i - i)) (decide (12 < we g (T - i) i - i))) := by
  have h0 := h
  obtain ⟨hG, hT, h6, hb, hg, hz⟩ := h0
  have hw := we_ge (g := g) (T - i) i
  unfold F_MText_word
  rw [tk_mn h (T - i) N i (by omega) (by omega)]
  obtain ⟨len, hl⟩ : ∃ len, we g (T - i) i = i + len := ⟨we g (T - i) i - i, by omega⟩
  rw [hl, show i + len - i = len by omega]
  refine (tk_m38 h hN (len := len) (by omega) 41 N 0 (by omega) (by omega)).trans ?_
  have hG2 : ∀ t, isT (tokB B w c t (nI i) (nI (i + len) - nI i)) w := fun _ => hG
  have el : nI (i + len) - nI i = nI len := by rw [pk_sub (by omega)]; congr 1; omega
  have fin : ∀ (t : Int32) (o : Bool), (ar (tokB B w c t (nI i) (nI len)) 102 (w + 6) fun n33 =>
    ck (inb (nI c) n33) <|
    bnd ((tokB B w c t (nI i) (nI len)).sD (w + 6) ((nI c)).toNatClampNeg (vp_nar .boolean (bI o))) fun H36 =>
    some (nI (i + len), H36)) = some (nI (i + len), wdB B w c t (nI i) (nI len) o) := by
    intro t o
    have g2 : isT (tokB B w c t (nI i) (nI len)) w := hG
    rw [ar_t (TA_7 g2), ck_t (nI_in hc6 (by decide)), nI_clamp (by omega), bnd_t, bI_nar]
    rfl
  unfold B_MText_word_164
  rw [ck_t (TS hG), bC_t (tk_token hG hc hc6), rf_t (TP_7 (hG2 _)), bnd_t, tok_n, nI_m, el]
  cases hk : kf g i len 41 0 with
  | none =>
    rw [show kwt none = 1 from rfl, if_pos rfl]
    by_cases q : 12 < len
    · rw [if_neg (show ¬ nI len ≤ (12 : Int32) from nI_ge (a := 12) q (by omega)), show decide (12 < len) = true from decide_eq_true q]
      exact fin 1 true
    · rw [if_pos (show nI len ≤ (12 : Int32) from nI_le (b := 12) (by omega) (by decide)), show decide (12 < len) = false from decide_eq_false q]
      exact fin 1 false
  | some v =>
    obtain ⟨v1, v2⟩ := kf_some 41 0 v (by omega) hk
    have v3 := (ws_n v1).2.2.2.1
    rw [show kwt (some v) = nI (200 + v) from rfl, if_neg (show ¬ nI (200 + v) = (1 : Int32) from fun z => by have := (nI_eq (b := 1) (by omega) (by decide)).mp z; omega), show decide (12 < len) = false from decide_eq_false (by omega)]
    exact fin _ false
