/-! ===== the reference's tokens ===== -/
def tokB (B : Hp) (w c : Nat) (t b m : Int32) : Hp := (((((B.sD (w + 2) c t).sD (w + 3) c b).sD (w + 4) c m).sD (w + 6) c 0).sD (w + 7) c (-1)).sD w 2 (nI (c + 1))
theorem isT.sD {H : Hp} {w a f : Nat} {v : Int32} (h : isT H w) : isT (H.sD a f v) w := h
theorem tk_token {N w c : Nat} {t b e : Int32} {B : Hp} (hG : isT B w) (hc : B.D w 2 = nI c) (h : c < 6002) : F_MText_token N w t b e B = some ((), tokB B w c t b (e - b)) := by
  unfold F_MText_token
  simp only [ck_t (TS hG), rf_t (TP_3 hG), ar_t (TA_3 hG), rf_t (TP_4 hG), ar_t (TA_4 hG), rf_t (TP_5 hG), ar_t (TA_5 hG), rf_t (TP_7 hG), ar_t (TA_7 hG), rf_t (TP_8 hG), ar_t (TA_8 hG), bnd_t, hc, sD_P, ar_sD, rdw (show w ≠ w + 2 by omega), rdw (show w ≠ w + 3 by omega), rdw (show w ≠ w + 4 by omega), rdw (show w ≠ w + 6 by omega), rdw (show w ≠ w + 7 by omega), ck_t (nI_in h (by decide)), nI_clamp (show c < 2 ^ 31 by omega), nI_1]
  rfl
theorem TB.sD {B : Hp} {w T : Nat} {g : Nat → Nat} (h : TB B w T g) {a f : Nat} {v : Int32} (h1 : ¬ (w = a ∧ 1 = f)) (h2 : w + 1 ≠ a) : TB (B.sD a f v) w T g := by
  obtain ⟨hG, hT, h6, hb, hg, hz⟩ := h
  refine ⟨hG.sD, ?_, h6, fun i hi => ?_, hg, hz⟩
  · rw [sD_D, up2_ne h1]; exact hT
  · rw [rdw h2]; exact hb i hi
theorem TB.tok {B : Hp} {w T c : Nat} {g : Nat → Nat} {t b m : Int32} (h : TB B w T g) : TB (tokB B w c t b m) w T g := (((((h.sD (by omega) (by omega)).sD (by omega) (by omega)).sD (by omega) (by omega)).sD (by omega) (by omega)).sD (by omega) (by omega)).sD (by omega) (by omega)
theorem tok_n {B : Hp} {w c : Nat} {t b m : Int32} : (tokB B w c t b m).D w 2 = nI (c + 1) := rds
/-- x: what the digits say; v: what the reference has of it -/
def RV (v x : Nat) : Prop := (x ≤ 2147483647 ∧ v = x) ∨ (2147483647 < x ∧ 2147483647 < v ∧ v ≤ 21474836479)
def mdx (N w : Nat) (p1 l2 : Int32) (l3 : Int64) (B : Hp) : Option (Int32 × Hp) :=
  bC (F_MText_letter N w l2 B) fun v10 H11 =>
    if v10 = (46 : Int32) then
    bC (F_MText_letter N w (l2 + (1 : Int32)) H11) fun v54 H55 =>
    bC (F_MText_isDigit N v54 H55) fun v57 H58 =>
    if v57 = (0 : Int32) then
    B_MText_digits_74 N w p1 l2 l3 H58
    else
    B_MText_digits_132 N w p1 N (l2 + 1) l3 (l2 + 1) 0 1 H58
    else
    B_MText_digits_74 N w p1 l2 l3 H11
theorem tk_m4 {N w T : Nat} {p1 : Int32} {g : Nat → Nat} {B : Hp} (h : TB B w T g) : ∀ (k n i x v : Nat), i + k = T → k < n → RV v x → ∃ v', RV v' (dq g k i x) ∧ B_MText_digits_4 N w p1 n (nI i) (lN v) B = mdx N w p1 (nI (de g k i)) (lN v') B := by
  have h0 := h
  obtain ⟨hG, hT, h6, hb, hg, hz⟩ := h0
  intro k
  induction k with
  | zero =>
    intro n i x v hi hn hv
    obtain ⟨n, rfl⟩ : ∃ m, n = m + 1 := ⟨n - 1, by omega⟩
    rw [B_MText_digits_4, ck_t (TS hG), bC_t (tk_letter h (by omega)), bC_t ev_MD, dgv_s (hg i), hz i (by omega), if_pos (by rfl)]
    exact ⟨v, hv, rfl⟩
  | succ k ih =>
    intro n i x v hi hn hv
    obtain ⟨n, rfl⟩ : ∃ m, n = m + 1 := ⟨n - 1, by omega⟩
    rw [B_MText_digits_4, ck_t (TS hG), bC_t (tk_letter h (by omega)), bC_t ev_MD, dgv_s (hg i)]
    simp only [dq, de]
    cases c1 : isDg (g i)
    · simp only [if_false, Bool.false_eq_true]
      rw [if_pos bI_f]
      exact ⟨v, hv, rfl⟩
    · simp only [if_true]
      rw [if_neg bI_t0]
      have hd := dg_le c1
      unfold B_MText_digits_44
      by_cases q : v ≤ 2147483647
      · rw [if_pos (show lg_cmp (lN v) (2147483647 : Int64) ≤ 0 from (lN_lgle (b := 2147483647) (by omega) (by decide)).mpr q), rf_t (TP_0 hG), ar_t (TA_0 hG), ck_t (nI_in (by omega) (by omega)), nI_clamp (by omega), bnd_t, hb i (by omega), sx_dg c1, bnd_t, nI_l (by omega), show (10 : Int64) * lN v + lN (g i) - (48 : Int64) = lN (10 * v + (g i - 48)) by
          rw [show (10 : Int64) = lN 10 from rfl, lN_mul, lN_add, show (48 : Int64) = lN 48 from rfl, lN_sub (by omega)]; congr 1; omega, nI_1]
        refine ih n (i + 1) _ _ (by omega) (by omega) ?_
        rcases hv with ⟨h1, rfl⟩ | ⟨h1, h2, h3⟩
        · by_cases q2 : 10 * v + (g i - 48) ≤ 2147483647
          · exact Or.inl ⟨q2, rfl⟩
          · exact Or.inr ⟨by omega, by omega, by omega⟩
        · omega
      · rw [if_neg (show ¬ lg_cmp (lN v) (2147483647 : Int64) ≤ 0 from fun z => q ((lN_lgle (b := 2147483647) (by rcases hv with ⟨_, rfl⟩ | ⟨_, _, _⟩ <;> omega) (by decide)).mp z)), nI_1]
        refine ih n (i + 1) _ _ (by omega) (by omega) ?_
        rcases hv with ⟨h1, rfl⟩ | ⟨h1, h2, h3⟩
        · omega
        · exact Or.inr ⟨by omega, by omega, by omega⟩
/-- a number's token -/
def numB (B : Hp) (w c : Nat) (t b m : Int32) (o : Bool) (v : Int32) : Hp := ((tokB B w c t b m).sD (w + 6) c (bI o)).sD (w + 5) c v
theorem TB.num {B : Hp} {w T c : Nat} {g : Nat → Nat} {t b m v : Int32} {o : Bool} (h : TB B w T g) : TB (numB B w c t b m o v) w T g := (h.tok.sD (by omega) (by omega)).sD (by omega) (by omega)
theorem num_n {B : Hp} {w c : Nat} {t b m v : Int32} {o : Bool} : (numB B w c t b m o v).D w 2 = nI (c + 1) := by
  unfold numB
  rw [rdw (by omega), rdw (by omega)]
  exact tok_n
theorem nI_m {c : Nat} : nI (c + 1) - 1 = nI c := nI_pred c
theorem tk_m74 {N w c v x e : Nat} {p1 : Int32} {B : Hp} (hG : isT B w) (hc : B.D w 2 = nI c) (h : c < 6002) (hv : RV v x) : B_MText_digits_74 N w p1 (nI e) (lN v) B = some (nI e, numB B w c 2 p1 (nI e - p1) (decide (2147483647 < x)) (nI v)) := by
  have hG2 : isT (tokB B w c 2 p1 (nI e - p1)) w := hG
  have ht : ∀ o : Bool, B_MText_digits_104 N w p1 (nI e) (lN v) (w + 6) (nI c) (bI o) (tokB B w c 2 p1 (nI e - p1)) = some (nI e, numB B w c 2 p1 (nI e - p1) o (nI v)) := by
    intro o
    unfold B_MText_digits_104
    simp only [ar_t (TA_7 hG2), ck_t (nI_in h (by decide)), nI_clamp (show c < 2 ^ 31 by omega), bnd_t, bI_nar, ck_t (TS hG2), sD_sh, sD_P, rf_t (TP_6 hG2), rdw (show w ≠ w + 6 by omega), tok_n, nI_m, ar_sD, ar_t (TA_6 hG2), lN_i]
    rfl
  unfold B_MText_digits_74
  rw [ck_t (TS hG), bC_t (tk_token hG hc h), rf_t (TP_7 hG2), bnd_t, tok_n, nI_m]
  rcases hv with ⟨h1, rfl⟩ | ⟨h1, h2, h3⟩
  · rw [if_pos (show lg_cmp (lN v) (2147483647 : Int64) ≤ 0 from (lN_lgle (b := 2147483647) (by omega) (by decide)).mpr h1), show decide (2147483647 < v) = false from decide_eq_false (by omega)]
    exact ht false
  · rw [if_neg (show ¬ lg_cmp (lN v) (2147483647 : Int64) ≤ 0 from fun z => by have := (lN_lgle (b := 2147483647) (by omega) (by decide)).mp z; omega), show decide (2147483647 < x) = true from decide_eq_true h1]
    exact ht true
theorem tk_m132 {N w T q c v : Nat} {p1 : Int32} {g : Nat → Nat} {B : Hp} (h : TB B w T g) (hc : B.D w 2 = nI c) (hc6 : c < 6002) (hv : v ≤ 21474836479) : ∀ (k n i d y s : Nat), i + k = T → k < n → i = q + d → y < s → s = 10 ^ (min d 4) → B_MText_digits_132 N w p1 n (nI i) (lN v) (nI q) (lN y) (lN s) B = some (nI (de g k i), numB B w c 3 p1 (nI (de g k i) - p1) (decide (32767 < v ∨ 4 < (fq g k i d y s).2.2)) (nI (65536 * v + (131072 * (fq g k i d y s).1 + (fq g k i d y s).2.1) / (2 * (fq g k i d y s).2.1)))) := by
  have h0 := h
  obtain ⟨hG, hT, h6, hb, hg, hz⟩ := h0
  have ex : ∀ i d y s : Nat, i = q + d → i ≤ T → y < s → s ≤ 10000 → (bC (F_MText_token N w (3 : Int32) p1 (nI i) B) fun v69 H70 =>
    rf (H70.P w 7) fun a71 =>
    bnd ((H70.D w 2)) fun x73 =>
    if (0 : Int32) < (lg_cmp (lN v) (32767 : Int64)) then
    B_MText_digits_218 N w p1 (nI i) (lN v) (lN y) (lN s) a71 (x73 - (1 : Int32)) H70
    else
    if (nI i - nI q) ≤ (4 : Int32) then
    B_MText_digits_223 N w p1 (nI i) (lN v) (lN y) (lN s) a71 (x73 - (1 : Int32)) 0 H70
    else
    B_MText_digits_218 N w p1 (nI i) (lN v) (lN y) (lN s) a71 (x73 - (1 : Int32)) H70) = some (nI i, numB B w c 3 p1 (nI i - p1) (decide (32767 < v ∨ 4 < d)) (nI (65536 * v + (131072 * y + s) / (2 * s)))) := by
    intro i d y s hi hiT hy hs
    have hG2 : isT (tokB B w c 3 p1 (nI i - p1)) w := hG
    have ht : ∀ o : Bool, B_MText_digits_223 N w p1 (nI i) (lN v) (lN y) (lN s) (w + 6) (nI c) (bI o) (tokB B w c 3 p1 (nI i - p1)) = some (nI i, numB B w c 3 p1 (nI i - p1) o (nI (65536 * v + (131072 * y + s) / (2 * s)))) := by
      intro o
      unfold B_MText_digits_223
      have e1 : (2 : Int64) * lN s = lN (2 * s) := by rw [show (2 : Int64) = lN 2 from rfl, lN_mul]
      have e2 : (65536 : Int64) * lN v + ((131072 : Int64) * lN y + lN s) / lN (2 * s) = lN (65536 * v + (131072 * y + s) / (2 * s)) := by
        rw [show (65536 : Int64) = lN 65536 from rfl, show (131072 : Int64) = lN 131072 from rfl, lN_mul, lN_mul, lN_add, lN_div (by omega) (by omega), lN_add]
      simp only [ar_t (TA_7 hG2), ck_t (nI_in hc6 (by decide)), nI_clamp (show c < 2 ^ 31 by omega), bnd_t, bI_nar, ck_t (TS hG2), sD_sh, sD_P, rf_t (TP_6 hG2), rdw (show w ≠ w + 6 by omega), tok_n, nI_m, ar_sD, ar_t (TA_6 hG2), e1, ck_t (lN_ne0 (show 2 * s < 2 ^ 63 by omega) (by omega)), e2, lN_i]
      rfl
    rw [bC_t (tk_token hG hc hc6), rf_t (TP_7 hG2), bnd_t, tok_n, nI_m, show nI i - nI q = nI d by rw [pk_sub (by omega)]; congr 1; omega]
    unfold B_MText_digits_218
    by_cases q1 : 32767 < v
    · rw [if_pos (show 0 < lg_cmp (lN v) (32767 : Int64) from (lN_lgpos (b := 32767) (by omega) (by decide)).mpr q1), show decide (32767 < v ∨ 4 < d) = true from decide_eq_true (Or.inl q1)]
      exact ht true
    · rw [if_neg (show ¬ 0 < lg_cmp (lN v) (32767 : Int64) from fun z => q1 ((lN_lgpos (b := 32767) (by omega) (by decide)).mp z))]
      by_cases q2 : 4 < d
      · rw [if_neg (show ¬ nI d ≤ (4 : Int32) from nI_ge (a := 4) q2 (by omega)), show decide (32767 < v ∨ 4 < d) = true from decide_eq_true (Or.inr q2)]
        exact ht true
      · rw [if_pos (show nI d ≤ (4 : Int32) from nI_le (b := 4) (by omega) (by decide)), show decide (32767 < v ∨ 4 < d) = false from decide_eq_false (by omega)]
        exact ht false
  have hp : ∀ d, 10 ^ (min d 4) ≤ 10000 := by
    intro d
    have : min d 4 = 0 ∨ 1 ≤ d := by omega
    rcases this with e | e
    · rw [e]; decide
    · exact (pw_even e).2.2
  intro k
  induction k with
  | zero =>
    intro n i d y s hi hn hq hy hs
    obtain ⟨n, rfl⟩ : ∃ m, n = m + 1 := ⟨n - 1, by omega⟩
    rw [B_MText_digits_132, ck_t (TS hG), bC_t (tk_letter h (by omega)), bC_t ev_MD, dgv_s (hg i), hz i (by omega), if_pos (by rfl)]
    exact ex i d y s hq (by omega) hy (by rw [hs]; exact hp d)
  | succ k ih =>
    intro n i d y s hi hn hq hy hs
    obtain ⟨n, rfl⟩ : ∃ m, n = m + 1 := ⟨n - 1, by omega⟩
    rw [B_MText_digits_132, ck_t (TS hG), bC_t (tk_letter h (by omega)), bC_t ev_MD, dgv_s (hg i)]
    by_cases c0 : isDg (g i) = false
    · rw [c0, if_pos bI_f]
      simp only [fq, de, c0, if_false, Bool.false_eq_true]
      exact ex i d y s hq (by omega) hy (by rw [hs]; exact hp d)
    · have c1 : isDg (g i) = true := by cases z : isDg (g i); exact absurd z c0; rfl
      rw [c1, if_neg bI_t0]
      simp only [fq, de, c1, if_true]
      have hd := dg_le c1
      unfold B_MText_digits_179
      rw [show nI i - nI q = nI d by rw [pk_sub (by omega)]; congr 1; omega]
      by_cases c4 : d < 4
      · rw [if_neg (show ¬ (4 : Int32) ≤ nI d from nI_ge (b := 4) c4 (by decide)), rf_t (TP_0 hG), ar_t (TA_0 hG), ck_t (nI_in (by omega) (by omega)), nI_clamp (by omega), bnd_t, hb i (by omega), sx_dg c1, bnd_t, bnd_t, nI_l (by omega), show (10 : Int64) * lN y + lN (g i) - (48 : Int64) = lN (10 * y + (g i - 48)) by
          rw [show (10 : Int64) = lN 10 from rfl, lN_mul, lN_add, show (48 : Int64) = lN 48 from rfl, lN_sub (by omega)]; congr 1; omega, show lN s * (10 : Int64) = lN (10 * s) by rw [show (10 : Int64) = lN 10 from rfl, lN_mul, Nat.mul_comm], nI_1]
        simp only [c4, if_true]
        exact ih n (i + 1) (d + 1) _ _ (by omega) (by omega) (by omega) (by omega) (by rw [hs, show min d 4 = d by omega, show min (d + 1) 4 = d + 1 by omega, Nat.pow_succ, Nat.mul_comm])
      · rw [if_pos (show (4 : Int32) ≤ nI d from nI_le (a := 4) (by omega) (by omega)), nI_1]
        simp only [c4, if_false]
        exact ih n (i + 1) (d + 1) _ _ (by omega) (by omega) (by omega) hy (by rw [hs, show min d 4 = 4 by omega, show min (d + 1) 4 = 4 by omega])
theorem tk_digits {N w T i c : Nat} {g : Nat → Nat} {B : Hp} (h : TB B w T g) (hN : 6001 ≤ N) (hi : i ≤ T) (hc : B.D w 2 = nI c) (hc6 : c < 6002) : ∃ v, F_MText_digits N w (nI i) B = some (nI (nmS g T i).1, numB B w c (nI (tyK (nmS g T i).2.1)) (nI i) (nI (nmS g T i).1 - nI i) (nmS g T i).2.2.2 v) ∧ ((nmS g T i).2.2.2 = false → v = (nmS g T i).2.2.1) := by
  have h0 := h
  obtain ⟨hG, hT, h6, hb, hg, hz⟩ := h0
  have hd := de_ge (g := g) (T - i) i
  unfold nmS
  obtain ⟨e, he⟩ : ∃ e, e = de g (T - i) i := ⟨_, rfl⟩
  obtain ⟨x, hx⟩ : ∃ x, x = dq g (T - i) i 0 := ⟨_, rfl⟩
  rw [← he] at hd
  rw [← he, ← hx]
  obtain ⟨v, hv, hR⟩ := tk_m4 (N := N) (p1 := nI i) h (T - i) N i 0 0 (by omega) (by omega) (Or.inl ⟨by omega, rfl⟩)
  rw [← he] at hR
  rw [← hx] at hv
  unfold F_MText_digits
  rw [show (0 : Int64) = lN 0 from rfl, hR]
  unfold mdx
  rw [bC_t (tk_letter h (by omega))]
  by_cases c1 : g e = 46
  · have hlt : e < T := by
      rcases Nat.lt_or_ge e T with z | z
      · exact z
      · have := hz e z; omega
    rw [if_pos (Eq.mpr (sk46 (hg e)) c1), nI_1, bC_t (tk_letter h (by omega)), bC_t ev_MD, dgv_s (hg (e + 1))]
    cases c2 : isDg (g (e + 1))
    · rw [if_pos bI_f, tk_m74 hG hc hc6 hv]
      simp only [c1, true_and, if_false, Bool.false_eq_true]
      refine ⟨nI v, rfl, fun z => ?_⟩
      have z2 : ¬ 2147483647 < x := of_decide_eq_false z
      rw [if_neg z2]
      rcases hv with ⟨h1, rfl⟩ | ⟨h1, h2, h3⟩
      · rfl
      · omega
    · rw [if_neg bI_t0]
      have hlt2 : e + 1 < T := by
        rcases Nat.lt_or_ge (e + 1) T with z | z
        · exact z
        · have z2 := hz (e + 1) z
          rw [z2] at c2
          cases c2
      have hv2 : v ≤ 21474836479 := by rcases hv with ⟨h1, rfl⟩ | ⟨h1, h2, h3⟩ <;> omega
      refine ⟨nI (65536 * v + (131072 * (fq g (T - (e + 1)) (e + 1) 0 0 1).1 + (fq g (T - (e + 1)) (e + 1) 0 0 1).2.1) / (2 * (fq g (T - (e + 1)) (e + 1) 0 0 1).2.1)), ?_, ?_⟩
      · refine (tk_m132 (q := e + 1) h hc hc6 hv2 (T - (e + 1)) N (e + 1) 0 0 1 (by omega) (by omega) (by omega) (by omega) (by decide)).trans ?_
        simp only [c1, true_and, if_true]
        have ed : (32767 < v ∨ 4 < (fq g (T - (e + 1)) (e + 1) 0 0 1).2.2) ↔ (32767 < x ∨ 4 < (fq g (T - (e + 1)) (e + 1) 0 0 1).2.2) := by
          rcases hv with ⟨h1, rfl⟩ | ⟨h1, h2, h3⟩
          · exact Iff.rfl
          · exact ⟨fun _ => Or.inl (by omega), fun _ => Or.inl (by omega)⟩
        rw [show decide (32767 < v ∨ 4 < (fq g (T - (e + 1)) (e + 1) 0 0 1).2.2) = decide (32767 < x ∨ 4 < (fq g (T - (e + 1)) (e + 1) 0 0 1).2.2) from decide_eq_decide.mpr ed]
        rfl
      · simp only [c1, true_and, if_true]
        intro z
        have z2 : ¬ (32767 < x ∨ 4 < (fq g (T - (e + 1)) (e + 1) 0 0 1).2.2) := of_decide_eq_false z
        rw [if_neg z2]
        rcases hv with ⟨h1, rfl⟩ | ⟨h1, h2, h3⟩
        · rfl
        · omega
  · rw [if_neg (fun z => c1 (Eq.mp (sk46 (hg e)) z)), tk_m74 hG hc hc6 hv]
    simp only [c1, false_and, if_false]
    refine ⟨nI v, rfl, fun z => ?_⟩
    have z2 : ¬ 2147483647 < x := of_decide_eq_false z
    rw [if_neg z2]
    rcases hv with ⟨h1, rfl⟩ | ⟨h1, h2, h3⟩
    · rfl
    · omega
