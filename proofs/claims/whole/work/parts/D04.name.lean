/-! ===== a name that is taken ===== -/
def nmT (g : Nat → Nat) (L : List (Nat × Nat × Int32 × Bool × Nat)) (t : Nat) : List Nat := (List.range (tkn L t)).map (fun c => g (tkp L t + c))
theorem nmT_len {g : Nat → Nat} {L : List (Nat × Nat × Int32 × Bool × Nat)} {t : Nat} : (nmT g L t).length = tkn L t := by simp [nmT]
theorem nmT_at {g : Nat → Nat} {L : List (Nat × Nat × Int32 × Bool × Nat)} {t j : Nat} (h : j < tkn L t) : (nmT g L t).getD j 0 = g (tkp L t + j) := by
  rw [List.getD_eq_getElem?_getD]
  simp [nmT, h]
theorem nmT_lt {g : Nat → Nat} {L : List (Nat × Nat × Int32 × Bool × Nat)} {t : Nat} (hg : ∀ i, g i < 256) (j : Nat) : (nmT g L t).getD j 0 < 256 := by
  by_cases h : j < tkn L t
  · rw [nmT_at h]; exact hg _
  · rw [List.getD_eq_getElem?_getD, List.getElem?_eq_none (by rw [nmT_len]; omega)]
    decide
theorem nw_sh {H : Hp} {s : Nat × Nat} {k : Nat} : (H.nw s k).sh = H.sh ++ [s] := rfl
theorem nw_sl {H : Hp} {s : Nat × Nat} {k : Nat} : (H.nw s k).sl = H.sl + k := rfl
theorem nw_D {H : Hp} {s : Nat × Nat} {k x y : Nat} (h : x ≠ H.sh.length) : (H.nw s k).D x y = H.D x y := if_neg h
theorem nw_P {H : Hp} {s : Nat × Nat} {k x y : Nat} (h : x ≠ H.sh.length) : (H.nw s k).P x y = H.P x y := if_neg h
theorem Gr.nw {H : Hp} (h : Gr H) {s : Nat × Nat} {k : Nat} : Gr (H.nw s k) := by
  have hl := h.len
  obtain ⟨⟨l, e⟩, h2⟩ := h
  refine ⟨⟨l ++ [s], by rw [nw_sh, e, List.append_assoc]⟩, fun q hq => ?_⟩
  have h3 := List.all_eq_true.mp rf0_fin q hq
  have hb : q.1 < 626 := by
    cases hs : sh0[q.1]? with
    | none => rw [hs] at h3; cases h3
    | some t =>
      have := (List.getElem?_eq_some_iff.mp hs).1
      rw [show sh0.length = 626 from by decide +kernel] at this
      exact this
  rw [nw_P (by omega)]
  exact h2 q hq
theorem ch_all : ∀ c : Fin 256, vp_nar .char ((((nI c.val) : Int32).toUInt32 % 65536).toInt32) = nI c.val ∧ nI c.val ≤ 255 ∧ vp_nar .byte ((nI c.val).toInt8.toInt32) = sx c.val := by
  intro c
  rw [vp_nar_char, vp_nar_byte]
  revert c
  decide +kernel
theorem nm_chars {N T pl len c0 : Nat} {g : Nat → Nat} (hl : pl + len ≤ T) (h6 : T ≤ 6000) (hc : 626 ≤ c0) (hg : ∀ i, g i < 256) : ∀ (k q j : Nat) (A : Hp), j + k = len → k < q → Gr A → A.sh[c0]? = some (103, len) → A.D 1 3 = nI pl → A.D 1 1 = nI T → (∀ i, i < T → A.D 2 i &&& 255 = nI (g i)) → (∀ i, i < j → A.D c0 i = nI (g (pl + i))) →
    ∃ A2, B_Lexer_takeName_78 N 1 q c0 (nI j) A = B_Lexer_takeName_122 N 1 c0 A2 ∧ same (fun a _ => a = c0) A A2 ∧ ∀ i, i < len → A2.D c0 i = nI (g (pl + i)) := by
  intro k
  induction k with
  | zero =>
    intro q j A hj hq hG hs h3 h1 hb hd
    obtain ⟨q, rfl⟩ : ∃ m, q = m + 1 := ⟨q - 1, by omega⟩
    rw [B_Lexer_takeName_78, ar_t hs, if_pos (show Int32.ofNat len ≤ nI j from nI_le (a := len) (by omega) (by omega))]
    exact ⟨A, rfl, same.rf, fun i hi => hd i (by omega)⟩
  | succ k ih =>
    intro q j A hj hq hG hs h3 h1 hb hd
    obtain ⟨q, rfl⟩ : ∃ m, q = m + 1 := ⟨q - 1, by omega⟩
    obtain ⟨v1, -, -⟩ := ch_all ⟨g (pl + j), hg _⟩
    simp only at v1
    rw [B_Lexer_takeName_78, ar_t hs, if_neg (show ¬ Int32.ofNat len ≤ nI j from nI_ge (b := len) (by omega) (by omega)), ck_t (rS_1 hG), bnd_t, bnd_t, h3, h1, nI_add, if_neg (nI_ge (by omega) (by omega)), rf_t (rP_1_0 hG), bnd_t, ar_t (rA_1_0 hG), nI_add, rdI (by omega) (by decide), hb (pl + j) (by omega), wrI (by omega) (by omega), v1, nI_1]
    obtain ⟨A2, r1, r2, r3⟩ := ih q (j + 1) (A.sD c0 j (nI (g (pl + j)))) (by omega) (by omega) hG.sD hs (by rw [rdw (by omega)]; exact h3) (by rw [rdw (by omega)]; exact h1) (fun i hi => by rw [rdw (by omega)]; exact hb i hi) (by
      intro i hi
      by_cases e : i = j
      · subst e; rw [rds]
      · rw [rdf e]; exact hd i (by omega))
    exact ⟨A2, r1, (same.sD (S := fun a _ => a = c0) same.rf rfl).tr r2, r3⟩
theorem nm_comp {N len c0 b : Nat} {f : Nat → Nat} (hne : c0 ≠ b) (hl : len ≤ 12) (hg : ∀ i, f i < 256) : ∀ (k q j : Nat) (A : Hp), j + k = len → k < q → A.sh[c0]? = some (103, len) → A.sh[b]? = some (101, len) → (∀ i, i < len → A.D c0 i = nI (f i)) → (∀ i, i < j → A.D b i = sx (f i)) →
    ∃ A2, B_SU_compress2_3 N c0 b (nI len) q (nI j) (nI j) (nI j) A = some (nI len, A2) ∧ same (fun a _ => a = b) A A2 ∧ ∀ i, i < len → A2.D b i = sx (f i) := by
  intro k
  induction k with
  | zero =>
    intro q j A hj hq hs hb hc hd
    obtain ⟨q, rfl⟩ : ∃ m, q = m + 1 := ⟨q - 1, by omega⟩
    rw [B_SU_compress2_3, if_pos (nI_le (by omega) (by omega))]
    exact ⟨A, rfl, same.rf, fun i hi => hd i (by omega)⟩
  | succ k ih =>
    intro q j A hj hq hs hb hc hd
    obtain ⟨q, rfl⟩ : ∃ m, q = m + 1 := ⟨q - 1, by omega⟩
    obtain ⟨-, v2, v3⟩ := ch_all ⟨f j, hg _⟩
    simp only at v2 v3
    rw [B_SU_compress2_3, if_neg (nI_ge (by omega) (by omega)), ar_t hs, rdI (by omega) (by omega), hc j (by omega), if_pos v2, ar_t hb, wrI (by omega) (by omega), v3, nI_1]
    obtain ⟨A2, r1, r2, r3⟩ := ih q (j + 1) (A.sD b j (sx (f j))) (by omega) (by omega) hs hb (fun i hi => by rw [rdw hne]; exact hc i hi) (by
      intro i hi
      by_cases e : i = j
      · subst e; rw [rds]
      · rw [rdf e]; exact hd i (by omega))
    exact ⟨A2, r1, (same.sD (S := fun a _ => a = b) same.rf rfl).tr r2, r3⟩
theorem ev_takeName {N T i : Nat} {g : Nat → Nat} {L : List (Nat × Nat × Int32 × Bool × Nat)} {A : Hp} (h : LA A L T g i) (hk : tkk L i = 2) (ho : tko L i = false) (hN : 100 ≤ N) : ∃ A' s, F_Lexer_takeName N 1 A = some (.inl (some s), A') ∧ LA A' L T g (i + 1) ∧ exA SL 1 A A' ∧ strA A' s (nmT g L i) ∧ 626 ≤ s ∧ (∀ b, A'.P s 0 = .ref b → 626 ≤ b) ∧ A.sh.length ≤ s := by
  have h0 := h
  obtain ⟨t, tk, c1, c2, c3, c4, c5, c6⟩ := h0
  obtain ⟨hG, hT, h6, hb, hg, hz⟩ := t
  have hnx := c6.nx c5 (by omega)
  have hgl := hG.len
  have h61 : L.length ≤ 6001 := by have := c6.2.1; omega
  obtain ⟨k1, k2, k3, k4⟩ := tokA_at tk c5
  obtain ⟨x1, x2, x3⟩ := c6.2.2.2.2.1 i c5
  obtain ⟨x4, x5, x6⟩ := x3 hk
  have x7 := x5 ho
  obtain ⟨len, hlen⟩ : ∃ len, len = tkn L i := ⟨_, rfl⟩
  obtain ⟨pl, hpl⟩ : ∃ pl, pl = tkp L i := ⟨_, rfl⟩
  rw [← hlen] at x1 x4 x6 x7
  rw [← hpl] at x1 c4
  obtain ⟨c0, hc0⟩ : ∃ c0, c0 = A.sh.length := ⟨_, rfl⟩
  -- the characters
  obtain ⟨A2, r1, r2, r3⟩ := nm_chars (N := N) (T := T) (pl := pl) (len := len) (c0 := c0) (g := g) x1 h6 (by omega) hg len N 0 (A.nw (103, len) len) (by omega) (by omega) hG.nw (by rw [nw_sh, hc0, List.getElem?_append_right (Nat.le_refl _)]; simp) (by rw [nw_D (by omega)]; exact c4) (by rw [nw_D (by omega)]; exact hT) (fun j hj => by rw [nw_D (by omega)]; exact hb j hj) (fun j hj => by omega)
  obtain ⟨s1, s2, s3, s4, s5⟩ := r2
  have sh2 : A2.sh = A.sh ++ [(103, len)] := s4
  have sl2 : A2.sl = A.sl + len := s5
  have hG2 : Gr A2 := ⟨by rw [s4]; exact hG.nw.1, fun q hq => by rw [s2]; exact hG.nw.2 q hq⟩
  have D2 : ∀ a f, a < c0 → A2.D a f = A.D a f := fun a f ha => by rw [s1 a f (by omega), nw_D (by omega)]
  have P2 : ∀ a f, a < c0 → A2.P a f = A.P a f := fun a f ha => by rw [s2, nw_P (by omega)]
  obtain ⟨A3, hA3⟩ : ∃ A3, A3 = ((A2.sD 1 11 (nI (i + 1))).sD 1 2 (nI (tkk L (i + 1)))).sD 1 3 (nI (tkp L (i + 1))) := ⟨_, rfl⟩
  have sh3 : A3.sh = A.sh ++ [(103, len)] := by rw [hA3]; exact sh2
  have sl3 : A3.sl = A.sl + len := by rw [hA3]; exact sl2
  have l3 : A3.sh.length = c0 + 1 := by rw [sh3, List.length_append, ← hc0]; rfl
  obtain ⟨A5, hA5⟩ : ∃ A5, A5 = (A3.nw (16, 0) 4).nw (101, len) len := ⟨_, rfl⟩
  have l4 : (A3.nw (16, 0) 4).sh.length = c0 + 2 := by rw [nw_sh, List.length_append, l3]; rfl
  have sh5 : A5.sh = A.sh ++ [(103, len), (16, 0), (101, len)] := by
    rw [hA5, nw_sh, nw_sh, sh3, List.append_assoc, List.append_assoc]; rfl
  have D5 : ∀ a f, a ≤ c0 → A5.D a f = A3.D a f := fun a f ha => by rw [hA5, nw_D (by omega), nw_D (by omega)]
  have g0 : A5.sh[c0]? = some (103, len) := by rw [sh5, hc0, List.getElem?_append_right (Nat.le_refl _)]; simp
  have g1 : A5.sh[c0 + 1]? = some (16, 0) := by rw [sh5, hc0, List.getElem?_append_right (by omega)]; simp
  have g2 : A5.sh[c0 + 2]? = some (101, len) := by rw [sh5, hc0, List.getElem?_append_right (by omega)]; simp
  obtain ⟨A6, q1, q2, q3⟩ := nm_comp (N := N) (len := len) (c0 := c0) (b := c0 + 2) (f := fun j => g (pl + j)) (by omega) x7 (fun j => hg _) len N 0 A5 (by omega) (by omega) g0 g2 (fun j hj => by
    rw [D5 c0 j (Nat.le_refl _), hA3, rdw (by omega), rdw (by omega), rdw (by omega)]; exact r3 j hj) (fun j hj => by omega)
  obtain ⟨u1, u2, u3, u4, u5⟩ := q2
  have fin : F_Lexer_takeName N 1 A = some (.inl (some (c0 + 1)), (A6.sD (c0 + 1) 1 0).sP (c0 + 1) 0 (.ref (c0 + 2))) := by
    unfold F_Lexer_takeName
    have emin : F_Math_min N (12 : Int32) (nI len) A = some (nI len, A) := by
      unfold F_Math_min
      by_cases z : len < 12
      · rw [if_pos (show nI len < (12 : Int32) from nI_lt (b := 12) z (by decide))]
      · rw [if_neg (show ¬ nI len < (12 : Int32) from nI_nlt (b := 12) (by omega) (by omega)), show len = 12 by omega]; rfl
    have emax : F_Math_max N (0 : Int32) (nI len) A = some (nI len, A) := by
      unfold F_Math_max
      rw [if_pos (show (0 : Int32) < nI len from nI_lt (a := 0) (by omega) (by omega))]
    rw [ck_t (rS_1 hG), bnd_t, c3, hk, if_pos (by rfl), rf_t (rP_1_9 hG), bnd_t, c2, ar_t (rA_1_9 hG), rdI (by omega) (by decide), k4, ho, if_pos (by rfl), rf_t (rP_1_8 hG), bnd_t, ar_t (rA_1_8 hG), rdI (by omega) (by decide), k3, x4, bC_t emin, bC_t emax, ck_t (nI_pos (by omega)), nI_clamp (by omega), ck_t (by omega), bnd_t, bnd_t, ← hc0]
    refine Eq.trans r1 ?_
    unfold B_Lexer_takeName_122
    have e10 : A2.D 1 10 = nI L.length := by rw [D2 1 10 (by omega)]; exact c1.1
    have e11 : A2.D 1 11 = nI i := by rw [D2 1 11 (by omega)]; exact c2
    have m1 : F_Math_max N (0 : Int32) (nI L.length - 1) A2 = some (nI (L.length - 1), A2) := by
      unfold F_Math_max
      rw [show nI L.length - 1 = nI (L.length - 1) from pk_sub (b := 1) (by omega), if_pos (show (0 : Int32) < nI (L.length - 1) from nI_lt (a := 0) (by omega) (by omega))]
    have m2 : F_Math_min N (nI i + 1) (nI (L.length - 1)) A2 = some (nI (i + 1), A2) := by
      unfold F_Math_min
      rw [nI_1, if_neg (nI_nlt (by omega) (by omega))]
    obtain ⟨n1, n2, -, -⟩ := tokA_at tk hnx
    have n1' : A2.D 3 (i + 1) = nI (tkk L (i + 1)) := by rw [D2 3 _ (by omega)]; exact n1
    have n2' : A2.D 4 (i + 1) = nI (tkp L (i + 1)) := by rw [D2 4 _ (by omega)]; exact n2
    rw [ck_t (rS_1 hG2), bnd_t, bnd_t, e10, e11, bC_t m1, bC_t m2]
    simp only [bnd_t, sD_P, ar_sD, rf_t (rP_1_6 hG2), ar_t (rA_1_6 hG2), rds, rf_t (rP_1_7 hG2), rdf (show (11 : Nat) ≠ 2 by decide), ar_t (rA_1_7 hG2), ck_t (nI_in (show i + 1 < 6001 by omega) (by decide)), nI_clamp (show i + 1 < 2 ^ 31 by omega), rdw (show (3 : Nat) ≠ 1 by decide), rdw (show (4 : Nat) ≠ 1 by decide), n1', n2']
    rw [← hA3, l3]
    have es : F_Str_init N (c0 + 1) c0 (A3.nw (16, 0) 4) = some ((), (A6.sD (c0 + 1) 1 0).sP (c0 + 1) 0 (.ref (c0 + 2))) := by
      have gc : (A3.nw (16, 0) 4).sh[c0]? = some (103, len) := by rw [nw_sh, sh3, List.append_assoc, hc0, List.getElem?_append_right (Nat.le_refl _)]; simp
      unfold F_Str_init F_Str_init2_Knull F_SU_compress F_SU_compress2
      rw [ar_t gc, if_neg (show ¬ Int32.ofNat len = 0 from nI_ne0 (by omega) (by omega)), if_neg (by decide), ck_t (show ¬ Int32.ofNat len < 0 from nI_pos (by omega)), show (Int32.ofNat len).toNatClampNeg = len from nI_clamp (by omega), ck_t (by omega), bnd_t, bnd_t, l4, ← hA5]
      rw [bC_t (show B_SU_compress2_3 N c0 (c0 + 2) (Int32.ofNat len) N 0 0 0 A5 = some (nI len, A6) from q1), if_pos (show nI len = Int32.ofNat len from rfl), bC_v]
      have g6 : A6.sh[c0 + 2]? = some (101, len) := by rw [u4]; exact g2
      have g61 : A6.sh[c0 + 1]? = some (16, 0) := by rw [u4]; exact g1
      have ec : F_SU_coderFromArrayLen N (c0 + 2) (Int32.ofNat len) A6 = some (0, A6) := by
        unfold F_SU_coderFromArrayLen
        rw [ar_t g6, bnd_t, Int32.sub_self, bnd_t, ck_t (by decide)]
        rfl
      rw [on_t, bC_t ec, ck_t g61, ck_t (Or.inl rfl), bnd_t, bnd_t, bC_v]
    rw [bC_t es]
  refine ⟨_, c0 + 1, fin, ?_, ?_, ?_, by omega, ?_, by omega⟩
  · -- LA
    have D7 : ∀ a f, a < c0 → ((A6.sD (c0 + 1) 1 0).sP (c0 + 1) 0 (.ref (c0 + 2))).D a f = A3.D a f := fun a f ha => by
      rw [sP_D, rdw (by omega), u1 a f (by omega), D5 a f (by omega)]
    have D7' : ∀ a f, a < c0 → a ≠ 1 → ((A6.sD (c0 + 1) 1 0).sP (c0 + 1) 0 (.ref (c0 + 2))).D a f = A.D a f := fun a f ha h1 => by
      rw [D7 a f ha, hA3, rdw h1, rdw h1, rdw h1, D2 a f ha]
    have G7 : Gr ((A6.sD (c0 + 1) 1 0).sP (c0 + 1) 0 (.ref (c0 + 2))) := by
      refine ⟨?_, fun q hq => ?_⟩
      · obtain ⟨l, e⟩ := hG.1
        exact ⟨l ++ [(103, len), (16, 0), (101, len)], by show A6.sh = _; rw [u4, sh5, e, List.append_assoc]⟩
      · have h3 := List.all_eq_true.mp rf0_fin q hq
        have hq6 : q.1 < 626 := by
          cases hs : sh0[q.1]? with
          | none => rw [hs] at h3; cases h3
          | some t =>
            have := (List.getElem?_eq_some_iff.mp hs).1
            rw [show sh0.length = 626 from by decide +kernel] at this
            exact this
        rw [sP_P, up2_ne (by omega)]
        show A6.P q.1 q.2.1 = _
        rw [u2, hA5, nw_P (by omega), nw_P (by omega), hA3]
        show A2.P q.1 q.2.1 = _
        rw [P2 _ _ (by omega)]
        exact hG.2 q hq
    refine ⟨⟨G7, ?_, h6, fun j hj => ?_, hg, hz⟩, fun j t hj => ?_, ?_, ?_, ?_, ?_, hnx, c6⟩
    · rw [D7 1 1 (by omega), hA3, rdf (by decide), rdf (by decide), rdf (by decide), D2 1 1 (by omega)]; exact hT
    · rw [D7' 2 j (by omega) (by decide)]; exact hb j hj
    · rw [D7' 3 _ (by omega) (by decide), D7' 4 _ (by omega) (by decide), D7' 5 _ (by omega) (by decide), D7' 6 _ (by omega) (by decide)]
      exact tk j t hj
    · exact ⟨by rw [D7 1 10 (by omega), hA3, rdf (by decide), rdf (by decide), rdf (by decide), D2 1 10 (by omega)]; exact c1.1, by rw [D7 1 4 (by omega), hA3, rdf (by decide), rdf (by decide), rdf (by decide), D2 1 4 (by omega)]; exact c1.2⟩
    · rw [D7 1 11 (by omega), hA3, rdf (by decide), rdf (by decide), rds]
    · rw [D7 1 2 (by omega), hA3, rdf (by decide), rds]
    · rw [D7 1 3 (by omega), hA3, rds]
  · -- frame
    refine ⟨⟨[(103, len), (16, 0), (101, len)], ?_, by simp⟩, ?_, ?_, fun a f ha hs => ?_⟩
    · show A6.sh = _; rw [u4, sh5]
    · show A.sl ≤ A6.sl; rw [u5, hA5, nw_sl, nw_sl, sl3]; omega
    · show A6.sl ≤ _; rw [u5, hA5, nw_sl, nw_sl, sl3]; omega
    · have hs' := of_decide_eq_false hs
      constructor
      · rw [sP_D, rdw (by omega), u1 a f (by omega), D5 a f (by omega), hA3, sD_D, up2_ne (by omega), sD_D, up2_ne (by omega), sD_D, up2_ne (by omega), D2 a f (by omega)]
      · rw [sP_P, up2_ne (by omega)]
        show A6.P a f = _
        rw [u2, hA5, nw_P (by omega), nw_P (by omega), hA3]
        show A2.P a f = _
        exact P2 a f (by omega)
  · -- the string
    have g6 : A6.sh[c0 + 2]? = some (101, len) := by rw [u4]; exact g2
    have g61 : A6.sh[c0 + 1]? = some (16, 0) := by rw [u4]; exact g1
    refine ⟨g61, by rw [sP_D, rds], by rw [nmT_len, ← hlen]; exact x7, nmT_lt hg, c0 + 2, by rw [sP_P, up2_eq], by rw [nmT_len, ← hlen]; exact g6, fun j hj => ?_⟩
    rw [nmT_len, ← hlen] at hj
    rw [sP_D, rdw (by omega), q3 j hj, nmT_at (by omega), ← hpl]
  · intro b hb
    rw [sP_P, up2_eq] at hb
    have hb' : c0 + 2 = b := Value.ref.inj hb
    have h628 : 626 ≤ c0 + 2 := by omega
    exact hb' ▸ h628
theorem ev_takeName_no {N T i : Nat} {g : Nat → Nat} {L : List (Nat × Nat × Int32 × Bool × Nat)} {A : Hp} (h : LA A L T g i) (hk : ¬ (tkk L i = 2 ∧ tko L i = false)) : F_Lexer_takeName N 1 A = some (.inr A.sh.length, refA A (if tkk L i = 2 then 2 else 1) (nI (tkp L i))) := by
  have h0 := h
  obtain ⟨t, tk, c1, c2, c3, c4, c5, c6⟩ := h0
  have hG := t.1
  have h61 : L.length ≤ 6001 := by have := c6.2.1; have := c6.2.2.1; omega
  obtain ⟨k1, k2, k3, k4⟩ := tokA_at tk c5
  have h81 := (c6.2.2.2.2.1 i c5).2.1
  have e34 : ∀ v, B_Lexer_takeName_34 N 1 1 v A = some (.inr A.sh.length, refA A v (nI (tkp L i))) := by
    intro v
    unfold B_Lexer_takeName_34
    rw [ck_t (rS_1 hG), bnd_t, ck_t (rS_1 hG.sD), bnd_t, bnd_t, rdf (by decide), c4]
    rfl
  unfold F_Lexer_takeName B_Lexer_takeName_20
  by_cases q : tkk L i = 2
  · have ho : tko L i = true := by
      cases z : tko L i
      · exact absurd ⟨q, z⟩ hk
      · rfl
    rw [ck_t (rS_1 hG), bnd_t, c3, q, if_pos (by rfl), rf_t (rP_1_9 hG), bnd_t, c2, ar_t (rA_1_9 hG), rdI (by omega) (by decide), k4, ho, if_neg bI_t0, if_pos rfl, ck_t (rS_1 hG), bnd_t, if_pos (by rfl), e34]
  · have q2 : ¬ nI (tkk L i) = (2 : Int32) := fun z => q ((nI_eq (b := 2) (by omega) (by decide)).mp z)
    rw [ck_t (rS_1 hG), bnd_t, c3, if_neg q2, ck_t (rS_1 hG), bnd_t, if_neg q2, e34, if_neg q]
theorem ev_takeValue {N T i : Nat} {g : Nat → Nat} {L : List (Nat × Nat × Int32 × Bool × Nat)} {A : Hp} (h : LA A L T g i) (hk : 2 ≤ tkk L i) : F_Lexer_takeValue N 1 A = if tko L i = true then some (.inr A.sh.length, refA A 2 (nI (tkp L i))) else some (.inl (tkv L i), advA A L i) := by
  have h0 := h
  obtain ⟨t, tk, c1, c2, c3, c4, c5, c6⟩ := h0
  have hG := t.1
  have h61 : L.length ≤ 6001 := by have := c6.2.1; have := c6.2.2.1; omega
  obtain ⟨k1, k2, k3, k4⟩ := tokA_at tk c5
  unfold F_Lexer_takeValue B_Lexer_takeValue_21
  rw [ck_t (rS_1 hG), rf_t (rP_1_9 hG), bnd_t, c2, ar_t (rA_1_9 hG), rdI (by omega) (by decide), k4]
  cases z : tko L i
  · rw [if_pos bI_f, if_neg (by decide), ck_t (rS_1 hG), rf_t (rP_1_8 hG), bnd_t, ar_t (rA_1_8 hG), rdI (by omega) (by decide), k3, bC_t (ev_advance h (c6.nx c5 hk))]
  · rw [if_neg bI_t0, if_pos rfl, bnd_t, c4, ev_refuse hG]
    rfl
