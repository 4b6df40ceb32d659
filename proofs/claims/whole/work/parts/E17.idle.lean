/-! ===== idle: the reference walks over an expression and nothing happens ===== -/
def rk (tg : Nat) : Nat := if tg = 0 ∨ tg = 10 then 2 else if tg = 1 ∨ tg = 11 then 1 else 0
theorem rk_up {l : Nat} (h : l = 0 ∨ l = 1 ∨ l = 3 ∨ l = 4) : rk (l + 1) ≤ rk (10 + l) ∧ rk (10 + l) = rk l ∧ (l ≤ 1 → rk (l + 1) + 1 = rk (10 + l)) := by
  rcases h with rfl | rfl | rfl | rfl <;> decide
def IDC (N d tg i j : Nat) (B : Hp) (z dr : Int32) : Prop := if tg < 10 then ∃ v, RO (RL N d tg B) B v j z dr else ∃ v c B', c ≤ j - i ∧ RL N d (tg - 10) B = RLo N d (tg - 10) (N - c) v B' ∧ same EXB B B' ∧ BS B' j z dr
theorem IDC.lo {N d tg i j : Nat} {B : Hp} {z dr v : Int32} (h : tg < 10) (k : RO (RL N d tg B) B v j z dr) : IDC N d tg i j B z dr := by
  unfold IDC
  rw [if_pos h]
  exact ⟨v, k⟩
theorem IDC.out {N d tg i j : Nat} {B : Hp} {z dr : Int32} (h : tg < 10) (k : IDC N d tg i j B z dr) : ∃ v, RO (RL N d tg B) B v j z dr := by
  unfold IDC at k
  rw [if_pos h] at k
  exact k
theorem IDC.hi {N d l i j c : Nat} {B B' : Hp} {z dr v : Int32} (k1 : c ≤ j - i) (k2 : RL N d l B = RLo N d l (N - c) v B') (k3 : same EXB B B') (k4 : BS B' j z dr) : IDC N d (10 + l) i j B z dr := by
  unfold IDC
  rw [if_neg (by omega), show 10 + l - 10 = l by omega]
  exact ⟨v, c, B', k1, k2, k3, k4⟩
theorem IDC.ou {N d l i j : Nat} {B : Hp} {z dr : Int32} (k : IDC N d (10 + l) i j B z dr) : ∃ v c B', c ≤ j - i ∧ RL N d l B = RLo N d l (N - c) v B' ∧ same EXB B B' ∧ BS B' j z dr := by
  unfold IDC at k
  rw [if_neg (by omega), show 10 + l - 10 = l by omega] at k
  exact k
section Par
variable {N w u ir M : Nat} {ty mn nu cd : Nat → Int32} {E Q : Nat → Nat → Nat} {V : Nat → Nat → Int32} {nL lc : Nat} {lk : Nat → Nat} {hd : Nat → Int32}
def IDP (N w u ir M : Nat) (ty mn nu : Nat → Int32) (E Q : Nat → Nat → Nat) (V : Nat → Nat → Int32) (nL lc : Nat) (hd : Nat → Int32) (tg dp i j _a _b _k : Nat) : Prop := i < j ∧ ∀ d B zz dr, STB B w u ir M ty mn nu E Q V nL lc hd → BS B i (nI zz) dr → 1 ≤ zz → zz + 2 * (20 - dp) + rk tg ≤ 100 → 2 * (20 - dp) + 1 ≤ d → j < M → IDC N d tg i j B (nI zz) dr
theorem STB.un {B : Hp} (h : STB B w u ir M ty mn nu E Q V nL lc hd) {i : Nat} {z dr : Int32} {d : Nat} (hs : BS B i z dr) (hi : i < M) (h1 : ¬ ty i = 45) (h2 : ¬ ty i = 33) : RL N (d + 1) 5 B = (if ty i = 2 ∨ ty i = 3 then some (nu i, atB B (i + 1)) else if ty i = 231 then some (1, atB B (i + 1)) else if ty i = 232 then some (0, atB B (i + 1)) else if ty i = 233 then some (-1, atB B (i + 1)) else if ty i = 234 then some (B.D 611 6, atB B (i + 1)) else if ty i = 235 then some (B.D u 0, atB B (i + 1)) else prm N d (nI i) (ty i) (atB B (i + 1))) := by
  rw [r_un h.1 hs hi h1 h2, r_pr h.1 hs hi]
theorem STB.pm {B : Hp} (h : STB B w u ir M ty mn nu E Q V nL lc hd) {i : Nat} {z dr t : Int32} {d : Nat} (hs : BS B i z dr) (hi : i < M) (ht : ty i = t) (hn : t ≠ 45 ∧ t ≠ 33 ∧ t ≠ 2 ∧ t ≠ 3 ∧ t ≠ 231 ∧ t ≠ 232 ∧ t ≠ 233 ∧ t ≠ 234 ∧ t ≠ 235) : RL N (d + 1) 5 B = prm N d (nI i) t (atB B (i + 1)) := by
  obtain ⟨n1, n2, n3, n4, n5, n6, n7, n8, n9⟩ := hn
  rw [h.un hs hi (by rw [ht]; exact n1) (by rw [ht]; exact n2), ht, if_neg (fun y => y.elim n3 n4), if_neg n5, if_neg n6, if_neg n7, if_neg n8, if_neg n9]
theorem id_lit {dp i a b k : Nat} {t v : Int32} (ht : ty i = t) (hv : ∀ B d, STB B w u ir M ty mn nu E Q V nL lc hd → i < M → ∀ z dr, BS B i z dr → ∃ v, RL N (d + 1) 5 B = some (v, atB B (i + 1))) : IDP N w u ir M ty mn nu E Q V nL lc hd 5 dp i (i + 1) a b k := by
  refine ⟨by omega, fun d B zz dr hB hs h1 h2 h3 h4 => ?_⟩
  obtain ⟨d, rfl⟩ : ∃ e, d = e + 1 := ⟨d - 1, by omega⟩
  obtain ⟨v, e⟩ := hv B d hB (by omega) _ _ hs
  exact IDC.lo (by decide) (v := v) ⟨_, e, atB_s, atB_S hs⟩
theorem idl (hE : WE E) (hN : M + 2 ≤ N) {tg dp i j a b k : Nat} (h : DE ty mn nu cd E nL lc lk hd tg dp i j a b k) : IDP N w u ir M ty mn nu E Q V nL lc hd tg dp i j a b k := by
  obtain ⟨w1, w2, w3, w4, w5, w6, w7, w8, w9, _⟩ := hE
  have mlt : ∀ c m, mOf E c m → c < 16 ∧ m < 48 := fun c m y => by
    obtain ⟨y1, y2, y3⟩ := y
    have := w3 c y1
    omega
  have pos : ∀ zz : Nat, 1 ≤ zz → zz ≤ 100 → ¬ nI zz ≤ 0 := fun zz k1 k2 => nI_ge (a := 0) (b := zz) (by omega) (by omega)
  refine h (IDP N w u ir M ty mn nu E Q V nL lc hd) ⟨?_, ?_, ?_, ?_, ?_, ?_, ?_, ?_, ?_, ?_, ?_, ?_, ?_, ?_, ?_, ?_, ?_, ?_, ?_, ?_, ?_, ?_⟩
  · intro dp i a h0 _ _
    exact id_lit (v := 0) h0 (fun B d hB hi z dr hs => ⟨_, by rw [hB.un hs hi (by rw [h0]; decide) (by rw [h0]; decide), if_pos (.inl h0)]⟩)
  · intro dp i a h0 _ _
    exact id_lit (v := 0) h0 (fun B d hB hi z dr hs => ⟨_, by rw [hB.un hs hi (by rw [h0]; decide) (by rw [h0]; decide), if_pos (.inr h0)]⟩)
  · intro dp i a h0 _ _
    exact id_lit (v := 0) h0 (fun B d hB hi z dr hs => ⟨_, by rw [hB.un hs hi (by rw [h0]; decide) (by rw [h0]; decide), if_neg (by rw [h0]; decide), if_pos h0]⟩)
  · intro dp i a h0 _ _
    exact id_lit (v := 0) h0 (fun B d hB hi z dr hs => ⟨_, by rw [hB.un hs hi (by rw [h0]; decide) (by rw [h0]; decide), if_neg (by rw [h0]; decide), if_neg (by rw [h0]; decide), if_pos h0]⟩)
  · intro dp i a h0 _ _
    exact id_lit (v := 0) h0 (fun B d hB hi z dr hs => ⟨_, by rw [hB.un hs hi (by rw [h0]; decide) (by rw [h0]; decide), if_neg (by rw [h0]; decide), if_neg (by rw [h0]; decide), if_neg (by rw [h0]; decide), if_pos h0]⟩)
  · intro dp i a h0 _
    exact id_lit (v := 0) h0 (fun B d hB hi z dr hs => ⟨_, by rw [hB.un hs hi (by rw [h0]; decide) (by rw [h0]; decide), if_neg (by rw [h0]; decide), if_neg (by rw [h0]; decide), if_neg (by rw [h0]; decide), if_neg (by rw [h0]; decide), if_pos h0]⟩)
  · intro dp i a h0 _
    exact id_lit (v := 0) h0 (fun B d hB hi z dr hs => ⟨_, by rw [hB.un hs hi (by rw [h0]; decide) (by rw [h0]; decide), if_neg (by rw [h0]; decide), if_neg (by rw [h0]; decide), if_neg (by rw [h0]; decide), if_neg (by rw [h0]; decide), if_neg (by rw [h0]; decide), if_pos h0]⟩)
  · -- par
    intro dp i j a b k h0 h1 ⟨p1, ih⟩ h3
    refine ⟨by omega, fun d B zz dr hB hs k1 k2 k3 k4 => ?_⟩
    obtain ⟨d, rfl⟩ : ∃ e, d = e + 1 + 1 := ⟨d - 2, by omega⟩
    obtain ⟨v, B2, e, s2, hs2⟩ := (ih d (atB B (i + 1)) zz dr (hB.ex atB_s) (atB_S hs) k1 (by show zz + 2 * (20 - (dp + 1)) + 2 ≤ 100; have : rk 5 = 0 := rfl; omega) (by omega) (by omega)).out (by decide)
    have e' : (X_RunE N (d + 1)).1 611 (atB B (i + 1)) = some (v, B2) := e
    refine IDC.lo (by decide) (v := v) ⟨atB B2 (j + 1), ?_, (atB_s.tr s2).tr atB_s, atB_S hs2⟩
    rw [hB.pm (t := 40) hs (by omega) h0 (by decide), p_par e' hs2.1]
  · -- cal
    intro dp i j a b wd kin op kout h0 h1 h2 h3 ⟨p1, ih⟩ h5 h6
    refine ⟨by omega, fun d B zz dr hB hs k1 k2 k3 k4 => ?_⟩
    obtain ⟨d, rfl⟩ : ∃ e, d = e + 1 + 1 := ⟨d - 2, by omega⟩
    have hs1 := atB_S (j := i + 1) hs
    have hs2 := atB_S (j := i + 2) hs1
    have hB2 := (hB.ex (atB_s (i := i + 1))).ex (atB_s (i := i + 2))
    obtain ⟨v, B2, e, s2, hs3⟩ := (ih d _ zz dr hB2 hs2 k1 (by show zz + 2 * (20 - (dp + 1)) + 2 ≤ 100; have : rk 5 = 0 := rfl; omega) (by omega) (by omega)).out (by decide)
    have e' : (X_RunE N (d + 1)).1 611 (atB (atB B (i + 1)) (i + 2)) = some (v, B2) := e
    have hw : wd = 236 ∨ wd = 237 ∨ wd = 238 ∨ wd = 239 ∨ wd = 209 ∨ wd = 211 := by
      unfold calT at h0
      simp only [List.mem_cons, List.not_mem_nil, Prod.mk.injEq, or_false] at h0
      omega
    have nt : nI wd ≠ 45 ∧ nI wd ≠ 33 ∧ nI wd ≠ 2 ∧ nI wd ≠ 3 ∧ nI wd ≠ 231 ∧ nI wd ≠ 232 ∧ nI wd ≠ 233 ∧ nI wd ≠ 234 ∧ nI wd ≠ 235 := by
      rcases hw with rfl | rfl | rfl | rfl | rfl | rfl <;> decide
    have n3 : ¬ nI wd = 1 ∧ ¬ nI wd = 40 ∧ ¬ nI wd = 240 := by
      rcases hw with rfl | rfl | rfl | rfl | rfl | rfl <;> decide
    refine IDC.lo (by decide) (v := 0) ⟨atB B2 (j + 1), ?_, ((atB_s.tr atB_s).tr s2).tr atB_s, atB_S hs3⟩
    rw [hB.pm (t := nI wd) hs (by omega) h1 nt, p_cal n3.1 n3.2.1 n3.2.2 (by omega) h1 hs1.1 e' (hB2.ex s2).1 hs3.1, hs3.2.1, if_neg (by decide), hs3.2.2.1, if_neg (pos zz k1 (by omega))]
  · -- has
    intro dp i j a b c h0 h1 h2 ⟨p1, ih⟩ h4 h5 h6 h7 h8 h9 h10
    refine ⟨by omega, fun d B zz dr hB hs k1 k2 k3 k4 => ?_⟩
    obtain ⟨d, rfl⟩ : ∃ e, d = e + 1 + 1 := ⟨d - 2, by omega⟩
    have hs1 := atB_S (j := i + 1) hs
    have hs2 := atB_S (j := i + 2) hs1
    have hB2 := (hB.ex (atB_s (i := i + 1))).ex (atB_s (i := i + 2))
    obtain ⟨v, B2, e, s2, hs3⟩ := (ih d _ zz dr hB2 hs2 k1 (by show zz + 2 * (20 - (dp + 1)) + 2 ≤ 100; have : rk 5 = 0 := rfl; omega) (by omega) (by omega)).out (by decide)
    have e' : (X_RunE N (d + 1)).1 611 (atB (atB B (i + 1)) (i + 2)) = some (v, B2) := e
    have hB3 := (hB2.ex s2).ex (atB_s (i := j + 3))
    obtain ⟨r, er⟩ := mhas_ex (N := N) (v := v) (x := mn (j + 1)) hB3.1.2.2.1 hB3.2.1
    have go : RL N (d + 1 + 1) 5 B = (if r = (0 : Int32) then some (0, atB B2 (j + 3)) else some (1, atB B2 (j + 3))) := by
      rw [hB.pm (t := 240) hs (by omega) h0 (by decide), p_has hs1.1 e' (hB2.ex s2).1 hs3.1 (by omega), bC_t er]
    by_cases q : r = 0
    · rw [if_pos q] at go
      exact IDC.lo (by decide) (v := 0) ⟨atB B2 (j + 3), go, ((atB_s.tr atB_s).tr s2).tr atB_s, atB_S hs3⟩
    · rw [if_neg q] at go
      exact IDC.lo (by decide) (v := 1) ⟨atB B2 (j + 3), go, ((atB_s.tr atB_s).tr s2).tr atB_s, atB_S hs3⟩
  · -- loc
    intro dp i a n h0 h1 h2 h3 _ _
    refine ⟨by omega, fun d B zz dr hB hs k1 k2 k3 k4 => ?_⟩
    obtain ⟨d, rfl⟩ : ∃ e, d = e + 1 := ⟨d - 1, by omega⟩
    have hn := hB.2.2.1
    refine IDC.lo (by decide) (v := (atB B (i + 1)).D 614 n) ⟨atB B (i + 1), ?_, atB_s, atB_S hs⟩
    · rw [hB.pm (t := 1) hs (by omega) h0 (by decide)]
      exact r_nm (hB.ex atB_s).1 (atB_S hs).1 (by omega) h1 (by omega) h3
  · -- own
    intro dp i a c m h0 h1 h2 h3 h4 h5 _ _
    refine ⟨by omega, fun d B zz dr hB hs k1 k2 k3 k4 => ?_⟩
    obtain ⟨d, rfl⟩ : ∃ e, d = e + 1 := ⟨d - 1, by omega⟩
    obtain ⟨B2, e, s2, hs2⟩ := r_own (N := N) (hB.ex (atB_s (i := i + 1))).1 (atB_S hs) (by omega) h1 h2 h3 (mlt c m h4).2
    refine IDC.lo (by decide) (v := (atB B (i + 1)).D 613 m) ⟨B2, ?_, atB_s.tr s2, hs2⟩
    · rw [hB.pm (t := 1) hs (by omega) h0 (by decide)]
      exact e
  · -- heard
    intro dp i a e q l h0 h1 h2 h3 h4 h5 h6 h7 _ _ _
    refine ⟨by omega, fun d B zz dr hB hs k1 k2 k3 k4 => ?_⟩
    obtain ⟨d, rfl⟩ : ∃ e, d = e + 1 := ⟨d - 1, by omega⟩
    have hB1 := hB.ex (atB_s (i := i + 1))
    obtain ⟨m1, m2, m3⟩ := hB1.2.2.2.2.2.2.2.2 e l h7 h5
    have := (w8 e h5).1
    obtain ⟨B2, ee, s2, hs2⟩ := r_hrd (N := N) hB1.1 (atB_S hs) (by omega) h1 h2 h3 (by omega) h4 (by omega) m1 m2
    exact IDC.lo (by decide) ⟨B2, by rw [hB.pm (t := 1) hs (by omega) h0 (by decide)]; exact ee, atB_s.tr s2, hs2⟩
  · -- far
    intro dp i a n c m h0 h1 h2 h3 h4 h5 h6 h7 h8 h9 h10 _ _ _ _ _
    refine ⟨by omega, fun d B zz dr hB hs k1 k2 k3 k4 => ?_⟩
    obtain ⟨d, rfl⟩ : ∃ e, d = e + 1 := ⟨d - 1, by omega⟩
    obtain ⟨B2, ee, s2, hs2⟩ := r_fari (N := N) (hB.ex (atB_s (i := i + 1))).1 (atB_S hs) (pos zz k1 (by omega)) (by omega) h1 h2
    exact IDC.lo (by decide) ⟨B2, by rw [hB.pm (t := 1) hs (by omega) h0 (by decide)]; exact ee, atB_s.tr s2, hs2⟩
  · -- neg
    intro dp i j a b k h0 h1 ⟨p1, ih⟩ h3 h4
    refine ⟨by omega, fun d B zz dr hB hs k1 k2 k3 k4 => ?_⟩
    obtain ⟨d, rfl⟩ : ∃ e, d = e + 1 := ⟨d - 1, by omega⟩
    obtain ⟨v, B2, e, s2, hs2⟩ := (ih d (atB B (i + 1)) zz dr (hB.ex atB_s) (atB_S hs) k1 (by omega) (by omega) (by omega)).out (by decide)
    have hB2 := (hB.ex (atB_s (i := i + 1))).ex s2
    obtain ⟨r, er⟩ := held_ex (N := N) (B := B2) (k := mn i) (x := -v.toInt64)
    exact IDC.lo (by decide) (v := r) ⟨B2, by rw [r_sg hB.1 hs (by omega) (.inl h0) e hB2.1, if_neg (by rw [h0]; decide), er], atB_s.tr s2, hs2⟩
  · -- not
    intro dp i j a b h0 h1 ⟨p1, ih⟩ h3
    refine ⟨by omega, fun d B zz dr hB hs k1 k2 k3 k4 => ?_⟩
    obtain ⟨d, rfl⟩ : ∃ e, d = e + 1 := ⟨d - 1, by omega⟩
    obtain ⟨v, B2, e, s2, hs2⟩ := (ih d (atB B (i + 1)) zz dr (hB.ex atB_s) (atB_S hs) k1 (by omega) (by omega) (by omega)).out (by decide)
    have hB2 := (hB.ex (atB_s (i := i + 1))).ex s2
    exact IDC.lo (by decide) (v := 1 - v) ⟨B2, by rw [r_sg hB.1 hs (by omega) (.inr h0) e hB2.1, if_pos h0], atB_s.tr s2, hs2⟩
  · -- chain's start
    intro dp l i j a b k h0 ⟨p1, ih⟩
    refine ⟨p1, fun d B zz dr hB hs k1 k2 k3 k4 => ?_⟩
    obtain ⟨v, B2, e, s2, hs2⟩ := (ih d B zz dr hB hs k1 (by have := rk_up h0; omega) k3 k4).out (by omega)
    exact IDC.hi (c := 0) (v := v) (by omega) (by rw [RL_lv hB.1.1 h0, bC_t e]; rfl) s2 hs2
  · -- chain's step
    intro dp l i m j a b b' k sg op h0 ⟨p1, ih1⟩ h2 h3 ⟨p2, ih2⟩ h5 h6
    refine ⟨by omega, fun d B zz dr hB hs k1 k2 k3 k4 => ?_⟩
    have hl : l = 0 ∨ l = 1 ∨ l = 3 ∨ l = 4 := by omega
    have hr := rk_up hl
    obtain ⟨v, c, B2, q1, e, s2, hs2⟩ := (ih1 d B zz dr hB hs k1 k2 k3 (by omega)).ou
    have hB2 := hB.ex s2
    obtain ⟨v3, B3, e3, s3, hs3⟩ := (ih2 d (atB B2 (m + 1)) zz dr (hB2.ex atB_s) (atB_S hs2) k1 (by omega) k3 k4).out (by omega)
    have hB3 := (hB2.ex (atB_s (i := m + 1))).ex s3
    obtain ⟨n, hn⟩ : ∃ n, N - c = n + 1 := ⟨N - c - 1, by omega⟩
    have hn1 : N - (c + 1) = n := by omega
    rcases h0 with rfl | rfl
    · have ht : ty m = 43 ∨ ty m = 45 := by
        unfold sgT at h3
        simp only [List.mem_cons, List.not_mem_nil, Prod.mk.injEq, or_false] at h3
        have : sg = 18 ∨ sg = 19 := by omega
        rcases this with rfl | rfl
        · exact .inl h2
        · exact .inr h2
      obtain ⟨r, er⟩ := held_ex (N := N) (B := B3) (k := mn m) (x := if ty m = 43 then v.toInt64 + v3.toInt64 else v.toInt64 - v3.toInt64)
      exact IDC.hi (c := c + 1) (v := r) (by omega) (by rw [e, hn, hn1, r_sum hB2.1 hs2 (by omega) ht e3 hB3.1, bC_t er]) ((s2.tr atB_s).tr s3) hs3
    · have ht : ty m = 42 ∨ ty m = 47 ∨ ty m = 37 := by
        unfold sgT at h3
        simp only [List.mem_cons, List.not_mem_nil, Prod.mk.injEq, or_false] at h3
        have : sg = 20 ∨ sg = 21 ∨ sg = 22 := by omega
        rcases this with rfl | rfl | rfl
        · exact .inl h2
        · exact .inr (.inl h2)
        · exact .inr (.inr h2)
      exact IDC.hi (c := c + 1) (v := 0) (by omega) (by rw [e, hn, hn1, r_prd hB2.1 hs2 (by omega) ht e3 hB3.1, hs3.2.1, if_neg (show ¬ (0 : Int32) < 0 by decide), hs3.2.2.1, if_neg (pos zz k1 (by omega))]) ((s2.tr atB_s).tr s3) hs3
  · -- and, or
    intro dp l i m j a b b' h0 ⟨p1, ih1⟩ h2 h3 h4 ⟨p2, ih2⟩
    refine ⟨by omega, fun d B zz dr hB hs k1 k2 k3 k4 => ?_⟩
    have hl : l = 0 ∨ l = 1 ∨ l = 3 ∨ l = 4 := by omega
    have hr := rk_up hl
    have hr1 := hr.2.2 (by omega)
    obtain ⟨v, c, B2, q1, e, s2, hs2⟩ := (ih1 d B zz dr hB hs k1 k2 k3 (by omega)).ou
    have hB2 := hB.ex s2
    obtain ⟨n, hn⟩ : ∃ n, N - c = n + 1 := ⟨N - c - 1, by omega⟩
    have hn1 : N - (c + 1) = n := by omega
    have z1 : nI zz + 1 = nI (zz + 1) := nI_1 zz
    have z0 : nI zz + 0 = nI zz := Int32.add_zero _
    have z2 : nI (zz + 1) - 1 = nI zz := nI_m
    have z3 : nI zz - 0 = nI zz := Int32.sub_zero _
    have sub : ∀ y, (y = zz ∨ y = zz + 1) → ∃ v3, RO (RL N d (l + 1) (idB (atB B2 (m + 1)) (nI y))) (idB (atB B2 (m + 1)) (nI y)) v3 j (nI y) dr := fun y hy => (ih2 d (idB (atB B2 (m + 1)) (nI y)) y dr ((hB2.ex atB_s).ex idB_s) (idB_S (atB_S hs2)) (by omega) (by omega) k3 k4).out (by omega)
    rcases h0 with rfl | rfl
    · have ht : ty m = 10 := h2
      by_cases q : v = 0
      · obtain ⟨v3, B3, e3, s3, hs3⟩ := sub zz (.inl rfl)
        exact IDC.hi (c := c + 1) (v := v3) (B' := idB B3 (nI zz)) (by omega) (by rw [e, hn, hn1, r_or hB2.1 hs2 (by omega) ht (by rw [if_pos q, z0]; exact e3) (((hB2.ex (atB_s (i := m + 1))).ex idB_s).ex s3).1.1, if_pos q, if_pos q, hs3.2.2.1, z3]) ((((s2.tr atB_s).tr idB_s).tr s3).tr idB_s) (idB_S hs3)
      · obtain ⟨v3, B3, e3, s3, hs3⟩ := sub (zz + 1) (.inr rfl)
        exact IDC.hi (c := c + 1) (v := v) (B' := idB B3 (nI zz)) (by omega) (by rw [e, hn, hn1, r_or hB2.1 hs2 (by omega) ht (by rw [if_neg q, z1]; exact e3) (((hB2.ex (atB_s (i := m + 1))).ex idB_s).ex s3).1.1, if_neg q, if_neg q, hs3.2.2.1, z2]) ((((s2.tr atB_s).tr idB_s).tr s3).tr idB_s) (idB_S hs3)
    · have ht : ty m = 9 := h2
      by_cases q : v = 0
      · obtain ⟨v3, B3, e3, s3, hs3⟩ := sub (zz + 1) (.inr rfl)
        exact IDC.hi (c := c + 1) (v := 0) (B' := idB B3 (nI zz)) (by omega) (by rw [e, hn, hn1, r_and hB2.1 hs2 (by omega) ht (by rw [if_pos q, z1]; exact e3) (((hB2.ex (atB_s (i := m + 1))).ex idB_s).ex s3).1.1, if_pos q, if_pos q, hs3.2.2.1, z2]) ((((s2.tr atB_s).tr idB_s).tr s3).tr idB_s) (idB_S hs3)
      · obtain ⟨v3, B3, e3, s3, hs3⟩ := sub zz (.inl rfl)
        exact IDC.hi (c := c + 1) (v := v3) (B' := idB B3 (nI zz)) (by omega) (by rw [e, hn, hn1, r_and hB2.1 hs2 (by omega) ht (by rw [if_neg q, z0]; exact e3) (((hB2.ex (atB_s (i := m + 1))).ex idB_s).ex s3).1.1, if_neg q, if_neg q, hs3.2.2.1, z3]) ((((s2.tr atB_s).tr idB_s).tr s3).tr idB_s) (idB_S hs3)
  · -- chain's end
    intro dp l i j a b k h0 ⟨p1, ih⟩ h2
    refine ⟨p1, fun d B zz dr hB hs k1 k2 k3 k4 => ?_⟩
    obtain ⟨v, c, B2, q1, e, s2, hs2⟩ := (ih d B zz dr hB hs k1 (by have := rk_up h0; omega) k3 k4).ou
    obtain ⟨n, hn⟩ : ∃ n, N - c = n + 1 := ⟨N - c - 1, by omega⟩
    exact IDC.lo (by omega) (v := v) ⟨B2, by rw [e, hn, r_end (hB.ex s2).1 hs2 k4 h0 h2], s2, hs2⟩
  · -- no comparison
    intro dp i j a b k ⟨p1, ih⟩ h1
    refine ⟨p1, fun d B zz dr hB hs k1 k2 k3 k4 => ?_⟩
    obtain ⟨v, B2, e, s2, hs2⟩ := (ih d B zz dr hB hs k1 k2 k3 k4).out (by decide)
    exact IDC.lo (by decide) (v := v) ⟨B2, r_cm0 hB.1.1 e (hB.ex s2).1 hs2 k4 h1, s2, hs2⟩
  · -- comparison
    intro dp i m j a b b' k sg op ⟨p1, ih1⟩ h1 h2 ⟨p2, ih2⟩ h4
    refine ⟨by omega, fun d B zz dr hB hs k1 k2 k3 k4 => ?_⟩
    obtain ⟨v, B2, e, s2, hs2⟩ := (ih1 d B zz dr hB hs k1 k2 k3 (by omega)).out (by decide)
    have hB2 := hB.ex s2
    obtain ⟨v3, B3, e3, s3, hs3⟩ := (ih2 d (atB B2 (m + 1)) zz dr (hB2.ex atB_s) (atB_S hs2) k1 k2 k3 k4).out (by decide)
    exact IDC.lo (by decide) ⟨B3, r_cmp hB.1.1 e hB2.1 hs2 (by omega) h1 h2 e3, (s2.tr atB_s).tr s3, hs3⟩
end Par
