/-! ===== an expression of kind 4 gives a number that is known ===== -/
theorem pl4 {k : Nat} (h : pl k = 4) : k = 4 := by
  unfold pl at h
  split at h <;> omega
section Par
variable {N p wo inp cs w u ir M : Nat} {s pl : Int32} {ty mn nu cd : Nat → Int32} {E Q : Nat → Nat → Nat} {V : Nat → Nat → Int32} {nL lc : Nat} {lk : Nat → Nat} {hd : Nat → Int32}
def t4 (tg : Nat) : Nat := if tg < 10 then tg else tg - 9
/-- the reference's answer is known, or it fails -/
def R4 (N w u ir M : Nat) (ty mn nu : Nat → Int32) (E Q : Nat → Nat → Nat) (V : Nat → Nat → Int32) (nL lc : Nat) (hd : Nat → Int32) (tg dp i j : Nat) : Prop :=
  i < j ∧ ∀ d B dr, STB B w u ir M ty mn nu E Q V nL lc hd → BS B i 0 dr → 2 * (20 - dp) + 1 ≤ d → j < M → (∃ v B2, RL N d (t4 tg) B = some (v, B2) ∧ same EXB B B2 ∧ BS B2 j 0 dr ∧ SV E v) ∨ (∃ v B2 y j', RL N d (t4 tg) B = some (v, B2) ∧ same EXB B B2 ∧ B2.D 611 10 = y ∧ 0 < y ∧ B2.D 611 11 = nI j' ∧ j' ≤ j)
theorem j4 (hE : WE E) (hN : M + 2 ≤ N) (hK : LKV E Q V nL lc hd) (hlk : ∀ n, n < nL → lk n = 4 → hd (100 + n) = 1004) {tg dp i j a b k : Nat} (h : DE ty mn nu cd E nL lc lk hd tg dp i j a b k) : k = 4 → R4 N w u ir M ty mn nu E Q V nL lc hd tg dp i j := by
  obtain ⟨w1, w2, w3, w4, w5, w6, w7, w8, w9, _⟩ := hE
  have mlt : ∀ c m, mOf E c m → c < 16 ∧ m < 48 := fun c m y => by
    obtain ⟨y1, y2, y3⟩ := y
    have := w3 c y1
    omega
  obtain ⟨⟨l1, l2, l3, l4, l5⟩, l6, l7, l8⟩ := hK
  refine h (fun tg dp i j a b k => k = 4 → R4 N w u ir M ty mn nu E Q V nL lc hd tg dp i j) ⟨?_, ?_, ?_, ?_, ?_, ?_, ?_, ?_, ?_, ?_, ?_, ?_, ?_, ?_, ?_, ?_, ?_, ?_, ?_, ?_, ?_, ?_⟩
  · intro dp i a h0 h1 h2 hk
    exact absurd hk (by decide)
  · intro dp i a h0 h1 h2 hk
    exact absurd hk (by decide)
  · intro dp i a h0 h1 h2 hk
    exact absurd hk (by decide)
  · intro dp i a h0 h1 h2 hk
    exact absurd hk (by decide)
  · intro dp i a h0 h1 h2 hk
    refine ⟨by omega, fun d B dr hB hs k2 k3 => .inl ⟨-1, atB B (i + 1), ?_, atB_s, atB_S hs, l1⟩⟩
    obtain ⟨d, rfl⟩ : ∃ e, d = e + 1 := ⟨d - 1, by omega⟩
    show RL N (d + 1) 5 B = _
    rw [hB.un hs (by omega) (by rw [h0]; decide) (by rw [h0]; decide), if_neg (by rw [h0]; decide), if_neg (by rw [h0]; decide), if_neg (by rw [h0]; decide), if_pos h0]
  · intro dp i a h0 h1 hk
    refine ⟨by omega, fun d B dr hB hs k2 k3 => .inl ⟨V 9 0, atB B (i + 1), ?_, atB_s, atB_S hs, l2⟩⟩
    obtain ⟨d, rfl⟩ : ∃ e, d = e + 1 := ⟨d - 1, by omega⟩
    show RL N (d + 1) 5 B = _
    rw [hB.un hs (by omega) (by rw [h0]; decide) (by rw [h0]; decide), if_neg (by rw [h0]; decide), if_neg (by rw [h0]; decide), if_neg (by rw [h0]; decide), if_neg (by rw [h0]; decide), if_pos h0, hB.2.2.2.1.1]
  · intro dp i a h0 h1 hk
    exact absurd hk (by decide)
  · -- par
    intro dp i j a b k h0 h1 ih h3 hk
    obtain ⟨p1, ih⟩ := ih hk
    refine ⟨by omega, fun d B dr hB hs k2 k3 => ?_⟩
    obtain ⟨d, rfl⟩ : ∃ e, d = e + 1 + 1 := ⟨d - 2, by omega⟩
    have hB1 := hB.ex (atB_s (i := i + 1))
    show (∃ v B2, RL N (d + 1 + 1) 5 B = some (v, B2) ∧ _) ∨ (∃ v B2 y j', RL N (d + 1 + 1) 5 B = some (v, B2) ∧ _)
    rcases ih d (atB B (i + 1)) dr hB1 (atB_S hs) (by omega) (by omega) with ⟨v, B2, g7, g8, g9, g10⟩ | ⟨v, B2, y, j', g5, g6, g7, g4, g8, g9⟩
    · have g7' : (X_RunE N (d + 1)).1 611 (atB B (i + 1)) = some (v, B2) := g7
      exact .inl ⟨v, _, by rw [hB.pm (t := 40) hs (by omega) h0 (by decide), p_par g7' g9.1], (atB_s.tr g8).tr atB_s, atB_S g9, g10⟩
    · have g5' : (X_RunE N (d + 1)).1 611 (atB B (i + 1)) = some (v, B2) := g5
      exact .inr ⟨v, _, y, j' + 1, by rw [hB.pm (t := 40) hs (by omega) h0 (by decide), p_par g5' g8], (atB_s.tr g6).tr atB_s, by rw [show (atB B2 (j' + 1)).D 611 10 = B2.D 611 10 from rdf (by decide)]; exact g7, g4, show (atB B2 (j' + 1)).D 611 11 = nI (j' + 1) from rds, by omega⟩
  · intro dp i j a b wd kin op kout h0 h1 h2 h3 ih h5 h6 hk
    unfold calT at h0
    simp only [List.mem_cons, List.not_mem_nil, Prod.mk.injEq, or_false] at h0
    omega
  · intro dp i j a b c h0 h1 h2 ih h4 h5 h6 h7 h8 h9 h10 hk
    exact absurd hk (by decide)
  · -- loc
    intro dp i a n h0 h1 h2 h3 h4 h5 hk
    refine ⟨by omega, fun d B dr hB hs k2 k3 => .inl ⟨V 6 n, atB B (i + 1), ?_, atB_s, atB_S hs, l7 n h2 (hlk n h2 hk)⟩⟩
    obtain ⟨d, rfl⟩ : ∃ e, d = e + 1 := ⟨d - 1, by omega⟩
    show RL N (d + 1) 5 B = _
    have hn := hB.2.2.1
    have e := r_nm (N := N) (hB.ex (atB_s (i := i + 1))).1 (atB_S hs).1 k3 h1 (by omega) h3
    rw [(hB.ex (atB_s (i := i + 1))).2.2.2.2.2.2.2.1 n h2] at e
    rw [hB.pm (t := 1) hs (by omega) h0 (by decide)]
    exact e
  · -- own
    intro dp i a c m h0 h1 h2 h3 h4 h5 h6 h7 hk
    refine ⟨by omega, fun d B dr hB hs k2 k3 => .inl ?_⟩
    obtain ⟨d, rfl⟩ : ∃ e, d = e + 1 := ⟨d - 1, by omega⟩
    have hB1 := hB.ex (atB_s (i := i + 1))
    obtain ⟨B2, e, s2, hs2⟩ := r_own (N := N) hB1.1 (atB_S hs) (by omega) h1 h2 h3 (mlt c m h4).2
    rw [hB1.2.2.2.2.2.1 c m h4 h5] at e
    refine ⟨V 5 m, B2, ?_, atB_s.tr s2, hs2, l6 c m h4 h5 (pl4 hk)⟩
    show RL N (d + 1) 5 B = _
    rw [hB.pm (t := 1) hs (by omega) h0 (by decide)]
    exact e
  · -- heard
    intro dp i a e q l h0 h1 h2 h3 h4 h5 h6 h7 h8 h9 h10 hk
    have := (w8 e h5).1
    refine ⟨by omega, fun d B dr hB hs k2 k3 => .inl ?_⟩
    obtain ⟨d, rfl⟩ : ∃ e, d = e + 1 := ⟨d - 1, by omega⟩
    have hB1 := hB.ex (atB_s (i := i + 1))
    obtain ⟨m1, m2, m3⟩ := hB1.2.2.2.2.2.2.2.2 e l h7 h5
    obtain ⟨B2, ee, s2, hs2⟩ := r_hrd (N := N) hB1.1 (atB_S hs) (by omega) h1 h2 h3 (by omega) h4 (by omega) m1 m2
    rw [m3 q h6] at ee
    refine ⟨V (400 + Q 3 l) q, B2, ?_, atB_s.tr s2, hs2, l8 e l q h7 h5 h6 (pl4 hk)⟩
    show RL N (d + 1) 5 B = _
    rw [hB.pm (t := 1) hs (by omega) h0 (by decide)]
    exact ee
  · -- far
    intro dp i a n c m h0 h1 h2 h3 h4 h5 h6 h7 h8 h9 h10 h11 h12 h13 h14 h15 hk
    refine ⟨by omega, fun d B dr hB hs k2 k3 => ?_⟩
    obtain ⟨d, rfl⟩ : ∃ e, d = e + 1 := ⟨d - 1, by omega⟩
    have hB1 := hB.ex (atB_s (i := i + 1))
    have hn := hB.2.2.1
    obtain ⟨f1, f2⟩ := r_far (N := N) hB1.1 (atB_S hs) hB1.2.1 (by omega) h1 h2 h3 (by omega) h6 (mlt c m h9).1 h7 (mlt c m h9).2
    rw [hB1.2.2.2.2.2.2.2.1 n h4] at f1 f2
    show (∃ v B2, RL N (d + 1) 5 B = some (v, B2) ∧ _) ∨ (∃ v B2 y j', RL N (d + 1) 5 B = some (v, B2) ∧ _)
    rw [hB.pm (t := 1) hs (by omega) h0 (by decide)]
    by_cases q : liv Q (V 6 n) ∧ Q 2 (lo8 (V 6 n)) / 2 ^ c % 2 = 1
    · obtain ⟨B2, e, s2, s3⟩ := f1 q
      rw [hB1.2.2.2.2.2.2.1 _ c m lo8_lt q.1.1 q.2 h9 h10] at e
      exact .inl ⟨_, B2, e, atB_s.tr s2, s3, l4 _ c m lo8_lt q.1.1 q.2 h9 h10 (pl4 hk)⟩
    · obtain ⟨B2, e, s2, s3, s4⟩ := f2 q
      exact .inr ⟨0, B2, 3, i + 5, e, atB_s.tr s2, s3, by decide, s4, by omega⟩
  · intro dp i j a b k h0 h1 ih h3 h4 hk
    omega
  · intro dp i j a b h0 h1 ih h3 hk
    exact absurd hk (by decide)
  · -- chain's start
    intro dp l i j a b k h0 ih hk
    have e1 : t4 (10 + l) = t4 (l + 1) := by
      unfold t4
      rw [if_neg (by omega), if_pos (by omega)]
      omega
    obtain ⟨p1, ih⟩ := ih hk
    refine ⟨p1, ?_⟩
    rw [e1]
    exact ih
  · intro dp l i m j a b b' k sg op h0 ih1 h2 h3 ih2 h5 h6 hk
    unfold sgT at h3
    simp only [List.mem_cons, List.not_mem_nil, Prod.mk.injEq, or_false] at h3
    omega
  · intro dp l i m j a b b' h0 ih1 h2 h3 h4 ih2 hk
    exact absurd hk (by decide)
  · -- chain's end
    intro dp l i j a b k h0 ih h2 hk
    obtain ⟨p1, ih⟩ := ih hk
    refine ⟨p1, fun d B dr hB hs k2 k3 => ?_⟩
    have e1 : t4 (10 + l) = l + 1 := by
      unfold t4
      rw [if_neg (by omega)]
      omega
    have e2 : t4 l = l := if_pos (by omega)
    obtain ⟨N', rfl⟩ : ∃ n, N = n + 1 := ⟨N - 1, by omega⟩
    rw [e1] at ih
    rw [e2]
    rcases ih d B dr hB hs k2 k3 with ⟨v, B2, g7, g8, g9, g10⟩ | ⟨v, B2, y, j', g5, g6, g7, g4, g8, g9⟩
    · exact .inl ⟨v, B2, by rw [RL_lv hB.1.1 h0, bC_t g7, r_end (hB.ex g8).1 g9 k3 h0 h2], g8, g9, g10⟩
    · exact .inr ⟨v, B2, y, j', by rw [RL_lv hB.1.1 h0, bC_t g5, f3_lo (hB.ex g6).1.1 (by rw [g7]; exact g4)], g6, g7, g4, g8, g9⟩
  · -- no comparison
    intro dp i j a b k ih h1 hk
    obtain ⟨p1, ih⟩ := ih hk
    refine ⟨p1, fun d B dr hB hs k2 k3 => ?_⟩
    show (∃ v B2, RL N d 2 B = some (v, B2) ∧ _) ∨ (∃ v B2 y j', RL N d 2 B = some (v, B2) ∧ _)
    rcases ih d B dr hB hs k2 k3 with ⟨v, B2, g7, g8, g9, g10⟩ | ⟨v, B2, y, j', g5, g6, g7, g4, g8, g9⟩
    · exact .inl ⟨v, B2, r_cm0 hB.1.1 g7 (hB.ex g8).1 g9 k3 h1, g8, g9, g10⟩
    · exact .inr ⟨v, B2, y, j', r_cmf hB.1.1 g5 (by rw [g7]; exact g4), g6, g7, g4, g8, g9⟩
  · intro dp i m j a b b' k sg op ih1 h1 h2 ih2 h4 hk
    exact absurd hk (by decide)
/-- a value of kind 4 at a statement -/
theorem v4_ok (hE : WE E) (hN : M + 2 ≤ N) (hK : LKV E Q V nL lc hd) (hlk : ∀ n, n < nL → lk n = 4 → hd (100 + n) = 1004) {dp i j a b k : Nat} (hD : DE ty mn nu cd E nL lc lk hd 0 dp i j a b k) (hk : k = 4) {B B2 : Hp} {v dr : Int32} (hB : STB B w u ir M ty mn nu E Q V nL lc hd) (hs : BS B i 0 dr) (hj : j < M) (e : (X_RunE N 50).1 611 B = some (v, B2)) (h10 : B2.D 611 10 = 0) : SV E v := by
  obtain ⟨-, go⟩ := j4 (N := N) (w := w) (u := u) (ir := ir) (M := M) hE hN hK hlk hD hk
  have e' : RL N 49 (t4 0) B = some (v, B2) := e
  rcases go 49 B dr hB hs (by omega) hj with ⟨v', B2', g7, g8, g9, g10⟩ | ⟨v', B2', y, j', g5, g6, g7, g4, g8, g9⟩
  · rw [e'] at g7
    have := Option.some.inj g7
    have hv : v = v' := congrArg Prod.fst this
    rw [hv]
    exact g10
  · rw [e'] at g5
    have := Option.some.inj g5
    have hv : B2 = B2' := congrArg Prod.snd this
    rw [← hv, h10] at g7
    rw [← g7] at g4
    exact absurd g4 (by decide)
end Par
