/-! ===== every expression is answered alike ===== -/
theorem ev_times0 {N : Nat} {H : Hp} {a b : Int32} : F_MRunner_times N (0 : Int32) a b H = some (a * b, H) := by
  unfold F_MRunner_times
  rw [bnd_t, if_pos rfl, Int64.toInt32_mul, Int32.toInt32_toInt64, Int32.toInt32_toInt64]
theorem sh76 (v : Int32) : clp (v.toInt64 >>> (((16 : Int32) : Int32).toInt64 &&& 63)) = v >>> ((16 : Int32) &&& 31) := by
  have e1 := hi64 v.toInt64
  rw [t64] at e1
  have hb := b32 v
  rw [clp_id (by omega) (by omega)]
  have t2 : (v >>> ((16 : Int32) &&& 31)).toInt = v.toInt / 65536 := by
    have e : (v >>> ((16 : Int32) &&& 31)).toBitVec = v.toBitVec.sshiftRight 16 := rfl
    show (v >>> ((16 : Int32) &&& 31)).toBitVec.toInt = _
    rw [e, BitVec.toInt_sshiftRight, Int.shiftRight_eq_div_pow]
    rfl
  apply Int32.toInt_inj.mp
  rw [t2, Int64.toInt_toInt32, e1, Int.bmod_eq_of_le (by omega) (by omega)]
theorem ipt_eq {I J : Nat → Int32} {v : Int32} (h : ∀ x, x < 4 → I x = J x) : ipt I v = ipt J v := by
  unfold ipt
  rw [h 0 (by decide), h 1 (by decide), h 2 (by decide), h 3 (by decide)]
section Par
variable {N p wo inp cs w u ir M : Nat} {s pl : Int32} {ty mn nu cd : Nat → Int32} {E Q : Nat → Nat → Nat} {V : Nat → Nat → Int32} {nL lc : Nat} {lk : Nat → Nat} {hd : Nat → Int32}
/-- one operation that gives a value, and a token without more -/
theorem j_lit {dp i j a b : Nat} (hij : i < j) (hab : a < b) (go : ∀ d A B h dr, STA A p wo inp cs cd E Q V nL lc hd → STB B w u ir M ty mn nu E Q V nL lc hd → CS A a h → A.D 117 14 = dr → BS B i 0 dr → h < 160 → j < M → b ≤ cs → ∃ v, (∃ A2, VR N s pl 1 A A2 ∧ VO A A2 h b v) ∧ ∃ B2, RL N (d + 1) 5 B = some (v, B2) ∧ same EXB B B2 ∧ BS B2 j 0 dr) : JP N s pl p wo inp cs w u ir M ty mn nu cd E Q V nL lc hd 5 dp i j a b := by
  refine ⟨hij, hab, fun d A B h dr hA hB hc h14 hs k1 k2 k3 k4 => .inl ?_⟩
  obtain ⟨d, rfl⟩ : ∃ e, d = e + 1 := ⟨d - 1, by omega⟩
  obtain ⟨v, ⟨A2, r1, r2, r3, r4, r5⟩, B2, r6, r7, r8⟩ := go d A B h dr hA hB hc h14 hs (by omega) k3 k4
  exact JO.lo (by decide) (by omega) r1 r2 r3 r4 (r5.trans h14) r6 r7 r8
theorem j_tok {dp i a b : Nat} (hab : a < b) (go : ∀ d A B h dr, STA A p wo inp cs cd E Q V nL lc hd → STB B w u ir M ty mn nu E Q V nL lc hd → CS A a h → A.D 117 14 = dr → BS B i 0 dr → h < 160 → i + 1 < M → b ≤ cs → ∃ v, (∃ A2, VR N s pl 1 A A2 ∧ VO A A2 h b v) ∧ RL N (d + 1) 5 B = some (v, atB B (i + 1))) : JP N s pl p wo inp cs w u ir M ty mn nu cd E Q V nL lc hd 5 dp i (i + 1) a b :=
  j_lit (by omega) hab fun d A B h dr hA hB hc h14 hs k1 k2 k3 => by
    obtain ⟨v, g1, g2⟩ := go d A B h dr hA hB hc h14 hs k1 (by omega) k3
    exact ⟨v, g1, _, g2, atB_s, atB_S hs⟩
/-- after a value: one operation more, and the reference's share of it -/
theorem j_un {dp i j j2 a b b2 : Nat} (hij : i < j2) (hab : b < b2) (ih : JP N s pl p wo inp cs w u ir M ty mn nu cd E Q V nL lc hd 0 (dp + 1) (i + 2) j a b) (hd20 : dp < 20) (hj : j < j2)
    (go : ∀ d A2 B1 B2 h v dr, STA A2 p wo inp cs cd E Q V nL lc hd → STB B2 w u ir M ty mn nu E Q V nL lc hd → STB B1 w u ir M ty mn nu E Q V nL lc hd → CS A2 b (h + 1) → A2.D 119 h = v → A2.D 117 14 = dr → BS B1 i 0 (B1.D 611 9) → BS B2 j 0 dr → h < 160 → j2 < M → b2 ≤ cs → (X_RunE N (d + 1)).1 611 (atB (atB B1 (i + 1)) (i + 2)) = some (v, B2) → (∃ A3 B3 v3 dr3, VR N s pl 1 A2 A3 ∧ same (EXA h) A2 A3 ∧ CS A3 b2 (h + 1) ∧ A3.D 119 h = v3 ∧ A3.D 117 14 = dr3 ∧ RL N (d + 1 + 1) 5 B1 = some (v3, B3) ∧ same EXB B2 B3 ∧ BS B3 j2 0 dr3) ∨ (∃ A3 B3 v3 y, VR N s pl 1 A2 A3 ∧ VF A2 A3 y ∧ 0 < y ∧ RL N (d + 1 + 1) 5 B1 = some (v3, B3) ∧ same EXB B2 B3 ∧ B3.D 611 10 = y ∧ B3.D 611 11 = nI j2))
    (gf : ∀ d B1 B2 v j' y, STB B1 w u ir M ty mn nu E Q V nL lc hd → STB B2 w u ir M ty mn nu E Q V nL lc hd → BS B1 i 0 (B1.D 611 9) → B2.D 611 10 = y → 0 < y → B2.D 611 11 = nI j' → j' ≤ j → j2 < M → (X_RunE N (d + 1)).1 611 (atB (atB B1 (i + 1)) (i + 2)) = some (v, B2) → ∃ v3 j3, RL N (d + 1 + 1) 5 B1 = some (v3, atB B2 j3) ∧ j3 ≤ j2) : JP N s pl p wo inp cs w u ir M ty mn nu cd E Q V nL lc hd 5 dp i j2 a b2 := by
  obtain ⟨p1, p2, ih⟩ := ih
  refine ⟨hij, by omega, fun d A B h dr hA hB hc h14 hs k1 k2 k3 k4 => ?_⟩
  obtain ⟨d, rfl⟩ : ∃ e, d = e + 1 + 1 := ⟨d - 2, by omega⟩
  have r0 : rz 0 = 3 := rfl
  have r5 : rz 5 = 0 := rfl
  have hs1 := atB_S (j := i + 1) hs
  have hs2 := atB_S (j := i + 2) hs1
  have hB2 := (hB.ex (atB_s (i := i + 1))).ex (atB_s (i := i + 2))
  have s9 : BS B i 0 (B.D 611 9) := ⟨hs.1, hs.2.1, hs.2.2.1, rfl⟩
  rcases ih d A (atB (atB B (i + 1)) (i + 2)) h dr hA hB2 hc h14 hs2 (by omega) (by omega) (by omega) (by omega) with g | g
  · obtain ⟨n, A2, B2, v, dr2, g1, g2, g3, g4, g5, g6, g7, g8, g9⟩ := g.out (by decide)
    have g7' : (X_RunE N (d + 1)).1 611 (atB (atB B (i + 1)) (i + 2)) = some (v, B2) := g7
    rcases go d A2 B B2 h v dr2 (hA.ex g3) (hB2.ex g8) hB g4 g5 g6 s9 g9 (by omega) k3 k4 g7' with ⟨A3, B3, v3, dr3, q1, q2, q3, q4, q5, q6, q7, q8⟩ | ⟨A3, B3, v3, y, q1, q2, q3, q4, q5, q6, q7⟩
    · exact .inl (JO.lo (by decide) (by omega) (g2.tr q1) (g3.tr q2) q3 q4 q5 q6 (((atB_s.tr atB_s).tr g8).tr q7) q8)
    · exact .inr (JF.mk (l := 5) rfl (by omega) (g2.tr q1) ⟨(g3.mono (EXA.up (by omega))).tr q2.1, q2.2⟩ q3 q4 (((atB_s.tr atB_s).tr g8).tr q5) q6 q7 (by omega))
  · obtain ⟨n, A2, B2, v, y, j', g1, g2, g3, g4, g5, g6, g7, g8, g9⟩ := g
    have g5' : (X_RunE N (d + 1)).1 611 (atB (atB B (i + 1)) (i + 2)) = some (v, B2) := g5
    obtain ⟨v3, j3, q1, q2⟩ := gf d B B2 v j' y hB (hB2.ex g6) s9 g7 g4 g8 g9 k3 g5'
    exact .inr (JF.mk (l := 5) rfl (by omega) g2 g3 g4 q1 (((atB_s.tr atB_s).tr g6).tr atB_s) (by rw [show (atB B2 j3).D 611 10 = B2.D 611 10 from rdf (by decide)]; exact g7) (show (atB B2 j3).D 611 11 = nI j3 from rds) q2)
theorem STA.at_cd {A : Hp} {x : Nat} (h : STA A p wo inp cs cd E Q V nL lc hd) (hx : x < cs) : A.D (p + 191) x = cd x := h.2.2.2.2.2.2.2.2.2.2 x hx
/-- a sign -/
theorem j_sg {dp i j a b : Nat} (ih : JP N s pl p wo inp cs w u ir M ty mn nu cd E Q V nL lc hd 5 (dp + 1) (i + 1) j a b) (hd20 : dp < 20)
    (go : ∀ d A2 B1 B2 h v dr, STA A2 p wo inp cs cd E Q V nL lc hd → STB B2 w u ir M ty mn nu E Q V nL lc hd → STB B1 w u ir M ty mn nu E Q V nL lc hd → CS A2 b (h + 1) → A2.D 119 h = v → BS B1 i 0 (B1.D 611 9) → BS B2 j 0 dr → h < 160 → j < M → b < cs → RL N d 5 (atB B1 (i + 1)) = some (v, B2) → ∃ A3 v3, VR N s pl 1 A2 A3 ∧ VO A2 A3 h (b + 1) v3 ∧ RL N (d + 1) 5 B1 = some (v3, B2))
    (gf : ∀ d B1 B2 v, STB B1 w u ir M ty mn nu E Q V nL lc hd → STB B2 w u ir M ty mn nu E Q V nL lc hd → BS B1 i 0 (B1.D 611 9) → j < M → RL N d 5 (atB B1 (i + 1)) = some (v, B2) → ∃ v3, RL N (d + 1) 5 B1 = some (v3, B2)) : JP N s pl p wo inp cs w u ir M ty mn nu cd E Q V nL lc hd 5 dp i j a (b + 1) := by
  obtain ⟨p1, p2, ih⟩ := ih
  refine ⟨by omega, by omega, fun d A B h dr hA hB hc h14 hs k1 k2 k3 k4 => ?_⟩
  obtain ⟨d, rfl⟩ : ∃ e, d = e + 1 := ⟨d - 1, by omega⟩
  have s9 : BS B i 0 (B.D 611 9) := ⟨hs.1, hs.2.1, hs.2.2.1, rfl⟩
  have hB1 := hB.ex (atB_s (i := i + 1))
  rcases ih d A (atB B (i + 1)) h dr hA hB1 hc h14 (atB_S hs) (by omega) (by omega) (by omega) (by omega) with g | g
  · obtain ⟨n, A2, B2, v, dr2, g1, g2, g3, g4, g5, g6, g7, g8, g9⟩ := g.out (by decide)
    obtain ⟨A3, v3, q1, q2, q3⟩ := go d A2 B B2 h v dr2 (hA.ex g3) (hB1.ex g8) hB g4 g5 s9 g9 (by omega) k3 (by omega) g7
    exact .inl (JO.lo (by decide) (by omega) (g2.tr q1) (g3.tr q2.1) q2.2.1 q2.2.2.1 (q2.2.2.2.trans g6) q3 (atB_s.tr g8) g9)
  · obtain ⟨n, A2, B2, v, y, j', g1, g2, g3, g4, g5, g6, g7, g8, g9⟩ := g
    obtain ⟨v3, q1⟩ := gf d B B2 v hB (hB1.ex g6) s9 k3 g5
    exact .inr (JF.mk (l := 5) rfl (by omega) g2 g3 g4 q1 (atB_s.tr g6) g7 g8 g9)
/-- one operation over two values -/
theorem j_op {l m j b h d n k sg op : Nat} {A B B3 : Hp} {v v3 dr dr3 : Int32} (h0 : l = 3 ∨ l = 4) (hty : ty m = nI (tyK sg)) (hsg : sgT l sg k op) (hmn : mn m = nI k) (hcd : cd b = nI op)
    (hA : STA A p wo inp cs cd E Q V nL lc hd) (hB : STB B w u ir M ty mn nu E Q V nL lc hd) (hB3 : STB B3 w u ir M ty mn nu E Q V nL lc hd) (hc : CS A b (h + 2)) (hv : A.D 119 h = v) (hv3 : A.D 119 (h + 1) = v3) (hs : BS B m 0 dr) (hs3 : BS B3 j 0 dr3) (e3 : RL N d (l + 1) (atB B (m + 1)) = some (v3, B3)) (hh : h + 1 < 160) (hm : m < M) (hb : b < cs) :
    (∃ A4 x, VR N s pl 1 A A4 ∧ VO A A4 h (b + 1) x ∧ RLo N d l (n + 1) v B = RLo N d l n x B3) ∨ (∃ A4, VR N s pl 1 A A4 ∧ VF A A4 1 ∧ RLo N d l (n + 1) v B = RLo N d l n 0 (B3.sD 611 10 1)) := by
  have hcd' := (hA.at_cd hb).trans hcd
  have hp := hA.2.1
  have z1 : ¬ (0 : Int32) < 0 := by decide
  have z2 : (0 : Int32) ≤ 0 := by decide
  have prd : l = 4 → (ty m = 42 ∨ ty m = 47 ∨ ty m = 37) → RLo N d l (n + 1) v B = (if ty m = 42 then bC (F_MRunner_times N (mn m) v v3 B3) fun x H => RLo N d 4 n x H else bC (F_MRunner_divided N 611 (nI m) v v3 B3) fun x H => RLo N d 4 n x H) := fun z ht => by
    subst z
    rw [r_prd hB.1 hs hm ht e3 hB3.1, hs3.2.1, if_neg z1, hs3.2.2.1, if_pos z2]
  have qt : ∀ x : Int32, l = 4 → F_MRunner_divided N 611 (nI m) v v3 B3 = some (x, B3) → ¬ ty m = 42 → (ty m = 47 ∨ ty m = 37) → RLo N d l (n + 1) v B = RLo N d l n x B3 := fun x z e n1 n2 => by
    rw [prd z (.inr n2), if_neg n1, bC_t e, z]
  have q0 : l = 4 → v3 = 0 → ¬ ty m = 42 → (ty m = 47 ∨ ty m = 37) → RLo N d l (n + 1) v B = RLo N d l n 0 (B3.sD 611 10 1) := fun z e n1 n2 => by
    rw [prd z (.inr n2), if_neg n1, e, bC_t (q_0 hB3.1 hs3.2.1), z]
  unfold sgT at hsg
  simp only [List.mem_cons, List.not_mem_nil, Prod.mk.injEq, or_false] at hsg
  rcases hsg with ⟨rfl, rfl, rfl, rfl⟩ | ⟨rfl, rfl, rfl, rfl⟩ | ⟨rfl, rfl, rfl, rfl⟩ | ⟨rfl, rfl, rfl, rfl⟩ | ⟨rfl, rfl, rfl, rfl⟩ | ⟨rfl, rfl, rfl, rfl⟩ | ⟨rfl, rfl, rfl, rfl⟩ | ⟨rfl, rfl, rfl, rfl⟩ | ⟨rfl, rfl, rfl, rfl⟩
  · have ht : ty m = 43 := hty
    obtain ⟨A4, q1, q2⟩ := op_bi (N := N) (s := s) (pl := pl) (.inl rfl) (fun z => by omega) hA.1 hc hb hp hh hcd'
    rw [hv, hv3] at q2
    exact .inl ⟨A4, _, q1, q2, by rw [r_sum hB.1 hs hm (.inl ht) e3 hB3.1, hmn, show nI 0 = (0 : Int32) from rfl, bC_t ev_held0, if_pos ht, Int64.toInt32_add, Int32.toInt32_toInt64, Int32.toInt32_toInt64]; rfl⟩
  · have ht : ty m = 43 := hty
    obtain ⟨A4, q1, q2⟩ := op_71 (N := N) (s := s) (pl := pl) hA.1 hc hb hp hh hcd'
    rw [hv, hv3] at q2
    exact .inl ⟨A4, _, q1, q2, by rw [r_sum hB.1 hs hm (.inl ht) e3 hB3.1, hmn, show nI 2 = (2 : Int32) from rfl, bC_t ev_held2, if_pos ht]⟩
  · have ht : ty m = 45 := hty
    obtain ⟨A4, q1, q2⟩ := op_bi (N := N) (s := s) (pl := pl) (.inr (.inl rfl)) (fun z => by omega) hA.1 hc hb hp hh hcd'
    rw [hv, hv3] at q2
    exact .inl ⟨A4, _, q1, q2, by rw [r_sum hB.1 hs hm (.inr ht) e3 hB3.1, hmn, show nI 0 = (0 : Int32) from rfl, bC_t ev_held0, if_neg (by rw [ht]; decide), Int64.toInt32_sub, Int32.toInt32_toInt64, Int32.toInt32_toInt64]; rfl⟩
  · have ht : ty m = 45 := hty
    obtain ⟨A4, q1, q2⟩ := op_72 (N := N) (s := s) (pl := pl) hA.1 hc hb hp hh hcd'
    rw [hv, hv3] at q2
    exact .inl ⟨A4, _, q1, q2, by rw [r_sum hB.1 hs hm (.inr ht) e3 hB3.1, hmn, show nI 2 = (2 : Int32) from rfl, bC_t ev_held2, if_neg (by rw [ht]; decide)]⟩
  · have ht : ty m = 42 := hty
    obtain ⟨A4, q1, q2⟩ := op_bi (N := N) (s := s) (pl := pl) (.inr (.inr (.inl rfl))) (fun z => by omega) hA.1 hc hb hp hh hcd'
    rw [hv, hv3] at q2
    exact .inl ⟨A4, _, q1, q2, by rw [prd rfl (.inl ht), if_pos ht, hmn, show nI 0 = (0 : Int32) from rfl, bC_t ev_times0]; rfl⟩
  · have ht : ty m = 42 := hty
    obtain ⟨x, e, A4, q1, q2⟩ := op_73 (N := N) (s := s) (pl := pl) hA.1 hc hb hp hh hcd'
    obtain ⟨x2, e2, r⟩ := ev_times2 (N := N) (H := B3) (a := v) (b := v3)
    rw [hv, hv3] at e
    have : x = x2 := Int64.toInt_inj.mp (e.trans e2.symm)
    subst this
    exact .inl ⟨A4, _, q1, q2, by rw [prd rfl (.inl ht), if_pos ht, hmn, show nI 2 = (2 : Int32) from rfl, bC_t r]⟩
  · have ht : ty m = 47 := hty
    have hn : ¬ ty m = 42 := by rw [ht]; decide
    by_cases q : v3 = 0
    · obtain ⟨A4, q1, q2⟩ := op_bif (N := N) (s := s) (pl := pl) (.inl rfl) (hv3.trans q) hA.1 hc hb hp hh hcd'
      exact .inr ⟨A4, q1, q2, q0 rfl q hn (.inl ht)⟩
    · obtain ⟨A4, q1, q2⟩ := op_bi (N := N) (s := s) (pl := pl) (.inr (.inr (.inr (.inl rfl)))) (fun _ => by rw [hv3]; exact q) hA.1 hc hb hp hh hcd'
      rw [hv, hv3] at q2
      exact .inl ⟨A4, _, q1, q2, qt _ rfl ((q_n hB3.1 hm q).2.1 (by rw [ht]; decide) hmn) hn (.inl ht)⟩
  · have ht : ty m = 47 := hty
    have hn : ¬ ty m = 42 := by rw [ht]; decide
    by_cases q : v3 = 0
    · obtain ⟨A4, q1, q2⟩ := op_74f (N := N) (s := s) (pl := pl) (hv3.trans q) hA.1 hc hb hp hh hcd'
      exact .inr ⟨A4, q1, q2, q0 rfl q hn (.inl ht)⟩
    · obtain ⟨x, e, A4, q1, q2⟩ := op_74 (N := N) (s := s) (pl := pl) (by rw [hv3]; exact q) hA.1 hc hb hp hh hcd'
      obtain ⟨x2, e2, r⟩ := (q_n (N := N) (l1 := v) hB3.1 hm q).2.2 (by rw [ht]; decide) hmn
      rw [hv, hv3] at e
      have : x = x2 := Int64.toInt_inj.mp (e.trans e2.symm)
      subst this
      exact .inl ⟨A4, _, q1, q2, qt _ rfl r hn (.inl ht)⟩
  · have ht : ty m = 37 := hty
    have hn : ¬ ty m = 42 := by rw [ht]; decide
    by_cases q : v3 = 0
    · obtain ⟨A4, q1, q2⟩ := op_bif (N := N) (s := s) (pl := pl) (.inr rfl) (hv3.trans q) hA.1 hc hb hp hh hcd'
      exact .inr ⟨A4, q1, q2, q0 rfl q hn (.inr ht)⟩
    · obtain ⟨A4, q1, q2⟩ := op_bi (N := N) (s := s) (pl := pl) (.inr (.inr (.inr (.inr rfl)))) (fun _ => by rw [hv3]; exact q) hA.1 hc hb hp hh hcd'
      rw [hv, hv3] at q2
      exact .inl ⟨A4, _, q1, q2, qt _ rfl ((q_n hB3.1 hm q).1 ht) hn (.inr ht)⟩
end Par
