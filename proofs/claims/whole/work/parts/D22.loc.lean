def upn (ln : Nat → List Nat) (n : Nat) (s : List Nat) : Nat → List Nat := fun x => if x = n then s else ln x
theorem up1_s {f : Nat → Nat} {n k : Nat} : up1 f n k n = k := if_pos rfl
theorem up1_o {f : Nat → Nat} {n k x : Nat} (h : x ≠ n) : up1 f n k x = f x := if_neg h
theorem upn_s {f : Nat → List Nat} {n : Nat} {k : List Nat} : upn f n k n = k := if_pos rfl
theorem upn_o {f : Nat → List Nat} {n x : Nat} {k : List Nat} (h : x ≠ n) : upn f n k x = f x := if_neg h
theorem uph_s {f : Nat → Int32} {n : Nat} {k : Int32} : uph f n k n = k := if_pos rfl
theorem uph_o {f : Nat → Int32} {n x : Nat} {k : Int32} (h : x ≠ n) : uph f n k x = f x := if_neg h
theorem rps {H : Hp} {a f : Nat} {v : Value} : (H.sP a f v).P a f = v := by rw [sP_P, up2_eq]
theorem rpw {H : Hp} {a f x y : Nat} {v : Value} (h : x ≠ a) : (H.sP a f v).P x y = H.P x y := by rw [sP_P, up2_o h]
section Par
variable {N p w T : Nat} {L : List (Nat × Nat × Int32 × Bool × Nat)} {g : Nat → Nat} {E : Nat → Nat → Nat} {Nm : Nat → Nat → List Nat} {Pv : Nat → Nat → Int32} {nL lc dp : Nat} {ln : Nat → List Nat} {lk lf : Nat → Nat} {hd : Nat → Int32}
theorem JA.chg {A A' : Hp} {i cs c2 n2 l2 d2 : Nat} {m2 : Nat → List Nat} {k2 f2 : Nat → Nat} {h2 : Nat → Int32} (h : (JA p T L g E Nm Pv nL lc dp ln lk lf hd i cs A)) (hE : WE E) (hp : p = 133 ∨ p = 325) (hx : exA (SJ p (E 0 0)) 0 A A') (hb : BoA A' p E n2 l2 d2 m2 k2 f2 h2 c2) : (JA p T L g E Nm Pv n2 l2 d2 m2 k2 f2 h2 i c2 A') := by
  have h56 : E 0 0 ≤ 56 := hE.2.2.2.2.2.2.2.2.2.2.2.2.2.1
  exact ⟨h.1.ex hx (SJ_ok hp h56) (decide_eq_false (by omega)) (decide_eq_false (by omega)) (decide_eq_false (by omega)) (decide_eq_false (by omega)), h.2.1.ex (hx.mono SJ_SBo (Nat.le_refl _)) hE hp h.1.1.1.len, hb⟩
def tlA (A : Hp) (p x s n m : Nat) (so k : Int32) : Hp := (((((A.sP x 0 (.ref s)).sD x 1 so).sD x 2 (nI n)).sD x 3 k).sD p 1 (nI m)).sD 9 3 (nI (n + 1))
theorem tl_ex {A : Hp} {p n x s m q : Nat} {so k : Int32} (h1 : p + 2 + n ≤ x) (h2 : x < p + 70) : exA (SJ p n) 0 A (tlA A p x s q m so k) := (((((exA.rf.sP (decide_eq_true (by omega))).sD (decide_eq_true (by omega))).sD (decide_eq_true (by omega))).sD (decide_eq_true (by omega))).sD (decide_eq_true (by omega))).sD (decide_eq_true (by omega))
theorem ev_tellLocal {A : Hp} {i cs s f k : Nat} (h : (JA p T L g E Nm Pv nL lc dp ln lk lf hd i cs A)) (hC : (CX p E Nm nL lc dp ln lk lf hd)) (h12 : nL < 12) : F_Body_tellLocal N 9 s (nI (5 + f)) (nI k) A = some ((), tlA A p (p + 2 + (E 0 0 + nL)) s nL (E 0 0 + nL + 1) (nI (5 + f)) (nI k)) := by
  have hG := h.1.1.1
  have hP := h.pP hC
  have hp := hC.2.1
  have h56 : E 0 0 ≤ 56 := hC.1.2.2.2.2.2.2.2.2.2.2.2.2.2.1
  have e1 : A.D p 1 = nI (E 0 0 + nL) := h.2.2.2.2.2.2.2.1
  have e3 : A.D 9 3 = nI nL := h.2.2.2.2.1
  obtain ⟨k1, k2⟩ := PrK hP (E 0 0 + nL) (by omega)
  unfold F_Body_tellLocal F_Program_tell F_Named_tell
  rw [ck_t (rS_9 hG), rf_t h.2.2.1, bnd_t, e3, ck_t (PrS hP), ck_t (PrS hP), bnd_t, e1, if_neg (show ¬ (68 : Int32) ≤ nI (E 0 0 + nL) from nI_ge (b := 68) (by omega) (by decide)), rf_t (PrP_0 hP), bnd_t, ar_t (PrA_0 hP), rdP (by omega) (by decide), rf_t k1, ck_t k2, ck_t k2, bnd_t, bnd_t, bnd_t, bnd_t, bC_v, bnd_t, bnd_t, bC_v, bnd_t, bnd_t]
  unfold tlA
  rw [rdw (by omega), rdw (by omega), rdw (by omega)]
  show some ((), ((((((A.sP (p + 2 + (E 0 0 + nL)) 0 (.ref s)).sD (p + 2 + (E 0 0 + nL)) 1 (nI (5 + f))).sD (p + 2 + (E 0 0 + nL)) 2 (nI nL)).sD (p + 2 + (E 0 0 + nL)) 3 (nI k)).sD p 1 (A.D p 1 + 1)).sD 9 3 _)) = _
  rw [e1, nI_1, rdw (by omega), rdw (by omega), rdw (by omega), rdw (by omega)]
  show some ((), ((((((A.sP (p + 2 + (E 0 0 + nL)) 0 (.ref s)).sD (p + 2 + (E 0 0 + nL)) 1 (nI (5 + f))).sD (p + 2 + (E 0 0 + nL)) 2 (nI nL)).sD (p + 2 + (E 0 0 + nL)) 3 (nI k)).sD p 1 (nI (E 0 0 + nL + 1))).sD 9 3 (A.D 9 3 + 1))) = _
  rw [e3, nI_1]
theorem JA.tell {A : Hp} {i cs s f k : Nat} {nm : List Nat} (h : (JA p T L g E Nm Pv nL lc dp ln lk lf hd i cs A)) (hC : (CX p E Nm nL lc dp ln lk lf hd)) (h12 : nL < 12) (hs : strA A s nm) (h6 : 626 ≤ s) (h7 : ∀ b, A.P s 0 = .ref b → 626 ≤ b) : (JA p T L g E Nm Pv (nL + 1) lc dp (upn ln nL nm) (up1 lk nL k) (up1 lf nL f) hd i cs (tlA A p (p + 2 + (E 0 0 + nL)) s nL (E 0 0 + nL + 1) (nI (5 + f)) (nI k))) := by
  have hp := hC.2.1
  have h56 : E 0 0 ≤ 56 := hC.1.2.2.2.2.2.2.2.2.2.2.2.2.2.1
  have hx := tl_ex (A := A) (p := p) (n := E 0 0) (x := p + 2 + (E 0 0 + nL)) (s := s) (q := nL) (m := E 0 0 + nL + 1) (so := nI (5 + f)) (k := nI k) (by omega) (by omega)
  obtain ⟨-, -, b1, b2, b3, b4, b5, b6, b7, b8, b9⟩ := id h
  refine h.chg hC.1 hp hx ⟨?_, ?_, ?_, ?_, ?_, ?_, ?_, fun x hx2 => ?_, fun l hl => ?_⟩
  · rw [← b1]; exact (hx.2.2.2 9 1 (by have := h.1.1.1.len; omega) (decide_eq_false (by omega))).2
  · rw [(hx.2.2.2 9 2 (by have := h.1.1.1.len; omega) (decide_eq_false (by omega))).1]; exact b2
  · unfold tlA; rw [rds]
  · unfold tlA; rw [rdf (by decide), rdw (by omega), rdw (by omega), rdw (by omega), rdw (by omega)]; exact b4
  · unfold tlA; rw [rdf (by decide), rdw (by omega), rdw (by omega), rdw (by omega), rdw (by omega)]; exact b5
  · unfold tlA; rw [rdw (by omega), rds]; rfl
  · unfold tlA; rw [rdw (by omega), rdf (by decide), rdw (by omega), rdw (by omega), rdw (by omega)]; exact b7
  · by_cases q : x = nL
    · subst q
      rw [upn_s, up1_s, up1_s]
      obtain ⟨t1, t2⟩ := hx.str (SJ_lt (by omega)) hs h6 h7
      refine ⟨⟨s, ?_, t1, h6, t2⟩, ?_, ?_, ?_⟩
      · unfold tlA; exact rps
      · unfold tlA; rw [rdw (by omega), rdw (by omega), rdf (by decide), rdf (by decide), rds]
      · unfold tlA; rw [rdw (by omega), rdw (by omega), rdf (by decide), rds]
      · unfold tlA; rw [rdw (by omega), rdw (by omega), rds]
    · rw [upn_o q, up1_o q, up1_o q]
      obtain ⟨⟨s2, s1, s3, s4, s5⟩, a2, a3, a4⟩ := b8 x (by omega)
      obtain ⟨t1, t2⟩ := hx.str (SJ_lt (by omega)) s3 s4 s5
      refine ⟨⟨s2, ?_, t1, s4, t2⟩, ?_, ?_, ?_⟩
      · unfold tlA; exact (rpw (by omega)).trans s1
      · unfold tlA; rw [rdw (by omega), rdw (by omega), rdw (by omega), rdw (by omega), rdw (by omega)]; exact a2
      · unfold tlA; rw [rdw (by omega), rdw (by omega), rdw (by omega), rdw (by omega), rdw (by omega)]; exact a3
      · unfold tlA; rw [rdw (by omega), rdw (by omega), rdw (by omega), rdw (by omega), rdw (by omega)]; exact a4
  · unfold tlA; rw [rdw (by omega), rdw (by omega), rdw (by omega), rdw (by omega), rdw (by omega)]; exact b9 l hl
theorem CX.tell {f k : Nat} {nm : List Nat} (hC : (CX p E Nm nL lc dp ln lk lf hd)) (h12 : nL < 12) (hk : k ≤ 4 ∧ k ≠ 1) (hf : f ≤ 1 ∧ (f = 1 → k = 4)) (hn : ∀ x, x < E 0 0 → Nm 1 x ≠ nm) : (CX p E Nm (nL + 1) lc dp (upn ln nL nm) (up1 lk nL k) (up1 lf nL f) hd) := by
  obtain ⟨hE, hp, c3, c4, c5, c6, c7, c8, c9⟩ := hC
  refine ⟨hE, hp, c3, by omega, c5, c6, fun x hx => ?_, fun x l hx hl => ?_, c9⟩
  · by_cases q : x = nL
    · subst q; rw [up1_s, up1_s]; exact ⟨hk.1, hk.2, hf.1, hf.2⟩
    · rw [up1_o q, up1_o q]; exact c7 x (by omega)
  · by_cases q : l = nL
    · subst q; rw [upn_s]; exact hn x hx
    · rw [upn_o q]; exact c8 x l hx (by omega)
end Par
