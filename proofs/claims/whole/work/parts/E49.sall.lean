/-! ===== every statement is answered alike ===== -/
/-- loops and kinds of locals together -/
def hx (hd : Nat → Int32) (lk : Nat → Nat) : Nat → Int32 := fun x => if x < 100 then hd x else kk (lk (x - 100))
theorem hx_lt {hd : Nat → Int32} {lk : Nat → Nat} {x : Nat} (h : x < 100) : hx hd lk x = hd x := if_pos h
theorem hx_ge {hd : Nat → Int32} {lk : Nat → Nat} {n : Nat} : hx hd lk (100 + n) = kk (lk n) := by
  unfold hx
  rw [if_neg (by omega), show 100 + n - 100 = n by omega]
theorem hx_up {hd : Nat → Int32} {lk : Nat → Nat} {lc : Nat} {v : Int32} (h : lc < 100) : uph (hx hd lk) lc v = hx (uph hd lc v) lk := by
  funext x
  show (if x = lc then v else (if x < 100 then hd x else kk (lk (x - 100)))) = (if x < 100 then (if x = lc then v else hd x) else kk (lk (x - 100)))
  by_cases q : x = lc
  · rw [if_pos q, if_pos (by omega), if_pos q]
  · rw [if_neg q]
    by_cases z : x < 100
    · rw [if_pos z, if_pos z, if_neg q]
    · rw [if_neg z, if_neg z]
theorem hx_k {hd : Nat → Int32} {lk : Nat → Nat} {n k : Nat} : uph (hx hd lk) (100 + n) (kk k) = hx hd (up1 lk n k) := by
  funext x
  unfold uph hx up1
  by_cases q : x = 100 + n
  · rw [if_pos q, if_neg (by omega), if_pos (by omega)]
  · rw [if_neg q]
    by_cases z : x < 100
    · rw [if_pos z, if_pos z]
    · rw [if_neg z, if_neg z, if_neg (by omega)]
theorem hx_4 {hd : Nat → Int32} {lk : Nat → Nat} {n : Nat} (h : lk n = 4) : hx hd lk (100 + n) = 1004 := by
  rw [hx_ge, h]
  rfl
theorem DE.hxx {ty mn nu cd : Nat → Int32} {E : Nat → Nat → Nat} {nL lc : Nat} {lk l2 : Nat → Nat} {hd : Nat → Int32} {tg dp i j a b k : Nat} (hl : lc ≤ 100) (h : DE ty mn nu cd E nL lc lk hd tg dp i j a b k) : DE ty mn nu cd E nL lc lk (hx hd l2) tg dp i j a b k := by
  refine h (fun tg dp i j a b k => DE ty mn nu cd E nL lc lk (hx hd l2) tg dp i j a b k) ⟨?_, ?_, ?_, ?_, ?_, ?_, ?_, ?_, ?_, ?_, ?_, ?_, ?_, ?_, ?_, ?_, ?_, ?_, ?_, ?_, ?_, ?_⟩
  · intro dp i a h0 h1 h2; exact DE.num h0 h1 h2
  · intro dp i a h0 h1 h2; exact DE.fix h0 h1 h2
  · intro dp i a h0 h1 h2; exact DE.tru h0 h1 h2
  · intro dp i a h0 h1 h2; exact DE.fal h0 h1 h2
  · intro dp i a h0 h1 h2; exact DE.non h0 h1 h2
  · intro dp i a h0 h1; exact DE.slf h0 h1
  · intro dp i a h0 h1; exact DE.tck h0 h1
  · intro dp i j a b k h0 h1 ih h3; exact DE.par h0 h1 ih h3
  · intro dp i j a b wd kin op kout h0 h1 h2 h3 ih h5 h6; exact DE.cal h0 h1 h2 h3 ih h5 h6
  · intro dp i j a b c h0 h1 h2 ih h4 h5 h6 h7 h8 h9 h10; exact DE.has h0 h1 h2 ih h4 h5 h6 h7 h8 h9 h10
  · intro dp i a n h0 h1 h2 h3 h4 h5; exact DE.loc h0 h1 h2 h3 h4 h5
  · intro dp i a c m h0 h1 h2 h3 h4 h5 h6 h7; exact DE.own h0 h1 h2 h3 h4 h5 h6 h7
  · intro dp i a e q l h0 h1 h2 h3 h4 h5 h6 h7 h8 h9 h10; exact DE.hrd h0 h1 h2 h3 h4 h5 h6 (inn_cg (fun x z => (hx_lt (by omega)).symm) h7) h8 h9 h10
  · intro dp i a n c m h0 h1 h2 h3 h4 h5 h6 h7 h8 h9 h10 h11 h12 h13 h14 h15; exact DE.far h0 h1 h2 h3 h4 h5 h6 h7 h8 h9 h10 h11 h12 h13 h14 h15
  · intro dp i j a b k h0 h1 ih h3 h4; exact DE.neg h0 h1 ih h3 h4
  · intro dp i j a b h0 h1 ih h3; exact DE.nott h0 h1 ih h3
  · intro dp l i j a b k h0 ih; exact DE.ch h0 ih
  · intro dp l i m j a b b' k sg op h0 ih1 h2 h3 ih2 h5 h6; exact DE.chs h0 ih1 h2 h3 ih2 h5 h6
  · intro dp l i m j a b b' h0 ih1 h2 h3 h4 ih2; exact DE.chj h0 ih1 h2 h3 h4 ih2
  · intro dp l i j a b k h0 ih h2; exact DE.cls h0 ih h2
  · intro dp i j a b k ih h1; exact DE.cm0 ih h1
  · intro dp i m j a b b' k sg op ih1 h1 h2 ih2 h4; exact DE.cmp ih1 h1 h2 ih2 h4
def PST (N : Nat) (s pl : Int32) (p wo inp cs w u ir M : Nat) (ty mn nu cd : Nat → Int32) (E : Nat → Nat → Nat) (K0 : Nat) (tg nL lc : Nat) (lk : Nat → Nat) (hd : Nat → Int32) (dp i j a b n2 : Nat) (k2 : Nat → Nat) : Prop :=
  lc ≤ dp → dp ≤ 20 → if tg = 0 then (SP0 N s pl p wo inp cs w u ir M ty mn nu cd E K0 nL lc (hx hd lk) dp i j a b n2 (hx hd k2)) ∧ nL ≤ n2 ∧ (∀ x, x < nL → k2 x = lk x) else if tg = 1 then (SP1 N s pl p wo inp cs w u ir M ty mn nu cd E K0 nL lc (hx hd lk) dp i j a b n2 (hx hd k2)) ∧ nL ≤ n2 ∧ (∀ x, x < nL → k2 x = lk x) else if tg = 2 then (SP2 N s pl p wo inp cs w u ir M ty mn nu cd E K0 nL lc (hx hd lk) dp i j a b) else if tg = 3 then SP3 N s pl p wo inp cs w u ir M ty mn nu cd E K0 nL lc (hx hd lk) dp i j a b n2 k2 else SP4 N s pl p wo inp cs w u ir M ty mn nu cd E K0 nL lc (hx hd lk) i j a b n2 (k2 0)
theorem pl_4 {k : Nat} (h : k = 4) : pl k = 4 := by
  rw [h]
  rfl
theorem ok3 {P : Prop} {n : Nat} {lk : Nat → Nat} (h : P) : P ∧ n ≤ n ∧ (∀ x, x < n → lk x = lk x) := ⟨h, Nat.le_refl _, fun _ _ => rfl⟩
section Par
variable {N p wo inp cs w u ir M K0 : Nat} {s pl : Int32} {ty mn nu cd : Nat → Int32} {E Q : Nat → Nat → Nat} {V : Nat → Nat → Int32} {nL lc : Nat} {lk : Nat → Nat} {hd : Nat → Int32}
theorem DE_lt {tg dp i j a b k : Nat} (hF : (FIX N p wo w u K0 M E)) (h : DE ty mn nu cd E nL lc lk hd tg dp i j a b k) : i < j ∧ a < b := by
  have := (jnt0 (N := N) (s := 0) (pl := 0) (p := 0) (wo := 0) (inp := 0) (cs := 0) (w := 0) (u := 0) (ir := 0) (M := M) (Q := fun _ _ => 0) (V := fun _ _ => 0) hF.1 hF.2.1 (by have := hF.2.2.1; omega) h).1
  exact ⟨this.1, this.2.1⟩
theorem s_all (hF : (FIX N p wo w u K0 M E)) (hW : WRE E) {tg dp i j a b n2 : Nat} {k2 : Nat → Nat} (h : DS ty mn nu cd E tg nL lc lk hd dp i j a b n2 k2) : PST N s pl p wo inp cs w u ir M ty mn nu cd E K0 tg nL lc lk hd dp i j a b n2 k2 := by
  refine h (fun tg nL lc lk hd dp i j a b n2 k2 => PST N s pl p wo inp cs w u ir M ty mn nu cd E K0 tg nL lc lk hd dp i j a b n2 k2) ⟨?_, ?_, ?_, ?_, ?_, ?_, ?_, ?_, ?_, ?_, ?_, ?_, ?_, ?_, ?_, ?_, ?_, ?_, ?_, ?_, ?_, ?_, ?_, ?_, ?_⟩
  · intro nL lc lk hd dp i a h0 L1 L2
    exact ok3 (s_nil hF : (SP1 N s pl p wo inp cs w u ir M ty mn nu cd E K0 nL lc (hx hd lk) dp i i a a nL (hx hd lk)))
  · intro nL lc lk hd dp i m j a b b' n1 n2 k1 k2 h0 h1 h2 h3 L1 L2
    obtain ⟨a1, a2, a3⟩ : (SP0 N s pl p wo inp cs w u ir M ty mn nu cd E K0 nL lc (hx hd lk) dp i m (a + 1) b n1 (hx hd k1)) ∧ nL ≤ n1 ∧ (∀ x, x < nL → k1 x = lk x) := h2 L1 L2
    obtain ⟨b1, b2, b3⟩ : (SP1 N s pl p wo inp cs w u ir M ty mn nu cd E K0 n1 lc (hx hd k1) dp m j b b' n2 (hx hd k2)) ∧ n1 ≤ n2 ∧ (∀ x, x < n1 → k2 x = k1 x) := h3 L1 L2
    exact (⟨s_cons hF h1 a1 b1, by omega, fun x y => by rw [b3 x (by omega)]; exact a3 x y⟩ : (SP1 N s pl p wo inp cs w u ir M ty mn nu cd E K0 nL lc (hx hd lk) dp i j a b' n2 (hx hd k2)) ∧ nL ≤ n2 ∧ (∀ x, x < nL → k2 x = lk x))
  · intro nL lc lk hd dp i j a b n1 k1 h0 h1 h2 h3 L1 L2
    obtain ⟨b1, b2, b3⟩ : (SP1 N s pl p wo inp cs w u ir M ty mn nu cd E K0 nL lc (hx hd lk) dp (i + 1) j a b n1 (hx hd k1)) ∧ nL ≤ n1 ∧ (∀ x, x < nL → k1 x = lk x) := h1 L1 L2
    exact (s_blk hF (fun x y => by
      by_cases q : x < 100
      · rw [hx_lt q, hx_lt q]
      · obtain ⟨n, rfl⟩ : ∃ n, x = 100 + n := ⟨x - 100, by omega⟩
        rw [hx_ge, hx_ge, b3 n (by omega)]) b1 h3 : (SP2 N s pl p wo inp cs w u ir M ty mn nu cd E K0 nL lc (hx hd lk) dp i (j + 1) a b))
  · intro nL lc lk hd dp i j a b k h0 h1 h2 h3 h4 h5 h6 h7 h8 L1 L2
    have := DE_lt hF h5
    have g : (SP0 N s pl p wo inp cs w u ir M ty mn nu cd E K0 nL lc (hx hd lk) dp i (j + 1) a (b + 2) (nL + 1) (uph (hx hd lk) (100 + nL) (kk k))) := s_lt hF (fun n _ => hx_4) h0 h2 h3 (h5.hxx (by omega)) h7 h8 this.1 this.2
    rw [hx_k] at g
    exact (⟨g, by omega, fun x y => if_neg (by omega)⟩ : (SP0 N s pl p wo inp cs w u ir M ty mn nu cd E K0 nL lc (hx hd lk) dp i (j + 1) a (b + 2) (nL + 1) (hx hd (up1 lk nL k))) ∧ nL ≤ nL + 1 ∧ (∀ x, x < nL → up1 lk nL k x = lk x))
  · intro nL lc lk hd dp i j a b l h0 h1 h2 h3 h4 h5 h6 h7 L1 L2
    have := DE_lt hF h4
    exact ok3 (s_stl hF (fun n _ => hx_4) (fun y => by rw [hx_ge] at y; exact kk_4 y) h0 h1 h2 h3 (h4.hxx (by omega)) h6 h7 this.1 this.2 : (SP0 N s pl p wo inp cs w u ir M ty mn nu cd E K0 nL lc (hx hd lk) dp i (j + 1) a (b + 2) nL (hx hd lk)))
  · intro nL lc lk hd dp i j a b c m h0 h1 h2 h3 h4 h5 h6 h7 h8 h9 L1 L2
    have := DE_lt hF h5
    exact ok3 (s_sto hF (fun n _ => hx_4) (fun y => by rw [y]; rfl) hW h0 h1 h2 h3 h4 (h5.hxx (by omega)) h7 h8 h9 this.1 this.2 : (SP0 N s pl p wo inp cs w u ir M ty mn nu cd E K0 nL lc (hx hd lk) dp i (j + 1) a (b + hld (E 6 m) + 2) nL (hx hd lk)))
  · intro nL lc lk hd dp i m j a b c h0 h1 h2 h3 h4 h5 h6 L1 L2
    have := DE_lt hF h1
    exact ok3 (s_iff hF h0 (h1.hxx (by omega)) h2 h3 h4 (h5 (by omega) (by omega) : (SP2 N s pl p wo inp cs w u ir M ty mn nu cd E K0 nL lc (hx hd lk) (dp + 1) m j (b + 2) c)) h6 this.1 this.2 : (SP0 N s pl p wo inp cs w u ir M ty mn nu cd E K0 nL lc (hx hd lk) dp i j a c nL (hx hd lk)))
  · intro nL lc lk hd dp i m q j a b c c2 h0 h1 h2 h3 h4 h5 h6 h7 h8 h9 L1 L2
    have := DE_lt hF h1
    exact ok3 (s_ife hF h0 (h1.hxx (by omega)) h2 h3 h4 (h5 (by omega) (by omega) : (SP2 N s pl p wo inp cs w u ir M ty mn nu cd E K0 nL lc (hx hd lk) (dp + 1) m q (b + 2) c)) h6 h7 h8 (h9 (by omega) (by omega) : (SP2 N s pl p wo inp cs w u ir M ty mn nu cd E K0 nL lc (hx hd lk) (dp + 1) (q + 1) j (c + 2) c2)) this.1 this.2 : (SP0 N s pl p wo inp cs w u ir M ty mn nu cd E K0 nL lc (hx hd lk) dp i j a c2 nL (hx hd lk)))
  · intro nL lc lk hd dp i m j a b c h0 h1 h2 h3 h4 h5 h6 h7 h8 L1 L2
    have := DE_lt hF h1
    exact ok3 (s_whl hF h0 (h1.hxx (by omega)) h2 h3 h4 h5 (by rw [hx_up (by omega)]; exact h6 (by omega) (by omega) : (SP2 N s pl p wo inp cs w u ir M ty mn nu cd E K0 nL (lc + 1) (uph (hx hd lk) lc (-1)) (dp + 1) m j (b + 3) c)) h7 h8 this.1 this.2 : (SP0 N s pl p wo inp cs w u ir M ty mn nu cd E K0 nL lc (hx hd lk) dp i j a (c + 2) nL (hx hd lk)))
  · intro nL lc lk hd dp i j a c e h0 h1 h2 h3 h4 h5 h6 h7 h8 h9 h10 h11 h12 h13 h14 L1 L2
    exact ok3 (s_her hF h0 h2 h3 h4 h5 h6 h7 h8 h9 h10 h11 (by rw [hx_up (by omega)]; exact h12 (by omega) (by omega) : (SP2 N s pl p wo inp cs w u ir M ty mn nu cd E K0 nL (lc + 1) (uph (hx hd lk) lc (nI e)) (dp + 1) (i + 2) j (a + 7) c)) h13 h14 : (SP0 N s pl p wo inp cs w u ir M ty mn nu cd E K0 nL lc (hx hd lk) dp i j a (c + 2) nL (hx hd lk)))
  · intro nL lc lk hd dp i j a c q h0 h1 h2 h3 h4 h5 h6 h7 h8 h9 h10 h11 h12 h13 h14 h15 h16 h17 h18 h19 L1 L2
    exact ok3 (s_forr hF h0 h2 h3 h5 h6 h7 h8 h9 h10 h11 h12 h13 h14 h15 h16 (by rw [hx_up (by omega), show (1004 : Int32) = kk 4 from rfl, hx_k]; exact h17 (by omega) (by omega) : (SP2 N s pl p wo inp cs w u ir M ty mn nu cd E K0 (nL + 1) (lc + 1) (uph (uph (hx hd lk) lc (-1)) (100 + nL) 1004) (dp + 1) (i + 4) j (a + 8) c)) h18 h19 : (SP0 N s pl p wo inp cs w u ir M ty mn nu cd E K0 nL lc (hx hd lk) dp i j a (c + 2) nL (hx hd lk)))
  · intro nL lc lk hd dp i m j a b c q h0 h1 h2 h3 h4 h5 h6 h7 h8 h9 h10 h11 h12 h13 h14 h15 h16 h17 h18 h19 h20 h21 h22 h23 h24 h25 h26 h27 h28 h29 L1 L2
    have := DE_lt hF h15
    exact ok3 (s_forn hF h0 h2 h3 h5 h6 h7 h8 h9 h10 h14 (h15.hxx (by omega)) h17 h18 h19 h20 h21 h22 h23 h24 h25 h26 (by rw [hx_up (by omega), show (1004 : Int32) = kk 4 from rfl, hx_k]; exact h27 (by omega) (by omega) : (SP2 N s pl p wo inp cs w u ir M ty mn nu cd E K0 (nL + 1) (lc + 1) (uph (uph (hx hd lk) lc (-1)) (100 + nL) 1004) (dp + 1) (m + 1) j (b + 10) c)) h28 h29 this.1 this.2 : (SP0 N s pl p wo inp cs w u ir M ty mn nu cd E K0 nL lc (hx hd lk) dp i j a (c + 2) nL (hx hd lk)))
  · intro nL lc lk hd dp i a f h0 h1 h2 h3 h4 h5 h6 h7 L1 L2
    exact ok3 (s_sp0 hF h0 h2 h3 h4 h5 h6 h7 : (SP0 N s pl p wo inp cs w u ir M ty mn nu cd E K0 nL lc (hx hd lk) dp i (i + 3) a (a + 3) nL (hx hd lk)))
  · intro nL lc lk hd dp i j a b c of h0 h1 h2 h3 h4 h5 h6 L1 L2
    have := DE_lt hF h4
    exact (s_pa1 hF (fun n _ => hx_4) (fun y => by rw [y]; rfl) h1 h2 (h4.hxx (by omega)) h5 h6 this.1 this.2 : SP3 N s pl p wo inp cs w u ir M ty mn nu cd E K0 nL lc (hx hd lk) dp i j a (b + hld (E 6 (of 0))) 1 of)
  · intro nL lc lk hd dp i m j a b b' c n of h0 h1 h2 h3 h4 h5 h6 h7 h8 h9 L1 L2
    have := DE_lt hF h7
    exact (s_pan hF (fun n _ => hx_4) (fun y => by rw [y]; rfl) (h0 L1 L2 : SP3 N s pl p wo inp cs w u ir M ty mn nu cd E K0 nL lc (hx hd lk) dp i m a b n of) h1 h2 h4 h5 (h7.hxx (by omega)) h8 h9 this.1 this.2 : SP3 N s pl p wo inp cs w u ir M ty mn nu cd E K0 nL lc (hx hd lk) dp i j a (b' + hld (E 6 (of n))) (n + 1) of)
  · intro nL lc lk hd dp i m a b f n of h0 h1 h2 h3 h4 h5 h6 h7 h8 h9 h10 h11 h12 h13 h14 L1 L2
    exact ok3 (s_spw hF h0 h2 h3 h4 (h6 (by omega) (by omega) : SP3 N s pl p wo inp cs w u ir M ty mn nu cd E K0 nL lc (hx hd lk) (dp + 1) (i + 3) m a b n of) h8 h10 h11 h12 h13 h14 : (SP0 N s pl p wo inp cs w u ir M ty mn nu cd E K0 nL lc (hx hd lk) dp i (m + 2) a (b + 3 + n) nL (hx hd lk)))
  · intro nL lc lk hd dp i m a b h0 h1 h2 h3 h4 h5 h6 L1 L2
    have := DE_lt hF h3
    exact ok3 (s_one (wd := 223) (op := 21) hF (fun n _ => hx_4) (fun _ => rfl) (by decide) h0 (h3.hxx (by omega)) h6 this.1 this.2 : (SP0 N s pl p wo inp cs w u ir M ty mn nu cd E K0 nL lc (hx hd lk) dp i (m + 2) a (b + 1) nL (hx hd lk)))
  · intro nL lc lk hd dp i m a b c wd op h0 h1 h2 h3 h4 h5 h6 h7 h8 h9 h10 L1 L2
    have := DE_lt hF h4
    exact ok3 (s_gvt hF h0 h1 (h4.hxx (by omega)) h6 h7 h9 h10 this.1 this.2 : (SP0 N s pl p wo inp cs w u ir M ty mn nu cd E K0 nL lc (hx hd lk) dp i (m + 3) a (b + 2) nL (hx hd lk)))
  · intro nL lc lk hd dp i m q a b b' c x h0 h1 h2 h3 h4 h5 h6 h7 h8 h9 h10 h11 h12 h13 h14 h15 L1 L2
    have t1 := DE_lt hF h3
    have t2 := DE_lt hF h10
    exact ok3 (s_pt hF (fun n _ => hx_4) (fun y => by rw [y]; rfl) h0 h2 (h3.hxx (by omega)) h5 h7 h8 (h10.hxx (by omega)) h11 h13 h14 h15 t1.1 t1.2 t2.1 t2.2 : (SP0 N s pl p wo inp cs w u ir M ty mn nu cd E K0 nL lc (hx hd lk) dp i (q + 1) a (b' + hld (E 6 x) + 3) nL (hx hd lk)))
  · intro nL lc lk hd dp i m a b k h0 h1 h2 h3 h4 h5 h6 L1 L2
    have := DE_lt hF h3
    exact ok3 (s_one (wd := 229) (op := 26) hF (fun n _ => hx_4) (fun y => absurd y (by decide)) (by decide) h0 (h3.hxx (by omega)) h6 this.1 this.2 : (SP0 N s pl p wo inp cs w u ir M ty mn nu cd E K0 nL lc (hx hd lk) dp i (m + 2) a (b + 1) nL (hx hd lk)))
  · intro nL lc lk hd dp i a h0 h1 h2 L1 L2
    exact ok3 (s_fai hF h0 h2 : (SP0 N s pl p wo inp cs w u ir M ty mn nu cd E K0 nL lc (hx hd lk) dp i (i + 2) a (a + 1) nL (hx hd lk)))
  · intro nL lc lk hd dp i a e L1 L2
    exact (s_ar0 : SP4 N s pl p wo inp cs w u ir M ty mn nu cd E K0 nL lc (hx hd lk) i i a a 0 e)
  · intro nL lc lk hd dp i j a b e h0 h1 L1 L2
    have := DE_lt hF h0
    exact (s_arn (n := 0) (m := i) (e := e) hF (fun n _ => hx_4) (fun y => by rw [y]; rfl) s_ar0 (h0.hxx (by omega)) h1 this.1 this.2 : SP4 N s pl p wo inp cs w u ir M ty mn nu cd E K0 nL lc (hx hd lk) i j a (b + hld (E 12 (4 * e + 0))) 1 e)
  · intro nL lc lk hd dp i m j a b b' n e h0 h1 h2 h3 h4 L1 L2
    have := DE_lt hF h3
    exact (s_arn (n := n) (e := e) hF (fun n _ => hx_4) (fun y => pl_4 y) (h0 L1 L2 : SP4 N s pl p wo inp cs w u ir M ty mn nu cd E K0 nL lc (hx hd lk) i m a b n e) (by rw [if_neg (by omega)]; exact h3.hxx (by omega)) h4 (by omega) this.2 : SP4 N s pl p wo inp cs w u ir M ty mn nu cd E K0 nL lc (hx hd lk) i j a (b' + hld (E 12 (4 * e + n))) (n + 1) e)
  · intro nL lc lk hd dp i m q r a b b2 b3 e h0 h1 h2 h3 h4 h5 h6 h7 h8 h9 h10 h11 h12 h13 h14 h15 h16 h17 h18 L1 L2
    have t1 := DE_lt hF h10
    have t2 := DE_lt hF h14
    exact ok3 (s_emt hF h0 h2 h3 (h6 (by omega) (by omega) : SP4 N s pl p wo inp cs w u ir M ty mn nu cd E K0 nL lc (hx hd lk) (i + 3) m a b (E 10 e) e) (h10.hxx (by omega)) (h14.hxx (by omega)) h17 h18 t1.1 t2.1 t1.2 t2.2 : (SP0 N s pl p wo inp cs w u ir M ty mn nu cd E K0 nL lc (hx hd lk) dp i (r + 2) a (b3 + 2) nL (hx hd lk)))
end Par
