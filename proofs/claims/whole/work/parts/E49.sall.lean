/-! ===== every statement is answered alike ===== -/
def PST (N : Nat) (s pl : Int32) (p wo inp cs w u ir M : Nat) (ty mn nu cd : Nat → Int32) (E : Nat → Nat → Nat) (K0 : Nat) (tg nL lc : Nat) (_lk : Nat → Nat) (hd : Nat → Int32) (dp i j a b n2 : Nat) (k2 : Nat → Nat) : Prop :=
  if tg = 0 then (SP0 N s pl p wo inp cs w u ir M ty mn nu cd E K0 nL lc hd dp i j a b n2) else if tg = 1 then (SP1 N s pl p wo inp cs w u ir M ty mn nu cd E K0 nL lc hd dp i j a b n2) else if tg = 2 then (SP2 N s pl p wo inp cs w u ir M ty mn nu cd E K0 nL lc hd dp i j a b) else if tg = 3 then SP3 N s pl p wo inp cs w u ir M ty mn nu cd E K0 nL lc hd dp i j a b n2 k2 else SP4 N s pl p wo inp cs w u ir M ty mn nu cd E K0 nL lc hd i j a b n2 (k2 0)
section Par
variable {N p wo inp cs w u ir M K0 : Nat} {s pl : Int32} {ty mn nu cd : Nat → Int32} {E Q : Nat → Nat → Nat} {V : Nat → Nat → Int32} {nL lc : Nat} {lk : Nat → Nat} {hd : Nat → Int32}
theorem DE_lt {tg dp i j a b k : Nat} (hF : (FIX N p wo w u K0 M E)) (h : DE ty mn nu cd E nL lc lk hd tg dp i j a b k) : i < j ∧ a < b := by
  have := (jnt0 (N := N) (s := 0) (pl := 0) (p := 0) (wo := 0) (inp := 0) (cs := 0) (w := 0) (u := 0) (ir := 0) (M := M) (Q := fun _ _ => 0) (V := fun _ _ => 0) hF.1 hF.2.1 (by have := hF.2.2.1; omega) h).1
  exact ⟨this.1, this.2.1⟩
theorem s_all (hF : (FIX N p wo w u K0 M E)) (hW : WRE E) {tg dp i j a b n2 : Nat} {k2 : Nat → Nat} (h : DS ty mn nu cd E tg nL lc lk hd dp i j a b n2 k2) : PST N s pl p wo inp cs w u ir M ty mn nu cd E K0 tg nL lc lk hd dp i j a b n2 k2 := by
  refine h (fun tg nL lc lk hd dp i j a b n2 k2 => PST N s pl p wo inp cs w u ir M ty mn nu cd E K0 tg nL lc lk hd dp i j a b n2 k2) ⟨?_, ?_, ?_, ?_, ?_, ?_, ?_, ?_, ?_, ?_, ?_, ?_, ?_, ?_, ?_, ?_, ?_, ?_, ?_, ?_, ?_, ?_, ?_, ?_, ?_⟩
  · intro nL lc lk hd dp i a h0
    exact (s_nil hF : (SP1 N s pl p wo inp cs w u ir M ty mn nu cd E K0 nL lc hd dp i i a a nL))
  · intro nL lc lk hd dp i m j a b b' n1 n2 k1 k2 h0 h1 h2 h3
    exact (s_cons hF h1 (h2 : (SP0 N s pl p wo inp cs w u ir M ty mn nu cd E K0 nL lc hd dp i m (a + 1) b n1)) (h3 : (SP1 N s pl p wo inp cs w u ir M ty mn nu cd E K0 n1 lc hd dp m j b b' n2)) : (SP1 N s pl p wo inp cs w u ir M ty mn nu cd E K0 nL lc hd dp i j a b' n2))
  · intro nL lc lk hd dp i j a b n1 k1 h0 h1 h2 h3
    exact (s_blk hF (h1 : (SP1 N s pl p wo inp cs w u ir M ty mn nu cd E K0 nL lc hd dp (i + 1) j a b n1)) h3 : (SP2 N s pl p wo inp cs w u ir M ty mn nu cd E K0 nL lc hd dp i (j + 1) a b))
  · intro nL lc lk hd dp i j a b k h0 h1 h2 h3 h4 h5 h6 h7 h8
    have := DE_lt hF h5
    exact (s_lt hF h0 h2 h3 h5 h7 h8 this.1 this.2 : (SP0 N s pl p wo inp cs w u ir M ty mn nu cd E K0 nL lc hd dp i (j + 1) a (b + 2) (nL + 1)))
  · intro nL lc lk hd dp i j a b l h0 h1 h2 h3 h4 h5 h6 h7
    have := DE_lt hF h4
    exact (s_stl hF h0 h1 h2 h3 h4 h6 h7 this.1 this.2 : (SP0 N s pl p wo inp cs w u ir M ty mn nu cd E K0 nL lc hd dp i (j + 1) a (b + 2) nL))
  · intro nL lc lk hd dp i j a b c m h0 h1 h2 h3 h4 h5 h6 h7 h8 h9
    have := DE_lt hF h5
    exact (s_sto hF hW h0 h1 h2 h3 h4 h5 h7 h8 h9 this.1 this.2 : (SP0 N s pl p wo inp cs w u ir M ty mn nu cd E K0 nL lc hd dp i (j + 1) a (b + hld (E 6 m) + 2) nL))
  · intro nL lc lk hd dp i m j a b c h0 h1 h2 h3 h4 h5 h6
    have := DE_lt hF h1
    exact (s_iff hF h0 h1 h2 h3 h4 (h5 : (SP2 N s pl p wo inp cs w u ir M ty mn nu cd E K0 nL lc hd (dp + 1) m j (b + 2) c)) h6 this.1 this.2 : (SP0 N s pl p wo inp cs w u ir M ty mn nu cd E K0 nL lc hd dp i j a c nL))
  · intro nL lc lk hd dp i m q j a b c c2 h0 h1 h2 h3 h4 h5 h6 h7 h8 h9
    have := DE_lt hF h1
    exact (s_ife hF h0 h1 h2 h3 h4 (h5 : (SP2 N s pl p wo inp cs w u ir M ty mn nu cd E K0 nL lc hd (dp + 1) m q (b + 2) c)) h6 h7 h8 (h9 : (SP2 N s pl p wo inp cs w u ir M ty mn nu cd E K0 nL lc hd (dp + 1) (q + 1) j (c + 2) c2)) this.1 this.2 : (SP0 N s pl p wo inp cs w u ir M ty mn nu cd E K0 nL lc hd dp i j a c2 nL))
  · intro nL lc lk hd dp i m j a b c h0 h1 h2 h3 h4 h5 h6 h7 h8
    have := DE_lt hF h1
    exact (s_whl hF h0 h1 h2 h3 h4 h5 (h6 : (SP2 N s pl p wo inp cs w u ir M ty mn nu cd E K0 nL (lc + 1) (uph hd lc (-1)) (dp + 1) m j (b + 3) c)) h7 h8 this.1 this.2 : (SP0 N s pl p wo inp cs w u ir M ty mn nu cd E K0 nL lc hd dp i j a (c + 2) nL))
  · intro nL lc lk hd dp i j a c e h0 h1 h2 h3 h4 h5 h6 h7 h8 h9 h10 h11 h12 h13 h14
    exact (s_her hF h0 h2 h3 h4 h5 h6 h7 h8 h9 h10 h11 (h12 : (SP2 N s pl p wo inp cs w u ir M ty mn nu cd E K0 nL (lc + 1) (uph hd lc (nI e)) (dp + 1) (i + 2) j (a + 7) c)) h13 h14 : (SP0 N s pl p wo inp cs w u ir M ty mn nu cd E K0 nL lc hd dp i j a (c + 2) nL))
  · intro nL lc lk hd dp i j a c q h0 h1 h2 h3 h4 h5 h6 h7 h8 h9 h10 h11 h12 h13 h14 h15 h16 h17 h18 h19
    exact (s_forr hF h0 h2 h3 h5 h6 h7 h8 h9 h10 h11 h12 h13 h14 h15 h16 (h17 : (SP2 N s pl p wo inp cs w u ir M ty mn nu cd E K0 (nL + 1) (lc + 1) (uph hd lc (-1)) (dp + 1) (i + 4) j (a + 8) c)) h18 h19 : (SP0 N s pl p wo inp cs w u ir M ty mn nu cd E K0 nL lc hd dp i j a (c + 2) nL))
  · intro nL lc lk hd dp i m j a b c q h0 h1 h2 h3 h4 h5 h6 h7 h8 h9 h10 h11 h12 h13 h14 h15 h16 h17 h18 h19 h20 h21 h22 h23 h24 h25 h26 h27 h28 h29
    have := DE_lt hF h15
    exact (s_forn hF h0 h2 h3 h5 h6 h7 h8 h9 h10 h14 h15 h17 h18 h19 h20 h21 h22 h23 h24 h25 h26 (h27 : (SP2 N s pl p wo inp cs w u ir M ty mn nu cd E K0 (nL + 1) (lc + 1) (uph hd lc (-1)) (dp + 1) (m + 1) j (b + 10) c)) h28 h29 this.1 this.2 : (SP0 N s pl p wo inp cs w u ir M ty mn nu cd E K0 nL lc hd dp i j a (c + 2) nL))
  · intro nL lc lk hd dp i a f h0 h1 h2 h3 h4 h5 h6 h7
    exact (s_sp0 hF h0 h2 h3 h4 h5 h6 h7 : (SP0 N s pl p wo inp cs w u ir M ty mn nu cd E K0 nL lc hd dp i (i + 3) a (a + 3) nL))
  · intro nL lc lk hd dp i j a b c of h0 h1 h2 h3 h4 h5 h6
    have := DE_lt hF h4
    exact (s_pa1 hF h1 h2 h4 h5 h6 this.1 this.2 : SP3 N s pl p wo inp cs w u ir M ty mn nu cd E K0 nL lc hd dp i j a (b + hld (E 6 (of 0))) 1 of)
  · intro nL lc lk hd dp i m j a b b' c n of h0 h1 h2 h3 h4 h5 h6 h7 h8 h9
    have := DE_lt hF h7
    exact (s_pan hF (h0 : SP3 N s pl p wo inp cs w u ir M ty mn nu cd E K0 nL lc hd dp i m a b n of) h1 h2 h4 h5 h7 h8 h9 this.1 this.2 : SP3 N s pl p wo inp cs w u ir M ty mn nu cd E K0 nL lc hd dp i j a (b' + hld (E 6 (of n))) (n + 1) of)
  · intro nL lc lk hd dp i m a b f n of h0 h1 h2 h3 h4 h5 h6 h7 h8 h9 h10 h11 h12 h13 h14
    exact (s_spw hF h0 h2 h3 h4 (h6 : SP3 N s pl p wo inp cs w u ir M ty mn nu cd E K0 nL lc hd (dp + 1) (i + 3) m a b n of) h8 h10 h11 h12 h13 h14 : (SP0 N s pl p wo inp cs w u ir M ty mn nu cd E K0 nL lc hd dp i (m + 2) a (b + 3 + n) nL))
  · intro nL lc lk hd dp i m a b h0 h1 h2 h3 h4 h5 h6
    have := DE_lt hF h3
    exact (s_one (wd := 223) (op := 21) hF (by decide) h0 h3 h6 this.1 this.2 : (SP0 N s pl p wo inp cs w u ir M ty mn nu cd E K0 nL lc hd dp i (m + 2) a (b + 1) nL))
  · intro nL lc lk hd dp i m a b c wd op h0 h1 h2 h3 h4 h5 h6 h7 h8 h9 h10
    have := DE_lt hF h4
    exact (s_gvt hF h0 h1 h4 h6 h7 h9 h10 this.1 this.2 : (SP0 N s pl p wo inp cs w u ir M ty mn nu cd E K0 nL lc hd dp i (m + 3) a (b + 2) nL))
  · intro nL lc lk hd dp i m q a b b' c x h0 h1 h2 h3 h4 h5 h6 h7 h8 h9 h10 h11 h12 h13 h14 h15
    have t1 := DE_lt hF h3
    have t2 := DE_lt hF h10
    exact (s_pt hF h0 h2 h3 h5 h7 h8 h10 h11 h13 h14 h15 t1.1 t1.2 t2.1 t2.2 : (SP0 N s pl p wo inp cs w u ir M ty mn nu cd E K0 nL lc hd dp i (q + 1) a (b' + hld (E 6 x) + 3) nL))
  · intro nL lc lk hd dp i m a b k h0 h1 h2 h3 h4 h5 h6
    have := DE_lt hF h3
    exact (s_one (wd := 229) (op := 26) hF (by decide) h0 h3 h6 this.1 this.2 : (SP0 N s pl p wo inp cs w u ir M ty mn nu cd E K0 nL lc hd dp i (m + 2) a (b + 1) nL))
  · intro nL lc lk hd dp i a h0 h1 h2
    exact (s_fai hF h0 h2 : (SP0 N s pl p wo inp cs w u ir M ty mn nu cd E K0 nL lc hd dp i (i + 2) a (a + 1) nL))
  · intro nL lc lk hd dp i a e
    exact (s_ar0 : SP4 N s pl p wo inp cs w u ir M ty mn nu cd E K0 nL lc hd i i a a 0 e)
  · intro nL lc lk hd dp i j a b e h0 h1
    have := DE_lt hF h0
    exact (s_arn (n := 0) (m := i) (e := e) hF s_ar0 h0 h1 this.1 this.2 : SP4 N s pl p wo inp cs w u ir M ty mn nu cd E K0 nL lc hd i j a (b + hld (E 12 (4 * e + 0))) 1 e)
  · intro nL lc lk hd dp i m j a b b' n e h0 h1 h2 h3 h4
    have := DE_lt hF h3
    exact (s_arn (n := n) (e := e) hF (h0 : SP4 N s pl p wo inp cs w u ir M ty mn nu cd E K0 nL lc hd i m a b n e) (by rw [if_neg (by omega)]; exact h3) h4 (by omega) this.2 : SP4 N s pl p wo inp cs w u ir M ty mn nu cd E K0 nL lc hd i j a (b' + hld (E 12 (4 * e + n))) (n + 1) e)
  · intro nL lc lk hd dp i m q r a b b2 b3 e h0 h1 h2 h3 h4 h5 h6 h7 h8 h9 h10 h11 h12 h13 h14 h15 h16 h17 h18
    have t1 := DE_lt hF h10
    have t2 := DE_lt hF h14
    exact (s_emt hF h0 h2 h3 (h6 : SP4 N s pl p wo inp cs w u ir M ty mn nu cd E K0 nL lc hd (i + 3) m a b (E 10 e) e) h10 h14 h17 h18 t1.1 t2.1 t1.2 t2.2 : (SP0 N s pl p wo inp cs w u ir M ty mn nu cd E K0 nL lc hd dp i (r + 2) a (b3 + 2) nL))
end Par
