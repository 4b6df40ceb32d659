/-! ===== for: both loops ===== -/
section Par
variable {N p wo inp cs w u ir M K0 : Nat} {s pl : Int32} {ty mn nu cd : Nat → Int32} {E Q : Nat → Nat → Nat} {V : Nat → Nat → Int32} {nL lc : Nat} {lk : Nat → Nat} {hd : Nat → Int32}
theorem gs_hit {B B1 : Hp} {o : Orc_RunS} {n0 x g op : Nat} {l2 ne rad : Int32} (h : RB B w u ir M ty mn nu) (hn : n0 < 12) (hx : x < 256) (hc : F_MRunner_counts N 611 B = some ((), B1)) (h1 : RB B1 w u ir M ty mn nu) : B_MRunner_goes_192 N o 611 (fun l1 l2 l3 l4 l5 l6 H => B_MRunner_goes_104 N o 611 g l1 l2 l3 l4 l5 l6 H) (nI n0) l2 ne rad (nI op) (nI x) B = (if B1.D 611 10 = (0 : Int32) then bC (o 611 (atB (B1.sD 614 n0 ((256 : Int32) * B1.D (u + 1) x + nI x)) op)) fun _ H => B_MRunner_goes_104 N o 611 g (nI n0) l2 ne rad (nI op) (nI (x + 1)) H else B_MRunner_goes_104 N o 611 g (nI n0) l2 ne rad (nI op) (nI (x + 1)) (atB (B1.sD 614 n0 ((256 : Int32) * B1.D (u + 1) x + nI x)) op)) := by
  unfold B_MRunner_goes_192
  rw [ck_t (rS_611 h.1), bC_t hc, rf_t (rP_611_14 h1.1), rf_t h1.2.2.2.2.1, ck_t (US h1.2.2.1), bC_t (ev_mnum h1.2.2.1 hx), ar_t (rA_611_14 h1.1), wrI hn (by decide), bnd_t, bnd_t]
  generalize (256 : Int32) * B1.D (u + 1) x + nI x = v
  rw [show (B1.sD 614 n0 v).sD 611 11 (nI op) = atB (B1.sD 614 n0 v) op from rfl, show (atB (B1.sD 614 n0 v) op).D 611 10 = B1.D 611 10 from by show ((B1.sD 614 n0 v).sD 611 11 (nI op)).D 611 10 = _; rw [rdf (by decide), rdw (by decide)]]
  unfold B_MRunner_goes_228
  rw [nI_1]
theorem gs_run {B : Hp} {o : Orc_RunS} {n0 c op f i0 : Nat} {ne rad dr : Int32} (hF : (FIX N p wo w u K0 M E)) (h : SB B w u ir M ty mn nu E Q V nL lc hd) (hs : BS B i0 0 dr) (hq0 : Q 4 0 < 256) (hself : V 9 0 = nI (256 * Q 0 (Q 4 0) + Q 4 0)) (hc : c < E 4 0) (hne : ne = 0 ∨ ne = 1) (hf : E 5 c = f) (hnr : ne = 1 → mOf E c f ∧ mOf E c (f + 1) ∧ E 18 (E 17 0 - 1) / 2 ^ c % 2 = 1 ∧ E 21 (E 17 0 - 1) / 2 ^ c % 2 = 1) : ∀ r k g, k + r ≤ 256 → (∀ x, k ≤ x → x < k + r → ¬ mt Q V f c ne rad x) → B_MRunner_goes_104 N o 611 (g + r) (nI n0) (nI c) ne rad (nI op) (nI k) B = B_MRunner_goes_104 N o 611 g (nI n0) (nI c) ne rad (nI op) (nI (k + r)) B := by
  intro r
  induction r with
  | zero => intro k g _ _; rfl
  | succ r ih =>
    intro k g hk hx
    rw [show g + (r + 1) = g + r + 1 by omega, (gs_one hF h hs hq0 hself (by omega) hc hne hf hnr).1 (hx k (by omega) (by omega)), ih (k + 1) g (by omega) (fun x y1 y2 => hx x (by omega) (by omega)), show k + 1 + r = k + (r + 1) by omega]
theorem SIN.l14 {i a h mk st la z : Nat} {dr v : Int32} {A B : Hp} (hF : (FIX N p wo w u K0 M E)) (hI : (SIN p wo inp cs w u ir M ty mn nu cd E Q V nL lc hd K0 i a h A la z B mk st dr)) : (SIN p wo inp cs w u ir M ty mn nu cd E Q V nL lc hd K0 i a h A la z (B.sD 614 nL v) mk st dr) := by
  obtain ⟨i1, i2, i3, i4, i5⟩ := hI
  have sB : same (fun a f => a = 614 ∧ f = nL) B (B.sD 614 nL v) := same.sD same.rf ⟨rfl, rfl⟩
  exact ⟨i1, i2.fr hF.2.2.2.2.2.1 hF.2.2.2.2.2.2.1 sB (fun a f y => by omega), i3, ⟨by rw [rdw (by decide)]; exact i4.1, by rw [rdw (by decide)]; exact i4.2.1, by rw [rdw (by decide)]; exact i4.2.2.1, by rw [rdw (by decide)]; exact i4.2.2.2⟩, i5.fr (R := fun _ _ => False) same.rf sB (fun a f y => y.elim) (fun a f y => by omega)⟩
theorem SIN.newl {i a h mk st la z : Nat} {dr v : Int32} {A B : Hp} (hI : (SIN p wo inp cs w u ir M ty mn nu cd E Q V nL lc hd K0 i a h A la z B mk st dr)) (hn : nL < 12) (hA : A.D 120 nL = v) (hB : B.D 614 nL = v) (hv4 : SV E v) : (SIN p wo inp cs w u ir M ty mn nu cd E Q (upV V 6 nL v) (nL + 1) lc hd K0 i a h A la z B mk st dr) := by
  obtain ⟨i1, i2, i3, i4, i5⟩ := hI
  refine ⟨i1.vv (fun x y1 y2 => upV_o y2) (fun c m y1 y2 => by rw [upV_o (by decide)]; exact i1.1.2.2.2.2.2.2.1 c m y1 y2) (fun n y => ?_) (i1.2.2.2.vv (fun x y1 y2 => upV_o y2) (fun c m y1 y2 y3 => by rw [upV_o (by decide)]; exact i1.2.2.2.2.1 c m y1 y2 y3) (fun n y z => by
    by_cases q : n = nL
    · subst q; rw [upV_s]; exact hv4
    · rw [upV_n q]; exact i1.2.2.2.2.2.1 n (by omega) z)), i2.vv hn (fun x y1 y2 => upV_o y2) (fun c m y1 y2 => by rw [upV_o (by decide)]; exact i2.1.2.2.2.2.2.1 c m y1 y2) (fun n y => ?_), i3, i4, ?_⟩
  · by_cases q : n = nL
    · subst q; rw [upV_s]; exact hA
    · rw [upV_n q]; exact i1.1.2.2.2.2.2.2.2.2.1 n (by omega)
  · by_cases q : n = nL
    · subst q; rw [upV_s]; exact hB
    · rw [upV_n q]; exact i2.1.2.2.2.2.2.2.2.1 n (by omega)
  · rw [upV_o (by decide)]; exact i5
theorem mE_mt {A : Hp} {f c x : Nat} {ne rad : Int32} (h : SA A p wo inp cs cd E Q V nL lc hd) (hx : x < 256) (hnr : ne = 1 → mOf E c f ∧ mOf E c (f + 1) ∧ E 18 (E 17 0 - 1) / 2 ^ c % 2 = 1 ∧ E 21 (E 17 0 - 1) / 2 ^ c % 2 = 1) : mE A wo (Q 4 0) (Q 5 0) f c ne rad Q x ↔ mt Q V f c ne rad x := by
  unfold mE mt
  have key : Q 1 x = 1 ∧ Q 2 x / 2 ^ c % 2 = 1 → ne = 1 → (A.D (wo + 3) (Q 4 0 * Q 5 0 + f) = V 5 f ∧ A.D (wo + 3) (x * Q 5 0 + f) = V (100 + x) f ∧ A.D (wo + 3) (Q 4 0 * Q 5 0 + f + 1) = V 5 (f + 1) ∧ A.D (wo + 3) (x * Q 5 0 + f + 1) = V (100 + x) (f + 1)) := fun y1 y2 => by
    obtain ⟨n1, n2, n3, n4⟩ := hnr y2
    exact ⟨h.1.2.2.2.2.2.2.1 c f n1 n3, h.1.2.2.2.2.2.2.2.1 x c f hx y1.1 y1.2 n1 n4, h.1.2.2.2.2.2.2.1 c (f + 1) n2 n3, h.1.2.2.2.2.2.2.2.1 x c (f + 1) hx y1.1 y1.2 n2 n4⟩
  constructor
  · rintro ⟨a1, a2, a3⟩
    refine ⟨a1, a2, fun y => ?_⟩
    obtain ⟨k1, k2, k3, k4⟩ := key a2 y
    have := a3 y
    rw [k1, k2, k3, k4] at this
    exact this
  · rintro ⟨a1, a2, a3⟩
    refine ⟨a1, a2, fun y => ?_⟩
    obtain ⟨k1, k2, k3, k4⟩ := key a2 y
    rw [k1, k2, k3, k4]
    exact a3 y
theorem op_89 {A : Hp} {pc h l n t c q0 wd f top k0 : Nat} {ne : Int32} (hne : (ne = 0 ∧ A.D (p + 191) pc = nI 8) ∨ (ne = 1 ∧ A.D (p + 191) pc = nI 9 ∧ f + 1 < 48)) (hN : 300 ≤ N) (hP : PPL Q A wo) (hl : l < 21) (hcl : A.D (p + 191) (pc + 1) = nI l) (hcc : A.D (p + 191) (pc + 2) = nI c) (hcn : A.D (p + 191) (pc + 3) = nI n) (hct : A.D (p + 191) (pc + 4) = nI t) (hc16 : c < 16) (hn : n < 12) (h18 : A.D 117 18 = nI q0) (hq0 : q0 < 256) (hw : A.D wo 10 = nI wd) (hwd : wd ≤ 48) (hfi : A.D (p + 137) c = nI f) (hcur : A.D 121 l + 1 = nI k0) (hk0 : k0 ≤ top) (ht : A.D wo 9 = nI top) (ht2 : top ≤ 256) (h0 : VS0 A p wo inp cs) (hs : CS A pc h) (hpc : pc + 4 < cs) (hp : p ≠ 117) : (∃ k', k0 ≤ k' ∧ k' < top ∧ mE A wo q0 wd f c ne (A.D 122 l) Q k' ∧ (∀ x, k0 ≤ x → x < k' → ¬ mE A wo q0 wd f c ne (A.D 122 l) Q x) ∧ ∃ A2, VR N s pl 1 A A2 ∧ same (EXP l n) A A2 ∧ CS A2 (pc + 5) h ∧ A2.D 121 l = nI k' ∧ A2.D 120 n = (256 : Int32) * A.D (wo + 1) k' + nI k') ∨ ((∀ x, k0 ≤ x → x < top → ¬ mE A wo q0 wd f c ne (A.D 122 l) Q x) ∧ ∃ A2, VR N s pl 1 A A2 ∧ same (EXO 117 12) A A2 ∧ CS A2 t h) := by
  rcases hne with ⟨rfl, hc⟩ | ⟨rfl, hc, hf⟩
  · exact op_8 hN hP hl hcl hcc hcn hct hc16 hn h18 hq0 hw hwd hfi hcur hk0 ht ht2 h0 hs hpc hp hc
  · exact op_9 hN hP hf hl hcl hcc hcn hct hc16 hn h18 hq0 hw hwd hfi hcur hk0 ht ht2 h0 hs hpc hp hc
theorem s_forl {L0 c q f op j1 dp d : Nat} {ne rad : Int32} (hF : (FIX N p wo w u K0 M E)) (hne : (ne = 0 ∧ cd L0 = 8) ∨ (ne = 1 ∧ cd L0 = 9)) (c1 : cd (L0 + 1) = nI lc) (c2 : cd (L0 + 2) = nI q) (c3 : cd (L0 + 3) = nI nL) (c4 : cd (L0 + 4) = nI (c + 2)) (c5 : cd (L0 + 5) = 1) (hq : q < E 4 0) (hf : E 5 q = f) (hnr : ne = 1 → mOf E q f ∧ mOf E q (f + 1) ∧ E 18 (E 17 0 - 1) / 2 ^ q % 2 = 1 ∧ E 21 (E 17 0 - 1) / 2 ^ q % 2 = 1) (hn12 : nL < 12) (hdp : dp < 20) (h : (SP2 N s pl p wo inp cs w u ir M ty mn nu cd E K0 (nL + 1) (lc + 1) (uph (uph hd lc (-1)) (100 + nL) 1004) (dp + 1) op (j1 + 1) (L0 + 6) c)) (hmj : mn op = nI j1) (hcc : cd c = 2) (hcc1 : cd (c + 1) = nI L0) (k1 : lc ≤ dp) (k3 : 20 - dp ≤ d + 1) (k4 : j1 + 1 < M) (k5 : c + 2 ≤ cs) :
    ∀ r k0 g st A la z B V mk dr i0, Q 5 1 - k0 ≤ r → k0 ≤ Q 5 1 → 256 - k0 < g → (SIN p wo inp cs w u ir M ty mn nu cd E Q V nL lc hd K0 i0 L0 0 A la z B mk st dr) → A.D 121 lc + 1 = nI k0 → (ne = 1 → A.D 122 lc = rad) → (SOK N s pl p wo inp cs w u ir M ty mn nu cd E Q V lc hd K0 (B_MRunner_goes_104 N (X_RunS N (d + 1)) 611 g (nI nL) (nI q) ne rad (nI op) (nI k0) B) (j1 + 1) L0 (c + 2) nL A la z B st) ∨ (SFL N s pl wo (Q 4 0 * Q 5 0) E (V 0 0) lc K0 (B_MRunner_goes_104 N (X_RunS N (d + 1)) 611 g (nI nL) (nI q) ne rad (nI op) (nI k0) B) L0 (c + 2) A la z B st) := by
  obtain ⟨-, q1, q2, gB⟩ := h
  have hN := hF.2.2.1
  have hlc : lc < 21 := by omega
  have hu := lU_le hF.2.2.2.2.2.2.1
  have hwo := lW_le hF.2.2.2.2.1
  have c16 : q < 16 := by have := hF.1.1; omega
  have hne' : ne = 0 ∨ ne = 1 := hne.elim (fun y => .inl y.1) (fun y => .inr y.1)
  intro r
  induction r with
  | zero =>
    intro k0 g st A la z B V mk dr i0 hr hk hg hI hcur hrad
    have i1 := hI.1
    have i2 := hI.2.1
    have hC := i1.2.1.1
    have hs4 := hI.2.2.2.1
    have hself : V 9 0 = nI (256 * Q 0 (Q 4 0) + Q 4 0) := by
      rw [← i1.1.2.2.2.1.2.2.1, (i1.1.2.2.1 (Q 4 0) i1.1.2.2.2.1.2.1).1]
      exact nI_ma 256 _ _
    rcases op_89 (N := N) (s := s) (pl := pl) (f := f) (ne := ne) (hne.elim (fun y => .inl ⟨y.1, (i1.1.at_cd (by omega)).trans y.2⟩) (fun y => .inr ⟨y.1, (i1.1.at_cd (by omega)).trans y.2, (mOf_lt hF.1 (hnr y.1).2.1).2.1⟩)) hN i1.1.2.2.1 hlc ((i1.1.at_cd (by omega)).trans c1) ((i1.1.at_cd (by omega)).trans c2) ((i1.1.at_cd (by omega)).trans c3) ((i1.1.at_cd (by omega)).trans c4) c16 hn12 i1.1.2.2.2.1.1 i1.1.2.2.2.1.2.1 i1.1.2.2.2.2.2.1.1 i1.1.2.2.2.2.2.1.2 (by rw [i1.2.2.1.1 q (by omega), hf]) hcur hk hC.1 hC.2.1 i1.1.1 hI.2.2.1 (by omega) i1.1.2.1 with ⟨k', x1, x2, _⟩ | ⟨x0, A2, x1, x2, x3⟩
    · omega
    · obtain ⟨g1, hg1⟩ : ∃ g1, g = g1 + 1 + (256 - k0) := ⟨g - 1 - (256 - k0), by omega⟩
      have hle := hC.2.1
      have e0 := gs_run (N := N) (o := X_RunS N (d + 1)) (n0 := nL) (op := op) (rad := rad) hF i2 hs4 i1.1.2.2.2.1.2.1 hself hq hne' hf hnr (256 - k0) k0 (g1 + 1) (by omega) (fun x z1 z2 z3 => hC.2.2 x (by omega) (by omega) z3.2.1.1)
      rw [← hg1, show k0 + (256 - k0) = 256 by omega, gs_stop i2.1.1.1 (Nat.le_refl _) (.inl (Nat.le_refl _)), gs_end i2.1.1 (by omega) hmj] at e0
      have hI2 := hI.ls hF x2 (fun a f y => by unfold EXO at y; omega) x3
      have p1 : (PRE N s pl wo (Q 4 0 * Q 5 0) E lc V V L0 (c + 2) A la z A2 la z B B st st) := ⟨1, by omega, by omega, x1, (x2.mono FRA.eq).exS hI.2.2.2.2.1, same.rf, fun _ _ _ => rfl⟩
      have hI3 := hI2.to (j := op) hF
      exact .inl ⟨A2, la, z, _, V, st, mk, dr, (p1.tr (PRE.at hI2.2.2.2.2)).tr (PRE.at hI3.2.2.2.2), e0, hI3.to hF⟩
  | succ r ih =>
    intro k0 g st A la z B V mk dr i0 hr hk hg hI hcur hrad
    have i1 := hI.1
    have i2 := hI.2.1
    have hC := i1.2.1.1
    have hs4 := hI.2.2.2.1
    have hself : V 9 0 = nI (256 * Q 0 (Q 4 0) + Q 4 0) := by
      rw [← i1.1.2.2.2.1.2.2.1, (i1.1.2.2.1 (Q 4 0) i1.1.2.2.2.1.2.1).1]
      exact nI_ma 256 _ _
    have mm : ∀ x, x < 256 → (mE A wo (Q 4 0) (Q 5 0) f q ne (A.D 122 lc) Q x ↔ mt Q V f q ne rad x) := fun x hx => by
      rw [mE_mt i1 hx hnr]
      rcases hne' with rfl | rfl
      · unfold mt
        constructor
        · rintro ⟨b1, b2, -⟩
          exact ⟨b1, b2, fun y => absurd y (by decide)⟩
        · rintro ⟨b1, b2, -⟩
          exact ⟨b1, b2, fun y => absurd y (by decide)⟩
      · rw [hrad rfl]
    have hle := hC.2.1
    rcases op_89 (N := N) (s := s) (pl := pl) (f := f) (ne := ne) (hne.elim (fun y => .inl ⟨y.1, (i1.1.at_cd (by omega)).trans y.2⟩) (fun y => .inr ⟨y.1, (i1.1.at_cd (by omega)).trans y.2, (mOf_lt hF.1 (hnr y.1).2.1).2.1⟩)) hN i1.1.2.2.1 hlc ((i1.1.at_cd (by omega)).trans c1) ((i1.1.at_cd (by omega)).trans c2) ((i1.1.at_cd (by omega)).trans c3) ((i1.1.at_cd (by omega)).trans c4) c16 hn12 i1.1.2.2.2.1.1 i1.1.2.2.2.1.2.1 i1.1.2.2.2.2.2.1.1 i1.1.2.2.2.2.2.1.2 (by rw [i1.2.2.1.1 q (by omega), hf]) hcur hk hC.1 hC.2.1 i1.1.1 hI.2.2.1 (by omega) i1.1.2.1 with ⟨k', x1, x2, x3, x4, A2, y1, y2, y3, y4, y5⟩ | ⟨x0, A2, x1, x2, x3⟩
    · have hk6 : k' < 256 := by omega
      obtain ⟨g1, hg1⟩ : ∃ g1, g = g1 + 1 + 1 + (k' - k0) := ⟨g - 2 - (k' - k0), by omega⟩
      have e0 := gs_run (N := N) (o := X_RunS N (d + 1)) (n0 := nL) (op := op) (rad := rad) hF i2 hs4 i1.1.2.2.2.1.2.1 hself hq hne' hf hnr (k' - k0) k0 (g1 + 1 + 1) (by omega) (fun x z1 z2 z3 => x4 x z1 (by omega) ((mm x (by omega)).mpr z3))
      rw [← hg1, show k0 + (k' - k0) = k' by omega, (gs_one (N := N) (o := X_RunS N (d + 1)) (n0 := nL) (op := op) (rad := rad) hF i2 hs4 i1.1.2.2.2.1.2.1 hself hk6 hq hne' hf hnr).2 ((mm k' hk6).mp x3)] at e0
      have hI2 : (SIN p wo inp cs w u ir M ty mn nu cd E Q V nL lc hd K0 i0 (L0 + 5) 0 A2 la z B mk st dr) := hI.ls hF y2 (fun a f y => by unfold EXP at y; omega) y3
      have c8 := hI.2.2.2.2.2.2.2.2.2.2.2.2.2.2.1
      have c7 := hI.2.2.2.2.2.2.2.2.2.2.1
      have hnum : (256 : Int32) * A.D (wo + 1) k' + nI k' = nI (256 * Q 0 k' + k') := by rw [(i1.1.2.2.1 k' hk6).1]; exact nI_ma 256 _ _
      rw [hnum] at y5
      have hnB : (256 : Int32) * B.D (u + 1) k' + nI k' = nI (256 * Q 0 k' + k') := by rw [(i2.1.2.1 k' hk6).1]; exact nI_ma 256 _ _
      by_cases qs : st < 120
      · obtain ⟨A3, v1, v2, v3⟩ := hI2.step1 (N := N) (s := s) (pl := pl) hF c5 qs (by omega)
        rw [gs_hit i2.1.1 hn12 hk6 (ev_cnt i2.1.1.1 c8 qs) v3.2.1.1.1, rdf (by decide), hs4.2.1, if_pos rfl, rdw (show u + 1 ≠ 611 by omega), hnB] at e0
        have hI3 := (v3.l14 (v := nI (256 * Q 0 k' + k')) hF).to (j := op) hF
        have u1 : ∀ x, uph (uph hd lc (-1)) (100 + nL) 1004 x = if x = 100 + nL then 1004 else uph hd lc (-1) x := fun x => rfl
        have hI4 := ((hI3.li hF).hk (hd2 := uph (uph hd lc (-1)) (100 + nL) 1004) (fun x y => by rw [u1, if_neg (by omega)]) (by omega)).newl (v := nI (256 * Q 0 k' + k')) hn12 (by rw [v2.1 120 nL (by unfold EXO; omega)]; exact y5) (by show ((((B.sD 611 8 (nI (st + 1))).sD 614 nL (nI (256 * Q 0 k' + k'))).sD 611 11 (nI op)).D 614 nL) = _; rw [rdw (by decide), rds]) (i1.2.2.2.1.2.2.1 k' hk6 x3.2.1.1)
        have a3 : A3.D 121 lc = nI k' := by rw [v2.1 121 lc (by unfold EXO; omega)]; exact y4
        have r3 : A3.D 122 lc = A.D 122 lc := by rw [v2.1 122 lc (by unfold EXO; omega), y2.1 122 lc (by unfold EXP; omega)]
        have sB0 : same (FRB E) B (atB ((B.sD 611 8 (nI (st + 1))).sD 614 nL (nI (256 * Q 0 k' + k'))) op) := same.sD (same.sD (same.sD same.rf (.inl ⟨rfl, by omega⟩)) (.inr (.inr (.inr rfl)))) (.inl ⟨rfl, by omega⟩)
        have exA := ((y2.mono (FRA.ep (wo := wo) (base := Q 4 0 * Q 5 0) (E := E) (Nat.le_refl lc))).exS hI.2.2.2.2.1).tr ((v2.mono FRA.eo).exS hI2.2.2.2.2.1)
        rcases gB d Q _ A3 la z _ mk (st + 1) dr hI4 (by omega) (by omega) (by omega) k4 (by omega) with t | t
        · obtain ⟨A5, la5, z5, B5, V5, st5, mk5, dr5, t1, t2, t3⟩ := t
          have t4 := ((t3.wk (n2 := nL) (by omega)).hk (hd2 := uph hd lc (-1)) (fun x y => by rw [u1, if_neg (by omega)]) (by omega)).lo hF (by omega)
          obtain ⟨A6, u1, u2, u3⟩ := s_jp (N := N) (s := s) (pl := pl) hF t4 hcc hcc1 (by omega)
          rw [bC_t t2] at e0
          obtain ⟨n6, w1, w2, w3, w4, w5, w6⟩ := t1
          have w7 : ∀ x, x ≠ 5 → x ≠ 6 → V5 x = V x := fun x b1 b2 => by rw [w6 x b1 b2, upV_o b2]
          have v0 : V5 0 0 = V 0 0 := by rw [w7 0 (by decide) (by decide)]
          have hlen := v3.1.1.1.1.len
          have hla := v3.2.2.2.2.1.2.2.1
          have a5 : A6.D 121 lc + 1 = nI (k' + 1) := by
            rw [u2.1 121 lc (by unfold EXA; omega), w4.2.2.1 121 lc (by omega) (by unfold FRA; omega) (by omega), a3, nI_1]
          have r5 : ne = 1 → A6.D 122 lc = rad := fun b => by
            rw [u2.1 122 lc (by unfold EXA; omega), w4.2.2.1 122 lc (by omega) (by unfold FRA; omega) (by omega), r3]
            exact hrad b
          have hcs : cs ≤ 12000 := i1.1.1.2.2.2.2.2.2.2.2
          have p5 : (PRE N s pl wo (Q 4 0 * Q 5 0) E lc V V5 L0 L0 A la z A6 la5 z5 B B5 st st5) := ⟨1 + 1 + n6 + 1, by omega, by omega, ((y1.tr v1).tr w3).tr u1, (exA.tr (w4.mono (FRA.up (Nat.le_succ lc)))).tr ((u2.mono FRA.ea).exS t4.2.2.2.2.1), sB0.tr w5, w7⟩
          rw [e0]
          rcases ih (k' + 1) (g1 + 1) st5 A6 la5 z5 B5 V5 mk5 dr5 _ (by omega) (by omega) (by omega) u3 a5 r5 with x | x
          · exact .inl (x.pre p5)
          · rw [v0] at x
            exact .inr (x.pre p5)
        · have p4 : (PRE N s pl wo (Q 4 0 * Q 5 0) E lc V V L0 (L0 + 6) A la z A3 la z B (atB ((B.sD 611 8 (nI (st + 1))).sD 614 nL (nI (256 * Q 0 k' + k'))) op) st (st + 1)) := ⟨1 + 1, by omega, by omega, y1.tr v1, exA, sB0, fun _ _ _ => rfl⟩
          rw [upV_o (by decide)] at t
          refine .inr (SFL.pre p4 ((t.up (Nat.le_succ lc)).then (by omega) (fun B5 u1 u2 u3 => ⟨atB (atB B5 op) (j1 + 1), ?_, ?_, u3.tr ((atB_s.tr atB_s).mono FRB.eb)⟩)))
          · have hr5 := RBf hF hI3.2.1.1.1 u3
            have n5 : ¬ B5.D 611 10 = 0 := fun z => by rw [z] at u2; exact absurd u2 (by decide)
            rw [e0, bC_t u1, gs_stop hr5.1 (by omega) (.inr n5), gs_end hr5 (by omega) hmj]
          · exact same.sD (same.sD same.rf (.inl ⟨rfl, rfl⟩)) (.inl ⟨rfl, rfl⟩)
      · have : st = 120 := by omega
        subst this
        have sB1 : same (FRB E) B ((B.sD 611 10 5).sD 611 8 (nI 121)) := same.sD (same.sD same.rf (.inl ⟨rfl, by omega⟩)) (.inl ⟨rfl, by omega⟩)
        have hr1 := RBf hF i2.1.1 sB1
        have n5 : ¬ ((B.sD 611 10 5).sD 611 8 (nI 121)).D 611 10 = 0 := by rw [rdf (by decide), rds]; decide
        rw [gs_hit i2.1.1 hn12 hk6 (ev_cnf i2.1.1.1 c8 hs4.2.1) hr1, if_neg n5] at e0
        generalize (256 : Int32) * ((B.sD 611 10 5).sD 611 8 (nI 121)).D (u + 1) k' + nI k' = vv at e0
        have sB5 : same (FRB E) B (atB (((B.sD 611 10 5).sD 611 8 (nI 121)).sD 614 nL vv) op) := (same.sD (same.sD sB1 (.inr (.inr (.inr rfl)))) (.inl ⟨rfl, by omega⟩))
        have hr5 := RBf hF i2.1.1 sB5
        have n6 : ¬ (atB (((B.sD 611 10 5).sD 611 8 (nI 121)).sD 614 nL vv) op).D 611 10 = 0 := by
          show ¬ ((((B.sD 611 10 5).sD 611 8 (nI 121)).sD 614 nL vv).sD 611 11 (nI op)).D 611 10 = 0
          rw [rdf (by decide), rdw (by decide)]
          exact n5
        rw [gs_stop hr5.1 (by omega) (.inr n6), gs_end hr5 (by omega) hmj] at e0
        have p4 : (PRE N s pl wo (Q 4 0 * Q 5 0) E lc V V L0 (L0 + 5) A la z A2 la z B B 120 120) := ⟨1, by omega, by omega, y1, (y2.mono (FRA.ep (Nat.le_refl _))).exS hI.2.2.2.2.1, same.rf, fun _ _ _ => rfl⟩
        exact .inr (SFL.pre p4 (hI2.over c5 (by omega) e0 (same.sD (same.sD (same.sD (same.sD same.rf (.inr (.inr rfl))) (.inl ⟨rfl, rfl⟩)) (.inl ⟨rfl, rfl⟩)) (.inl ⟨rfl, rfl⟩)) (sB5.tr ((atB_s.tr atB_s).mono FRB.eb)) (by omega)))
    · obtain ⟨g1, hg1⟩ : ∃ g1, g = g1 + 1 + (256 - k0) := ⟨g - 1 - (256 - k0), by omega⟩
      have e0 := gs_run (N := N) (o := X_RunS N (d + 1)) (n0 := nL) (op := op) (rad := rad) hF i2 hs4 i1.1.2.2.2.1.2.1 hself hq hne' hf hnr (256 - k0) k0 (g1 + 1) (by omega) (fun x z1 z2 z3 => by
        by_cases b : x < Q 5 1
        · exact x0 x z1 b ((mm x (by omega)).mpr z3)
        · exact hC.2.2 x (by omega) (by omega) z3.2.1.1)
      rw [← hg1, show k0 + (256 - k0) = 256 by omega, gs_stop i2.1.1.1 (Nat.le_refl _) (.inl (Nat.le_refl _)), gs_end i2.1.1 (by omega) hmj] at e0
      have hI2 := hI.ls hF x2 (fun a f y => by unfold EXO at y; omega) x3
      have p1 : (PRE N s pl wo (Q 4 0 * Q 5 0) E lc V V L0 (c + 2) A la z A2 la z B B st st) := ⟨1, by omega, by omega, x1, (x2.mono FRA.eq).exS hI.2.2.2.2.1, same.rf, fun _ _ _ => rfl⟩
      have hI3 := hI2.to (j := op) hF
      exact .inl ⟨A2, la, z, _, V, st, mk, dr, (p1.tr (PRE.at hI2.2.2.2.2)).tr (PRE.at hI3.2.2.2.2), e0, hI3.to hF⟩
end Par
