/-! ===== let, assignments, fail ===== -/
def upV (V : Nat → Nat → Int32) (x n : Nat) (v : Int32) : Nat → Nat → Int32 := fun y k => if y = x ∧ k = n then v else V y k
theorem upV_o {V : Nat → Nat → Int32} {x n y : Nat} {v : Int32} (h : y ≠ x) : upV V x n v y = V y := by
  funext k
  unfold upV
  rw [if_neg (fun z => h z.1)]
theorem upV_s {V : Nat → Nat → Int32} {x n : Nat} {v : Int32} : upV V x n v x n = v := if_pos ⟨rfl, rfl⟩
theorem upV_n {V : Nat → Nat → Int32} {x n k : Nat} {v : Int32} (h : k ≠ n) : upV V x n v x k = V x k := if_neg (fun z => h z.2)
theorem ix_inj {q q0 wd m m2 : Nat} (h : q * wd + m2 = q0 * wd + m) (h1 : m < wd) (h2 : m2 < wd) : q = q0 ∧ m2 = m := by
  have e : q = q0 := by
    rcases Nat.lt_trichotomy q q0 with z | z | z
    · have := Nat.mul_le_mul_right wd (show q + 1 ≤ q0 from z)
      rw [Nat.add_mul] at this
      omega
    · exact z
    · have := Nat.mul_le_mul_right wd (show q0 + 1 ≤ q from z)
      rw [Nat.add_mul] at this
      omega
  subst e
  exact ⟨rfl, by omega⟩
theorem mOf_u {E : Nat → Nat → Nat} {c d m : Nat} (hE : WE E) (h1 : mOf E c m) (h2 : mOf E d m) : c = d := by
  have mono : ∀ k x, x + k ≤ E 4 0 → E 5 x ≤ E 5 (x + k) := by
    intro k
    induction k with
    | zero => intro x _; exact Nat.le_refl _
    | succ k ih =>
      intro x hx
      have := ih x (by omega)
      have := (hE.2.2.1 (x + k) (by omega)).1
      rw [show x + (k + 1) = x + k + 1 by omega]
      omega
  obtain ⟨a1, a2, a3⟩ := h1
  obtain ⟨b1, b2, b3⟩ := h2
  rcases Nat.lt_trichotomy c d with z | z | z
  · have := mono (d - (c + 1)) (c + 1) (by omega)
    rw [show c + 1 + (d - (c + 1)) = d by omega] at this
    omega
  · exact z
  · have := mono (c - (d + 1)) (d + 1) (by omega)
    rw [show d + 1 + (c - (d + 1)) = c by omega] at this
    omega
theorem ev_gvn {N k : Nat} {v : Int32} {B : Hp} (hk : k < 100) : F_MRunner_given N (nI k) v B = some (if k = 1 then byt v else v, B) := by
  have hb := b32 v
  have e127 : (127 : Int32).toInt = 127 := rfl
  have e128 : (-128 : Int32).toInt = -128 := rfl
  unfold F_MRunner_given
  by_cases q : k = 1
  · subst q
    rw [if_pos (show nI 1 = (1 : Int32) from rfl), if_pos rfl]
    unfold F_M_held byt
    rw [if_pos rfl]
    by_cases q1 : (0 : Int32) ≤ lg_cmp v.toInt64 (-128)
    · rw [if_pos q1]
      rw [lg_ge, Int64.lt_iff_toInt_lt, t64, show (-128 : Int64).toInt = -128 from rfl] at q1
      by_cases q2 : lg_cmp v.toInt64 127 ≤ (0 : Int32)
      · rw [if_pos q2, bC_v, Int32.toInt32_toInt64]
        rw [lg_le, Int64.lt_iff_toInt_lt, t64, show (127 : Int64).toInt = 127 from rfl] at q2
        congr 2
        by_cases q3 : v < 127
        · rw [if_pos q3]
          by_cases q4 : (-128 : Int32) < v
          · rw [if_pos q4]
          · rw [if_neg q4]
            rw [Int32.lt_iff_toInt_lt] at q4
            exact Int32.toInt_inj.mp (by omega)
        · rw [if_neg q3, if_pos (by decide)]
          rw [Int32.lt_iff_toInt_lt] at q3
          exact Int32.toInt_inj.mp (by omega)
      · rw [if_neg q2, bC_v]
        rw [lg_le, Int64.lt_iff_toInt_lt, t64, show (127 : Int64).toInt = 127 from rfl] at q2
        rw [if_neg (show ¬ v < 127 from fun y => by rw [Int32.lt_iff_toInt_lt] at y; omega), if_pos (by decide)]
        rfl
    · rw [if_neg q1, bC_v]
      rw [lg_ge, Int64.lt_iff_toInt_lt, t64, show (-128 : Int64).toInt = -128 from rfl] at q1
      rw [if_pos (show v < 127 from by rw [Int32.lt_iff_toInt_lt]; omega), if_neg (show ¬ (-128 : Int32) < v from fun y => by rw [Int32.lt_iff_toInt_lt] at y; omega)]
      rfl
  · rw [if_neg (show ¬ nI k = (1 : Int32) from fun y => q ((nI_eq (b := 1) (by omega) (by decide)).mp y)), if_neg q]
section Dq
variable {N : Nat} {o : Orc_RunS} {x : Int32} {H : Hp}
theorem dsq_1 : dsq N o 1 x H = F_MRunner_assigns N 611 x H := by unfold dsq; rw [if_pos rfl]; exact bC_eta
theorem dsq_215 : dsq N o 215 x H = F_MRunner_chooses N o 611 H := by unfold dsq; rw [if_neg (by decide), if_neg (by decide), if_pos rfl]; exact bC_eta
theorem dsq_217 : dsq N o 217 x H = F_MRunner_repeats N o 611 H := by unfold dsq; rw [if_neg (by decide), if_neg (by decide), if_neg (by decide), if_pos rfl]; exact bC_eta
theorem dsq_218 : dsq N o 218 x H = F_MRunner_goes N o 611 H := by unfold dsq; rw [if_neg (by decide), if_neg (by decide), if_neg (by decide), if_neg (by decide), if_pos rfl]; exact bC_eta
theorem dsq_221 : dsq N o 221 x H = F_MRunner_hears N o 611 H := by unfold dsq; rw [if_neg (by decide), if_neg (by decide), if_neg (by decide), if_neg (by decide), if_neg (by decide), if_pos rfl]; exact bC_eta
theorem dsq_222 : dsq N o 222 x H = F_MRunner_spawns N 611 H := by unfold dsq; rw [if_neg (by decide), if_neg (by decide), if_neg (by decide), if_neg (by decide), if_neg (by decide), if_neg (by decide), if_pos rfl]; exact bC_eta
theorem dsq_227 : dsq N o 227 x H = F_MRunner_emits N 611 H := by unfold dsq; rw [if_neg (by decide), if_neg (by decide), if_neg (by decide), if_neg (by decide), if_neg (by decide), if_neg (by decide), if_neg (by decide), if_pos rfl]; exact bC_eta
theorem dsq_230 : dsq N o 230 x H = F_MRunner_fails N 611 4 H := by unfold dsq; rw [if_neg (by decide), if_neg (by decide), if_neg (by decide), if_neg (by decide), if_neg (by decide), if_neg (by decide), if_neg (by decide), if_neg (by decide), if_pos rfl]; exact bC_eta
theorem dsq_c {t : Int32} (h : t = 223 ∨ t = 224 ∨ t = 225 ∨ t = 226 ∨ t = 229) : dsq N o t x H = F_MRunner_commands N 611 t H := by
  unfold dsq
  rcases h with rfl | rfl | rfl | rfl | rfl <;> (rw [if_neg (by decide), if_neg (by decide), if_neg (by decide), if_neg (by decide), if_neg (by decide), if_neg (by decide), if_neg (by decide), if_neg (by decide), if_neg (by decide)]; exact bC_eta)
end Dq
section Par
variable {N p wo inp cs w u ir M K0 : Nat} {s pl : Int32} {ty mn nu cd : Nat → Int32} {E Q : Nat → Nat → Nat} {V : Nat → Nat → Int32} {nL lc : Nat} {lk : Nat → Nat} {hd : Nat → Int32}
theorem CN.fr {A A2 B B2 : Hp} {la z mk st : Nat} {tk dr : Int32} {R S : Nat → Nat → Prop} (k : CN A B E tk la z K0 mk st dr) (hA : same R A A2) (hB : same S B B2) (hR : ∀ a f, R a f → (a = 117 ∧ f ≠ 1 ∧ f ≠ 13 ∧ f ≠ 14 ∧ f ≠ 15) ∨ (a ≠ 117 ∧ a ≠ 118 ∧ a < 626)) (hS : ∀ a f, S a f → (a = 611 ∧ f ≠ 4 ∧ f ≠ 7 ∧ f ≠ 8) ∨ (a ≠ 611 ∧ a ≠ 612)) : CN A2 B2 E tk la z K0 mk st dr := by
  obtain ⟨h1, h2, h3, h4, h5, h6, h7, h8, h9, h10, h11, h12⟩ := k
  have hla := h1.2.2.1
  have fA : ∀ f, f = 1 ∨ f = 13 ∨ f = 14 ∨ f = 15 → A2.D 117 f = A.D 117 f := fun f y => hA.1 117 f (fun y2 => by have := hR _ _ y2; omega)
  have fB : ∀ f, f = 4 ∨ f = 7 ∨ f = 8 → B2.D 611 f = B.D 611 f := fun f y => hB.1 611 f (fun y2 => by have := hS _ _ y2; omega)
  exact ⟨(hA.exS h1).1, by rw [fA 1 (by omega)]; exact h2, h3, by rw [fA 15 (by omega)]; exact h4, h5, by rw [fA 13 (by omega)]; exact h6, h7, by rw [fA 14 (by omega)]; exact h8, by rw [fB 4 (by omega)]; exact h9, by rw [fB 7 (by omega)]; exact h10, by rw [fB 8 (by omega)]; exact h11, h12.cg (fun y _ => hA.1 la y (fun y2 => by have := hR _ _ y2; omega)) (fun y _ => hB.1 612 y (fun y2 => by have := hS _ _ y2; omega))⟩
/-- a local takes a value -/
theorem s_setl {n n2 j b mk st la z : Nat} {v dr : Int32} {A B : Hp} (hF : (FIX N p wo w u K0 M E)) (hI : (SIN p wo inp cs w u ir M ty mn nu cd E Q V nL lc hd K0 j b 1 A la z B mk st dr)) (hv : A.D 119 0 = v) (hn : n < 12) (h12 : n2 ≤ 12) (hn2 : ∀ x, x < n2 → x ≠ n → x < nL) (hv4 : hd (100 + n) = 1004 → SV E v) (hc : cd b = 34) (hc1 : cd (b + 1) = nI n) (hb : b + 1 < cs) : ∃ A3 V2, (PRE N s pl wo (Q 4 0 * Q 5 0) E lc V V2 b (b + 2) A la z A3 la z B (atB (B.sD 614 n v) (j + 1)) st st) ∧ (SIN p wo inp cs w u ir M ty mn nu cd E Q V2 n2 lc hd K0 (j + 1) (b + 2) 0 A3 la z (atB (B.sD 614 n v) (j + 1)) mk st dr) := by
  obtain ⟨f1, f2, f3, f4, f5, f6, f7, f8⟩ := hF
  obtain ⟨i1, i2, i3, i4, i5⟩ := hI
  obtain ⟨A3, r1, r2, r3, r4⟩ := op_34 (N := N) (s := s) (pl := pl) (h := 0) hn ((i1.1.at_cd (by omega)).trans hc1) i1.1.1 i3 hb i1.1.2.1 (by decide) ((i1.1.at_cd (by omega)).trans hc)
  rw [hv] at r4
  have sB : same (fun a f => (a = 611 ∧ f = 11) ∨ (a = 614 ∧ f = n)) B (atB (B.sD 614 n v) (j + 1)) := same.sD (same.sD same.rf (.inr ⟨rfl, rfl⟩)) (.inl ⟨rfl, rfl⟩)
  have a1 := (i1.vv (V2 := V) (n2 := 0) (fun _ _ _ => rfl) i1.1.2.2.2.2.2.2.1 (fun n y => by omega) (i1.2.2.2.nn (by omega))).of f1 f4 f5 i5.1 (r2.exS i5.1) (fun a f y => by unfold EXO at y; omega)
  have b1 := (i2.vv (V2 := V) (n2 := 0) (by omega) (fun _ _ _ => rfl) i2.1.2.2.2.2.2.1 (fun n y => by omega)).fr f6 f7 sB (fun a f y => by omega)
  have eb : ∀ f, f ≠ 11 → (atB (B.sD 614 n v) (j + 1)).D 611 f = B.D 611 f := fun f y => by
    show ((B.sD 614 n v).sD 611 11 (nI (j + 1))).D 611 f = _
    rw [rdf y, rdw (by decide)]
  have kL : LKV E Q (upV V 6 n v) n2 lc hd := i1.2.2.2.vv (fun x y1 y2 => upV_o y2) (fun c m y1 y2 y3 => by rw [upV_o (by decide)]; exact i1.2.2.2.2.1 c m y1 y2 y3) (fun x y z => by
    by_cases q : x = n
    · subst q
      rw [upV_s]
      exact hv4 z
    · rw [upV_n q]
      exact i1.2.2.2.2.2.1 x (hn2 x y q) z)
  refine ⟨A3, upV V 6 n v, ⟨1, by omega, by omega, r1, (r2.mono (fun a f y => ?_)).exS i5.1, sB.mono (fun a f y => ?_), fun x y1 y2 => upV_o y2⟩, a1.vv (fun x y1 y2 => upV_o y2) (fun c m y1 y2 => by rw [upV_o (by decide)]; exact a1.1.2.2.2.2.2.2.1 c m y1 y2) (fun x y => ?_) kL, b1.vv h12 (fun x y1 y2 => upV_o y2) (fun c m y1 y2 => by rw [upV_o (by decide)]; exact b1.1.2.2.2.2.2.1 c m y1 y2) (fun x y => ?_), r3, ⟨rds, by rw [eb 10 (by decide)]; exact i4.2.1, by rw [eb 12 (by decide)]; exact i4.2.2.1, by rw [eb 9 (by decide)]; exact i4.2.2.2⟩, ?_⟩
  · unfold EXO at y
    unfold FRA
    rcases y with y | y
    · exact .inl ⟨y.1, by omega⟩
    · exact .inr (.inr (.inl y.1))
  · rcases y with y | y
    · exact .inl ⟨y.1, by omega⟩
    · exact .inr (.inr (.inr y.1))
  · by_cases q : x = n
    · subst q
      rw [r4, upV_s]
    · rw [r2.1 120 x (by unfold EXO; omega), upV_n q]
      exact i1.1.2.2.2.2.2.2.2.2.1 x (hn2 x y q)
  · by_cases q : x = n
    · subst q
      rw [upV_s]
      show ((B.sD 614 x v).sD 611 11 (nI (j + 1))).D 614 x = _
      rw [rdw (by decide), rds]
    · rw [sB.1 614 x (by omega), upV_n q]
      exact i2.1.2.2.2.2.2.2.2.1 x (hn2 x y q)
  · rw [upV_o (by decide)]
    exact i5.fr r2 sB (fun a f y => by unfold EXO at y; omega) (fun a f y => by omega)
theorem PRE.ex {a b n h mk st la z : Nat} {dr : Int32} {A A2 B B2 : Hp} (hc : CN A B E (V 0 0) la z K0 mk st dr) (h1 : n + a ≤ b) (h2 : VR N s pl n A A2) (h3 : same (EXA h) A A2) (h4 : same EXB B B2) : (PRE N s pl wo (Q 4 0 * Q 5 0) E lc V V a b A la z A2 la z B B2 st st) :=
  ⟨n, by omega, by omega, h2, (h3.mono FRA.ea).exS hc.1, h4.mono FRB.eb, fun _ _ _ => rfl⟩
theorem s_fai {dp i a : Nat} (hF : (FIX N p wo w u K0 M E)) (h0 : ty i = 230) (hcd : cd a = 11) : (SP0 N s pl p wo inp cs w u ir M ty mn nu cd E K0 nL lc hd dp i (i + 2) a (a + 1) nL hd) := by
  refine ⟨by omega, by omega, Nat.le_refl _, fun d Q V A la z B mk st dr hI k1 k2 k3 k4 k5 => .inr ?_⟩
  obtain ⟨i1, i2, i3, i4, i5⟩ := hI
  obtain ⟨c1, c2, c3, c4, c5, c6, c7, c8, c9, c10, c11, c12⟩ := i5
  obtain ⟨A1, r1, r2, r3⟩ := op_11 (N := N) (s := s) (pl := pl) i1.1.1 i3 (by omega) i1.1.2.1 ((i1.1.at_cd (by omega)).trans hcd)
  have hla := c1.2.2.1
  refine ⟨1, A1, la, z, (atB B (i + 1)).sD 611 10 4, 4, st, mk, by omega, by omega, by omega, r1, (r2.mono (fun a f y => .inl ⟨y.1, by have := y.2; omega⟩)).exS c1, r3, by decide, by rw [r2.1 117 1 (by omega)]; exact c2, by rw [r2.1 117 15 (by omega)]; exact c4, c5, ?_, same.sD (atB_s.mono FRB.eb) (.inl ⟨rfl, by omega⟩), rds, (c12.mono (by omega)).cg (fun y _ => r2.1 la y (by omega)) (fun y _ => by rw [rdw (by decide)]; exact rdw (by decide))⟩
  rw [dsp_h i2.1.1 (by omega) i4.1, h0, dsq_230]
  unfold F_MRunner_fails
  rw [ck_t (rS_611 (i2.1.1.ex (atB_s (i := i + 1))).1), bnd_t, (atB_S (j := i + 1) i4).2.1, if_pos rfl, bnd_t]
theorem s_lt {dp i j a b k : Nat} (hF : (FIX N p wo w u K0 M E)) (hlk : ∀ n, n < nL → lk n = 4 → hd (100 + n) = 1004) (h0 : ty i = 214) (h2 : mn (i + 1) = nI nL) (h3 : nL < 12) (hD : DE ty mn nu cd E nL lc lk hd 0 dp (i + 3) j a b k) (hc : cd b = 34) (hc1 : cd (b + 1) = nI nL) (hij : i + 3 < j) (hab : a < b) : (SP0 N s pl p wo inp cs w u ir M ty mn nu cd E K0 nL lc hd dp i (j + 1) a (b + 2) (nL + 1) (uph hd (100 + nL) (kk k))) := by
  refine ⟨by omega, by omega, by omega, fun d Q V A la z B mk st dr hI k1 k2 k3 k4 k5 => ?_⟩
  have hB1 := (hI.to (j := i + 1) hF)
  have hB3 := (hB1.to (j := i + 3) hF)
  have hr := hB3.2.1.1.1
  obtain ⟨t0, t1, t2, t3, t4, t5, t6⟩ := hr.T
  have hM := hr.2.2.2.2.2.2.2.1
  have e : ∀ v B2, (X_RunE N 50).1 611 (atB (atB B (i + 1)) (i + 3)) = some (v, B2) → Gr B2 → dsp N (X_RunS N d) B = some ((), (B2.sD 614 nL v).sD 611 11 (B2.D 611 11 + 1)) := by
    intro v B2 e1 hG2
    have hG3 : Gr (B2.sD 614 nL v) := hG2
    rw [dsp_h hI.2.1.1.1 (by omega) hI.2.2.2.1.1, h0]
    unfold dsq
    rw [if_neg (by decide), if_pos rfl, bnd_t, hB1.2.2.2.1.1, show nI (i + 1) + 2 = nI (i + 3) from nI_ad (i + 1) 2, bnd_t, show (atB B (i + 1)).sD 611 11 (nI (i + 3)) = atB (atB B (i + 1)) (i + 3) from rfl, rf_t (rP_611_14 hr.1), rf_t hr.2.2.2.1, ck_t t0, rf_t t5, ar_t t6, nI_1, rdI (show i + 1 < 6002 by omega) (by decide), (hr.2.2.2.2.2.2.2.2 (i + 1) (by omega)).2.1, h2, bC_t e1, ar_t (rA_611_14 hG2), wrI h3 (by decide), bnd_t, rdw (by decide), bnd_t]
  rcases s_val (N := N) (s := s) (pl := pl) hF hD hB3 (by omega) (by omega) (by omega) with ⟨n, A2, B2, v, dr2, g1, g2, g3, g4, g5, g6, g7⟩ | ⟨n, A2, B2, v, y, j', g1, g2, g3, g4, g5, g6, g7, g8, g9, g10⟩
  · have u1 : ∀ x, uph hd (100 + nL) (kk k) x = if x = 100 + nL then kk k else hd x := fun x => rfl
    obtain ⟨A3, V2, r1, r2⟩ := s_setl (N := N) (s := s) (pl := pl) (n2 := nL + 1) (hd := uph hd (100 + nL) (kk k)) hF (g7.hk (fun x y => by rw [u1, if_neg (by omega)]) (by omega)) g4 h3 (by omega) (fun x y1 y2 => by omega) (fun y => by
      rw [u1, if_pos rfl] at y
      exact v4_ok hF.1 hF.2.1 hB3.1.2.2.2 hlk hD (kk_4 y) hB3.2.1.1 hB3.2.2.2.1 (by omega) g5 g7.2.2.2.1.2.1) hc hc1 (by omega)
    have e1 := e v B2 g5 g7.2.1.1.1.1
    rw [g7.2.2.2.1.1, nI_1] at e1
    exact .inl ⟨A3, la, z, _, V2, st, mk, dr2, (((PRE.at hI.2.2.2.2).tr (PRE.at hB1.2.2.2.2)).tr (PRE.ex hB3.2.2.2.2 g1 g2 g3 g6)).tr r1, e1, r2⟩
  · refine .inr (SFL.pre ((PRE.at hI.2.2.2.2).tr (PRE.at hB1.2.2.2.2)) (SFL.ex hB3.2.2.2.2 (by omega) g2 g3 g4 g6 (e v B2 g5 g10.1) (same.sD (same.sD same.rf (.inr (.inr (.inr rfl)))) (.inl ⟨rfl, by omega⟩)) (fun x => by rw [rdw (by decide), rdw (by decide)]) (by rw [rdf (by decide), rdw (by decide)]; exact g7)))
theorem s_stl {dp i j a b l k : Nat} (hF : (FIX N p wo w u K0 M E)) (hlk : ∀ n, n < nL → lk n = 4 → hd (100 + n) = 1004) (hk4 : hd (100 + l) = 1004 → k = 4) (h0 : ty i = 1) (h1 : ty (i + 1) = 61) (h2 : mn i = nI l) (h3 : l < nL) (hD : DE ty mn nu cd E nL lc lk hd 0 dp (i + 2) j a b k) (hc : cd b = 34) (hc1 : cd (b + 1) = nI l) (hij : i + 2 < j) (hab : a < b) : (SP0 N s pl p wo inp cs w u ir M ty mn nu cd E K0 nL lc hd dp i (j + 1) a (b + 2) nL hd) := by
  refine ⟨by omega, by omega, by omega, fun d Q V A la z B mk st dr hI k1 k2 k3 k4 k5 => ?_⟩
  have h12 := hI.2.1.1.2.2.1
  have hB1 := (hI.to (j := i + 1) hF)
  have hB3 := (hB1.to (j := i + 2) hF)
  have hr1 := hB1.2.1.1.1
  obtain ⟨t0, t1, t2, t3, t4, t5, t6⟩ := hr1.T
  have hr := hB3.2.1.1.1
  obtain ⟨s0, s1, s2, s3, s4, s5, s6⟩ := hr.T
  have hM := hr.2.2.2.2.2.2.2.1
  have e : ∀ v B2, (X_RunE N 50).1 611 (atB (atB B (i + 1)) (i + 2)) = some (v, B2) → Gr B2 → dsp N (X_RunS N d) B = some ((), (B2.sD 614 l v).sD 611 11 (B2.D 611 11 + 1)) := by
    intro v B2 e1 hG2
    have hG3 : Gr (B2.sD 614 l v) := hG2
    rw [dsp_h hI.2.1.1.1 (by omega) hI.2.2.2.1.1, h0, dsq_1]
    unfold F_MRunner_assigns
    rw [ck_t (rS_611 hr1.1), rf_t hr1.2.2.2.1, ck_t t0, rf_t t1, ar_t t2, nI_1, rdI (show i + 1 < 6002 by omega) (by decide), (hr1.2.2.2.2.2.2.2.2 (i + 1) (by omega)).1, if_pos h1, bnd_t, hB1.2.2.2.1.1, nI_1, bnd_t, show (atB B (i + 1)).sD 611 11 (nI (i + 1 + 1)) = atB (atB B (i + 1)) (i + 2) from rfl, rf_t (rP_611_14 hr.1), rf_t hr.2.2.2.1, ck_t s0, rf_t s5, ar_t s6, rdI (show i < 6002 by omega) (by decide), (hr.2.2.2.2.2.2.2.2 i (by omega)).2.1, h2, bC_t e1, ar_t (rA_611_14 hG2), wrI (show l < 12 by omega) (by decide)]
    unfold B_MRunner_assigns_100
    rw [ck_t (rS_611 hG3), bnd_t, rdw (by decide), bnd_t]
  rcases s_val (N := N) (s := s) (pl := pl) hF hD hB3 (by omega) (by omega) (by omega) with ⟨n, A2, B2, v, dr2, g1, g2, g3, g4, g5, g6, g7⟩ | ⟨n, A2, B2, v, y, j', g1, g2, g3, g4, g5, g6, g7, g8, g9, g10⟩
  · obtain ⟨A3, V2, r1, r2⟩ := s_setl (N := N) (s := s) (pl := pl) (n2 := nL) hF g7 g4 (by omega) h12 (fun x y1 y2 => by omega) (fun y => v4_ok hF.1 hF.2.1 hB3.1.2.2.2 hlk hD (hk4 y) hB3.2.1.1 hB3.2.2.2.1 (by omega) g5 g7.2.2.2.1.2.1) hc hc1 (by omega)
    have e1 := e v B2 g5 g7.2.1.1.1.1
    rw [g7.2.2.2.1.1, nI_1] at e1
    exact .inl ⟨A3, la, z, _, V2, st, mk, dr2, (((PRE.at hI.2.2.2.2).tr (PRE.at hB1.2.2.2.2)).tr (PRE.ex hB3.2.2.2.2 g1 g2 g3 g6)).tr r1, e1, r2⟩
  · refine .inr (SFL.pre ((PRE.at hI.2.2.2.2).tr (PRE.at hB1.2.2.2.2)) (SFL.ex hB3.2.2.2.2 (by omega) g2 g3 g4 g6 (e v B2 g5 g10.1) (same.sD (same.sD same.rf (.inr (.inr (.inr rfl)))) (.inl ⟨rfl, by omega⟩)) (fun x => by rw [rdw (by decide), rdw (by decide)]) (by rw [rdf (by decide), rdw (by decide)]; exact g7)))
end Par
