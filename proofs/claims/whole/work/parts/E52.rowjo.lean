/-! ===== a row is run alike ===== -/
theorem exS.sub {R S : Nat → Nat → Prop} {A B : Hp} {la za lb zb : Nat} (h : exS R A la za B lb zb) (k : ∀ a f, a < A.sh.length → a ≠ la → R a f → ¬ S a f → B.D a f = A.D a f) : exS S A la za B lb zb :=
  ⟨h.1, h.2.1, fun a f a1 a2 a3 => by
    by_cases q : R a f
    · exact k a f a1 a3 q a2
    · exact h.2.2.1 a f a1 q a3, h.2.2.2⟩
theorem same.sub {R S : Nat → Nat → Prop} {A B : Hp} (h : same R A B) (k : ∀ a f, R a f → ¬ S a f → B.D a f = A.D a f) : same S A B :=
  ⟨fun a f a2 => by
    by_cases q : R a f
    · exact k a f q a2
    · exact h.1 a f q, h.2⟩
/-- failures, as both note them -/
def FLR (A : Hp) (wo : Nat) (B : Hp) (u : Nat) : Prop := A.D wo 2 = B.D u 2 ∧ ((A.D wo 6 = 0 ∧ B.D u 13 < 0) ∨ (¬ A.D wo 6 = 0 ∧ ¬ B.D u 13 < 0 ∧ A.D wo 4 = B.D u 13 ∧ A.D wo 5 = B.D u 14 ∧ A.D wo 6 = B.D u 15))
/-- what a row changes: class -/
def FRR (wo base : Nat) (E : Nat → Nat → Nat) (a f : Nat) : Prop := a = 117 ∨ (119 ≤ a ∧ a ≤ 124) ∨ (a = wo + 3 ∧ ∃ m, Wr E m ∧ f = base + m) ∨ (a = wo ∧ (f = 2 ∨ f = 4 ∨ f = 5 ∨ f = 6))
/-- what a row changes: reference -/
def FRS (u q : Nat) (E : Nat → Nat → Nat) (a f : Nat) : Prop := (611 ≤ a ∧ a ≤ 614) ∨ (a = u + 4 ∧ ∃ m, Wr E m ∧ f = 48 * q + m) ∨ (a = u ∧ (f = 2 ∨ f = 13 ∨ f = 14 ∨ f = 15))
theorem FRA.rr {wo base lc : Nat} {E : Nat → Nat → Nat} : ∀ a f, FRA wo base E lc a f → FRR wo base E a f := fun a f k => by
  unfold FRA at k
  rcases k with k | k | k | k | k | k | k
  · exact .inl k.1
  · exact .inr (.inl (by omega))
  · exact .inr (.inl (by omega))
  · exact .inr (.inl (by omega))
  · exact .inr (.inl (by omega))
  · exact .inr (.inl (by omega))
  · exact .inr (.inr (.inl k))
theorem FRB.rs {u q : Nat} {E : Nat → Nat → Nat} : ∀ a f, FRB E a f → FRS u q E a f := fun a f k => by
  unfold FRB at k
  exact .inl (by omega)
section Par
variable {N p wo inp cs w u ir M K0 : Nat} {s pl : Int32} {ty mn nu cd : Nat → Int32} {E Q : Nat → Nat → Nat} {V : Nat → Nat → Int32} {nL lc : Nat} {lk : Nat → Nat} {hd : Nat → Int32}
/-- the row's result on both sides -/
def RWR (N wo u : Nat) (E : Nat → Nat → Nat) (tk : Int32) (K0 sy q0 wd : Nat) (A : Hp) (la z : Nat) (B : Hp) : Prop := ∃ A2 B2 la2 z2 mk, F_Row_runRow N 117 (nI sy) (nI q0) A = some ((), A2) ∧ F_MRunner_row N 611 (nI sy) (nI q0) B = some ((), B2) ∧ exS (FRR wo (q0 * wd) E) A la z A2 la2 z2 ∧ same (FRS u q0 E) B B2 ∧ (∀ m, Wr E m → A2.D (wo + 3) (q0 * wd + m) = B2.D (u + 4) (48 * q0 + m) ∧ (E 6 m = 4 → SV E (B2.D (u + 4) (48 * q0 + m)))) ∧ A2.D 117 1 = nI (K0 + mk) ∧ B2.D 611 4 = nI (K0 + mk) ∧ mk ≤ 8 ∧ 11 * (K0 + mk) ≤ z2 ∧ CMR A2 la2 B2 E tk (K0 + mk) ∧ FLR A2 wo B2 u
theorem row_jo {sy q0 a bt e ce la z : Nat} {A B : Hp} (hF : (FIX N p wo w u K0 M E)) (hW : WRE E) (hN : 2000000 ≤ N) (hA : GA A p wo inp cs cd E Q V) (hB : GB B w u ir M ty mn nu E Q V) (hsy : E 17 0 = sy + 1) (hs16 : sy < 16) (hq : q0 < 256) (ha : Q 1 q0 = 1) (h18b : ∀ c, E 18 sy / 2 ^ c % 2 = 1 → Q 2 q0 / 2 ^ c % 2 = 1) (hst : A.D (p + 189) sy = nI a) (hbt : B.D (w + 26) sy = nI bt) (hD : DS ty mn nu cd E 2 0 0 lk hd 0 bt e a ce 0 lk) (he : e < M) (hce : ce < cs) (hc0 : cd ce = 0) (hL : LST A la z) (h1 : A.D 117 1 = nI K0) (hz : 11 * K0 ≤ z) (h4 : B.D 611 4 = nI K0) (hC : CMR A la B E (V 0 0) K0) (hFl : FLR A wo B u) (hKG : LKG (SV E) E Q V) : RWR N wo u E (V 0 0) K0 sy q0 (Q 5 0) A la z B := by
  have hp := hF.2.2.2.1
  have hwW := hF.2.2.2.2.1
  have hwo := lW_le hwW
  have hwT := hF.2.2.2.2.2.1
  have hw' := lT_le hwT
  have huU := hF.2.2.2.2.2.2.1
  have hu' := lU_le huU
  have hla := hL.2.2.1
  have hG := hA.1.1
  have hlen := hG.len
  have h18c : ∀ c, E 18 (E 17 0 - 1) / 2 ^ c % 2 = 1 → Q 2 q0 / 2 ^ c % 2 = 1 := by rw [hsy]; exact h18b
  have hwd := hA.2.2.2.2.2.1
  have wlt : ∀ m, Wr E m → m < Q 5 0 ∧ m < 48 := fun m ⟨c, y, _⟩ => ⟨hA.2.2.2.2.2.2.2.2.1.2.2.1 c m y, (mOf_lt hF.1 y).2.1⟩
  have weq : ∀ m, Wr E m → A.D (wo + 3) (q0 * Q 5 0 + m) = B.D (u + 4) (48 * q0 + m) := fun m ⟨c, y1, y2⟩ => by
    have b := h18c c (hW c y2).1
    rw [hA.2.2.2.2.2.2.1 q0 c m hq ha b y1, hB.2.2.2.2.1 q0 c m hq ha b y1]
  obtain ⟨A0, eA, sA, ⟨f12, f6, f13, f14, f15, f16, f17, f18⟩, bef⟩ := row_start (N := N) hA.1 hp hwo.2 hs16 hq hwd.1 hwd.2 hst
  obtain ⟨B0, eB, sB, ⟨g5, g6, g7, g8, g9, g10, g11, g12⟩, own⟩ := mrow_start (N := N) hB.1 hwT huU (by omega) hs16 hq h4 hbt
  have nA : (256 : Int32) * A.D (wo + 1) q0 + nI q0 = (256 : Int32) * B.D (u + 1) q0 + nI q0 := by rw [(hA.2.2.1 q0 hq).1, (hB.2.1 q0 hq).1]
  generalize hnum : (256 : Int32) * B.D (u + 1) q0 + nI q0 = num at nA g6
  have hnn : num = nI (256 * Q 0 q0 + q0) := by
    rw [← hnum, (hB.2.1 q0 hq).1]
    exact nI_ma 256 _ _
  have SA0 := hA.sa (hd := hx hd lk) hp hwW sA f17 f18 hq nA ha h18c (hKG.row hq ha h18c hnn)
  have SB0 := hB.sb (hd := hx hd lk) hF sB g5 g6 hq own ha h18c
  have v00 : rV V (nI sy) num q0 0 0 = V 0 0 := by rw [rV_o (by decide) (by decide) (by decide)]
  have hI : (SIN p wo inp cs w u ir M ty mn nu cd E (rQ Q q0) (rV V (nI sy) num q0) 0 0 (hx hd lk) K0 bt a 0 A0 la z B0 0 0 0) := by
    refine ⟨SA0, SB0, ⟨f12, f6, f16⟩, ⟨g11, g10, g12, g9⟩, (sA.exS hL).1, ?_, hz, f15, by omega, f13, by omega, f14, ?_, g7, g8, ?_⟩
    · rw [sA.1 117 1 (by omega)]; exact h1
    · rw [sB.1 611 4 (by omega)]; exact h4
    · rw [v00]
      exact hC.cg (fun y _ => sA.1 la y (by omega)) (fun y _ => sB.1 612 y (by omega))
  have hS : SP2 N (nI sy) (nI q0) p wo inp cs w u ir M ty mn nu cd E K0 0 0 (hx hd lk) 0 bt e a ce := s_all hF hW hD (by omega) (by omega)
  have hcs : cs ≤ 12000 := hA.1.2.2.2.2.2.2.2.2
  have bq : rQ Q q0 4 0 * rQ Q q0 5 0 = q0 * Q 5 0 := by rw [rQ_o (x := 5) (by decide)]; rfl
  rcases hS.2.2.2 23 _ _ A0 la z B0 0 0 0 hI (by omega) (by omega) (by omega) he (by omega) with t | t
  · obtain ⟨A2, la2, z2, B2, V2, st2, mk2, dr2, ⟨n, y1, y2, y3, y4, y5, y6⟩, x2, x3⟩ := t
    rw [bq] at y4
    obtain ⟨j1, j2, j3, j4, j5⟩ := x3
    have st120 := j5.2.2.2.2.2.2.1
    have hla2 := j5.1.2.2.1
    -- the class's end
    obtain ⟨fu, hfu⟩ : ∃ fu, N = fu + 1 + n := ⟨N - 1 - n, by omega⟩
    have e1 := y3 (fu + 1) 0 (by omega)
    rw [← hfu, Lp_end j1.1.1 j1.1.2.1 j3.1 hce ((j1.1.at_cd hce).trans hc0) j3.2.2] at e1
    -- the reference's end
    obtain ⟨g, hg⟩ : ∃ g, N = g + 48 + 1 := ⟨N - 49, by omega⟩
    obtain ⟨B3, b1, b2, b3, b4⟩ := mrow_out (N := N) (s2 := nI sy) hq 48 0 g B2 j2.1.1.1 j2.1.1.2.2.2.2.1 huU rfl
    rw [← hg] at b1
    have e2 : F_MRunner_row N 611 (nI sy) (nI q0) B = some ((), B3) := by
      rw [eB, x2]
      unfold mrw
      rw [bC_v, bnd_t, j4.2.1, if_pos (show (0 : Int32) ≤ 0 by decide)]
      exact b1
    have sBB : same (fun a f => FRS u q0 E a f ∨ (a = u + 4 ∧ 48 * q0 ≤ f ∧ f < 48 * q0 + 48)) B B3 := ((sB.mono (fun a f k => .inl (.inl (by omega)))).tr (y5.mono (fun a f k => .inl (FRB.rs a f k)))).tr (b2.mono (fun a f k => .inr k))
    have o4 : ∀ x, x < 48 → B3.D (u + 4) (48 * q0 + x) = B2.D 613 x := fun x hx => b3 x (by omega) hx
    refine ⟨A2.sD 117 12 (nI (ce + 1)), B3, la2, z2, mk2, eA.trans e1, e2, ?_, ?_, fun m hm => ?_, ?_, ?_, j5.2.2.2.2.1, j5.2.2.1, ?_, ?_⟩
    · have k1 : exS (FRR wo (q0 * Q 5 0) E) A la z A0 la z := (sA.mono (fun a f k => by unfold FRR; omega)).exS hL
      have k3 : exS (FRR wo (q0 * Q 5 0) E) A2 la2 z2 (A2.sD 117 12 (nI (ce + 1))) la2 z2 := (same.sD same.rf (.inl rfl) : same (FRR wo (q0 * Q 5 0) E) A2 (A2.sD 117 12 (nI (ce + 1)))).exS j5.1
      exact (k1.tr (y4.mono FRA.rr)).tr k3
    · refine sBB.sub (fun a f k1 k2 => ?_)
      rcases k1 with k1 | ⟨rfl, k3, k4⟩
      · exact absurd k1 k2
      · have hw1 : ¬ Wr E (f - 48 * q0) := fun k => k2 (.inr (.inl ⟨rfl, f - 48 * q0, k, by omega⟩))
        have := o4 (f - 48 * q0) (by omega)
        rw [show 48 * q0 + (f - 48 * q0) = f by omega] at this
        rw [this, y5.1 613 _ (fun k => by
          unfold FRB at k
          rcases k with k | k | k | k
          · omega
          · omega
          · exact hw1 k.2
          · omega), own _ (by omega), show 48 * q0 + (f - 48 * q0) = f by omega]
    · obtain ⟨c, m1, m2⟩ := hm
      have l48 := (mOf_lt hF.1 m1).2.1
      rw [rdw (by omega), o4 m l48, j2.1.2.2.2.2.2.1 c m m1 (hW c m2).1]
      have := j1.1.2.2.2.2.2.2.1 c m m1 (hW c m2).1
      rw [bq] at this
      exact ⟨this, fun y => j1.2.2.2.2.1 c m m1 (hW c m2).1 y⟩
    · rw [rdf (by decide)]; exact j5.2.1
    · rw [b2.1 611 4 (by omega)]; exact j5.2.2.2.2.2.2.2.2.1
    · have v0 : V2 0 0 = V 0 0 := by rw [y6 0 (by decide) (by decide)]; exact v00
      have := j5.2.2.2.2.2.2.2.2.2.2.2
      rw [v0] at this
      exact this.cg (fun y _ => rdw (by omega)) (fun y _ => b2.1 612 y (by omega))
    · have cA : ∀ f, (A2.sD 117 12 (nI (ce + 1))).D wo f = A.D wo f := fun f => by
        rw [rdw (by omega), y4.2.2.1 wo f (by rw [sA.2.2.2.1]; omega) (fun k => by unfold FRA at k; omega) (by omega), sA.1 wo f (by omega)]
      have cB : ∀ f, B3.D u f = B.D u f := fun f => by
        rw [b2.1 u f (by omega), y5.1 u f (fun k => by unfold FRB at k; omega), sB.1 u f (by omega)]
      unfold FLR
      rw [cA, cA, cA, cA, cB, cB, cB, cB]
      exact hFl
  · obtain ⟨n, A2, la2, z2, B2, y, st2, mk2, y1, y2, y3, y4, y5, y6, y7, y8, y9, y10, y11, y12, y13, y14⟩ := t
    rw [bq] at y5
    rw [v00] at y14
    have ny : ¬ y = 0 := fun k => by rw [k] at y7; exact absurd y7 (by decide)
    have nyle : ¬ y ≤ 0 := fun k => by have h4 := y7; rw [Int32.lt_iff_toInt_lt] at h4; rw [Int32.le_iff_toInt_le] at k; omega
    have hlen0 : A0.sh.length = A.sh.length := by rw [sA.2.2.2.1]
    have hLA2 := y5.1
    have hla2 := hLA2.2.2.1
    have dA : ∀ f, f = 17 ∨ f = 18 → A2.D 117 f = A0.D 117 f := fun f k => y5.2.2.1 117 f (by omega) (fun k2 => by unfold FRA at k2; omega) (by omega)
    have dW : ∀ f, A2.D wo f = A.D wo f := fun f => by rw [y5.2.2.1 wo f (by omega) (fun k => by unfold FRA at k; omega) (by omega), sA.1 wo f (by omega)]
    have dB : ∀ x, A2.D 124 x = A0.D 124 x := fun x => y5.2.2.1 124 x (by omega) (fun k => by unfold FRA at k; omega) (by omega)
    have hv2 : VS0 A2 p wo inp cs := SA0.1.1.fr hp hwW (y5.gr SA0.1.1.1) (fun f k1 k2 => y5.2.2.2.1 117 f (by omega) (by omega)) (fun s k => y5.get k) (y5.2.2.1 p 17 (by omega) (fun k => by unfold FRA at k; omega) (by omega))
    have hv3 : VS0 (A2.sD 117 12 (A2.D 117 12 + 1)) p wo inp cs := hv2.pc (by omega)
    obtain ⟨A3, b1, b2, b3, b4, b5, b6, b7⟩ := ev_183f (N := N) (s := nI sy) (pl := nI q0) (q := q0) (wd := Q 5 0) (K0 := K0) (mk := mk2) (y := y) hv3 (by rw [rdf (by decide), dA 18 (.inr rfl)]; exact f18) hq (by rw [rdw (by omega), dW 10]; exact hwd.1) hwd.2 (by rw [rdf (by decide)]; exact y8) (by rw [rdf (by decide)]; exact y9) (by rw [rdf (by decide)]; exact y6) ny hwo.2
    obtain ⟨fu, hfu⟩ : ∃ fu, N = fu + 1 + n := ⟨N - 1 - n, by omega⟩
    have e1 := y4 (fu + 1) 0 (by omega)
    rw [← hfu, Lp_fail hv2 (by omega) (by rw [y6]; exact ny), b1] at e1
    -- the reference
    have rB2 : RB B2 w u ir M ty mn nu := SB0.1.1.sm y12 (fun i => by unfold FRB; omega)
    generalize hH : B2.sD 611 4 (nI K0) = H
    have gH : Gr H := by rw [← hH]; exact rB2.1
    have pH : H.P 611 1 = .ref u := by rw [← hH]; exact rB2.2.2.2.2.1
    have dH : ∀ a f, ¬ (a = 611 ∧ f = 4) → H.D a f = B2.D a f := fun a f k => by
      rw [← hH]
      by_cases k2 : a = 611
      · rw [k2, rdf (fun k3 => k ⟨k2, k3⟩)]
      · rw [rdw k2]
    have dU : ∀ f, H.D u f = B.D u f := fun f => by rw [dH u f (by omega), y12.1 u f (fun k => by unfold FRB at k; omega), sB.1 u f (by omega)]
    have eR : F_MRunner_row N 611 (nI sy) (nI q0) B = bC (F_MWorld_failed N u (nI sy) num y H) fun _ H76 => some ((), H76) := by
      rw [eB, y11]
      unfold mrw
      rw [bC_v, bnd_t, y13, if_neg nyle, bnd_t, y12.1 611 7 (fun k => by unfold FRB at k; omega), g7, bnd_t, hH, rf_t pH, bnd_t, dH 611 6 (by omega), y12.1 611 6 (fun k => by unfold FRB at k; omega), g6, bnd_t, dH 611 10 (by omega), y13, ck_t (US (gr_U gH u huU))]
    have sH : same (FRS u q0 E) B H := by
      rw [← hH]
      exact same.sD ((sB.mono (fun a f k => .inl (by omega))).tr (y12.mono FRB.rs)) (.inl (by omega))
    have sAll : exS (fun a f => FRR wo (q0 * Q 5 0) E a f ∨ (a = wo + 3 ∧ q0 * Q 5 0 ≤ f ∧ f < q0 * Q 5 0 + Q 5 0)) A la z A3 la2 z2 := by
      have k1 : exS (fun a f => FRR wo (q0 * Q 5 0) E a f ∨ (a = wo + 3 ∧ q0 * Q 5 0 ≤ f ∧ f < q0 * Q 5 0 + Q 5 0)) A la z A0 la z := (sA.mono (fun a f k => by unfold FRR; omega)).exS hL
      have k3 : same (fun a f => FRR wo (q0 * Q 5 0) E a f ∨ (a = wo + 3 ∧ q0 * Q 5 0 ≤ f ∧ f < q0 * Q 5 0 + Q 5 0)) A2 A3 := (same.sD same.rf (.inl (.inl rfl))).tr (b2.mono (fun a f k => by
        rcases k with k | k | k
        · exact .inr k
        · exact .inl (.inl k.1)
        · exact .inl (.inr (.inr (.inr k)))))
      exact (k1.tr (y5.mono (fun a f k => .inl (FRA.rr a f k)))).tr (k3.exS hLA2)
    have rest : ∀ f, q0 * Q 5 0 ≤ f → f < q0 * Q 5 0 + Q 5 0 → A3.D (wo + 3) f = A.D (wo + 3) f := fun f k3 k4 => by
      have := b3 (f - q0 * Q 5 0) (by omega)
      rw [show q0 * Q 5 0 + (f - q0 * Q 5 0) = f by omega] at this
      rw [this, rdw (by decide), dB, bef _ (by omega), show q0 * Q 5 0 + (f - q0 * Q 5 0) = f by omega]
    have exA3 : exS (FRR wo (q0 * Q 5 0) E) A la z A3 la2 z2 := sAll.sub (fun a f _ _ k1 k2 => by
      rcases k1 with k1 | ⟨rfl, k3, k4⟩
      · exact absurd k1 k2
      · exact rest f k3 k4)
    have vals : ∀ m, Wr E m → A3.D (wo + 3) (q0 * Q 5 0 + m) = B.D (u + 4) (48 * q0 + m) := fun m hm => by
      have := (wlt m hm).1
      rw [rest _ (by omega) (by omega)]
      exact weq m hm
    have cm : ∀ B4, (∀ x, B4.D 612 x = H.D 612 x) → CMR A3 la2 B4 E (V 0 0) (K0 + 0) := fun B4 k => y14.cg (fun x _ => by rw [b2.1 la2 x (by omega), rdw (by omega)]) (fun x _ => by rw [k, dH 612 x (by omega)])
    have zz : 11 * (K0 + 0) ≤ z2 := by have := y5.2.2.2.2.2.2.1; omega
    unfold F_MWorld_failed at eR
    rw [ck_t (US (gr_U gH u huU)), bnd_t, dU 2, bnd_t, bnd_t, rdf (by decide), dU 13] at eR
    have w2 : A3.D wo 2 = B.D u 2 + 1 := by rw [b5, rdw (by omega), dW 2, hFl.1]
    have w17 : (A2.sD 117 12 (A2.D 117 12 + 1)).D 117 17 = nI sy := by rw [rdf (by decide), dA 17 (.inl rfl)]; exact f17
    have wnum : (256 : Int32) * (A2.sD 117 12 (A2.D 117 12 + 1)).D (wo + 1) q0 + nI q0 = num := by
      rw [rdw (by omega), y5.2.2.1 (wo + 1) q0 (by omega) (fun k => by unfold FRA at k; omega) (by omega), sA.1 (wo + 1) q0 (by omega)]
      exact nA
    have w6 : (A2.sD 117 12 (A2.D 117 12 + 1)).D wo 6 = A.D wo 6 := by rw [rdw (by omega), dW 6]
    have w4 : (A2.sD 117 12 (A2.D 117 12 + 1)).D wo 4 = A.D wo 4 := by rw [rdw (by omega), dW 4]
    have w5 : (A2.sD 117 12 (A2.D 117 12 + 1)).D wo 5 = A.D wo 5 := by rw [rdw (by omega), dW 5]
    rw [w6, w17, wnum] at b6
    rw [w4, w5, w6] at b7
    have h4H : H.D 611 4 = nI K0 := by rw [← hH, rds]
    have uH : ∀ m, Wr E m → H.D (u + 4) (48 * q0 + m) = B.D (u + 4) (48 * q0 + m) := fun m hm => by
      rw [dH (u + 4) _ (by omega), y12.1 (u + 4) _ (fun k => by unfold FRB at k; omega), sB.1 (u + 4) _ (by omega)]
    have k4 : ∀ m, Wr E m → E 6 m = 4 → SV E (B.D (u + 4) (48 * q0 + m)) := fun m ⟨c, y1, y2⟩ y3 => by
      have b := h18c c (hW c y2).1
      rw [hB.2.2.2.2.1 q0 c m hq ha b y1]
      exact hKG.2.2.1 q0 c m hq ha b y1 y3
    rcases hFl.2 with ⟨z1, z2'⟩ | ⟨z1, z2', z3, z4, z5⟩
    · obtain ⟨b8, b9, b10⟩ := b6 z1
      rw [if_pos z2', bnd_t, bnd_t, bnd_t, bC_v] at eR
      refine ⟨A3, _, la2, z2, 0, eA.trans e1, eR, exA3, same.sD (same.sD (same.sD (same.sD sH (.inr (.inr ⟨rfl, by omega⟩))) (.inr (.inr ⟨rfl, by omega⟩))) (.inr (.inr ⟨rfl, by omega⟩))) (.inr (.inr ⟨rfl, by omega⟩)), fun m hm => ?_, b4, ?_, by omega, zz, cm _ (fun x => ?_), ?_⟩
      · rw [vals m hm, rdw (by omega), rdw (by omega), rdw (by omega), rdw (by omega), uH m hm]; exact ⟨rfl, k4 m hm⟩
      · rw [rdw (by omega), rdw (by omega), rdw (by omega), rdw (by omega)]; exact h4H
      · rw [rdw (by omega), rdw (by omega), rdw (by omega), rdw (by omega)]
      · refine ⟨?_, .inr ⟨by rw [b10]; exact ny, ?_, ?_, ?_, ?_⟩⟩
        · rw [rdf (by decide), rdf (by decide), rdf (by decide), rds]; exact w2
        · rw [rdf (by decide), rdf (by decide), rds]; exact nI_nlt (b := 0) (by omega) (by omega)
        · rw [rdf (by decide), rdf (by decide), rds]; exact b8
        · rw [rdf (by decide), rds]; exact b9
        · rw [rds]; exact b10
    · obtain ⟨b8, b9, b10⟩ := b7 z1
      rw [if_neg z2', bC_v] at eR
      refine ⟨A3, _, la2, z2, 0, eA.trans e1, eR, exA3, same.sD sH (.inr (.inr ⟨rfl, by omega⟩)), fun m hm => ?_, b4, ?_, by omega, zz, cm _ (fun x => ?_), ?_⟩
      · rw [vals m hm, rdw (by omega), uH m hm]; exact ⟨rfl, k4 m hm⟩
      · rw [rdw (by omega)]; exact h4H
      · rw [rdw (by omega)]
      · refine ⟨?_, .inr ⟨by rw [b10]; exact z1, ?_, ?_, ?_, ?_⟩⟩
        · rw [rds]; exact w2
        · rw [rdf (by decide), dU 13]; exact z2'
        · rw [rdf (by decide), dU 13, b8]; exact z3
        · rw [rdf (by decide), dU 14, b9]; exact z4
        · rw [rdf (by decide), dU 15, b10]; exact z5
end Par
