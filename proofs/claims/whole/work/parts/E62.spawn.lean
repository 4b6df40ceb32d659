/-! ===== spawn acts alike ===== -/
section Par
variable {N p wo inp cs w u ir M K0 : Nat} {s pl : Int32} {ty mn nu cd : Nat → Int32} {E Q : Nat → Nat → Nat} {V : Nat → Nat → Int32} {nL lc : Nat} {lk : Nat → Nat} {hd : Nat → Int32}
/-- the values that a spawn names -/
theorem ev_prs {la z k q n wd bt : Nat} {g3 : Int32} {vs : Nat → Int32} {ms : Nat → Nat} (hE : WE E) (hk : 11 * (k + 1) ≤ z) (hz : z < 2 ^ 31) (hk2 : k < 32768) (hwo : wo + 5 < la ∨ la < wo) (hu : u + 4 ≠ 612) (hq : q < 256) (hn4 : n ≤ 4) (hwd : wd ≤ 48) (hlt : ∀ c m, mOf E c m → m < wd) (hm : ∀ i, i < n → ∃ c, mOf E c (ms i) ∧ bt / 2 ^ c % 2 = 1) (hg : ∀ i, i < n → (g3 >>> (nI (8 * i) &&& 31)) &&& 255 = nI (ms i)) : ∀ j i nA nB A B, i + j = n → j < nA → j < nB → Gr A → Gr B → isW A wo → isU B u → A.P 116 2 = .ref wo → B.P 611 1 = .ref u → A.sh[la]? = some (100, z) → A.D wo 10 = nI wd → A.D la (11 * k + 2) = nI n → (∀ i, i < n → A.D la (11 * k + 3 + i) = nI (ms i) ∧ A.D la (11 * k + 7 + i) = vs i) → B.D 612 (12 * k + 3) = g3 → (∀ i, i < n → B.D 612 (12 * k + 4 + i) = vs i) → (∀ c m, mOf E c m → bt / 2 ^ c % 2 = 1 → A.D (wo + 3) (q * wd + m) = B.D (u + 4) (48 * q + m)) → ∃ A2 B2, B_Ticker_actSpawn_26 N 116 la (nI (11 * k)) nA (nI q) (nI i) A = some (1, A2) ∧ B_MRunner_acts_81 N 611 (nI (12 * k)) nB (nI n) (nI q) (nI i) B = some (1, B2) ∧ same (fun a f => a = wo + 3 ∧ q * wd ≤ f ∧ f < q * wd + wd) A A2 ∧ same (fun a f => a = u + 4 ∧ 48 * q ≤ f ∧ f < 48 * q + 48) B B2 ∧ ∀ c m, mOf E c m → bt / 2 ^ c % 2 = 1 → A2.D (wo + 3) (q * wd + m) = B2.D (u + 4) (48 * q + m) ∧ (B2.D (u + 4) (48 * q + m) = B.D (u + 4) (48 * q + m) ∨ ∃ x, x < n ∧ ms x = m ∧ B2.D (u + 4) (48 * q + m) = vs x) := by
  intro j
  induction j with
  | zero =>
    intro i nA nB A B hi hA hB hGA hGB W U h116 h611 hL h10 h2 hl hg3 hgv hin
    obtain ⟨nA, rfl⟩ : ∃ y, nA = y + 1 := ⟨nA - 1, by omega⟩
    obtain ⟨nB, rfl⟩ : ∃ y, nB = y + 1 := ⟨nB - 1, by omega⟩
    refine ⟨A, B, ?_, ?_, same.rf, same.rf, fun c m y1 y2 => ⟨hin c m y1 y2, .inl rfl⟩⟩
    · rw [B_Ticker_actSpawn_26, ar_t hL, show nI (11 * k) + (2 : Int32) = nI (11 * k + 2) from nI_ad _ 2, rdI (show 11 * k + 2 < z by omega) (by omega), h2, if_pos (show nI n ≤ nI i from nI_le (by omega) (by omega))]
    · rw [B_MRunner_acts_81, if_pos (show nI n ≤ nI i from nI_le (by omega) (by omega))]
      unfold B_MRunner_acts_141
      rw [if_neg (show ¬ nI q < (0 : Int32) from nI_nlt (b := 0) (by omega) (by omega))]
  | succ j ih =>
    intro i nA nB A B hi hA hB hGA hGB W U h116 h611 hL h10 h2 hl hg3 hgv hin
    obtain ⟨nA, rfl⟩ : ∃ y, nA = y + 1 := ⟨nA - 1, by omega⟩
    obtain ⟨nB, rfl⟩ : ∃ y, nB = y + 1 := ⟨nB - 1, by omega⟩
    obtain ⟨c, c1, c2⟩ := hm i (by omega)
    have ml := hlt c _ c1
    have mE := (mOf_lt hE c1).2.1
    have gi := hg i (by omega)
    obtain ⟨l1, l2⟩ := hl i (by omega)
    have gv := hgv i (by omega)
    have nla : la ≠ wo + 3 := by omega
    obtain ⟨A2, B2, r1, r2, r3, r4, r5⟩ := ih (i + 1) nA nB (A.sD (wo + 3) (q * wd + ms i) (vs i)) (B.sD (u + 4) (48 * q + ms i) (vs i)) (by omega) (by omega) (by omega) hGA hGB W U h116 h611 hL (by rw [rdw (by omega)]; exact h10) (by rw [rdw nla]; exact h2) (fun i hi => by rw [rdw nla, rdw nla]; exact hl i hi) (by rw [rdw (fun z => hu z.symm)]; exact hg3) (fun i hi => by rw [rdw (fun z => hu z.symm)]; exact hgv i hi) (fun c' m' y1 y2 => by
      by_cases y : m' = ms i
      · rw [y, rds, rds]
      · rw [rdf (by omega), rdf (by omega)]
        exact hin c' m' y1 y2)
    refine ⟨A2, B2, ?_, ?_, ((same.rf (H := A)).sD (by omega)).tr r3, ((same.rf (H := B)).sD (by omega)).tr r4, fun c' m' y1 y2 => ⟨(r5 c' m' y1 y2).1, ?_⟩⟩
    · rw [B_Ticker_actSpawn_26, ar_t hL, show nI (11 * k) + (2 : Int32) = nI (11 * k + 2) from nI_ad _ 2, rdI (show 11 * k + 2 < z by omega) (by omega), h2, if_neg (show ¬ nI n ≤ nI i from nI_ge (by omega) (by omega)), ck_t (rS_116 hGA), rf_t h116, show nI (11 * k) + (3 : Int32) + nI i = nI (11 * k + 3 + i) from by rw [← nI_ad, ← nI_ad]; rfl, rdI (show 11 * k + 3 + i < z by omega) (by omega), l1, show nI (11 * k) + (7 : Int32) + nI i = nI (11 * k + 7 + i) from by rw [← nI_ad, ← nI_ad]; rfl, rdI (show 11 * k + 7 + i < z by omega) (by omega), l2, ck_t (WS W), bC_t (ev_write W h10 hwd hq mE), nI_1]
      exact r1
    · rw [B_MRunner_acts_81, if_neg (show ¬ nI n ≤ nI i from nI_ge (by omega) (by omega)), if_neg (show ¬ nI q < (0 : Int32) from nI_nlt (b := 0) (by omega) (by omega)), ck_t (rS_611 hGB), rf_t h611, ck_t (US U), rf_t (UP_7 U), rf_t (rP_611_3 hGB), ar_t (rA_611_3 hGB), show nI (12 * k) + (3 : Int32) = nI (12 * k + 3) from nI_ad _ 3, rdI (show 12 * k + 3 < 393216 by omega) (by decide), hg3, show (8 : Int32) * nI i = nI (8 * i) from nI_mu 8 i, gi, bnd_t, rf_t (rP_611_3 hGB), ar_t (rA_611_3 hGB), show nI (12 * k) + (4 : Int32) + nI i = nI (12 * k + 4 + i) from by rw [← nI_ad, ← nI_ad]; rfl, rdI (show 12 * k + 4 + i < 393216 by omega) (by decide), gv, ar_t (UA_7 U), show (48 : Int32) * nI q + nI (ms i) = nI (48 * q + ms i) from nI_ma 48 _ _, wrI (show 48 * q + ms i < 12288 by omega) (by decide), nI_1]
      exact r2
    · rcases (r5 c' m' y1 y2).2 with y | y
      · rw [y]
        by_cases y3 : m' = ms i
        · rw [y3, rds]
          exact .inr ⟨i, by omega, rfl, rfl⟩
        · rw [rdf (by omega)]
          exact .inl rfl
      · exact .inr y
/-- prefabs name nobody -/
def PVN (E : Nat → Nat → Nat) (Pv : Nat → Nat → Int32) : Prop := ∀ f c m, f < E 15 0 → mOf E c m → E 16 f / 2 ^ c % 2 = 1 → E 6 m = 4 → Pv f m = -1
theorem ac_spawn {A B : Hp} {Pv : Nat → Nat → Int32} {la z k fb n : Nat} (hPv : PVN E Pv) (hN : 300 ≤ N) (hE : WE E) (hT : ATX A p B w E Pv) (h : ACS A la z B wo u k E Q) (hfb : fb < E 15 0) (hn : n ≤ 4) (f0 : A.D la (11 * k) = 20) (g0 : B.D 612 (12 * k) = 222) (f1 : A.D la (11 * k + 1) = nI fb) (g1 : B.D 612 (12 * k + 1) = nI fb) (f2 : A.D la (11 * k + 2) = nI n) (g2 : B.D 612 (12 * k + 2) = nI n) (hi : ∀ i, i < n → ∃ m c : Nat, mOf E c m ∧ E 16 fb / 2 ^ c % 2 = 1 ∧ A.D la (11 * k + (3 + i)) = nI m ∧ (B.D 612 (12 * k + 3) >>> (nI (8 * i) &&& 31)) &&& 255 = nI m ∧ A.D la (11 * k + (7 + i)) = B.D 612 (12 * k + (4 + i)) ∧ (E 6 m = 4 → SVx E (B.D 612 (12 * k + (4 + i))))) : ACT N wo u la k E Q A B := by
  have hz := h.z
  obtain ⟨t1, t2, t3, t4, t5, t6, t7, t8, t9⟩ := hT
  obtain ⟨hGA, hGB, hw, hu, h116, h611, hL, hk, hk2, hW⟩ := h
  have hwo := lW_le hw
  have hu' := lU_le hu
  have hT' := lT_le t2
  have W := gr_W hGA wo hw
  have U := gr_U hGB u hu
  have hP := gr_P hGA t1
  have T := gr_T hGB w t2
  have l3 := hL.2.2.1
  have hW' := hW
  obtain ⟨w1, w2, w3, w4, w5, w6, w7⟩ := hW
  have f16 : fb < 16 := by
    have := hE.2.2.2.2.2.2.2.2.2.1
    omega
  have fbt := hE.2.2.2.2.2.2.2.2.2.2.1 fb hfb
  have i0 : 12 * k < 393216 := by omega
  have i1 : 12 * k + 1 < 393216 := by omega
  have i2 : 12 * k + 2 < 393216 := by omega
  have eA : F_Ticker_acts N 116 la (nI (11 * k)) A = bC (F_Ticker_actSpawn N 116 la (nI (11 * k)) A) fun v22 H23 => ck (v22 &&& 1 = v22) <| some (v22, H23) := by
    unfold F_Ticker_acts
    rw [ar_t hL.2.1, rdI (show 11 * k < z by omega) (by omega), f0, if_pos rfl, ck_t (rS_116 hGA)]
  have eB : F_MRunner_acts N 611 (nI (12 * k)) B = bC (F_MWorld_spawns N u w (nI fb) B) fun v27 H28 => B_MRunner_acts_81 N 611 (nI (12 * k)) N (nI n) v27 0 H28 := by
    unfold F_MRunner_acts
    rw [ck_t (rS_611 hGB), rf_t (rP_611_3 hGB), ar_t (rA_611_3 hGB), nI_1, rdI i1 (by decide), g1, rf_t (rP_611_3 hGB), ar_t (rA_611_3 hGB), show nI (12 * k) + (2 : Int32) = nI (12 * k + 2) from nI_ad _ 2, rdI i2 (by decide), g2, rf_t (rP_611_3 hGB), ar_t (rA_611_3 hGB), rdI i0 (by decide), g0, if_pos rfl, rf_t h611, rf_t t4, ck_t (US U)]
  obtain ⟨q, q1, q2, q3⟩ := free_p Q 256
  have bA : F_World_bear N wo p (nI fb) A = B_World_bear_24 N wo p (nI fb) (nI q) A := ev_bea W w1 q1 q2 q3 q N 0 (by omega) (by omega)
  have bB : F_MWorld_spawns N u w (nI fb) B = B_MWorld_spawns_24 N u w (nI fb) (nI q) B := ev_spn U w2 q1 q2 q3 q N 0 (by omega) (by omega)
  unfold F_Ticker_actSpawn at eA
  rw [ck_t (rS_116 hGA), rf_t h116, rf_t t3, ar_t hL.2.1, nI_1, rdI (show 11 * k + 1 < z by omega) (by omega), f1, ck_t (WS W), bA] at eA
  rw [bB] at eB
  by_cases y : q < 256
  · obtain ⟨A1, a1, a2, a3, a4, a5⟩ := ev_bear (N := N) (p := p) W hP (by omega) y f16 w4.2.1 w4.1 w5.1 w5.2.1 (t8.2 fb hfb).1
    obtain ⟨B1, b1, b2, b3, b4, b5⟩ := ev_spaw (N := N) (w := w) hN U T (by omega) y f16 (t9.2 fb hfb).1
    rw [a1, bC_v, if_pos (show (0 : Int32) ≤ nI q from nI_le (a := 0) (by omega) (by omega))] at eA
    rw [b1, bC_v] at eB
    have hla : wo + 5 < la ∨ la < wo := by omega
    have nA : ∀ f, ¬ BEA wo q (Q 5 0) la f := fun f => by unfold BEA; omega
    have nB : ∀ f, ¬ BEB u q 612 f := fun f => by unfold BEB; omega
    have hsh : A1.sh = A.sh := a2.2.2.2.1
    have hGA1 : Gr A1 := a2.gr hGA
    have hGB1 : Gr B1 := b2.gr hGB
    let ms : Nat → Nat := fun i => (A.D la (11 * k + (3 + i))).toNatClampNeg
    have hms : ∀ i, i < n → ∃ c, mOf E c (ms i) ∧ E 16 fb / 2 ^ c % 2 = 1 ∧ A.D la (11 * k + (3 + i)) = nI (ms i) ∧ (B.D 612 (12 * k + 3) >>> (nI (8 * i) &&& 31)) &&& 255 = nI (ms i) ∧ A.D la (11 * k + (7 + i)) = B.D 612 (12 * k + (4 + i)) ∧ (E 6 (ms i) = 4 → SVx E (B.D 612 (12 * k + (4 + i)))) := fun i hi' => by
      obtain ⟨m, c, z1, z2, z3, z4, z5⟩ := hi i hi'
      have zl := (mOf_lt hE z1).2.1
      have : ms i = m := by
        show (A.D la (11 * k + (3 + i))).toNatClampNeg = m
        rw [z3, cN (by omega)]
      rw [this]
      exact ⟨c, z1, z2, z3, z4, z5⟩
    obtain ⟨A2, B2, r1, r2, r3, r4, r5⟩ := ev_prs (N := N) (wo := wo) (u := u) (la := la) (z := z) (k := k) (q := q) (n := n) (wd := Q 5 0) (bt := E 16 fb) (g3 := B.D 612 (12 * k + 3)) (vs := fun i => B.D 612 (12 * k + (4 + i))) (ms := ms) hE hk hz hk2 hla (by omega) y hn w4.2.1 w4.2.2 (fun i hi' => by obtain ⟨c, z1, z2, -⟩ := hms i hi'; exact ⟨c, z1, z2⟩) (fun i hi' => by obtain ⟨c, -, -, -, z4, -⟩ := hms i hi'; exact z4) n 0 N N A1 B1 (by omega) (by omega) (by omega) hGA1 hGB1 (gr_W hGA1 wo hw) (gr_U hGB1 u hu) (by rw [a2.2.1]; exact h116) (by rw [b2.2.1]; exact h611) (by rw [hsh]; exact hL.2.1) (by rw [a2.1 _ _ (by unfold BEA; omega)]; exact w4.1) (by rw [a2.1 _ _ (nA _)]; exact f2) (fun i hi' => by
        obtain ⟨c, -, -, z3, -, z5, -⟩ := hms i hi'
        rw [a2.1 _ _ (nA _), a2.1 _ _ (nA _), show 11 * k + 3 + i = 11 * k + (3 + i) by omega, show 11 * k + 7 + i = 11 * k + (7 + i) by omega]
        exact ⟨z3, z5⟩) (b2.1 _ _ (nB _)) (fun i hi' => by rw [b2.1 _ _ (nB _), show 12 * k + 4 + i = 12 * k + (4 + i) by omega]) (fun c m y1 y2 => by
        rw [a5 m (w4.2.2 c m y1), b5 m (mOf_lt hE y1).2.1, (t8.2 fb hfb).2 c m y1 y2, (t9.2 fb hfb).2 c m y1 y2])
    rw [show B_Ticker_actSpawn_26 N 116 la (nI (11 * k)) N (nI q) 0 A1 = some (1, A2) from r1, bC_v, ck_t (by decide)] at eA
    rw [show B_MRunner_acts_81 N 611 (nI (12 * k)) N (nI n) (nI q) 0 B1 = some (1, B2) from r2] at eB
    have dA : ∀ x f, ¬ BEA wo q (Q 5 0) x f → A2.D x f = A.D x f := fun x f z => by
      rw [r3.1 _ _ (fun y => z (.inr (.inr y))), a2.1 _ _ z]
    have dB : ∀ x f, ¬ BEB u q x f → B2.D x f = B.D x f := fun x f z => by
      rw [r4.1 _ _ (fun y => z (.inr (.inr y))), b2.1 _ _ z]
    have a3' : A2.D (wo + 2) q = nI (E 16 fb) := by rw [r3.1 _ _ (by omega)]; exact a3
    have a4' : A2.D wo 9 = nI (if Q 5 1 < q + 1 then q + 1 else Q 5 1) := by rw [r3.1 _ _ (by omega)]; exact a4
    have b3' : B2.D (u + 2) q = 1 := by rw [r4.1 _ _ (by omega)]; exact b3
    have b4' : B2.D (u + 3) q = nI (E 16 fb) := by rw [r4.1 _ _ (by omega)]; exact b4
    have tp1 : Q 5 1 ≤ (if Q 5 1 < q + 1 then q + 1 else Q 5 1) ∧ q + 1 ≤ (if Q 5 1 < q + 1 then q + 1 else Q 5 1) ∧ (if Q 5 1 < q + 1 then q + 1 else Q 5 1) ≤ 256 := by
      have := w5.2.1
      split <;> omega
    generalize (if Q 5 1 < q + 1 then q + 1 else Q 5 1) = tp at a4' tp1
    have o0 : ∀ x, x ≠ 1 → x ≠ 2 → x ≠ 5 → upR (upR (upR Q 1 q 1) 2 q (E 16 fb)) 5 1 tp x = Q x := fun x z1 z2 z5 => by rw [upR_o z5, upR_o z2, upR_o z1]
    have o1 : ∀ x, x ≠ q → upR (upR (upR Q 1 q 1) 2 q (E 16 fb)) 5 1 tp 1 x = Q 1 x := fun x z => by rw [upR_o (by decide), upR_o (by decide), upR_n z]
    have s1 : upR (upR (upR Q 1 q 1) 2 q (E 16 fb)) 5 1 tp 1 q = 1 := by rw [upR_o (by decide), upR_o (by decide), upR_s]
    have o2 : ∀ x, x ≠ q → upR (upR (upR Q 1 q 1) 2 q (E 16 fb)) 5 1 tp 2 x = Q 2 x := fun x z => by rw [upR_o (by decide), upR_n z, upR_o (by decide)]
    have s2 : upR (upR (upR Q 1 q 1) 2 q (E 16 fb)) 5 1 tp 2 q = E 16 fb := by rw [upR_o (by decide), upR_s]
    have o5 : ∀ x, x ≠ 1 → upR (upR (upR Q 1 q 1) 2 q (E 16 fb)) 5 1 tp 5 x = Q 5 x := fun x z => by rw [upR_n z, upR_o (by decide), upR_o (by decide)]
    have s5 : upR (upR (upR Q 1 q 1) 2 q (E 16 fb)) 5 1 tp 5 1 = tp := upR_s
    generalize upR (upR (upR Q 1 q 1) 2 q (E 16 fb)) 5 1 tp = Q2 at o0 o1 s1 o2 s2 o5 s5
    have sA : same (WCA wo) A A2 := (a2.mono fun a f y => by unfold BEA at y; unfold WCA; omega).tr (r3.mono fun a f y => by unfold WCA; omega)
    have sB : same (WCB u) B B2 := (b2.mono fun a f y => by unfold BEB at y; unfold WCB; omega).tr (r4.mono fun a f y => by unfold WCB; omega)
    refine ⟨1, 1, A2, B2, Q2, eA, eB, Iff.rfl, sA, sB, ?_, fun x _ z1 z2 z5 => o0 x z1 z2 z5, o5 0 (by decide), fun cc => cc.fr (fun x c2 m y1 y2 y3 y4 y5 => by
      have m2l := (mOf_lt hE y4).2.1
      by_cases y : x = q
      · rw [y, s2] at y3
        rw [y]
        right
        rcases (r5 c2 m y4 y3).2 with z | ⟨i, z1, z2, z3⟩
        · rw [z, b5 m m2l, (t9.2 fb hfb).2 c2 m y4 y3, hPv fb c2 m hfb y4 y3 y5]
          exact cc.1
        · rw [z3]
          obtain ⟨c, -, -, -, -, -, z6⟩ := hms i z1
          exact z6 (by rw [z2]; exact y5)
      · rw [o2 x y] at y3
        rw [o1 x y] at y2
        exact .inl ⟨y2, y3, dB _ _ (by unfold BEB; omega)⟩) (o5 2 (by decide)) (fun a f y => dB _ _ (by unfold BEB; omega)), fun x => .inl (by rw [o0 0 (by decide) (by decide) (by decide)])⟩
    unfold WRL PPL PPB
    rw [o0 0 (by decide) (by decide) (by decide), o5 0 (by decide), s5, o5 2 (by decide), o5 3 (by decide)]
    unfold BEA at dA
    unfold BEB at dB
    refine ⟨fun x hx => ?_, fun x hx => ?_, fun x c2 m y1 y2 y3 y4 => ?_, ⟨by rw [dA _ _ (by omega)]; exact w4.1, w4.2⟩, ⟨a4', tp1.2.2, fun x z1 z2 => by rw [o1 x (by omega)]; exact w5.2.2 x (by omega) z2⟩, ⟨by rw [dA _ _ (by omega)]; exact w6.1, by rw [dB _ _ (by omega)]; exact w6.2.1, w6.2.2.1, fun k hk => ?_⟩, by rw [dA _ _ (by omega)]; exact w7.1, by rw [dB _ _ (by omega)]; exact w7.2.1, w7.2.2.1, fun k hk => by rw [dA _ _ (by omega), dB _ _ (by omega)]; exact w7.2.2.2 k hk⟩
    · obtain ⟨k1, k2, k3, k4⟩ := w1 x hx
      rw [dA (wo + 1) _ (by omega)]
      by_cases y : x = q
      · subst y
        rw [s1, s2, a3', if_pos rfl]
        exact ⟨k1, k2, fbt, rfl⟩
      · rw [o1 x y, o2 x y, dA _ _ (by omega)]
        exact ⟨k1, k2, k3, k4⟩
    · obtain ⟨k1, k2, k3, k4, k5⟩ := w2 x hx
      rw [dB (u + 1) _ (by omega)]
      by_cases y : x = q
      · subst y
        rw [s1, s2, b3', b4', if_pos rfl]
        exact ⟨k1, k2, fbt, rfl, fun _ => rfl⟩
      · rw [o1 x y, o2 x y, dB _ _ (by omega), dB _ _ (by omega)]
        exact ⟨k1, k2, k3, k4, k5⟩
    · have m2l := (mOf_lt hE y4).2.1
      have wd := w4.2.2 c2 m y4
      by_cases y : x = q
      · rw [y, s2] at y3
        rw [y]
        exact (r5 c2 m y4 y3).1
      · rw [o2 x y] at y3
        rw [o1 x y] at y2
        have nA : ¬ (q * Q 5 0 ≤ x * Q 5 0 + m ∧ x * Q 5 0 + m < q * Q 5 0 + Q 5 0) := fun z => by
          have zz : x * Q 5 0 + m = q * Q 5 0 + (x * Q 5 0 + m - q * Q 5 0) := by omega
          exact y (ix_inj zz (by omega) wd).1
        rw [dA _ _ (by omega), dB _ _ (by omega)]
        exact w3 x c2 m y1 y2 y3 y4
    · rw [dA _ _ (by omega), dA _ _ (by omega), dA _ _ (by omega), dB _ _ (by omega), dB _ _ (by omega), dB _ _ (by omega)]
      obtain ⟨m0, m1, m2, m3⟩ := w6.2.2.2 k hk
      exact ⟨m0, m1, m2, fun e q y1 y2 y3 => by rw [dA _ _ (by omega), dB _ _ (by omega)]; exact m3 e q y1 y2 y3⟩
  · have : q = 256 := by omega
    subst this
    unfold B_World_bear_24 at eA
    unfold B_MWorld_spawns_24 at eB
    rw [if_neg (by decide), bC_v, if_neg (by decide), bC_v, ck_t (by decide)] at eA
    rw [if_pos (by decide), bC_v] at eB
    obtain ⟨N, rfl⟩ : ∃ y, N = y + 1 := ⟨N - 1, by omega⟩
    have e1 : B_MRunner_acts_81 (N + 1) 611 (nI (12 * k)) (N + 1) (nI n) (-1) 0 B = some (0, B) := by
      rw [B_MRunner_acts_81]
      unfold B_MRunner_acts_141
      rw [if_pos (show (-1 : Int32) < 0 by decide)]
      split <;> rfl
    rw [e1] at eB
    exact ⟨0, 0, A, B, Q, eA, eB, Iff.rfl, same.rf, same.rf, hW', fun x _ _ _ _ => rfl, rfl, id, fun q => .inl rfl⟩
end Par
