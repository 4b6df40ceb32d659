/-! ===== names in expressions ===== -/
section Par
variable {N p w T : Nat} {L : List (Nat × Nat × Int32 × Bool × Nat)} {g : Nat → Nat} {E : Nat → Nat → Nat} {Nm : Nat → Nat → List Nat} {Pv : Nat → Nat → Int32} {nL lc dp : Nat} {ln : Nat → List Nat} {lk lf : Nat → Nat} {hd : Nat → Int32}
theorem ev_loopOf {A : Hp} {i cs e : Nat} (ha : (JA p T L g E Nm Pv nL lc dp ln lk lf hd i cs A)) (hC : (CX p E Nm nL lc dp ln lk lf hd)) (he : e < 8) (hN : 100 ≤ N) : (∃ l, inn hd lc e l ∧ F_Body_loopOf N 9 (nI e) A = some (nI l, A)) ∨ ((∀ l, l < lc → hd l ≠ nI e) ∧ F_Body_loopOf N 9 (nI e) A = some (-1, A)) := by
  have hG := ha.1.1.1
  have h5 : A.D 9 5 = nI lc := ha.2.2.2.2.2.1
  have h10 := ha.2.2.2.2.2.2.2.2.2.2
  have hlc : lc ≤ 20 := by have := hC.2.2.2.2.1; have := hC.2.2.2.2.2.1; omega
  have lp : ∀ (k n : Nat), k ≤ lc → k < n → (∀ l, k ≤ l → l < lc → hd l ≠ nI e) → (∃ l, inn hd lc e l ∧ B_Body_loopOf_7 N 9 (nI e) n (nI k - 1) A = some (nI l, A)) ∨ ((∀ l, l < lc → hd l ≠ nI e) ∧ B_Body_loopOf_7 N 9 (nI e) n (nI k - 1) A = some (-1, A)) := by
    intro k
    induction k with
    | zero =>
      intro n hk hn hno
      obtain ⟨n, rfl⟩ : ∃ m, n = m + 1 := ⟨n - 1, by omega⟩
      refine Or.inr ⟨fun l hl => hno l (by omega) hl, ?_⟩
      rw [B_Body_loopOf_7, if_pos (by decide)]
    | succ k ih =>
      intro n hk hn hno
      obtain ⟨n, rfl⟩ : ∃ m, n = m + 1 := ⟨n - 1, by omega⟩
      rw [nI_m, B_Body_loopOf_7, if_neg (nI_pos (by omega)), ck_t (rS_9 hG), rf_t (rP_9_4 hG), ar_t (rA_9_4 hG), if_neg (show ¬ Int32.ofNat 21 ≤ nI k from nI_ge (b := 21) (by omega) (by decide)), rf_t (rP_9_4 hG), ar_t (rA_9_4 hG), rdI (by omega) (by decide), h10 k (by omega)]
      by_cases q : hd k = nI e
      · rw [if_pos q]
        exact Or.inl ⟨k, ⟨by omega, q, fun l2 h1 h2 => hno l2 (by omega) h2⟩, rfl⟩
      · rw [if_neg q]
        unfold B_Body_loopOf_32
        rw [show nI k + (-1) = nI k - 1 from by rw [Int32.sub_eq_add_neg]]
        exact ih n (by omega) (by omega) (fun l h1 h2 => by
          by_cases e2 : l = k
          · subst e2; exact q
          · exact hno l (by omega) h2)
  unfold F_Body_loopOf
  rw [ck_t (rS_9 hG), bnd_t, h5, bnd_t]
  exact lp lc N (Nat.le_refl _) (by omega) (fun l h1 h2 => by omega)
theorem ev_kindAt {A : Hp} {i cs m : Nat} (ha : (JA p T L g E Nm Pv nL lc dp ln lk lf hd i cs A)) (hC : (CX p E Nm nL lc dp ln lk lf hd)) (hm : m < E 5 (E 4 0)) : F_Body_kindAt N 9 (nI m) A = some (nI (E 6 m), A) := by
  have hG := ha.1.1.1
  have hP := ha.pP hC
  have h48 : E 5 (E 4 0) ≤ 48 := hC.1.2.2.2.1
  obtain ⟨m1, m2⟩ := PcM hP m (by omega)
  unfold F_Body_kindAt
  rw [ck_t (rS_9 hG), rf_t ha.2.2.1, ck_t (PrS hP), rf_t (PrP_2 hP), ck_t (PrA_2 hP), rf_t (PcP_1 hP), ar_t (PcA_1 hP), rdP (by omega) (by decide), rf_t m1, ck_t m2, bnd_t, (ha.2.1.2.1.2.2.1 m hm).2]
theorem ev_asv {k : Nat} {A : Hp} (hk : k ≤ 4) : F_Body_asValue N (nI k) A = some (nI (pl k), A) := by
  unfold F_Body_asValue pl
  by_cases q : k = 1
  · rw [q]; rfl
  · rw [if_neg (show ¬ nI k = (1 : Int32) from fun z => q ((nI_eq (b := 1) (by omega) (by decide)).mp z)), if_neg q]
theorem ev_plain {k : Nat} {A : Hp} (hk : k ≤ 4) : F_MText_plain N (nI k) A = some (nI (pl k), A) := by
  unfold F_MText_plain pl
  by_cases q : k = 1
  · rw [q]; rfl
  · rw [if_neg (show ¬ nI k = (1 : Int32) from fun z => q ((nI_eq (b := 1) (by omega) (by decide)).mp z)), if_neg q]
theorem pl_ok {k : Nat} (hk : k ≤ 4) : pl k = 0 ∨ pl k = 2 ∨ pl k = 3 ∨ pl k = 4 := by unfold pl; split <;> omega
theorem mOf_lt {c m : Nat} (hE : WE E) (h : mOf E c m) : m < E 5 (E 4 0) ∧ m < 48 ∧ c < 16 := by
  obtain ⟨h1, h2, h3⟩ := h
  have := (hE.2.2.1 c h1).2.2
  have h4 := hE.2.2.2.1
  have h5 := hE.1
  omega
/-- a member of component c, at the end of a name -/
theorem jo_402 {A B : Hp} {i cs c : Nat} (ha : (JA p T L g E Nm Pv nL lc dp ln lk lf hd i cs A)) (hb : (JB w T L g E Nm Pv nL lc dp ln lk lf hd i B)) (hC : (CX p E Nm nL lc dp ln lk lf hd)) (hN : 7000 ≤ N) (hc : c < E 4 0) (hcs : cs < 12000) : (Out (SBo p (E 0 0)) (SRo w) w L i A B (B_Body_nameValue_402 N 9 (nI c) A) (B_MText_named_330 N w (nI c) B) (fun j v A' y B' => j = i + 1 ∧ tkk L i = 2 ∧ ∃ m, mOf E c m ∧ v = nI (pl (E 6 m)) ∧ y = nI (pl (E 6 m)) ∧ (JA p T L g E Nm Pv nL lc dp ln lk lf hd (i + 1) (cs + 1) A') ∧ (JB w T L g E Nm Pv nL lc dp ln lk lf hd (i + 1) B') ∧ (∀ x, A'.D (p + 191) x = if x = cs then nI m else A.D (p + 191) x) ∧ B' = (B.sD w 11 (nI (i + 1))).sD (w + 7) i (nI m))) := by
  have hG := ha.1.1.1
  have hP := ha.pP hC
  unfold B_Body_nameValue_402 B_MText_named_330
  rw [ck_t (rS_9 hG), rf_t ha.2.2.1, ck_t (PrS hP), rf_t (PrP_2 hP), ck_t (TS hb.1.1.1)]
  refine Out.bind (jo_member ha hb hC hN hc) ?_ (fun y B' k p0 hz => ⟨0, B', by rw [bnd_t, if_neg hz.n0], hz, same.rf⟩)
  intro j v A' y B' hij hxa hsb hQ
  obtain ⟨rfl, h2, hA, hB, hcd, m, hm, rfl, rfl, rfl⟩ := hQ
  have hi' := hA.1.2.2.2.2.2.2.1
  obtain ⟨x1, x2, x3⟩ := mOf_lt hC.1 hm
  have hk4 := hC.1.2.2.2.2.1 m x1
  have hA2 := hA.add (v := nI m) hC
  have hP' := hA.pP hC
  rw [rf_t hA.2.2.1, ck_t (PrS hP'), bC_t (ev_add hA hP' hcs), bC_t (ev_kindAt hA2 hC x1), bC_t (ev_asv hk4), bnd_t, hB.1.2.2.2.1, if_pos rfl, rf_t (TP_19 hB.1.1.1), ar_t (TA_19 hB.1.1.1), rdI (by omega) (by decide), (hB.2.1.2.1.2.2.1 m x1).2, bC_t (ev_plain hk4)]
  refine Or.inr ⟨_, _, _, _, i + 1, rfl, rfl, by omega, hi', add_ex.mono (fun _ _ h => h) (by omega), same.rf, rfl, h2, m, hm, rfl, rfl, hA2, hB, fun x => ?_, rfl⟩
  rw [code_add]
  split
  · rfl
  · exact hcd x
theorem fz_330 {k p0 : Nat} {c : Int32} {B : Hp} (h : Zf B w k p0) : ∃ y B', B_MText_named_330 N w c B = some (y, B') ∧ Zf B' w k p0 ∧ same (SRo w) B B' := by
  obtain ⟨y, B', e1, e2, e3⟩ := fz_memberName (N := N) (c := c) h
  refine ⟨0, B', ?_, e2, e3⟩
  unfold B_MText_named_330
  rw [ck_t (TS h.1), bC_t e1, bnd_t, if_neg e2.n0]
theorem fz_324 {k p0 : Nat} {c : Int32} {B : Hp} (h : Zf B w k p0) : ∃ y B', B_MText_named_324 N w c B = some (y, B') ∧ Zf B' w k p0 ∧ same (SRo w) B B' := by
  unfold B_MText_named_324
  rw [ck_t (TS h.1), bC_t (fz_takes h)]
  exact fz_330 h
theorem fz_149 {k p0 : Nat} {a b c d e : Int32} {B : Hp} (h : Zf B w k p0) : B_MText_named_149 N w a b c d e B = some (0, B) := by
  unfold B_MText_named_149
  rw [ck_t (TS h.1), bnd_t, if_neg h.nle]
theorem ev_isLocal {A : Hp} {x so : Nat} (hx : A.sh[x]? = some (2, 0)) (hs : A.D x 1 = nI so) (h : so < 100) : F_Named_isLocal N x A = some (bI (decide (so = 5 ∨ so = 6)), A) := by
  unfold F_Named_isLocal B_Named_isLocal_17
  rw [ck_t hx, bnd_t, hs, bnd_t]
  by_cases q : so = 5
  · rw [q]; rfl
  · rw [if_neg (show ¬ nI so = (5 : Int32) from fun z => q ((nI_eq (b := 5) (by omega) (by decide)).mp z))]
    by_cases q2 : so = 6
    · rw [q2]; rfl
    · rw [if_neg (show ¬ nI so = (6 : Int32) from fun z => q2 ((nI_eq (b := 6) (by omega) (by decide)).mp z)), decide_eq_false (by omega)]; rfl
/-- an event's member -/
theorem jo_emem {A B : Hp} {i cs e l : Nat} (ha : (JA p T L g E Nm Pv nL lc dp ln lk lf hd i cs A)) (hb : (JB w T L g E Nm Pv nL lc dp ln lk lf hd i B)) (hC : (CX p E Nm nL lc dp ln lk lf hd)) (hN : 7000 ≤ N) (he : e < E 9 0) (hcs : cs + 2 < 12000) (hx : A.sh[l]? = some (2, 0)) (hl6 : l < 626) (hlS : l ≠ 1 ∧ l ≠ p ∧ l ≠ p + 191) (hl : A.D l 2 = nI e) {ll : Int32} : (Out (SBo p (E 0 0)) (SRo w) w L i A B (bT (F_Body_memberHere N 9 (p + 138) (nI e) A) fun v125 H126 =>
    rf (H126.P 9 1) fun a128 =>
    ck (H126.sh[a128]? = some (4, 0)) <|
    bC (F_Program_add N a128 (37 : Int32) H126) fun v132 H133 =>
    rf (H133.P 9 1) fun a134 =>
    ck (H133.sh[a134]? = some (4, 0)) <|
    bC (F_Program_add N a134 ll H133) fun v138 H139 =>
    rf (H139.P 9 1) fun a140 =>
    rf (H139.P 9 1) fun a142 =>
    ck (H139.sh[a142]? = some (4, 0)) <|
    rf (H139.P a142 3) fun a145 =>
    ck (H139.sh[a145]? = some (3, 0)) <|
    rf (H139.P a145 2) fun a148 =>
    bnd ((H139.D l 2)) fun x150 =>
    ar H139 100 a148 fun n151 =>
    ck (inb x150 n151) <|
    bnd ((H139.D a148 (x150).toNatClampNeg)) fun x154 =>
    ck (H139.sh[a140]? = some (4, 0)) <|
    bC (F_Program_add N a140 (v125 - x154) H139) fun v157 H158 =>
    rf (H158.P 9 1) fun a159 =>
    ck (H158.sh[a159]? = some (4, 0)) <|
    rf (H158.P a159 3) fun a162 =>
    ck (H158.sh[a162]? = some (3, 0)) <|
    rf (H158.P a162 1) fun a165 =>
    ar H158 106 a165 fun n167 =>
    ck (inb v125 n167) <|
    rf (H158.P a165 (v125).toNatClampNeg) fun a170 =>
    ck (H158.sh[a170]? = some (2, 0)) <|
    bnd ((H158.D a170 3)) fun x173 =>
    bC (F_Body_asValue N x173 H158) fun v175 H176 =>
    some (.inl v175, H176)) (bC (F_MText_name N w B) fun v108 H109 =>
    bnd ((H109.D w 9)) fun x110 =>
    if x110 = (0 : Int32) then
    bC (F_MText_eventMemberOf N w (nI e) v108 H109) fun v159 H160 =>
    B_MText_named_221 N w (nI e) v108 v159 H160
    else
    B_MText_named_221 N w (nI e) v108 0 H109) (fun j v A' y B' => j = i + 1 ∧ tkk L i = 2 ∧ ∃ q, q < E 10 e ∧ v = nI (pl (E 12 (4 * e + q))) ∧ y = nI (pl (E 12 (4 * e + q))) ∧ (JA p T L g E Nm Pv nL lc dp ln lk lf hd (i + 1) (cs + 3) A') ∧ (JB w T L g E Nm Pv nL lc dp ln lk lf hd (i + 1) B') ∧ (∀ x, A'.D (p + 191) x = if x = cs + 2 then nI q else if x = cs + 1 then ll else if x = cs then 37 else A.D (p + 191) x) ∧ B' = (B.sD w 11 (nI (i + 1))).sD (w + 7) i (nI q))) := by
  have hG := ha.1.1.1
  have hi := ha.1.2.2.2.2.2.2.1
  have hle := hG.len
  have hp := hC.2.1
  have h61 : L.length ≤ 6001 := by have := hb.1.2.2.2.2.2.2.1; have := hb.1.2.2.2.2.2.2.2.1; omega
  obtain ⟨w1, w2, w3, w4, w5, w6, w7, w8, w9, -⟩ := hC.1
  obtain ⟨m1, m2, m3⟩ := w8 e he
  have eA : F_Body_memberHere N 9 (p + 138) (nI e) A = bT (F_Lexer_takeName N 1 A) fun v10 H11 =>
    on v10 fun a13 =>
    ck (H11.sh[p + 138]? = some (3, 0)) <|
    bC (F_Shapes_memberNamed N (p + 138) (nI e) a13 H11) fun v16 H17 =>
    if (0 : Int32) ≤ v16 then
    some (.inl v16, H17)
    else
    rf (H17.P 9 0) fun a19 =>
    ck (H17.sh[a19]? = some (1, 0)) <|
    bT (F_Lexer_refuse N a19 (4 : Int32) (nI (tkp L i)) H17) fun v23 H24 =>
    some (.inl v16, H24) := by
    unfold F_Body_memberHere
    rw [ck_t (rS_9 hG), rf_t (rP_9_0 hG), ck_t (rS_1 hG), bnd_t, ha.1.2.2.2.2.2.1, rf_t (rP_9_0 hG), ck_t (rS_1 hG)]
  rw [eA, bT_as]
  refine Out.bindQ (jo_name ha hb hC (by omega)) (name_y hb.1) ?_ ?_
  · intro j v A' y B' hij hxa hsb hQ
    obtain ⟨rfl, h2, rfl, rfl, hA, hB, hcd, hxx, s, rfl, s1, s2, s3⟩ := hQ
    have hG' := hA.1.1.1
    have hi' := hA.1.2.2.2.2.2.2.1
    have hP' := hA.pP hC
    obtain ⟨e1, e2, e3, e4⟩ := hA.2.1.2.2.1
    obtain ⟨f1, f2, f3, f4⟩ := hB.2.1.2.2.1
    have ef : E 11 e + E 10 e = E 11 (e + 1) := m2.symm
    have eM : F_Shapes_memberNamed N (p + 138) (nI e) s A' = some (oNI (fnm (fun x => Nm 13 (4 * e + (x - E 11 e))) (nmT g L i) (E 11 (e + 1) - E 11 e) (E 11 e)), A') := ev_mnamed (m := p + 148) (M := 32) (R := 9) (fr := p + 181) (PrA_3 hP') (PeP_1 hP') (PeA_1 hP') (PeM hP') (PeP_2 hP') (PeA_2 hP') (by decide) (by decide) e1 (by omega) he (e2 e (by omega)) (e2 (e + 1) (by omega)) (by omega) (by omega) s1 (fun x h1 h2 => by
      have := (e3 e (x - E 11 e) he (by omega)).1
      rw [show E 11 e + (x - E 11 e) = x by omega] at this
      exact this) (by omega)
    have eB : F_MText_eventMemberOf N w (nI e) (nI i) (B.sD w 11 (nI (i + 1))) = some (oNI (fnm (fun q => Nm 13 (4 * e + q)) (nmT g L i) (E 10 e) 0), B.sD w 11 (nI (i + 1))) := ev_emember hB.1.1.1 (by omega) (f2 e he) (by omega) (hB.1.tn hi) (fun q hq => (f3 e q he hq).1) hN
    have esh := fnm_sh (f := fun x => Nm 13 (4 * e + (x - E 11 e))) (h := fun q => Nm 13 (4 * e + q)) (n := nmT g L i) (a := E 11 e) (fun q => by simp only [Nat.add_sub_cancel_left]) (E 10 e) 0
    rw [Nat.add_zero] at esh
    rw [show E 11 (e + 1) - E 11 e = E 10 e by omega, esh] at eM
    rw [on_t, ck_t (PrA_3 hP'), bC_t eM, bnd_t, hB.1.2.2.2.1, if_pos rfl, bC_t eB]
    unfold B_MText_named_221 B_MText_named_235
    cases hk : fnm (fun q => Nm 13 (4 * e + q)) (nmT g L i) (E 10 e) 0 with
    | some q =>
      have hkb := fnm_bd _ _ _ hk
      have hk4 := w9 e q he (by omega)
      have hA1 := hA.add (v := 37) hC
      have hA2 := hA1.add (v := ll) hC
      have hA3 := hA2.add (v := nI q) hC
      have hx' : (addA (addA A' p cs 37) p (cs + 1) ll).D l 2 = nI e := by
        unfold addA
        rw [rdw (by omega), rdw (by omega), rdw (by omega), rdw (by omega), (hxx.2.2.2 l 2 (by omega) (decide_eq_false (by omega))).1]
        exact hl
      obtain ⟨pm1, pm2⟩ := PeM (hA3.pP hC) (E 11 e + q) (by omega)
      rw [show (Option.map (fun x => E 11 e + x) (some q)) = some (E 11 e + q) from rfl, show oNI (some (E 11 e + q)) = nI (E 11 e + q) from rfl, if_pos (nI_pos' (by omega)), bT_v, rf_t hA.2.2.1, ck_t (PrS hP'), bC_t (ev_add hA hP' (by omega)), rf_t hA1.2.2.1, ck_t (PrS (hA1.pP hC)), bC_t (ev_add hA1 (hA1.pP hC) (by omega)), rf_t hA2.2.2.1, rf_t hA2.2.2.1, ck_t (PrS (hA2.pP hC)), rf_t (PrP_3 (hA2.pP hC)), ck_t (PrA_3 (hA2.pP hC)), rf_t (PeP_2 (hA2.pP hC)), bnd_t, hx', ar_t (PeA_2 (hA2.pP hC)), rdI (by omega) (by decide), hA2.2.1.2.2.1.2.1 e (by omega), ck_t (PrS (hA2.pP hC)), pk_sub (by omega), Nat.add_sub_cancel_left, bC_t (ev_add hA2 (hA2.pP hC) (by omega)), rf_t hA3.2.2.1, ck_t (PrS (hA3.pP hC)), rf_t (PrP_3 (hA3.pP hC)), ck_t (PrA_3 (hA3.pP hC)), rf_t (PeP_1 (hA3.pP hC)), ar_t (PeA_1 (hA3.pP hC)), rdP (by omega) (by decide), rf_t pm1, ck_t pm2, bnd_t, (hA3.2.1.2.2.1.2.2.1 e q he (by omega)).2, bC_t (ev_asv hk4)]
      rw [show oNI (some q) = nI q from rfl, if_pos (nI_pos' (by omega)), ck_t (TS hB.1.1.1), rf_t (TP_8 hB.1.1.1), ar_t (TA_8 hB.1.1.1), wrI (by omega) (by decide), bnd_t, rdw (by omega), hB.1.2.2.2.1, if_pos rfl, rf_t (show ((B.sD w 11 (nI (i + 1))).sD (w + 7) i (nI q)).P w 24 = .ref (w + 17) from TP_24 hB.1.1.1), ar_sD, ar_t (TA_24 hB.1.1.1), show (4 : Int32) = nI 4 from rfl, pk_mul, nI_add, rdI (by omega) (by decide), rdw (by omega), (f3 e q he (by omega)).2, bC_t (ev_plain hk4)]
      refine Or.inr ⟨_, _, _, _, i + 1, rfl, rfl, by omega, hi', ((add_ex.tr add_ex).tr add_ex).mono (fun _ _ h => h) (by omega), same.rf.sD (by unfold SRo; omega), rfl, h2, q, by omega, rfl, rfl, hA3, hB.sD rfl, fun x => ?_, rfl⟩
      rw [code_add, code_add, code_add]
      by_cases z1 : x = cs + 2
      · rw [if_pos (by omega), if_pos z1]
      · rw [if_neg (by omega), if_neg z1]
        by_cases z2 : x = cs + 1
        · rw [if_pos z2, if_pos z2]
        · rw [if_neg z2, if_neg z2, hcd x]
    | none =>
      have z4 : Zf (failB (B.sD w 11 (nI (i + 1))) w 4 (tkp L i)) w 4 (tkp L i) := hB.1.fail (by decide) (by decide)
      rw [show (Option.map (fun x => E 11 e + x) none) = none from rfl, show oNI none = -1 from rfl, if_neg (by decide), rf_t (rP_9_0 hG'), ck_t (rS_1 hG'), ev_refuse hG', bT_z, bT_z, if_neg (by decide), ck_t (TS hB.1.1.1), bC_t (show F_MText_fails N w (4 : Int32) (nI i) _ = some ((), failB _ w 4 (tkp L i)) from ev_fails (k := 4) hB.1 hi), ck_t (TS z4.1), rf_t (TP_8 z4.1), ar_t (TA_8 z4.1), wrI (by omega) (by decide), bnd_t, rdw (by omega), if_neg z4.n0]
      exact Out.no (k := 4) hB.1 (by decide) (by decide) hi' (z4.sD (by omega)) (SRo_fail.tr (same.rf.sD (by unfold SRo; omega)))
  · intro y B' k p0 hy hz
    subst hy
    refine ⟨0, B'.sD (w + 7) i 0, ?_, hz.sD (by omega), same.rf.sD (by unfold SRo; omega)⟩
    rw [bnd_t, if_neg hz.n0]
    unfold B_MText_named_221 B_MText_named_235
    rw [if_pos (by decide), ck_t (TS hz.1), rf_t (TP_8 hz.1), ar_t (TA_8 hz.1), wrI (by omega) (by decide), bnd_t, rdw (by omega), if_neg hz.n0]
end Par
