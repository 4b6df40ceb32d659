/-! ===== a NAME in an expression ===== -/
section Par
variable {N p w T : Nat} {L : List (Nat × Nat × Int32 × Bool × Nat)} {g : Nat → Nat} {E : Nat → Nat → Nat} {Nm : Nat → Nat → List Nat} {Pv : Nat → Nat → Int32} {nL lc dp : Nat} {ln : Nat → List Nat} {lk lf : Nat → Nat} {hd : Nat → Int32}
theorem hm_bit {B : Hp} {i e : Nat} (hb : (JB w T L g E Nm Pv nL lc dp ln lk lf hd i B)) (he : e < 8) : ((B.D w 42 >>> (nI e &&& 31)) &&& 1 = 1) ↔ ∃ l, l < lc ∧ hd l = nI e := by
  obtain ⟨hm, h1, h2, h3⟩ := hb.2.2.2.2.1
  rw [h2, nI_bit1 (by omega) (by omega)]
  exact h3 e he
theorem sys_A {A : Hp} {i cs : Nat} (ha : (JA p T L g E Nm Pv nL lc dp ln lk lf hd i cs A)) (hC : (CX p E Nm nL lc dp ln lk lf hd)) : A.D 9 2 = nI (E 17 0 - 1) ∧ A.D (p + 185) (E 17 0 - 1) = nI (E 18 (E 17 0 - 1)) ∧ A.D (p + 187) (E 17 0 - 1) = nI (E 20 (E 17 0 - 1)) ∧ A.D (p + 188) (E 17 0 - 1) = nI (E 21 (E 17 0 - 1)) := by
  have h1 := hC.2.2.1
  obtain ⟨a1, a2, a3, a4, a5, a6, a7⟩ := ha.2.1.2.2.2.2.1.2 (E 17 0 - 1) (by omega)
  exact ⟨ha.2.2.2.1, a2, a4, a5⟩
theorem sys_B {B : Hp} {i : Nat} (hb : (JB w T L g E Nm Pv nL lc dp ln lk lf hd i B)) (hC : (CX p E Nm nL lc dp ln lk lf hd)) : B.D w 29 - 1 = nI (E 17 0 - 1) ∧ B.D (w + 21) (E 17 0 - 1) = nI (E 18 (E 17 0 - 1)) ∧ B.D (w + 23) (E 17 0 - 1) = nI (E 20 (E 17 0 - 1)) ∧ B.D (w + 24) (E 17 0 - 1) = nI (E 21 (E 17 0 - 1)) := by
  have h1 := hC.2.2.1
  obtain ⟨h2, h3⟩ := hb.2.1.2.2.2.2
  obtain ⟨a1, a2, a3, a4, a5, a6⟩ := h3 (E 17 0 - 1) (by omega)
  exact ⟨by rw [h2]; exact pk_sub (b := 1) h1, a2, a4, a5⟩
theorem nI_lit0 {a : Nat} {v : Int32} {c : Nat} (hv : v = nI c) (ha : a < 2 ^ 31) (hc : c < 2 ^ 31) : (nI a = v) = (a = c) := by rw [hv]; exact propext (nI_eq ha hc)
/-- the code behind a NAME: the mean and the sort are noted -/
def noB (B : Hp) (w i n s : Nat) : Hp := (B.sD (w + 7) i (nI n)).sD (w + 5) i (nI s)
theorem JB.no {B : Hp} {j i n s : Nat} (h : (JB w T L g E Nm Pv nL lc dp ln lk lf hd j B)) (hf : tkk L i = 2) : (JB w T L g E Nm Pv nL lc dp ln lk lf hd j (noB B w i n s)) := (h.sD rfl).nu hf
theorem no_same {B : Hp} {w i n s : Nat} : same (SRo w) B (noB B w i n s) := (same.rf.sD (by unfold SRo; omega)).sD (by unfold SRo; omega)
theorem no_mf {B : Hp} {w i n s : Nat} : mfr w i B (noB B w i n s) := fun t ht => by
  unfold noB
  exact ⟨by rw [rdw (by omega), rdf (by omega)], by rw [rdf (by omega), rdw (by omega)]⟩
theorem ev_149 {B : Hp} {j i n s : Nat} {l3 l4 : Int32} (hb : (JB w T L g E Nm Pv nL lc dp ln lk lf hd j B)) (hi : i < L.length) (hs : s < 10) : B_MText_named_149 N w (nI i) (nI s) l3 l4 (nI n) B = if l4 = 0 then (rf ((noB B w i n s).P w 39) fun a161 =>
    ar (noB B w i n s) 100 a161 fun n163 =>
    ck (inb l3 n163) <|
    bnd (((noB B w i n s).D a161 (l3).toNatClampNeg)) fun x166 =>
    some (x166, noB B w i n s)) else bC (F_MText_takes N w (46 : Int32) (noB B w i n s)) fun v46 H47 =>
    if nI s = (3 : Int32) then
    bC (F_MText_name N w H47) fun v108 H109 =>
    bnd ((H109.D w 9)) fun x110 =>
    if x110 = (0 : Int32) then
    bC (F_MText_eventMemberOf N w (nI n) v108 H109) fun v159 H160 =>
    B_MText_named_221 N w (nI n) v108 v159 H160
    else
    B_MText_named_221 N w (nI n) v108 0 H109
    else
    if nI s = (1 : Int32) then
    bC (F_MText_name N w H47) fun v81 H82 =>
    bC (F_MText_numberOf N w v81 (2 : Int32) H82) fun v84 H85 =>
    bnd ((H85.D w 9)) fun x86 =>
    if x86 = (0 : Int32) then
    rf (H85.P w 33) fun a96 =>
    bnd ((H85.D w 29)) fun x98 =>
    ar H85 100 a96 fun n99 =>
    ck (inb (x98 - (1 : Int32)) n99) <|
    bnd ((H85.D a96 ((x98 - (1 : Int32))).toNatClampNeg)) fun x102 =>
    if ((x102 >>> (v84 &&& 31)) &&& (1 : Int32)) = (0 : Int32) then
    bC (F_MText_fails N w (5 : Int32) v81 H85) fun v105 H106 =>
    B_MText_named_324 N w v84 H106
    else
    B_MText_named_324 N w v84 H85
    else
    B_MText_named_324 N w v84 H85
    else
    B_MText_named_330 N w (nI n) H47 := by
  have h61 : L.length ≤ 6001 := by have := hb.1.2.2.2.2.2.2.1; have := hb.1.2.2.2.2.2.2.2.1; omega
  unfold B_MText_named_149
  rw [ck_t (TS hb.1.1.1), bnd_t, hb.1.2.2.2.1, if_pos (by decide), rf_t (TP_8 hb.1.1.1), ar_t (TA_8 hb.1.1.1), wrI (by omega) (by decide), rf_t (show (B.sD (w + 7) i (nI n)).P w 6 = .ref (w + 5) from TP_6 hb.1.1.1), ar_sD, ar_t (TA_6 hb.1.1.1), wrI (by omega) (by decide)]
  rfl
/-- 5 at the NAME -/
theorem ev_136f {B : Hp} {j i : Nat} {a b c d : Int32} (hb : (JB w T L g E Nm Pv nL lc dp ln lk lf hd j B)) (hi : i < L.length) : B_MText_named_136 N w (nI i) a b c d 0 B = some (0, failB B w 5 (tkp L i)) := by
  have z5 : Zf (failB B w 5 (tkp L i)) w 5 (tkp L i) := hb.1.fail (by decide) (by decide)
  unfold B_MText_named_136
  rw [if_pos rfl, ck_t (TS hb.1.1.1), bC_t (show F_MText_fails N w (5 : Int32) (nI i) B = _ from ev_fails (k := 5) hb.1 hi), fz_149 z5]
theorem jo_named {A B : Hp} {i cs : Nat} {o : Orc_BodyE} {o' : Orc_TextE} (ha : (JA p T L g E Nm Pv nL lc dp ln lk lf hd i cs A)) (hb : (JB w T L g E Nm Pv nL lc dp ln lk lf hd i B)) (hC : (CX p E Nm nL lc dp ln lk lf hd)) (hcs : cs ≤ 2 * tkp L i) (hN : 7000 ≤ N) (hk2 : tkk L i = 2) : (Out (SBo p (E 0 0)) (SRo w) w L i A B (F_Body_unary N o 9 A) (F_MText_unary N o' w B) ((PE p w T L g E Nm Pv nL lc dp ln lk lf hd 5 i cs A B))) := by
  have hG := ha.1.1.1
  have hi := ha.1.2.2.2.2.2.2.1
  have hp := hC.2.1
  have hle := hG.len
  obtain ⟨hW, -, hS1, h12, hlcd, h20, hlo, hdis, hhd⟩ := hC
  have hC : (CX p E Nm nL lc dp ln lk lf hd) := ⟨hW, hp, hS1, h12, hlcd, h20, hlo, hdis, hhd⟩
  obtain ⟨w1, w2, w3, w4, w5, w6, w7, w8, w9, w10, w11, w12, w13, h56, hWk⟩ := hW
  have hW : WE E := hC.1
  have hsy := w13 (E 17 0 - 1) (by omega)
  have h61 : L.length ≤ 6001 := by have := hb.1.2.2.2.2.2.2.1; have := hb.1.2.2.2.2.2.2.2.1; omega
  rw [un_ref hb.1 (by omega) (by omega), pr_ref hb.1, if_neg (by omega)]
  have eA : F_Body_unary N o 9 A = bT (F_Body_nameValue N 9 A) fun v H => some (.inl v, H) := by
    unfold F_Body_unary
    rw [ck_t (rS_9 hG), rf_t (rP_9_0 hG), ck_t (rS_1 hG), bnd_t, ha.1.2.2.2.2.1, hk2, if_pos (by rfl)]
  have eB : B_MText_primary_51 N o' w (nI i) (nI (tyK (tkk L i))) B = bC (F_MText_named N w B) fun v H => some (v, H) := by
    unfold B_MText_primary_51
    rw [ck_t (TS hb.1.1.1), bnd_t, hb.1.2.2.2.1, if_pos (by decide), hk2, if_pos (by rfl)]
  rw [eA, eB]
  have idA : ∀ m : Option (Ot Int32 × Hp), bT m (fun v H => some (.inl v, H)) = m := fun m => by
    cases m with
    | none => rfl
    | some q => obtain ⟨v, H⟩ := q; cases v <;> rfl
  have idB : ∀ m : Option (Int32 × Hp), bC m (fun v H => some (v, H)) = m := fun m => by
    cases m with
    | none => rfl
    | some q => rfl
  rw [idA, idB, idB]
  unfold F_Body_nameValue F_MText_named
  rw [ck_t (rS_9 hG), rf_t (rP_9_0 hG), ck_t (rS_1 hG), bnd_t, ha.1.2.2.2.2.2.1, kn_un ha, bT_as, ck_t (TS hb.1.1.1)]
  refine Out.bindQ (jo_name ha hb hC (by omega)) (name_y hb.1) ?_ ?_
  rotate_left
  · intro y B' k p0 hy hz
    exact ⟨0, B', by rw [bC_t (fz_sort hz), bnd_t, if_neg hz.nle], hz, same.rf⟩
  intro j v A1 y B1 hij hxa hsb hQ
  obtain ⟨rfl, h2, rfl, rfl, hA, hB, hcd, hxx, s, rfl, s1, s2, s3⟩ := hQ
  obtain ⟨B1, hB1⟩ : ∃ B1, B1 = B.sD w 11 (nI (i + 1)) := ⟨_, rfl⟩
  rw [← hB1] at hB ⊢
  have hG' := hA.1.1.1
  have hi' := hA.1.2.2.2.2.2.2.1
  have hP' := hA.pP hC
  have hle' := hG'.len
  obtain ⟨q1, q2, q3⟩ := pos_lt hb.1 (by omega)
  have h81 := (hA.1.2.2.2.2.2.2.2.2.2.2.2.1 (i + 1) hi').2.1
  have mf1 : mfr w i B B1 := by rw [hB1]; exact mfr_at (Or.inr trivial)
  have cf1 : cfr p cs A A1 := fun x _ => hcd x
  obtain ⟨sA1, sA2, sA3, sA4⟩ := sys_A hA hC
  obtain ⟨sB1, sB2, sB3, sB4⟩ := sys_B hB hC
  have eis : F_MText_is N w (46 : Int32) B1 = some (bI (decide (tkk L (i + 1) = 16)), B1) := ev_is (k := 16) hB.1 (by decide)
  have ex16 : (nI (tkk L (i + 1)) = (16 : Int32)) = (tkk L (i + 1) = 16) := nI_lit0 (c := 16) rfl (by omega) (by decide)
  rw [kn_ev hA hC s1 (by omega), ev_sort hB hC hi hN]
  unfold kix
  cases hk : fnm (Nm 1) (nmT g L i) (E 0 0) 0 with
  | some k =>
    have hkb := fnm_bd _ _ _ hk
    have hwk := hWk k (by omega)
    cases hl : fnm ln (nmT g L i) nL 0 with
    | some l => exact (no_both hC hk hl).elim
    | none =>
      simp only
      obtain ⟨n1, n2, n3, n4⟩ := hA.2.1.1 k (by omega)
      have pk2 := (PrK hP' k (by omega)).2
      obtain ⟨x, hx⟩ : ∃ x, x = p + 2 + k := ⟨_, rfl⟩
      rw [← hx] at n1 n2 n3 n4 pk2 ⊢
      rw [bT_v, on_t, rf_t (rP_9_0 hG'), ck_t (rS_1 hG'), bnd_t, hA.1.2.2.2.2.1, bC_v, bnd_t (e := B1.D w 9), hB.1.2.2.2.1, if_pos (show (0 : Int32) ≤ 0 by decide), bC_t (ev_lc hB hC (hB.1.tn hi) hN), hl, bC_t eis, if_neg (show ¬ nI (E 2 k + 2) = (1 : Int32) from fun z => by have := (nI_eq (b := 1) (by omega) (by decide)).mp z; omega), rf_t (TP_15 hB.1.1.1), bC_t (ev_ix hB hC (hB.1.tn hi) hN), hk, show oNI (some k) = nI k from rfl, ar_t (TA_15 hB.1.1.1), rdI (by omega) (by decide), (hB.2.1.1.2 k (by omega)).2.2]
      unfold B_MText_named_53
      rw [if_neg (show ¬ nI (E 2 k + 2) = (1 : Int32) from fun z => by have := (nI_eq (b := 1) (by omega) (by decide)).mp z; omega)]
      by_cases pt : tkk L (i + 1) = 16
      · rw [if_pos (by rw [pt]; rfl), decide_eq_true pt, if_neg bI_t0, ck_t pk2, bnd_t, n2]
        have hnp := hB.1.gt (show 2 ≤ tkk L (i + 1) by omega)
        obtain ⟨q4, q5, q6⟩ := pos_lt hB.1 (show 2 ≤ tkk L (i + 1) by omega)
        have ref5 : ∀ {Post : Nat → Int32 → Hp → Int32 → Hp → Prop}, (Out (SBo p (E 0 0)) (SRo w) w L (i + 1) A1 B1 (ck (A1.sh[9]? = some (6, 0)) (rf (A1.P 9 0) fun a281 => ck (A1.sh[a281]? = some (1, 0)) <| bT (F_Lexer_refuse N a281 (5 : Int32) (nI (tkp L i)) A1) fun v285 H286 => B_Body_nameValue_171 N 9 x (-1) 0 H286)) (B_MText_named_136 N w (nI i) (nI (E 2 k + 2)) (oNI none) (bI true) (nI (E 3 k)) 0 B1) Post) := by
          intro Post
          rw [ck_t (rS_9 hG'), rf_t (rP_9_0 hG'), ck_t (rS_1 hG'), ev_refuse hG', bT_z, ev_136f hB hi]
          exact Out.no (k := 5) hB.1 (by decide) (by decide) hi' (hB.1.fail (by decide) (by decide)) SRo_fail
        by_cases so0 : E 2 k = 0
        · -- a component
          rw [so0, if_neg (show ¬ nI 0 = (1 : Int32) by decide)]
          unfold B_Body_nameValue_88 B_Body_nameValue_123 B_Body_nameValue_124 B_Body_nameValue_145 B_Body_nameValue_146
          rw [ck_t pk2, bnd_t, n2, so0, if_pos (by rfl), ck_t (rS_9 hG'), rf_t hA.2.2.1, ck_t (PrS hP'), rf_t (PrP_9 hP'), bnd_t, sA1, ar_t (PrA_9 hP'), rdI (by omega) (by decide), sA2, bnd_t, n3, if_pos (show nI (0 + 2) = (2 : Int32) from rfl), ck_t (TS hB.1.1.1), rf_t (TP_30 hB.1.1.1), bnd_t (e := B1.D w 29), sB1, ar_t (TA_30 hB.1.1.1), rdI (by omega) (by decide), sB2]
          have eL : F_Named_isLocal N x A1 = some (0, A1) := by
            rw [ev_isLocal pk2 n2 (by omega), show decide (E 2 k = 5 ∨ E 2 k = 6) = false from decide_eq_false (by omega)]; rfl
          have hc3 := hwk.2.2.1 so0
          by_cases be : E 18 (E 17 0 - 1) / 2 ^ E 3 k % 2 = 1
          · have be' := (nI_bit1 (m := E 18 (E 17 0 - 1)) (c := E 3 k) (by omega) (by omega)).mpr be
            rw [if_pos be', ck_t pk2, bC_t eL, if_pos rfl, if_neg (show ¬ (1 : Int32) = 0 by decide), if_pos be']
            unfold B_MText_named_131 B_MText_named_136
            rw [if_neg (by decide), show nI (0 + 2) = nI 2 from rfl, ev_149 hB hi (by decide), if_neg bI_t0]
            unfold B_Body_nameValue_171
            have hA2 := hA.adv hC hnp
            have hG2 := hA2.1.1.1
            have n3' : (advA A1 L (i + 1)).D x 2 = nI (E 3 k) := by unfold advA; rw [rdw (by omega), rdw (by omega), rdw (by omega)]; exact n3
            have hA3 := hA2.add (v := 35) hC
            have hNo := hB.no (i := i) (n := E 3 k) (s := 2) h2
            rw [ck_t (rS_9 hG'), rf_t (rP_9_0 hG'), ck_t (rS_1 hG'), bC_t (ev_advance hA.1 hnp), if_pos (by decide), ck_t (show (advA A1 L (i + 1)).sh[x]? = some (2, 0) from pk2), bnd_t, n3', if_pos rfl, rf_t hA2.2.2.1, ck_t (PrS (hA2.pP hC)), bC_t (ev_add hA2 (hA2.pP hC) (by omega)), show (46 : Int32) = nI (tyK 16) from rfl, ev_takes hNo.1 (k := 16) (by decide), if_pos pt, bC_v, if_neg (by decide), if_neg (by decide)]
            have hB3 := hNo.nx hnp
            have oo := jo_402 (N := N) hA3 hB3 hC hN hc3 (by omega)
            refine Out.pre (Out.wk oo ?_) ((adv_ex.mono SL_SBo (Nat.le_refl _)).tr add_ex) (no_same.tr (same.rf.sD (by unfold SRo; omega))) (show i + 1 ≤ i + 2 by omega) hnp (by omega)
            intro j v A' y B' hj hxa2 hsb2 hQ
            obtain ⟨rfl, h22, m, hm, rfl, rfl, hA4, hB4, hcd4, rfl⟩ := hQ
            have hi4 := hA4.1.2.2.2.2.2.2.1
            obtain ⟨q7, q8, q9⟩ := pos_lt hB3.1 (show 2 ≤ tkk L (i + 2) by have : tkk L (i + 1 + 1) = 2 := h22; show 2 ≤ tkk L (i + 1 + 1); omega)
            have ex : ∀ z, A'.D (p + 191) z = if z = cs + 1 then nI m else if z = cs then 35 else A.D (p + 191) z := fun z => by
              rw [hcd4 z, code_add, code_adv hp, hcd z]
            refine ⟨pl (E 6 m), cs + 2, rfl, rfl, pl_ok (w5 m (mOf_lt hW hm).1), hA4, hB4, by omega, by omega, by omega, fun z hz => ?_, fun t ht => ?_, ?_⟩
            · rw [ex z, if_neg (by omega), if_neg (by omega)]
            · have a1 := mf1 t ht
              have a2 := no_mf (B := B1) (w := w) (i := i) (n := E 3 k) (s := 2) t ht
              constructor
              · rw [rdf (by omega), rdw (by omega), rdw (by omega), a2.1, a1.1]
              · rw [rdw (by omega), rdw (by omega), rdw (by omega), a2.2, a1.2]
            · intro cd mn nu hag
              have c0 := hag.1 cs (by omega) (by omega)
              have c1 := hag.1 (cs + 1) (by omega) (by omega)
              rw [ex cs, if_neg (by omega), if_pos rfl] at c0
              rw [ex (cs + 1), if_pos rfl] at c1
              have u0 := (hag.2 i (by omega) (by omega)).2
              have u2 := (hag.2 (i + 1 + 1) (by omega) (by omega)).1
              rw [rdw (by omega), rdw (by omega), rdw (by omega)] at u0
              rw [rds] at u2
              unfold noB at u0
              rw [rds] at u0
              exact DE.own (by unfold tyF; rw [hk2]; rfl) (by unfold tyF; rw [pt]; rfl) u0 u2 hm be c0 c1
          · have be' : ¬ (nI (E 18 (E 17 0 - 1)) >>> (nI (E 3 k) &&& 31)) &&& 1 = 1 := fun z => be ((nI_bit1 (by omega) (by omega)).mp z)
            rw [if_neg be', ck_t pk2, bC_t eL, if_pos rfl, if_pos rfl, if_pos rfl, if_neg (show ¬ (0 : Int32) ≤ -1 by decide), if_neg be']
            unfold B_MText_named_113 B_MText_named_135
            rw [if_neg (by decide)]
            have r5 := ref5 (Post := (PE p w T L g E Nm Pv nL lc dp ln lk lf hd 5 i cs A B))
            rw [so0] at r5
            exact r5
        · by_cases so1 : E 2 k = 1
          · -- an event
            have he := hwk.2.2.2.1 so1
            rw [so1, if_pos (by rfl), bnd_t, n3]
            have h8 : E 3 k < 8 := by omega
            have gen : ∀ lw : Int32, B_Body_nameValue_88 N 9 (nI (tkp L i)) x lw A1 = if (0 : Int32) ≤ lw then B_Body_nameValue_171 N 9 x lw 0 A1 else ck (A1.sh[9]? = some (6, 0)) (rf (A1.P 9 0) fun a281 => ck (A1.sh[a281]? = some (1, 0)) <| bT (F_Lexer_refuse N a281 (5 : Int32) (nI (tkp L i)) A1) fun v285 H286 => B_Body_nameValue_171 N 9 x lw 0 H286) := by
              intro lw
              unfold B_Body_nameValue_88 B_Body_nameValue_123 B_Body_nameValue_124 B_Body_nameValue_145 B_Body_nameValue_146
              rw [ck_t pk2, bnd_t, n2, so1, if_neg (by decide), ck_t pk2, bC_t (ev_isLocal pk2 n2 (by omega)), show decide (E 2 k = 5 ∨ E 2 k = 6) = false from decide_eq_false (by omega), if_pos bI_f, if_pos rfl, if_pos rfl]
            rw [if_neg (show ¬ nI (1 + 2) = (2 : Int32) by decide)]
            unfold B_MText_named_113
            rw [if_pos (show nI (1 + 2) = (3 : Int32) from rfl), ck_t (TS hB.1.1.1), bnd_t]
            rcases ev_loopOf (N := N) hA hC h8 (by omega) with ⟨l, hin, el⟩ | ⟨hno, el⟩
            · rw [bC_t el, gen (nI l), if_pos (nI_pos' (by have := hin.1; omega)), if_pos ((hm_bit hB h8).mpr ⟨l, hin.1, hin.2.1⟩)]
              unfold B_MText_named_131 B_MText_named_136
              rw [if_neg (by decide), show nI (1 + 2) = nI 3 from rfl, ev_149 hB hi (by decide), if_neg bI_t0]
              unfold B_Body_nameValue_171
              have hA2 := hA.adv hC hnp
              have hG2 := hA2.1.1.1
              have hP2 := hA2.pP hC
              have n3' : (advA A1 L (i + 1)).D x 2 = nI (E 3 k) := by unfold advA; rw [rdw (by omega), rdw (by omega), rdw (by omega)]; exact n3
              have hNo := hB.no (i := i) (n := E 3 k) (s := 3) h2
              rw [ck_t (rS_9 hG'), rf_t (rP_9_0 hG'), ck_t (rS_1 hG'), bC_t (ev_advance hA.1 hnp), if_neg (nI_pos (by have := hin.1; omega)), rf_t hA2.2.2.1, ck_t (PrS hP2), rf_t (PrP_3 hP2), ck_t (show (advA A1 L (i + 1)).sh[x]? = some (2, 0) from pk2), bnd_t, n3', show (46 : Int32) = nI (tyK 16) from rfl, ev_takes hNo.1 (k := 16) (by decide), if_pos pt, bC_v, if_pos (by rfl)]
              have hB3 := hNo.nx hnp
              have oo := jo_emem (N := N) (l := x) (ll := nI l) hA2 hB3 hC hN he (by omega) pk2 (by omega) (by omega) n3'
              refine Out.pre (Out.wk oo ?_) (adv_ex.mono SL_SBo (Nat.le_refl _)) (no_same.tr (same.rf.sD (by unfold SRo; omega))) (show i + 1 ≤ i + 2 by omega) hnp (by omega)
              intro j v A' y B' hj hxa2 hsb2 hQ
              obtain ⟨rfl, h22, q, hq, rfl, rfl, hA4, hB4, hcd4, rfl⟩ := hQ
              have hi4 := hA4.1.2.2.2.2.2.2.1
              obtain ⟨q7, q8, q9⟩ := pos_lt hB3.1 (show 2 ≤ tkk L (i + 2) by have : tkk L (i + 1 + 1) = 2 := h22; show 2 ≤ tkk L (i + 1 + 1); omega)
              have ex : ∀ z, A'.D (p + 191) z = if z = cs + 2 then nI q else if z = cs + 1 then nI l else if z = cs then 37 else A.D (p + 191) z := fun z => by
                rw [hcd4 z, code_adv hp, hcd z]
              refine ⟨pl (E 12 (4 * E 3 k + q)), cs + 3, rfl, rfl, pl_ok (w9 _ q he hq), hA4, hB4, by omega, by omega, by omega, fun z hz => ?_, fun t ht => ?_, ?_⟩
              · rw [ex z, if_neg (by omega), if_neg (by omega), if_neg (by omega)]
              · have a1 := mf1 t ht
                have a2 := no_mf (B := B1) (w := w) (i := i) (n := E 3 k) (s := 3) t ht
                constructor
                · rw [rdf (by omega), rdw (by omega), rdw (by omega), a2.1, a1.1]
                · rw [rdw (by omega), rdw (by omega), rdw (by omega), a2.2, a1.2]
              · intro cd mn nu hag
                have c0 := hag.1 cs (by omega) (by omega)
                have c1 := hag.1 (cs + 1) (by omega) (by omega)
                have c2 := hag.1 (cs + 2) (by omega) (by omega)
                rw [ex cs, if_neg (by omega), if_neg (by omega), if_pos rfl] at c0
                rw [ex (cs + 1), if_neg (by omega), if_pos rfl] at c1
                rw [ex (cs + 2), if_pos rfl] at c2
                obtain ⟨v0, u0⟩ := hag.2 i (by omega) (by omega)
                have u2 := (hag.2 (i + 1 + 1) (by omega) (by omega)).1
                rw [rdw (by omega), rdw (by omega), rdw (by omega)] at u0
                rw [rdf (by omega), rdw (by omega), rdw (by omega)] at v0
                rw [rds] at u2
                unfold noB at u0 v0
                rw [rds] at u0
                rw [rdw (by omega), rds] at v0
                exact DE.hrd (by unfold tyF; rw [hk2]; rfl) (by unfold tyF; rw [pt]; rfl) u0 v0 u2 he hq hin c0 c1 c2
            · rw [bC_t el, gen (-1), if_neg (by decide), if_neg (fun z => by obtain ⟨l, hl1, hl2⟩ := (hm_bit hB h8).mp z; exact hno l hl1 hl2)]
              unfold B_MText_named_135
              have r5 := ref5 (Post := (PE p w T L g E Nm Pv nL lc dp ln lk lf hd 5 i cs A B))
              rw [so1] at r5
              exact r5
          · -- a prefab, a system
            rw [if_neg (show ¬ nI (E 2 k) = (1 : Int32) from fun z => so1 ((nI_eq (b := 1) (by omega) (by decide)).mp z))]
            unfold B_Body_nameValue_88 B_Body_nameValue_123 B_Body_nameValue_124 B_Body_nameValue_145 B_Body_nameValue_146
            rw [ck_t pk2, bnd_t, n2, if_neg (show ¬ nI (E 2 k) = (0 : Int32) from fun z => so0 ((nI_eq (b := 0) (by omega) (by decide)).mp z)), ck_t pk2, bC_t (ev_isLocal pk2 n2 (by omega)), show decide (E 2 k = 5 ∨ E 2 k = 6) = false from decide_eq_false (by omega), if_pos bI_f, if_pos rfl, if_pos rfl, if_neg (by decide), if_neg (show ¬ nI (E 2 k + 2) = (2 : Int32) from fun z => so0 (by have := (nI_eq (b := 2) (by omega) (by decide)).mp z; omega))]
            unfold B_MText_named_113 B_MText_named_135
            rw [if_neg (show ¬ nI (E 2 k + 2) = (3 : Int32) from fun z => so1 (by have := (nI_eq (b := 3) (by omega) (by decide)).mp z; omega))]
            exact ref5
      · rw [if_neg (by rw [ex16]; exact pt), decide_eq_false pt, if_pos bI_f, ck_t pk2, bC_t (ev_isLocal pk2 n2 (by omega)), show decide (E 2 k = 5 ∨ E 2 k = 6) = false from decide_eq_false (by omega), if_pos bI_f, rf_t (rP_9_0 hG'), ck_t (rS_1 hG'), ev_refuse hG', bT_z]
        unfold B_MText_named_135
        rw [ev_136f hB hi]
        exact Out.no (k := 5) hB.1 (by decide) (by decide) hi' (hB.1.fail (by decide) (by decide)) SRo_fail
  | none =>
    cases hl : fnm ln (nmT g L i) nL 0 with
    | none =>
      have z4 : Zf (failB B1 w 4 (tkp L i)) w 4 (tkp L i) := hB.1.fail (by decide) (by decide)
      simp only [Option.map_none]
      rw [bT_z, bC_v, bnd_t, if_neg z4.nle]
      exact Out.no (k := 4) hB.1 (by decide) (by decide) hi' z4 SRo_fail
    | some l =>
      have hlb := fnm_bd _ _ _ hl
      obtain ⟨lo1, lo2, lo3, lo4⟩ := hlo l (by omega)
      simp only [Option.map_some]
      obtain ⟨n1, n2, n3, n4⟩ := hA.2.2.2.2.2.2.2.2.2.1 l (by omega)
      have pk2 := (PrK hP' (E 0 0 + l) (by omega)).2
      obtain ⟨x, hx⟩ : ∃ x, x = p + 2 + (E 0 0 + l) := ⟨_, rfl⟩
      rw [← hx] at n1 n2 n3 n4 pk2 ⊢
      have eloc : F_Named_isLocal N x A1 = some (1, A1) := by
        rw [ev_isLocal pk2 n2 (by omega), show decide (5 + lf l = 5 ∨ 5 + lf l = 6) = true from decide_eq_true (by omega)]; rfl
      rw [bT_v, on_t, rf_t (rP_9_0 hG'), ck_t (rS_1 hG'), bnd_t, hA.1.2.2.2.2.1, bC_v, bnd_t (e := B1.D w 9), hB.1.2.2.2.1, if_pos (show (0 : Int32) ≤ 0 by decide), bC_t (ev_lc hB hC (hB.1.tn hi) hN), hl, bC_t eis, if_pos rfl, show oNI (some l) = nI l from rfl]
      unfold B_MText_named_53
      rw [if_pos rfl]
      by_cases pt : tkk L (i + 1) = 16
      · have hnp := hB.1.gt (show 2 ≤ tkk L (i + 1) by omega)
        obtain ⟨q4, q5, q6⟩ := pos_lt hB.1 (show 2 ≤ tkk L (i + 1) by omega)
        rw [if_pos (by rw [pt]; rfl), decide_eq_true pt, if_neg bI_t0, ck_t pk2, bnd_t, n2, if_neg (show ¬ nI (5 + lf l) = (1 : Int32) from fun z => by have := (nI_eq (b := 1) (by omega) (by decide)).mp z; omega)]
        unfold B_Body_nameValue_88 B_Body_nameValue_123 B_Body_nameValue_124 B_Body_nameValue_145 B_Body_nameValue_146
        rw [ck_t pk2, bnd_t, n2, if_neg (show ¬ nI (5 + lf l) = (0 : Int32) from fun z => by have := (nI_eq (b := 0) (by omega) (by decide)).mp z; omega), ck_t pk2, bC_t eloc, if_neg (by decide), bnd_t, n4, ck_t (TS hB.1.1.1), rf_t (TP_39 hB.1.1.1), ar_t (TA_39 hB.1.1.1), rdI (by omega) (by decide), (hB.2.2.2.2.2 l (by omega)).2.1]
        by_cases k4 : lk l = 4
        · have k4' : nI (lk l) = (4 : Int32) := by rw [k4]; rfl
          rw [if_pos k4', if_pos k4', if_pos rfl, if_neg (show ¬ (1 : Int32) = 0 by decide)]
          unfold B_MText_named_75 B_MText_named_136
          rw [if_neg (by decide), show (1 : Int32) = nI 1 from rfl, ev_149 hB hi (by decide), if_neg bI_t0]
          unfold B_Body_nameValue_171
          have hA2 := hA.adv hC hnp
          have hG2 := hA2.1.1.1
          have hP2 := hA2.pP hC
          have n3' : (advA A1 L (i + 1)).D x 2 = nI l := by unfold advA; rw [rdw (by omega), rdw (by omega), rdw (by omega)]; exact n3
          have hNo := hB.no (i := i) (n := l) (s := 1) h2
          have hB3 := hNo.nx hnp
          rw [ck_t (rS_9 hG'), rf_t (rP_9_0 hG'), ck_t (rS_1 hG'), bC_t (ev_advance hA.1 hnp), if_pos (by decide), ck_t (show (advA A1 L (i + 1)).sh[x]? = some (2, 0) from pk2), bnd_t, n3', if_neg (by decide), rf_t (rP_9_0 hG2), ck_t (rS_1 hG2), bnd_t, hA2.1.2.2.2.2.2.1, kn_un hA2, bT_as, show (46 : Int32) = nI (tyK 16) from rfl, ev_takes hNo.1 (k := 16) (by decide), if_pos pt, bC_v, if_neg (by decide), if_pos (by rfl)]
          refine Out.pre (Out.bindQ (jo_name hA2 hB3 hC (by omega)) (name_y hB3.1) ?_ ?_) (adv_ex.mono SL_SBo (Nat.le_refl _)) (no_same.tr (same.rf.sD (by unfold SRo; omega))) (show i + 1 ≤ i + 2 by omega) hnp (by omega)
          rotate_left
          · intro y B' k p0 hy hz
            rw [bC_t (fz_numberOf hz), bnd_t, if_neg hz.n0]
            exact fz_324 hz
          intro j v A4 y B4 hij4 hxa4 hsb4 hQ
          obtain ⟨rfl, h24, rfl, rfl, hA4, hB4, hcd4, hxx4, s4, rfl, t1, t2, t3⟩ := hQ
          have hi3 := hA2.1.2.2.2.2.2.2.1
          have hi4 := hA4.1.2.2.2.2.2.2.1
          have hG4 := hA4.1.1.1
          have hP4 := hA4.pP hC
          obtain ⟨q7, q8, q9⟩ := pos_lt hB3.1 (show 2 ≤ tkk L (i + 1 + 1) by omega)
          have h81' := (hA4.1.2.2.2.2.2.2.2.2.2.2.2.1 (i + 1 + 1 + 1) hi4).2.1
          obtain ⟨tA1, tA2, tA3, tA4⟩ := sys_A hA4 hC
          have n3'' : A4.D x 2 = nI l := by rw [(hxx4.2.2.2 x 2 (by have := hG2.len; omega) (decide_eq_false (by omega))).1]; exact n3'
          have pk4 : A4.sh[x]? = some (2, 0) := (PrK hP4 (E 0 0 + l) (by omega)).2 ▸ (by rw [hx])
          rw [kn_ev hA4 hC t1 (by omega), show (2 : Int32) = nI (0 + 2) from rfl, ev_numberOf hB4 hC hi3 hN (by decide)]
          unfold kix
          have bad : ∀ {Post : Nat → Int32 → Hp → Int32 → Hp → Prop} {a101 : Nat} {y : Int32}, (Out (SBo p (E 0 0)) (SRo w) w L (i + 1 + 1 + 1) A4 (((noB B1 w i l 1).sD w 11 (nI (i + 1 + 1))).sD w 11 (nI (i + 1 + 1 + 1))) (B_Body_nameValue_321 N 9 x (nI (tkp L (i + 1 + 1))) a101 A4) (B_MText_named_324 N w y (failB (((noB B1 w i l 1).sD w 11 (nI (i + 1 + 1))).sD w 11 (nI (i + 1 + 1 + 1))) w 5 (tkp L (i + 1 + 1)))) Post) := by
            intro Post a101 y
            have z5 : Zf (failB (((noB B1 w i l 1).sD w 11 (nI (i + 1 + 1))).sD w 11 (nI (i + 1 + 1 + 1))) w 5 (tkp L (i + 1 + 1))) w 5 (tkp L (i + 1 + 1)) := hB4.1.fail (by decide) (by decide)
            obtain ⟨yy, BB, e1, e2, e3⟩ := fz_324 (N := N) (c := y) z5
            unfold B_Body_nameValue_321
            rw [ck_t (rS_9 hG4), rf_t (rP_9_0 hG4), ck_t (rS_1 hG4), ev_refuse hG4, bT_z, e1]
            exact Out.no (k := 5) hB4.1 (by decide) (by decide) hi4 e2 (SRo_fail.tr e3)
          cases hk' : fnm (Nm 1) (nmT g L (i + 1 + 1)) (E 0 0) 0 with
          | some k =>
            have hkb' := fnm_bd _ _ _ hk'
            have hwk' := hWk k (by omega)
            cases hl' : fnm ln (nmT g L (i + 1 + 1)) nL 0 with
            | some l' => exact (no_both hC hk' hl').elim
            | none =>
              simp only
              obtain ⟨u1, u2, u3, u4⟩ := hA4.2.1.1 k (by omega)
              have pu2 := (PrK hP4 k (by omega)).2
              obtain ⟨x2, hx2⟩ : ∃ x2, x2 = p + 2 + k := ⟨_, rfl⟩
              rw [← hx2] at u1 u2 u3 u4 pu2 ⊢
              rw [bT_v, on_t, ck_t pu2, bnd_t, u2]
              by_cases so0 : E 2 k = 0
              · have hc3 := hwk'.2.2.1 so0
                rw [if_pos (by rw [so0]; rfl), rf_t hA4.2.2.1, ck_t (PrS hP4), rf_t (PrP_12 hP4), bnd_t, tA1, ar_t (PrA_12 hP4), rdI (by omega) (by decide), tA4, bnd_t, u3, if_pos so0, bC_v, bnd_t]
                have hB5 : (JB w T L g E Nm Pv nL lc dp ln lk lf hd (i + 1 + 1 + 1) ((((noB B1 w i l 1).sD w 11 (nI (i + 1 + 1))).sD w 11 (nI (i + 1 + 1 + 1))).sD (w + 7) (i + 1 + 1) (nI (E 3 k)))) := hB4.sD rfl
                obtain ⟨tB1, tB2, tB3, tB4⟩ := sys_B hB5 hC
                rw [hB5.1.2.2.2.1, if_pos rfl, rf_t (TP_33 hB5.1.1.1), bnd_t, tB1, ar_t (TA_33 hB5.1.1.1), rdI (by omega) (by decide), tB4]
                by_cases br : E 21 (E 17 0 - 1) / 2 ^ E 3 k % 2 = 1
                · have br' : ¬ (nI (E 21 (E 17 0 - 1)) >>> (nI (E 3 k) &&& 31)) &&& 1 = 0 := fun z => ((nI_bit0 (by omega) (by omega)).mp z) br
                  rw [if_neg br', if_neg br']
                  unfold B_Body_nameValue_331 B_MText_named_324
                  rw [ck_t pu2, bnd_t, u3, ck_t (rS_9 hG4), rf_t (rP_9_0 hG4), ck_t (rS_1 hG4), ck_t (TS hB5.1.1.1)]
                  refine Out.pre (Out.bind (jo_take (k := 16) hA4 hB5 hC (by decide) (by decide)) ?_ (fun y B' k p0 hz => fz_330 hz)) exA.rf (same.rf.sD (by unfold SRo; omega)) (Nat.le_refl _) hi4 (by omega)
                  intro j v A5 y B6 hij5 hxa5 hsb5 hQ
                  obtain ⟨rfl, pt2, rfl, rfl, hA5, hB6⟩ := hQ
                  have hi5 := hA5.1.2.2.2.2.2.2.1
                  have hP5 := hA5.pP hC
                  obtain ⟨q10, q11, q12⟩ := pos_lt hB4.1 (show 2 ≤ tkk L (i + 1 + 1 + 1) by omega)
                  have v1 := hA5.add (v := 33) hC
                  have v2 := v1.add (v := nI l) hC
                  have v3 := v2.add (v := 38) hC
                  have v4 := v3.add (v := nI (E 3 k)) hC
                  have pk5 : (addA (advA A4 L (i + 1 + 1 + 1)) p cs 33).sh[x]? = some (2, 0) := pk4
                  have n5 : (addA (advA A4 L (i + 1 + 1 + 1)) p cs 33).D x 2 = nI l := by
                    unfold addA advA
                    rw [rdw (by omega), rdw (by omega), rdw (by omega), rdw (by omega), rdw (by omega)]
                    exact n3''
                  rw [rf_t hA5.2.2.1, ck_t (PrS hP5), bC_t (ev_add hA5 hP5 (by omega)), rf_t v1.2.2.1, ck_t pk5, bnd_t, n5, ck_t (PrS (v1.pP hC)), bC_t (ev_add v1 (v1.pP hC) (by omega)), rf_t v2.2.2.1, ck_t (PrS (v2.pP hC)), bC_t (ev_add v2 (v2.pP hC) (by omega)), rf_t v3.2.2.1, ck_t (PrS (v3.pP hC)), bC_t (ev_add v3 (v3.pP hC) (by omega))]
                  have oo := jo_402 (N := N) v4 hB6 hC hN hc3 (by omega)
                  refine Out.pre (Out.wk oo ?_) (((add_ex.tr add_ex).tr add_ex).tr add_ex) same.rf (Nat.le_refl _) hi5 (by omega)
                  intro j v A' y B' hj hxa2 hsb2 hQ
                  obtain ⟨rfl, h22, m, hm, rfl, rfl, hA6, hB7, hcd6, rfl⟩ := hQ
                  have hi6 := hA6.1.2.2.2.2.2.2.1
                  obtain ⟨q13, q14, q15⟩ := pos_lt hB6.1 (show 2 ≤ tkk L (i + 1 + 1 + 1 + 1) by omega)
                  have ex : ∀ z, A'.D (p + 191) z = if z = cs + 4 then nI m else if z = cs + 3 then nI (E 3 k) else if z = cs + 2 then 38 else if z = cs + 1 then nI l else if z = cs then 33 else A.D (p + 191) z := fun z => by
                    rw [hcd6 z, code_add, code_add, code_add, code_add, code_adv hp, hcd4 z, code_adv hp, hcd z]
                  refine ⟨pl (E 6 m), cs + 5, rfl, rfl, pl_ok (w5 m (mOf_lt hW hm).1), hA6, hB7, by omega, by omega, by omega, fun z hz => ?_, fun t ht => ?_, ?_⟩
                  · rw [ex z, if_neg (by omega), if_neg (by omega), if_neg (by omega), if_neg (by omega), if_neg (by omega)]
                  · have a1 := mf1 t ht
                    have a2 := no_mf (B := B1) (w := w) (i := i) (n := l) (s := 1) t ht
                    constructor
                    · rw [rdf (by omega), rdw (by omega), rdw (by omega), rdf (by omega), rdw (by omega), rdw (by omega), a2.1, a1.1]
                    · rw [rdw (by omega), rdw (by omega), rdw (by omega), rdw (by omega), rdw (by omega), rdw (by omega), a2.2, a1.2]
                  · intro cd mn nu hag
                    have c0 := hag.1 cs (by omega) (by omega)
                    have c1 := hag.1 (cs + 1) (by omega) (by omega)
                    have c2 := hag.1 (cs + 2) (by omega) (by omega)
                    have c3 := hag.1 (cs + 3) (by omega) (by omega)
                    have c4 := hag.1 (cs + 4) (by omega) (by omega)
                    rw [ex cs, if_neg (by omega), if_neg (by omega), if_neg (by omega), if_neg (by omega), if_pos rfl] at c0
                    rw [ex (cs + 1), if_neg (by omega), if_neg (by omega), if_neg (by omega), if_pos rfl] at c1
                    rw [ex (cs + 2), if_neg (by omega), if_neg (by omega), if_pos rfl] at c2
                    rw [ex (cs + 3), if_neg (by omega), if_pos rfl] at c3
                    rw [ex (cs + 4), if_pos rfl] at c4
                    obtain ⟨v0, u0⟩ := hag.2 i (by omega) (by omega)
                    have u2 := (hag.2 (i + 1 + 1) (by omega) (by omega)).1
                    have u4 := (hag.2 (i + 1 + 1 + 1 + 1) (by omega) (by omega)).1
                    rw [rdw (by omega), rdw (by omega), rdw (by omega), rdw (by omega), rdw (by omega), rdw (by omega)] at u0
                    rw [rdf (by omega), rdw (by omega), rdw (by omega), rdf (by omega), rdw (by omega), rdw (by omega)] at v0
                    rw [rdf (by omega), rdw (by omega), rdw (by omega), rds] at u2
                    rw [rds] at u4
                    unfold noB at u0 v0
                    rw [rds] at u0
                    rw [rdw (by omega), rds] at v0
                    exact DE.far (by unfold tyF; rw [hk2]; rfl) (by unfold tyF; rw [pt]; rfl) u0 v0 (by omega) k4 u2 u4 (by unfold tyF; rw [show i + 3 = i + 1 + 1 + 1 from rfl, pt2]; rfl) hm br c0 c1 c2 c3 c4
                · have br' : (nI (E 21 (E 17 0 - 1)) >>> (nI (E 3 k) &&& 31)) &&& 1 = 0 := (nI_bit0 (by omega) (by omega)).mpr br
                  rw [if_pos br', if_pos br', bC_t (show F_MText_fails N w (5 : Int32) (nI (i + 1 + 1)) _ = _ from ev_fails (k := 5) hB5.1 hi3)]
                  have z5 := hB5.1.fail (k := 5) (p := tkp L (i + 1 + 1)) (by decide) (by decide)
                  obtain ⟨yy, BB, e1, e2, e3⟩ := fz_324 (N := N) (c := nI (E 3 k)) z5
                  unfold B_Body_nameValue_321
                  rw [ck_t (rS_9 hG4), rf_t (rP_9_0 hG4), ck_t (rS_1 hG4), ev_refuse hG4, bT_z, e1]
                  exact Out.no (k := 5) hB4.1 (by decide) (by decide) hi4 e2 ((same.rf.sD (by unfold SRo; omega)).tr (SRo_fail.tr e3))
              · have z5 : Zf (failB (((noB B1 w i l 1).sD w 11 (nI (i + 1 + 1))).sD w 11 (nI (i + 1 + 1 + 1))) w 5 (tkp L (i + 1 + 1))) w 5 (tkp L (i + 1 + 1)) := hB4.1.fail (by decide) (by decide)
                rw [if_neg (show ¬ nI (E 2 k) = (0 : Int32) from fun z => so0 ((nI_eq (b := 0) (by omega) (by decide)).mp z)), if_neg so0, bC_v, bnd_t, if_neg z5.n0]
                exact bad
          | none =>
            cases hl' : fnm ln (nmT g L (i + 1 + 1)) nL 0 with
            | none =>
              have z4 : Zf (failB (((noB B1 w i l 1).sD w 11 (nI (i + 1 + 1))).sD w 11 (nI (i + 1 + 1 + 1))) w 4 (tkp L (i + 1 + 1))) w 4 (tkp L (i + 1 + 1)) := hB4.1.fail (by decide) (by decide)
              obtain ⟨yy, BB, e1, e2, e3⟩ := fz_324 (N := N) (c := 0) z4
              simp only [Option.map_none]
              rw [bT_z, bC_v, bnd_t, if_neg z4.n0, e1]
              exact Out.no (k := 4) hB4.1 (by decide) (by decide) hi4 e2 (SRo_fail.tr e3)
            | some l' =>
              have hlb' := fnm_bd _ _ _ hl'
              obtain ⟨lp1, lp2, lp3, lp4⟩ := hlo l' (by omega)
              obtain ⟨u1, u2, u3, u4⟩ := hA4.2.2.2.2.2.2.2.2.2.1 l' (by omega)
              have pu2 := (PrK hP4 (E 0 0 + l') (by omega)).2
              have z5 : Zf (failB (((noB B1 w i l 1).sD w 11 (nI (i + 1 + 1))).sD w 11 (nI (i + 1 + 1 + 1))) w 5 (tkp L (i + 1 + 1))) w 5 (tkp L (i + 1 + 1)) := hB4.1.fail (by decide) (by decide)
              simp only [Option.map_some]
              rw [bT_v, on_t, ck_t pu2, bnd_t, u2, if_neg (show ¬ nI (5 + lf l') = (0 : Int32) from fun z => by have := (nI_eq (b := 0) (by omega) (by decide)).mp z; omega), bC_v, bnd_t, if_neg z5.n0]
              exact bad
        · have k4' : ¬ nI (lk l) = (4 : Int32) := fun z => k4 ((nI_eq (b := 4) (by omega) (by decide)).mp z)
          rw [if_neg k4', if_neg k4', if_pos rfl, if_pos rfl, if_neg (show ¬ (0 : Int32) ≤ -1 by decide), ck_t (rS_9 hG'), rf_t (rP_9_0 hG'), ck_t (rS_1 hG'), ev_refuse hG', bT_z, ev_136f hB hi]
          exact Out.no (k := 5) hB.1 (by decide) (by decide) hi' (hB.1.fail (by decide) (by decide)) SRo_fail
      · rw [if_neg (by rw [ex16]; exact pt), decide_eq_false pt, if_pos bI_f, ck_t pk2, bC_t eloc, if_neg (by decide)]
        unfold B_MText_named_75 B_MText_named_136 B_Body_nameValue_41
        have hA2 := hA.add (v := 33) hC
        have hA3 := hA2.add (v := nI l) hC
        have hNo := hB.no (i := i) (n := l) (s := 1) h2
        have n3' : (addA A1 p cs 33).D x 2 = nI l := by unfold addA; rw [rdw (by omega), rdw (by omega)]; exact n3
        have n4' : (addA (addA A1 p cs 33) p (cs + 1) (nI l)).D x 3 = nI (lk l) := by unfold addA; rw [rdw (by omega), rdw (by omega), rdw (by omega), rdw (by omega)]; exact n4
        rw [if_neg (by decide), show (1 : Int32) = nI 1 from rfl, ev_149 hB hi (by decide), if_pos bI_f, rf_t (TP_39 hNo.1.1.1), ar_t (TA_39 hNo.1.1.1), rdI (by omega) (by decide), (hNo.2.2.2.2.2 l (by omega)).2.1, ck_t (rS_9 hG'), rf_t hA.2.2.1, ck_t (PrS hP'), bC_t (ev_add hA hP' (by omega)), rf_t hA2.2.2.1, ck_t (show (addA A1 p cs 33).sh[x]? = some (2, 0) from pk2), bnd_t, n3', ck_t (PrS (hA2.pP hC)), bC_t (ev_add hA2 (hA2.pP hC) (by omega)), bnd_t, n4']
        refine Or.inr ⟨_, _, _, _, i + 1, rfl, rfl, by omega, hi', (add_ex.tr add_ex).mono (fun _ _ h => h) (by omega), no_same, lk l, cs + 2, rfl, rfl, by omega, hA3, hNo, by omega, by omega, by omega, fun z hz => ?_, mf1.tr no_mf (Nat.le_refl _), ?_⟩
        · rw [code_add, if_neg (by omega), code_add, if_neg (by omega), hcd z]
        · intro cd mn nu hag
          have c0 := hag.1 cs (by omega) (by omega)
          have c1 := hag.1 (cs + 1) (by omega) (by omega)
          rw [code_add, if_neg (by omega), code_add, if_pos rfl] at c0
          rw [code_add, if_pos rfl] at c1
          have u0 := (hag.2 i (by omega) (by omega)).1
          unfold noB at u0
          rw [rdw (by omega), rds] at u0
          refine DE.loc (by unfold tyF; rw [hk2]; rfl) u0 (by omega) ?_ c0 c1
          intro z
          have z' : nI (tyK (tkk L (i + 1))) = nI (tyK 16) := z
          exact pt ((hB.1.ty (by decide)).mp z')
end Par
