/-! ===== NAME = and NAME . NAME = ===== -/
section Par
variable {N p w T : Nat} {L : List (Nat × Nat × Int32 × Bool × Nat)} {g : Nat → Nat} {E : Nat → Nat → Nat} {Nm : Nat → Nat → List Nat} {Pv : Nat → Nat → Int32} {nL lc dp : Nat} {ln : Nat → List Nat} {lk lf : Nat → Nat} {hd : Nat → Int32}
def giC (N : Nat) (x5 : Int32) (v7 : Option Nat) (H8 : Hp) : Option (Ot Unit × Hp) :=
    on v7 fun a10 =>
    rf (H8.P 9 0) fun a11 =>
    ck (H8.sh[a11]? = some (1, 0)) <|
    bnd ((H8.D a11 2)) fun x14 =>
    if x14 = (17 : Int32) then
    ck (H8.sh[a10]? = some (2, 0)) <|
    bnd ((H8.D a10 1)) fun x48 =>
    if x48 = (5 : Int32) then
    B_Body_readGiven_42 N 9 a10 H8
    else
    rf (H8.P 9 0) fun a50 =>
    ck (H8.sh[a50]? = some (1, 0)) <|
    bT (F_Lexer_refuse N a50 (5 : Int32) x5 H8) fun v54 H55 =>
    B_Body_readGiven_42 N 9 a10 H55
    else
    rf (H8.P 9 0) fun a16 =>
    ck (H8.sh[a16]? = some (1, 0)) <|
    bnd ((H8.D a16 2)) fun x19 =>
    if x19 = (16 : Int32) then
    ck (H8.sh[a10]? = some (2, 0)) <|
    bnd ((H8.D a10 1)) fun x33 =>
    if x33 = (0 : Int32) then
    rf (H8.P 9 1) fun a35 =>
    ck (H8.sh[a35]? = some (4, 0)) <|
    rf (H8.P a35 11) fun a38 =>
    bnd ((H8.D 9 2)) fun x40 =>
    ar H8 100 a38 fun n41 =>
    ck (inb x40 n41) <|
    bnd ((H8.D a38 (x40).toNatClampNeg)) fun x44 =>
    bnd ((H8.D a10 2)) fun x45 =>
    if ((x44 >>> (x45 &&& 31)) &&& (1 : Int32)) = (0 : Int32) then
    B_Body_readGiven_124 N 9 x5 a10 H8
    else
    B_Body_readGiven_133 N 9 a10 H8
    else
    B_Body_readGiven_124 N 9 x5 a10 H8
    else
    rf (H8.P 9 0) fun a21 =>
    rf (H8.P 9 0) fun a23 =>
    ck (H8.sh[a23]? = some (1, 0)) <|
    bnd ((H8.D a23 3)) fun x26 =>
    ck (H8.sh[a21]? = some (1, 0)) <|
    bT (F_Lexer_refuse N a21 (1 : Int32) x26 H8) fun v29 H30 =>
    B_Body_readGiven_189 N 9  H30
def asR (N p0 : Nat) (v3 : Int32) (H4 : Hp) : Option (Unit × Hp) :=
    bC (F_MText_sort N p0 v3 H4) fun v6 H7 =>
    bnd ((H7.D p0 9)) fun x8 =>
    if x8 ≤ (0 : Int32) then
    bC (F_MText_is N p0 (46 : Int32) H7) fun v11 H12 =>
    if v11 = (0 : Int32) then
    bC (F_MText_is N p0 (61 : Int32) H12) fun v179 H180 =>
    if v179 = (0 : Int32) then
    bnd ((H180.D p0 11)) fun x182 =>
    bC (F_MText_fails N p0 (1 : Int32) x182 H180) fun v184 H185 =>
    some ((), H185)
    else
    B_MText_assigns_47 N p0 v3 v6 H180
    else
    B_MText_assigns_47 N p0 v3 v6 H12
    else
    some ((), H7)
theorem fz_148 {B : Hp} {k p0 : Nat} {c : Int32} (h : Zf B w k p0) : ∃ B2, B_MText_assigns_148 N w c B = some ((), B2) ∧ Zf B2 w k p0 ∧ same (SRo w) B B2 := by
  obtain ⟨y, B2, e1, e2, e3⟩ := fz_memberName (N := N) (c := c) h
  refine ⟨B2, ?_, e2, e3⟩
  unfold B_MText_assigns_148 B_MText_assigns_188
  rw [ck_t (TS h.1), bC_t (fz_takes h), bC_t e1, bC_t (fz_takes e2), bnd_t, if_neg e2.n0, ck_t (TS e2.1), bC_t (fz_takes e2)]
theorem fz_82 {B : Hp} {k p0 : Nat} {a b : Int32} (h : Zf B w k p0) : B_MText_assigns_82 N w a b B = some ((), B) := by
  unfold B_MText_assigns_82
  rw [ck_t (TS h.1), bnd_t, if_neg h.nle]
theorem jo_given {A B : Hp} {i cs : Nat} {o : Orc_BodyS} {o' : Orc_TextS} (ha : (JA p T L g E Nm Pv nL lc dp ln lk lf hd i cs A)) (hb : (JB w T L g E Nm Pv nL lc dp ln lk lf hd i B)) (hC : (CX p E Nm nL lc dp ln lk lf hd)) (hcs : cs + 7 ≤ 2 * tkp L i) (hN : 7000 ≤ N) (q : tkk L i = 2) : (Out (SBo p (E 0 0)) (SRo w) w L i A B (F_Body_readStatement N o 9 A) (F_MText_statement N o' w B) (fun j _ A' _ B' => (PS p w T L g E Nm Pv nL lc dp ln lk lf hd i cs A B) j A' B')) := by
  have hp := hC.2.1
  have hG := ha.1.1.1
  have hi := ha.1.2.2.2.2.2.2.1
  have h56 : E 0 0 ≤ 56 := hC.1.2.2.2.2.2.2.2.2.2.2.2.2.2.1
  have hW := hC.1.2.2.2.2.2.2.2.2.2.2.2.2.2.2
  have hE := hC.1
  have e1 : F_Body_readGiven N 9 A = bT (F_Lexer_takeName N 1 A) (fun v H => bT (knC N p (nI (tkp L i)) v H) (giC N (nI (tkp L i)))) := by
    unfold F_Body_readGiven
    rw [ck_t (rS_9 hG), rf_t (rP_9_0 hG), ck_t (rS_1 hG), bnd_t, ha.1.2.2.2.2.2.1, kn_un ha, bT_as]
    rfl
  have e2 : F_MText_assigns N w B = bC (F_MText_name N w B) (asR N w) := by
    unfold F_MText_assigns
    rw [ck_t (TS hb.1.1.1)]
    rfl
  rw [sA_2 ha q, sB_2 hb q, e1, e2]
  refine Out.bind (jo_name ha hb hC (by omega)) ?_ ?_
  rotate_left
  · intro y B' k p0 hz
    exact ⟨(), B', by unfold asR; rw [bC_t (fz_sort hz), bnd_t, if_neg hz.nle], hz, same.rf⟩
  intro j v A' y B' hij hxa hsb hQ
  obtain ⟨rfl, h2, rfl, rfl, hA, hB, hcd, hx, s, rfl, s1, s2, s3⟩ := hQ
  have hG' := hA.1.1.1
  have hi' := hA.1.2.2.2.2.2.2.1
  have h81 := (hA.1.2.2.2.2.2.2.2.2.2.2.2.1 (i + 1) hi').2.1
  have hP' := hA.pP hC
  have h61 : L.length ≤ 6001 := by have := hb.1.2.2.2.2.2.2.1; have := hb.1.2.2.2.2.2.2.2.1; omega
  have k17 : (nI (tkk L (i + 1)) = (17 : Int32)) = (tkk L (i + 1) = 17) := propext (nI_eq (b := 17) (by omega) (by decide))
  have k16 : (nI (tkk L (i + 1)) = (16 : Int32)) = (tkk L (i + 1) = 16) := propext (nI_eq (b := 16) (by omega) (by decide))
  have u0 : tkp L i + 1 ≤ tkp L (i + 1) := nx_pos hb.1 hi'
  -- how the reference goes on, by the sign behind the name
  have is46 : F_MText_is N w (46 : Int32) (B.sD w 11 (nI (i + 1))) = some (bI (decide (tkk L (i + 1) = 16)), _) := ev_is (k := 16) hB.1 (by decide)
  have is61 : F_MText_is N w (61 : Int32) (B.sD w 11 (nI (i + 1))) = some (bI (decide (tkk L (i + 1) = 17)), _) := ev_is (k := 17) hB.1 (by decide)
  have z5 : Zf (failB (B.sD w 11 (nI (i + 1))) w 5 (tkp L i)) w 5 (tkp L i) := hB.1.fail (by decide) (by decide)
  have tail : ∀ v6 : Int32, (bnd ((B.sD w 11 (nI (i + 1))).D w 9) fun x8 => if x8 ≤ (0 : Int32) then bC (F_MText_is N w (46 : Int32) (B.sD w 11 (nI (i + 1)))) fun v11 H12 => if v11 = (0 : Int32) then bC (F_MText_is N w (61 : Int32) H12) fun v179 H180 => if v179 = (0 : Int32) then bnd ((H180.D w 11)) fun x182 => bC (F_MText_fails N w (1 : Int32) x182 H180) fun v184 H185 => some ((), H185) else B_MText_assigns_47 N w (nI i) v6 H180 else B_MText_assigns_47 N w (nI i) v6 H12 else some ((), (B.sD w 11 (nI (i + 1))))) = if tkk L (i + 1) = 17 ∨ tkk L (i + 1) = 16 then B_MText_assigns_47 N w (nI i) v6 (B.sD w 11 (nI (i + 1))) else some ((), failB (B.sD w 11 (nI (i + 1))) w 1 (tkp L (i + 1))) := by
    intro v6
    rw [bnd_t, hB.1.2.2.2.1, if_pos (by decide), bC_t is46]
    by_cases z1 : tkk L (i + 1) = 16
    · rw [decide_eq_true z1, if_neg bI_t0, if_pos (Or.inr z1)]
    · rw [decide_eq_false z1, if_pos bI_f, bC_t is61]
      by_cases z2 : tkk L (i + 1) = 17
      · rw [decide_eq_true z2, if_neg bI_t0, if_pos (Or.inl z2)]
      · rw [decide_eq_false z2, if_pos bI_f, if_neg (by omega), bnd_t, hB.1.2.2.1, bC_t (show F_MText_fails N w (1 : Int32) (nI (i + 1)) _ = _ from ev_fails (k := 1) hB.1 hi')]
  have sign1 : ∀ x, giC N (nI (tkp L i)) (some x) A' = if tkk L (i + 1) = 17 then (ck (A'.sh[x]? = some (2, 0)) <| bnd ((A'.D x 1)) fun x48 => if x48 = (5 : Int32) then B_Body_readGiven_42 N 9 x A' else some (.inr A'.sh.length, refA A' 5 (nI (tkp L i)))) else if tkk L (i + 1) = 16 then (ck (A'.sh[x]? = some (2, 0)) <| bnd ((A'.D x 1)) fun x33 => if x33 = (0 : Int32) then (bnd ((A'.D x 2)) fun x45 => if ((nI (E 20 (E 17 0 - 1)) >>> (x45 &&& 31)) &&& (1 : Int32)) = (0 : Int32) then some (.inr A'.sh.length, refA A' 5 (nI (tkp L i))) else B_Body_readGiven_133 N 9 x A') else some (.inr A'.sh.length, refA A' 5 (nI (tkp L i)))) else some (.inr A'.sh.length, refA A' 1 (nI (tkp L (i + 1)))) := by
    intro x
    have h17 : E 17 0 ≤ 16 := hE.2.2.2.2.2.2.2.2.2.2.2.1
    have h171 : 1 ≤ E 17 0 := hC.2.2.1
    have wr : A'.D (p + 187) (E 17 0 - 1) = nI (E 20 (E 17 0 - 1)) := (hA.2.1.2.2.2.2.1.2 (E 17 0 - 1) (by omega)).2.2.2.1
    unfold giC B_Body_readGiven_124
    rw [on_t, rf_t (rP_9_0 hG'), ck_t (rS_1 hG'), bnd_t (e := A'.D 1 2), hA.1.2.2.2.2.1]
    by_cases z17 : tkk L (i + 1) = 17
    · rw [if_pos (show nI (tkk L (i + 1)) = (17 : Int32) by rw [k17]; exact z17), if_pos z17, rf_t (rP_9_0 hG'), ck_t (rS_1 hG'), ev_refuse hG', bT_z]
    · rw [if_neg (show ¬ nI (tkk L (i + 1)) = (17 : Int32) by rw [k17]; exact z17), if_neg z17, rf_t (rP_9_0 hG'), ck_t (rS_1 hG'), bnd_t (e := A'.D 1 2), hA.1.2.2.2.2.1]
      by_cases z16 : tkk L (i + 1) = 16
      · rw [if_pos (show nI (tkk L (i + 1)) = (16 : Int32) by rw [k16]; exact z16), if_pos z16, rf_t hA.2.2.1, ck_t (PrS hP'), rf_t (PrP_11 hP'), bnd_t (e := A'.D 9 2), hA.2.2.2.1, ar_t (PrA_11 hP'), rdI (show E 17 0 - 1 < 16 by omega) (by decide), wr, ck_t (rS_9 hG'), rf_t (rP_9_0 hG'), ck_t (rS_1 hG'), ev_refuse hG', bT_z]
      · rw [if_neg (show ¬ nI (tkk L (i + 1)) = (16 : Int32) by rw [k16]; exact z16), if_neg z16, rf_t (rP_9_0 hG'), rf_t (rP_9_0 hG'), ck_t (rS_1 hG'), bnd_t (e := A'.D 1 3), hA.1.2.2.2.2.2.1, ck_t (rS_1 hG'), ev_refuse hG', bT_z]
  have h17 : E 17 0 ≤ 16 := hE.2.2.2.2.2.2.2.2.2.2.2.1
  have h171 : 1 ≤ E 17 0 := hC.2.2.1
  -- a sign = behind the name
  have g17 : ∀ v6 : Int32, tkk L (i + 1) = 17 → B_MText_assigns_47 N w (nI i) v6 (B.sD w 11 (nI (i + 1))) = bC (F_MText_local N w (nI i) ((B.sD w 11 (nI (i + 1))).sD w 11 (nI (i + 1 + 1)))) fun v92 H93 => if v6 = (1 : Int32) then rf (H93.P w 40) fun a139 => ar H93 102 a139 fun n141 => ck (inb v92 n141) <| bnd ((H93.D a139 (v92).toNatClampNeg)) fun x144 => if x144 = (0 : Int32) then B_MText_assigns_82 N w (nI i) v92 H93 else B_MText_assigns_76 N w (nI i) v92 H93 else B_MText_assigns_76 N w (nI i) v92 H93 := by
    intro v6 z
    unfold B_MText_assigns_47
    rw [ck_t (TS hB.1.1.1), show (61 : Int32) = nI (tyK 17) from rfl, ev_accepts hB.1 (by decide), if_pos z, bC_v, if_neg (by decide)]
  have g16 : ∀ v6 : Int32, tkk L (i + 1) = 16 → B_MText_assigns_47 N w (nI i) v6 (B.sD w 11 (nI (i + 1))) = bC (F_MText_numberOf N w (nI i) (2 : Int32) (B.sD w 11 (nI (i + 1)))) fun v20 H21 => bnd ((H21.D w 9)) fun x22 => if x22 = (0 : Int32) then rf (H21.P w 32) fun a80 => bnd ((H21.D w 29)) fun x82 => ar H21 100 a80 fun n83 => ck (inb (x82 - (1 : Int32)) n83) <| bnd ((H21.D a80 ((x82 - (1 : Int32))).toNatClampNeg)) fun x86 => if ((x86 >>> (v20 &&& 31)) &&& (1 : Int32)) = (0 : Int32) then bC (F_MText_fails N w (5 : Int32) (nI i) H21) fun v89 H90 => B_MText_assigns_148 N w v20 H90 else B_MText_assigns_148 N w v20 H21 else B_MText_assigns_148 N w v20 H21 := by
    intro v6 z
    unfold B_MText_assigns_47
    rw [ck_t (TS hB.1.1.1), show (61 : Int32) = nI (tyK 17) from rfl, ev_accepts hB.1 (by decide), if_neg (show ¬ tkk L (i + 1) = 17 by omega), bC_v, if_pos (show (0 : Int32) = 0 from rfl)]
  have no16 : ∀ (v6 : Int32), tkk L (i + 1) = 16 → F_MText_numberOf N w (nI i) (2 : Int32) (B.sD w 11 (nI (i + 1))) = some (0, failB (B.sD w 11 (nI (i + 1))) w 5 (tkp L i)) → (Out (SBo p (E 0 0)) (SRo w) w L (i + 1) A' (B.sD w 11 (nI (i + 1))) ((some (.inr A'.sh.length, refA A' 5 (nI (tkp L i))) : Option (Ot Unit × Hp))) (B_MText_assigns_47 N w (nI i) v6 (B.sD w 11 (nI (i + 1)))) (fun j _ A' _ B' => (PS p w T L g E Nm Pv nL lc dp ln lk lf hd i cs A B) j A' B')) := by
    intro v6 z e
    obtain ⟨B2, f1, f2, f3⟩ := fz_148 (N := N) (c := 0) z5
    rw [g16 v6 z, bC_t e, bnd_t, if_neg z5.n0, f1]
    exact Out.no (k := 5) hB.1 (by decide) (by decide) hi' f2 (SRo_fail.tr f3)
  have no1 : tkk L (i + 1) ≠ 17 → tkk L (i + 1) ≠ 16 → (Out (SBo p (E 0 0)) (SRo w) w L (i + 1) A' (B.sD w 11 (nI (i + 1))) ((some (.inr A'.sh.length, refA A' 1 (nI (tkp L (i + 1)))) : Option (Ot Unit × Hp))) (some ((), failB (B.sD w 11 (nI (i + 1))) w 1 (tkp L (i + 1)))) (fun j _ A' _ B' => (PS p w T L g E Nm Pv nL lc dp ln lk lf hd i cs A B) j A' B')) := fun _ _ => Out.no (k := 1) hB.1 (by decide) (by decide) hi' (hB.1.fail (by decide) (by decide)) SRo_fail
  have no17 : ∀ v92 : Int32, tkk L (i + 1) = 17 → (Out (SBo p (E 0 0)) (SRo w) w L (i + 1) A' (B.sD w 11 (nI (i + 1))) ((some (.inr A'.sh.length, refA A' 5 (nI (tkp L i))) : Option (Ot Unit × Hp))) (B_MText_assigns_76 N w (nI i) v92 ((B.sD w 11 (nI (i + 1))).sD w 11 (nI (i + 1 + 1)))) (fun j _ A' _ B' => (PS p w T L g E Nm Pv nL lc dp ln lk lf hd i cs A B) j A' B')) := by
    intro v92 z
    have hB2 := hB.nx (hB.1.gt (by omega))
    have z6 : Zf (failB ((B.sD w 11 (nI (i + 1))).sD w 11 (nI (i + 1 + 1))) w 5 (tkp L i)) w 5 (tkp L i) := hB2.1.fail (by decide) (by decide)
    unfold B_MText_assigns_76
    rw [ck_t (TS hB2.1.1.1), bC_t (show F_MText_fails N w (5 : Int32) (nI i) _ = _ from ev_fails (k := 5) hB2.1 hi), fz_82 z6]
    exact Out.no (k := 5) hB.1 (by decide) (by decide) hi' z6 ((same.rf.sD (by unfold SRo; omega)).tr SRo_fail)
  unfold asR
  rw [kn_ev hA hC s1 (by omega), ev_sort hB hC hi hN]
  unfold kix
  cases hk : fnm (Nm 1) (nmT g L i) (E 0 0) 0 with
  | some k =>
    have hkb := fnm_bd _ _ _ hk
    have hw := hW k (by omega)
    have hl : fnm ln (nmT g L i) nL 0 = none := by
      cases z : fnm ln (nmT g L i) nL 0 with
      | none => rfl
      | some l => exact (no_both hC hk z).elim
    rw [hl]
    simp only
    obtain ⟨n1, n2, n3, n4⟩ := hA.2.1.1 k (by omega)
    have kx := (PrK hP' k (by omega)).2
    rw [bT_v, sign1, bC_v, tail]
    by_cases z17 : tkk L (i + 1) = 17
    · have hB2 := hB.nx (hB.1.gt (by omega))
      rw [if_pos z17, if_pos (Or.inl z17), ck_t kx, bnd_t, n2, if_neg (fun z => by have := (nI_eq (b := 5) (by omega) (by decide)).mp z; omega), g17 _ z17, bC_t (ev_lc hB2 hC (hB2.1.tn hi) hN), hl, if_neg (show ¬ nI (E 2 k + 2) = (1 : Int32) from fun z => by have := (nI_eq (b := 1) (by omega) (by decide)).mp z; omega)]
      exact no17 _ z17
    · rw [if_neg z17]
      by_cases z16 : tkk L (i + 1) = 16
      · rw [if_pos z16, if_pos (Or.inr z16), ck_t kx, bnd_t, n2]
        have en := ev_numberOf (so := 0) hB hC hi hN (by decide)
        rw [hl, hk] at en
        simp only at en
        by_cases q0 : E 2 k = 0
        · rw [if_pos q0] at en
          have hc : E 3 k < E 4 0 := hw.2.2.1 q0
          have h16 : E 4 0 ≤ 16 := hE.1
          have hs20 := (hE.2.2.2.2.2.2.2.2.2.2.2.2.1 (E 17 0 - 1) (by omega)).2.2.1
          have hB3 : (JB w T L g E Nm Pv nL lc dp ln lk lf hd (i + 1) ((B.sD w 11 (nI (i + 1))).sD (w + 7) i (nI (E 3 k)))) := hB.sD rfl
          rw [if_pos (show nI (E 2 k) = (0 : Int32) by rw [q0]; rfl), bnd_t, n3, g16 _ z16, bC_t (show F_MText_numberOf N w (nI i) (2 : Int32) _ = _ from en), bnd_t, hB3.1.2.2.2.1, if_pos (show (0 : Int32) = 0 from rfl), rf_t (TP_32 hB3.1.1.1), bnd_t, hB3.2.1.2.2.2.2.1, show nI (E 17 0) - 1 = nI (E 17 0 - 1) by
            have := nI_dif (a := E 17 0) (b := 1) h171
            exact this, ar_t (TA_32 hB3.1.1.1), rdI (show E 17 0 - 1 < 16 by omega) (by decide), (hB3.2.1.2.2.2.2.2 (E 17 0 - 1) (by omega)).2.2.2.1]
          by_cases qb : E 20 (E 17 0 - 1) / 2 ^ E 3 k % 2 = 1
          · have nb : ¬ ((nI (E 20 (E 17 0 - 1)) >>> (nI (E 3 k) &&& 31)) &&& (1 : Int32)) = 0 := fun z => (nI_bit0 (by omega) (by omega)).mp z qb
            rw [if_neg nb, if_neg nb]
            unfold B_Body_readGiven_133 B_MText_assigns_148 B_Body_readGiven_189 B_MText_assigns_188
            simp only [bT_u, bC_u]
            rw [ck_t kx, bnd_t, n3, ck_t (rS_9 hG'), ck_t (TS hB3.1.1.1)]
            refine Out.pre (jo_gm hA hB3 hC hN hc (by omega) ?_ ?_) exA.rf (same.rf.sD (by unfold SRo; omega)) (Nat.le_refl _) hi' (by omega)
            rotate_left
            · intro B' k p0 hz
              exact ⟨B', by rw [ck_t (TS hz.1), fz_takes hz], hz, same.rf⟩
            intro j m cs4 A4 B4 hm hA4 hB4 h1 t1 t2 t3 hd1 hd2 hcf hmf h6 hmn hde
            have hpj := pos_j hB4.1
            have hh : hld (E 6 m) ≤ 1 := by unfold hld; split <;> omega
            have hA5 := hA4.add (v := 36) hC
            have hA6 := hA5.add (v := nI m) hC
            have hG6 := hA6.1.1.1
            have hl4 := hB4.1.2.2.2.2.1
            rw [rf_t hA4.2.2.1, ck_t (PrS (hA4.pP hC)), bC_t (ev_add hA4 (hA4.pP hC) (by omega)), rf_t hA5.2.2.1, ck_t (PrS (hA5.pP hC)), bC_t (ev_add hA5 (hA5.pP hC) (by omega)), ck_t (rS_9 hG6), rf_t (rP_9_0 hG6), ck_t (rS_1 hG6), ck_t (TS hB4.1.1.1)]
            refine Out.pre (jo_semi (i := i) (cs := cs) (A0 := A) (B0 := B) hA6 hB4 hC (Nat.le_refl _) (fun x hx => ⟨rfl, rfl, rfl⟩) (by omega) (by omega) (by omega) (fun x hx => ?_) (fun t ht => ?_) (fun q4 cd mn nu hag => ?_)) (add_ex.tr add_ex) same.rf (Nat.le_refl _) hl4 (by omega)
            · rw [code_add, if_neg (by omega), code_add, if_neg (by omega), hcf x hx, hcd]
            · rw [(hmf t (by omega)).1, (hmf t (by omega)).2, rdf (by omega), rdw (by omega), rdw (by omega), rdw (by omega)]
              exact ⟨rfl, rfl⟩
            · have c0 := hag.1 (cs4 + hld (E 6 m)) (by omega) (by omega)
              rw [code_add, if_neg (by omega), code_add, if_pos rfl] at c0
              have c1 := hag.1 (cs4 + hld (E 6 m) + 1) (by omega) (by omega)
              rw [code_add, if_pos rfl] at c1
              have m1 := (hag.2 (i + 2) (by omega) (by omega)).1
              rw [show B4.D (w + 7) (i + 2) = nI m from hmn] at m1
              refine DS.sto (tyF_k q) (tyF_k z16) m1 hm qb (hde cd mn nu ⟨fun x a b => ?_, fun t a b => hag.2 t (by omega) b⟩) (tyF_k q4) (fun z => ?_) c0 c1
              · rw [hag.1 x a (by omega), code_add, if_neg (by omega), code_add, if_neg (by omega)]
              · have hh1 : hld (E 6 m) = 1 := if_pos z
                rw [hag.1 cs4 (by omega) (by omega), code_add, if_neg (by omega), code_add, if_neg (by omega)]
                exact h6 z
          · have nb : ((nI (E 20 (E 17 0 - 1)) >>> (nI (E 3 k) &&& 31)) &&& (1 : Int32)) = 0 := (nI_bit0 (by omega) (by omega)).mpr qb
            have z7 : Zf (failB ((B.sD w 11 (nI (i + 1))).sD (w + 7) i (nI (E 3 k))) w 5 (tkp L i)) w 5 (tkp L i) := hB3.1.fail (by decide) (by decide)
            obtain ⟨B2, f1, f2, f3⟩ := fz_148 (N := N) (c := nI (E 3 k)) z7
            rw [if_pos nb, if_pos nb, bC_t (show F_MText_fails N w (5 : Int32) (nI i) _ = _ from ev_fails (k := 5) hB3.1 hi), f1]
            exact Out.no (k := 5) hB.1 (by decide) (by decide) hi' f2 ((same.rf.sD (by unfold SRo; omega)).tr (SRo_fail.tr f3))
        · rw [if_neg q0] at en
          rw [if_neg (show ¬ nI (E 2 k) = (0 : Int32) from fun z => q0 ((nI_eq (b := 0) (by omega) (by decide)).mp z))]
          exact no16 _ z16 en
      · rw [if_neg z16, if_neg (by omega)]
        exact no1 z17 z16
  | none =>
    cases hl : fnm ln (nmT g L i) nL 0 with
    | some l =>
      have hlb := fnm_bd _ _ _ hl
      have h12 : nL ≤ 12 := hC.2.2.2.1
      have hlf := hC.2.2.2.2.2.2.1 l (by omega)
      simp only [Option.map_some]
      obtain ⟨n1, n2, n3, n4⟩ := hA.2.2.2.2.2.2.2.2.2.1 l (by omega)
      have kx := (PrK hP' (E 0 0 + l) (by omega)).2
      rw [bT_v, sign1, bC_v, tail]
      by_cases z17 : tkk L (i + 1) = 17
      · have hn2 := hB.1.gt (show 2 ≤ tkk L (i + 1) by omega)
        have hB2 := hB.nx hn2
        have fx := (hB2.2.2.2.2.2 l (by omega)).2.2
        have lkx := (hB2.2.2.2.2.2 l (by omega)).2.1
        rw [if_pos z17, if_pos (Or.inl z17), ck_t kx, bnd_t, n2, g17 _ z17, bC_t (ev_lc hB2 hC (hB2.1.tn hi) hN), hl, if_pos (show (1 : Int32) = 1 from rfl), show oNI (some l) = nI l from rfl, rf_t (TP_40 hB2.1.1.1), ar_t (TA_40 hB2.1.1.1), rdI (show l < 12 by omega) (by decide), fx]
        by_cases qf : lf l = 0
        · rw [if_pos (show nI (5 + lf l) = (5 : Int32) by rw [qf]; rfl), if_pos (show nI (lf l) = (0 : Int32) by rw [qf]; rfl)]
          have hA2 := hA.adv hC hn2
          have hG2 := hA2.1.1.1
          have hB3 : (JB w T L g E Nm Pv nL lc dp ln lk lf hd (i + 1 + 1) (((B.sD w 11 (nI (i + 1))).sD w 11 (nI (i + 1 + 1))).sD (w + 7) i (nI l))) := hB2.sD rfl
          have u1 : tkp L (i + 1) + 1 ≤ tkp L (i + 1 + 1) := nx_pos hb.1 hn2
          have kx2 : (advA A' L (i + 1)).sh[p + 2 + (E 0 0 + l)]? = some (2, 0) := (PrK (hA2.pP hC) (E 0 0 + l) (by omega)).2
          obtain ⟨o1, o2, o3, o4⟩ := hA2.2.2.2.2.2.2.2.2.2.1 l (by omega)
          unfold B_Body_readGiven_42 B_MText_assigns_82 B_Body_readGiven_189 B_MText_assigns_188
          simp only [bT_u, bC_u]
          rw [ck_t (rS_9 hG'), rf_t (rP_9_0 hG'), ck_t (rS_1 hG'), bC_t (ev_advance hA.1 hn2), ck_t kx2, bnd_t, o4, ck_t (TS hB2.1.1.1), bnd_t (e := Hp.D _ w 9), hB2.1.2.2.2.1, if_pos (by decide), rf_t (TP_8 hB2.1.1.1), ar_t (TA_8 hB2.1.1.1), wrI (show i < 6002 by omega) (by decide), rf_t (TP_39 hB3.1.1.1), ar_t (TA_39 hB3.1.1.1), rdI (show l < 12 by omega) (by decide), (hB3.2.2.2.2.2 l (by omega)).2.1]
          have hpl : pl (lk l) = lk l := if_neg hlf.2.1
          refine Out.pre (Out.bind (show (Out (SBo p (E 0 0)) (SRo w) w L (i + 1 + 1) _ _ (F_Body_want N (X_BodyE N 140) 9 (nI (lk l)) (advA A' L (i + 1))) (F_MText_wants N (X_TextE N 50) w (nI (lk l)) _) (fun j v A4 _ B4 => (PW p w T L g E Nm Pv nL lc dp ln lk lf hd (lk l) (i + 1 + 1) cs (advA A' L (i + 1)) _) j v A4 B4)) by
            have := jo_want (N := N) (kw := lk l) (jo_expr hN hC) hA2 hB3 hC (show cs + 8 ≤ 2 * tkp L (i + 1 + 1) by omega) hlf.1
            rw [hpl] at this
            exact this) ?_ ?_) (adv_ex.mono SL_SBo (Nat.le_refl _)) ((same.rf.sD (by unfold SRo; omega)).sD (by unfold SRo; omega)) (show i + 1 ≤ i + 1 + 1 by omega) hn2 (by omega)
          rotate_left
          · intro y B' k p0 hz
            exact ⟨(), B', by rw [ck_t (TS hz.1), fz_takes hz], hz, same.rf⟩
          intro j v A4 y B4 hij hxa4 hsb4 hQ
          obtain ⟨cs4, rfl, hA4, hB4, h1, hd1, hd2, hcf, hmf, h6, hde⟩ := hQ
          have hh : hld (lk l) = 0 := if_neg hlf.2.1
          rw [hh] at hA4
          have hpj := pos_j hB4.1
          have hA4' : (JA p T L g E Nm Pv nL lc dp ln lk lf hd j cs4 A4) := hA4
          have hA5 := hA4'.add (v := 34) hC
          have hA6 := hA5.add (v := nI l) hC
          have hG6 := hA6.1.1.1
          obtain ⟨r1, r2, r3, r4⟩ := hA5.2.2.2.2.2.2.2.2.2.1 l (by omega)
          have hl4 := hB4.1.2.2.2.2.1
          rw [rf_t hA4'.2.2.1, ck_t (PrS (hA4'.pP hC)), bC_t (ev_add hA4' (hA4'.pP hC) (by omega)), rf_t hA5.2.2.1, bnd_t, r3, ck_t (PrS (hA5.pP hC)), bC_t (ev_add hA5 (hA5.pP hC) (by omega)), ck_t (rS_9 hG6), rf_t (rP_9_0 hG6), ck_t (rS_1 hG6), ck_t (TS hB4.1.1.1)]
          refine Out.pre (jo_semi (i := i) (cs := cs) (A0 := A) (B0 := B) hA6 hB4 hC (Nat.le_refl _) (fun x hx => ⟨rfl, rfl, rfl⟩) (by omega) (by omega) (by omega) (fun x hx => ?_) (fun t ht => ?_) (fun q4 cd mn nu hag => ?_)) (add_ex.tr add_ex) same.rf (Nat.le_refl _) hl4 (by omega)
          · rw [code_add, if_neg (by omega), code_add, if_neg (by omega), hcf x hx, code_adv hp, hcd]
          · rw [(hmf t (by omega)).1, (hmf t (by omega)).2, rdf (by omega), rdw (by omega), rdw (by omega), rdw (by omega), rdw (by omega), rdw (by omega)]
            exact ⟨rfl, rfl⟩
          · have c0 := hag.1 cs4 (by omega) (by omega)
            rw [code_add, if_neg (by omega), code_add, if_pos rfl] at c0
            have c1 := hag.1 (cs4 + 1) (by omega) (by omega)
            rw [code_add, if_pos rfl] at c1
            have m1 := (hag.2 i (by omega) (by omega)).1
            rw [(hmf i (by omega)).1, rds] at m1
            refine DS.stl (tyF_k q) (tyF_k z17) m1 (by omega) (hpl ▸ hde cd mn nu ⟨fun x a b => ?_, fun t a b => hag.2 t (by omega) b⟩) (tyF_k q4) c0 c1
            rw [hag.1 x a (by omega), code_add, if_neg (by omega), code_add, if_neg (by omega)]
        · rw [if_neg (show ¬ nI (5 + lf l) = (5 : Int32) from fun z => by have := (nI_eq (b := 5) (by omega) (by decide)).mp z; omega), if_neg (show ¬ nI (lf l) = (0 : Int32) from fun z => qf ((nI_eq (b := 0) (by omega) (by decide)).mp z))]
          exact no17 _ z17
      · rw [if_neg z17]
        by_cases z16 : tkk L (i + 1) = 16
        · have en := ev_numberOf (so := 0) hB hC hi hN (by decide)
          rw [hl] at en
          rw [if_pos z16, if_pos (Or.inr z16), ck_t kx, bnd_t, n2, if_neg (show ¬ nI (5 + lf l) = (0 : Int32) from fun z => by have := (nI_eq (b := 0) (by omega) (by decide)).mp z; omega)]
          exact no16 _ z16 en
        · rw [if_neg z16, if_neg (by omega)]
          exact no1 z17 z16
    | none =>
      have z4 : Zf (failB (B.sD w 11 (nI (i + 1))) w 4 (tkp L i)) w 4 (tkp L i) := hB.1.fail (by decide) (by decide)
      simp only [Option.map_none]
      rw [bT_z, bC_v, bnd_t, if_neg z4.nle]
      exact Out.no (k := 4) hB.1 (by decide) (by decide) hi' z4 SRo_fail
end Par
