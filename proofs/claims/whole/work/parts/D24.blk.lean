/-! ===== blocks and loops around statements ===== -/
theorem nI_dif {a b : Nat} (h : b ≤ a) : nI a - nI b = nI (a - b) := by
  apply Int32.toBitVec_inj.mp
  rw [Int32.toBitVec_sub]
  show BitVec.ofNat 32 a - BitVec.ofNat 32 b = BitVec.ofNat 32 (a - b)
  apply BitVec.eq_of_toNat_eq
  simp only [BitVec.toNat_sub, BitVec.toNat_ofNat]
  omega
/-- a statement was read by both -/
def PS (p w T : Nat) (L : List (Nat × Nat × Int32 × Bool × Nat)) (g : Nat → Nat) (E : Nat → Nat → Nat) (Nm : Nat → Nat → List Nat) (Pv : Nat → Nat → Int32) (nL lc dp : Nat) (ln : Nat → List Nat) (lk lf : Nat → Nat) (hd : Nat → Int32) (i cs : Nat) (A B : Hp) (j : Nat) (A' : Hp) (B' : Hp) : Prop :=
  ∃ (cs' n2 : Nat) (m2 : Nat → List Nat) (k2 f2 : Nat → Nat), (JA p T L g E Nm Pv n2 lc dp m2 k2 f2 hd j cs' A') ∧ (JB w T L g E Nm Pv n2 lc dp m2 k2 f2 hd j B') ∧ (CX p E Nm n2 lc dp m2 k2 f2 hd) ∧ nL ≤ n2 ∧ (∀ x, x < nL → m2 x = ln x ∧ k2 x = lk x ∧ f2 x = lf x) ∧ i < j ∧ cs ≤ cs' ∧ cs' + 1 + 2 * tkp L i ≤ cs + 2 * tkp L j ∧ cfr p cs A A' ∧ mfr w i B B' ∧ ∀ cd mn nu, Agr p w cs cs' i j A' B' cd mn nu → DS (tyF L) mn nu cd E 0 nL lc lk hd dp i j cs cs' n2 k2
/-- a block was read by both -/
def PB (p w T : Nat) (L : List (Nat × Nat × Int32 × Bool × Nat)) (g : Nat → Nat) (E : Nat → Nat → Nat) (Nm : Nat → Nat → List Nat) (Pv : Nat → Nat → Int32) (nL lc dp : Nat) (ln : Nat → List Nat) (lk lf : Nat → Nat) (hd : Nat → Int32) (dd i cs : Nat) (A B : Hp) (j : Nat) (A' : Hp) (B' : Hp) : Prop :=
  ∃ cs', (JA p T L g E Nm Pv nL lc dp ln lk lf hd j cs' A') ∧ (JB w T L g E Nm Pv nL lc dp ln lk lf hd j B') ∧ i < j ∧ cs ≤ cs' ∧ cs' + 4 + 2 * tkp L i ≤ cs + 2 * tkp L j ∧ cfr p cs A A' ∧ mfr w i B B' ∧ ∀ cd mn nu, Agr p w cs cs' i j A' B' cd mn nu → DS (tyF L) mn nu cd E 2 nL lc lk hd dd i j cs cs' nL lk
/-- in a fault the reference's block changes nothing that counts -/
def ZS (w : Nat) (o' : Orc_TextS) : Prop := ∀ (B : Hp) (k p0 : Nat), Zf B w k p0 → ∃ B', o' w B = some ((), B') ∧ Zf B' w k p0 ∧ same (SRo w) B B'
/-- where no block stands, the reference says so -/
def ZN (w T : Nat) (L : List (Nat × Nat × Int32 × Bool × Nat)) (g : Nat → Nat) (o' : Orc_TextS) : Prop := ∀ i B, LB B w L T g i → tkk L i ≠ 10 → ∃ B', o' w B = some ((), B') ∧ Zf B' w 1 (tkp L i) ∧ same (SRo w) B B'
section Par
variable {N p w T : Nat} {L : List (Nat × Nat × Int32 × Bool × Nat)} {g : Nat → Nat} {E : Nat → Nat → Nat} {Nm : Nat → Nat → List Nat} {Pv : Nat → Nat → Int32} {nL lc dp : Nat} {ln : Nat → List Nat} {lk lf : Nat → Nat} {hd : Nat → Int32}
/-- what is known of blocks at depth dp -/
def IHB (o : Orc_BodyS) (o' : Orc_TextS) (p w T : Nat) (L : List (Nat × Nat × Int32 × Bool × Nat)) (g : Nat → Nat) (E : Nat → Nat → Nat) (Nm : Nat → Nat → List Nat) (Pv : Nat → Nat → Int32) (dp : Nat) : Prop := ∀ (nL lc : Nat) (ln : Nat → List Nat) (lk lf : Nat → Nat) (hd : Nat → Int32), (CX p E Nm nL lc dp ln lk lf hd) → ∀ i cs A B, (JA p T L g E Nm Pv nL lc dp ln lk lf hd i cs A) → (JB w T L g E Nm Pv nL lc dp ln lk lf hd i B) → cs + 6 ≤ 2 * tkp L i → (Out (SBo p (E 0 0)) (SRo w) w L i A B (o 9 A) (o' w B) (fun j _ A' _ B' => (PB p w T L g E Nm Pv nL lc dp ln lk lf hd dp i cs A B) j A' B'))
theorem JA.dp2 {A : Hp} {i cs d2 : Nat} (h : (JA p T L g E Nm Pv nL lc dp ln lk lf hd i cs A)) (hE : WE E) (hp : p = 133 ∨ p = 325) : (JA p T L g E Nm Pv nL lc d2 ln lk lf hd i cs (A.sD 9 6 (nI d2))) := by
  have h56 : E 0 0 ≤ 56 := hE.2.2.2.2.2.2.2.2.2.2.2.2.2.1
  have hx : exA (SJ p (E 0 0)) 0 A (A.sD 9 6 (nI d2)) := exA.rf.sD (decide_eq_true (by omega))
  obtain ⟨-, -, b1, b2, b3, b4, b5, b6, b7, b8, b9⟩ := id h
  refine h.chg hE hp hx ⟨b1, by rw [rdf (by decide)]; exact b2, by rw [rdf (by decide)]; exact b3, by rw [rdf (by decide)]; exact b4, rds, by rw [rdw (by omega)]; exact b6, by rw [rdw (by omega)]; exact b7, fun k hk => ?_, fun l hl => by rw [rdw (by omega)]; exact b9 l hl⟩
  obtain ⟨⟨s, s1, s2, s3, s4⟩, a2, a3, a4⟩ := b8 k hk
  obtain ⟨t1, t2⟩ := hx.str (SJ_lt (by omega)) s2 s3 s4
  exact ⟨⟨s, s1, t1, s3, t2⟩, by rw [rdw (by omega)]; exact a2, by rw [rdw (by omega)]; exact a3, by rw [rdw (by omega)]; exact a4⟩
/-- locals are forgotten -/
theorem JA.fgt {A : Hp} {i cs n2 : Nat} {m2 : Nat → List Nat} {k2 f2 : Nat → Nat} (h : (JA p T L g E Nm Pv n2 lc dp m2 k2 f2 hd i cs A)) (hE : WE E) (hp : p = 133 ∨ p = 325) (hn : nL ≤ n2) (h12 : n2 ≤ 12) (he : ∀ x, x < nL → m2 x = ln x ∧ k2 x = lk x ∧ f2 x = lf x) : (JA p T L g E Nm Pv nL lc dp ln lk lf hd i cs ((A.sD p 1 (nI (E 0 0 + nL))).sD 9 3 (nI nL))) := by
  have h56 : E 0 0 ≤ 56 := hE.2.2.2.2.2.2.2.2.2.2.2.2.2.1
  have hx : exA (SJ p (E 0 0)) 0 A ((A.sD p 1 (nI (E 0 0 + nL))).sD 9 3 (nI nL)) := (exA.rf.sD (decide_eq_true (by omega))).sD (decide_eq_true (by omega))
  obtain ⟨-, -, b1, b2, b3, b4, b5, b6, b7, b8, b9⟩ := id h
  refine h.chg hE hp hx ⟨b1, by rw [rdf (by decide), rdw (by omega)]; exact b2, rds, by rw [rdf (by decide), rdw (by omega)]; exact b4, by rw [rdf (by decide), rdw (by omega)]; exact b5, by rw [rdw (by omega), rds], by rw [rdw (by omega), rdf (by decide)]; exact b7, fun k hk => ?_, fun l hl => by rw [rdw (by omega), rdw (by omega)]; exact b9 l hl⟩
  obtain ⟨⟨s, s1, s2, s3, s4⟩, a2, a3, a4⟩ := b8 k (by omega)
  obtain ⟨e1, e2, e3⟩ := he k hk
  rw [← e1, ← e2, ← e3]
  obtain ⟨t1, t2⟩ := hx.str (SJ_lt (by omega)) s2 s3 s4
  exact ⟨⟨s, s1, t1, s3, t2⟩, by rw [rdw (by omega), rdw (by omega)]; exact a2, by rw [rdw (by omega), rdw (by omega)]; exact a3, by rw [rdw (by omega), rdw (by omega)]; exact a4⟩
theorem JB.fgt {B : Hp} {i n2 : Nat} {m2 : Nat → List Nat} {k2 f2 : Nat → Nat} (h : (JB w T L g E Nm Pv n2 lc dp m2 k2 f2 hd i B)) (hn : nL ≤ n2) (he : ∀ x, x < nL → m2 x = ln x ∧ k2 x = lk x ∧ f2 x = lf x) : (JB w T L g E Nm Pv nL lc dp ln lk lf hd i (B.sD w 37 (nI nL))) := by
  obtain ⟨⟨t1, t2, t3, t4, t5, t6⟩, e, b1, b2, b3, b4⟩ := h
  refine ⟨⟨t1.sD (by omega) (by omega), fun j hj => ?_, by rw [rdf (by decide)]; exact t3, by rw [rdf (by decide)]; exact t4, t5, t6⟩, e.ex (same.rf.sD (by unfold SRo; omega)), rds, by rw [rdf (by decide)]; exact b2, by rw [rdf (by decide)]; exact b3, fun k hk => ?_⟩
  · rw [rdw (by omega), rdw (by omega), rdw (by omega), rdw (by omega), rdw (by omega)]
    exact t2 j hj
  · obtain ⟨⟨u, u1, u2⟩, u3, u4⟩ := b4 k (by omega)
    obtain ⟨e1, e2, e3⟩ := he k hk
    rw [← e1, ← e2, ← e3]
    refine ⟨⟨u, by rw [rdw (by omega)]; exact u1, u2.ex ?_ ?_ ?_⟩, by rw [rdw (by omega)]; exact u3, by rw [rdw (by omega)]; exact u4⟩ <;> (funext z; rw [rdw (by omega)])
theorem ev_forget {A : Hp} {i cs n2 : Nat} {m2 : Nat → List Nat} {k2 f2 : Nat → Nat} (h : (JA p T L g E Nm Pv n2 lc dp m2 k2 f2 hd i cs A)) (hP : isP A p) (hE : WE E) (hn : nL ≤ n2) (h12 : n2 ≤ 12) : F_Program_forget N p (nI (n2 - nL)) A = some ((), A.sD p 1 (nI (E 0 0 + nL))) := by
  have h56 : E 0 0 ≤ 56 := hE.2.2.2.2.2.2.2.2.2.2.2.2.2.1
  have e1 : A.D p 1 = nI (E 0 0 + n2) := h.2.2.2.2.2.2.2.1
  unfold F_Program_forget F_Math_max
  rw [ck_t (PrS hP), bnd_t, e1, nI_dif (by omega), show E 0 0 + n2 - (n2 - nL) = E 0 0 + nL by omega]
  by_cases q : E 0 0 + nL = 0
  · rw [q]; rfl
  · rw [if_pos (show (0 : Int32) < nI (E 0 0 + nL) from nI_lt (a := 0) (by omega) (by omega)), bC_v, bnd_t]
/-- a block inside -/
theorem jo_inner {A B : Hp} {i cs : Nat} {o : Orc_BodyS} {o' : Orc_TextS} (hZ : ZS w o') (hZn : ZN w T L g o') (ih : dp < 20 → IHB o o' p w T L g E Nm Pv (dp + 1)) (ha : (JA p T L g E Nm Pv nL lc dp ln lk lf hd i cs A)) (hb : (JB w T L g E Nm Pv nL lc dp ln lk lf hd i B)) (hE : WE E) (hp : p = 133 ∨ p = 325) (h20 : dp ≤ 20) (hC1 : dp < 20 → (CX p E Nm nL lc (dp + 1) ln lk lf hd)) (hcs : cs + 6 ≤ 2 * tkp L i) : (Out (SBo p (E 0 0)) (SRo w) w L i A B (F_Body_innerBlock N o 9 A) (F_MText_block N o' w B) (fun j _ A' _ B' => dp < 20 ∧ (PB p w T L g E Nm Pv nL lc dp ln lk lf hd (dp + 1) i cs A B) j A' B')) := by
  have hG := ha.1.1.1
  have hi := ha.1.2.2.2.2.2.2.1
  have h81 := (ha.1.2.2.2.2.2.2.2.2.2.2.2.1 i hi).2.1
  have e6 : A.D 9 6 = nI dp := ha.2.2.2.2.2.2.1
  have f6 : B.D w 41 = nI dp := hb.2.2.2.1
  have zb : ∀ y B' k p0, Zf B' w k p0 → ∃ y2 B2, (fun (_ : Unit) (H9 : Hp) => bnd (H9.D w 41) fun x10 => bnd (H9.sD w 41 (x10 - (1 : Int32))) fun H11 => some ((), H11)) y B' = some (y2, B2) ∧ Zf B2 w k p0 ∧ same (SRo w) B' B2 := by
    intro y B' k p0 hz
    exact ⟨(), B'.sD w 41 (B'.D w 41 - 1), rfl, hz.sD (by omega), same.rf.sD (by unfold SRo; omega)⟩
  unfold F_Body_innerBlock F_MText_block
  rw [ck_t (rS_9 hG), rf_t (rP_9_0 hG), ck_t (rS_1 hG), bnd_t, ha.1.2.2.2.2.1, ck_t (TS hb.1.1.1), bC_t (show F_MText_is N w (123 : Int32) B = some (bI (decide (tkk L i = 10)), B) from ev_is (k := 10) hb.1 (by decide))]
  unfold B_Body_innerBlock_27 B_MText_block_13
  by_cases q : tkk L i = 10
  · rw [q, if_pos (by rfl), decide_eq_true rfl, if_neg bI_t0, ck_t (rS_9 hG)]
    unfold F_Body_deepen F_MText_deeper
    rw [ck_t (rS_9 hG), bnd_t, e6, ck_t (TS hb.1.1.1), bnd_t, hb.1.2.2.2.1, if_pos (show (0 : Int32) = 0 from rfl), bnd_t, f6]
    unfold B_Body_deepen_24 B_MText_deeper_25
    by_cases q2 : dp < 20
    · have hA1 := ha.dp2 (d2 := dp + 1) hE hp
      have hB1 := hb.dep (d2 := dp + 1)
      rw [if_pos (show nI dp < (20 : Int32) from nI_lt (b := 20) q2 (by decide)), if_neg (show ¬ nI dp = (20 : Int32) from fun z => by have := (nI_eq (b := 20) (by omega) (by decide)).mp z; omega), ck_t (rS_9 hG), bnd_t, e6, bnd_t, nI_1, bT_v, ck_t (TS hb.1.1.1), bnd_t, f6, bnd_t, nI_1, bC_v, ck_t (TS hB1.1.1.1)]
      refine Out.pre (Out.bind (ih q2 nL lc ln lk lf hd (hC1 q2) i cs _ _ hA1 hB1 hcs) ?_ zb) (exA.rf.sD (decide_eq_true (by omega))) (same.rf.sD (by unfold SRo; omega)) (Nat.le_refl _) hi (by omega)
      intro j v A' y B' hij hxa hsb hQ
      obtain ⟨cs', hA2, hB2, h1, h2, h3, h4, h5, h6⟩ := hQ
      have hi2 := hA2.1.2.2.2.2.2.2.1
      rw [bnd_t, hA2.2.2.2.2.2.2.1, nI_m, bnd_t, bnd_t, hB2.2.2.2.1, nI_m, bnd_t]
      refine Or.inr ⟨_, _, _, _, j, rfl, rfl, Nat.le_refl _, hi2, (exA.rf.sD (decide_eq_true (by omega))).mono (fun _ _ h => h) (by omega), same.rf.sD (by unfold SRo; omega), q2, cs', hA2.dp2 hE hp, hB2.dep, h1, h2, h3, fun x hx => ?_, fun t ht => ?_, fun cd mn nu hag => h6 cd mn nu ⟨fun x a b => ?_, fun t a b => ?_⟩⟩
      · rw [rdw (by omega), h4 x hx, rdw (by omega)]
      · rw [rdw (by omega), rdw (by omega), (h5 t ht).1, (h5 t ht).2, rdw (by omega), rdw (by omega)]; exact ⟨rfl, rfl⟩
      · rw [hag.1 x a b, rdw (by omega)]
      · obtain ⟨u1, u2⟩ := hag.2 t a b
        rw [rdw (by omega)] at u1 u2
        exact ⟨u1, u2⟩
    · have z2 : Zf (failB B w 2 (tkp L i)) w 2 (tkp L i) := hb.1.fail (by decide) (by decide)
      have z3 := z2.sD (a := w) (f := 41) (v := (failB B w 2 (tkp L i)).D w 41 + 1) (by omega)
      obtain ⟨B4, z4, z5, z6⟩ := hZ _ _ _ z3
      obtain ⟨y2, B5, z7, z8, z9⟩ := zb () B4 _ _ z5
      rw [if_neg (show ¬ nI dp < (20 : Int32) from nI_nlt (b := 20) (by omega) (by omega)), if_pos (show nI dp = (20 : Int32) by rw [show dp = 20 by omega]; rfl), rf_t (rP_9_0 hG), rf_t (rP_9_0 hG), ck_t (rS_1 hG), bnd_t, ha.1.2.2.2.2.2.1, ck_t (rS_1 hG), ev_refuse hG, bT_z, bT_z, bnd_t, hb.1.2.2.1, bC_t (show F_MText_fails N w (2 : Int32) (nI i) B = some ((), failB B w 2 (tkp L i)) from ev_fails (k := 2) hb.1 hi), ck_t (TS z2.1), bnd_t, bnd_t, bC_v, ck_t (TS z3.1), bC_t z4]
      show (Out (SBo p (E 0 0)) (SRo w) w L i A B _ ((fun (_ : Unit) (H9 : Hp) => bnd (H9.D w 41) fun x10 => bnd (H9.sD w 41 (x10 - (1 : Int32))) fun H11 => some ((), H11)) () B4) _)
      rw [z7]
      exact Out.no (k := 2) hb.1 (by decide) (by decide) hi z8 (SRo_fail.tr ((same.rf.sD (by unfold SRo; omega)).tr (z6.tr z9)))
  · rw [if_neg (show ¬ nI (tkk L i) = (10 : Int32) from fun z => q ((nI_eq (b := 10) (by omega) (by decide)).mp z)), rf_t (rP_9_0 hG), rf_t (rP_9_0 hG), ck_t (rS_1 hG), bnd_t, ha.1.2.2.2.2.2.1, ck_t (rS_1 hG), ev_refuse hG, bT_z, decide_eq_false q, if_pos bI_f, ck_t (TS hb.1.1.1)]
    obtain ⟨B4, z4, z5, z6⟩ := hZn i B hb.1 q
    obtain ⟨y2, B5, z7, z8, z9⟩ := zb () B4 _ _ z5
    rw [bC_t z4]
    show (Out (SBo p (E 0 0)) (SRo w) w L i A B _ ((fun (_ : Unit) (H9 : Hp) => bnd (H9.D w 41) fun x10 => bnd (H9.sD w 41 (x10 - (1 : Int32))) fun H11 => some ((), H11)) () B4) _)
    rw [z7]
    exact Out.no (k := 1) hb.1 (by decide) (by decide) hi z8 (z6.tr z9)
end Par
