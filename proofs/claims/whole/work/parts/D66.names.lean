/-! ===== lists of names ===== -/
def HA (p T : Nat) (L : List (Nat × Nat × Int32 × Bool × Nat)) (g : Nat → Nat) (E : Nat → Nat → Nat) (Nm : Nat → Nat → List Nat) (i : Nat) (A : Hp) : Prop := LA A L T g i ∧ EA1 A p E Nm ∧ A.D p 1 = nI (E 0 0) ∧ A.P 8 2 = .ref p
def HB (w T : Nat) (L : List (Nat × Nat × Int32 × Bool × Nat)) (g : Nat → Nat) (E : Nat → Nat → Nat) (Nm : Nat → Nat → List Nat) (i : Nat) (B : Hp) : Prop := LB B w L T g i ∧ EB1 B w E Nm ∧ B.D w 37 = 0
section Par
variable {N p w T : Nat} {L : List (Nat × Nat × Int32 × Bool × Nat)} {g : Nat → Nat} {E : Nat → Nat → Nat} {Nm : Nat → Nat → List Nat} {Pv : Nat → Nat → Int32} {nL lc dp : Nat} {ln : Nat → List Nat} {lk lf : Nat → Nat} {hd : Nat → Int32}
theorem HA.sl {A A' : Hp} {i j k : Nat} (h : HA p T L g E Nm i A) (hx : exA SL k A A') (hp : p = 133 ∨ p = 325) (hW : W1 E) (hl : LA A' L T g j) : HA p T L g E Nm j A' := by
  have hle := h.1.1.1.len
  have w56 := hW.1
  obtain ⟨h1, h2, h3, h4⟩ := h
  refine ⟨hl, h2.fr (fun a f z1 z2 => (hx.2.2.2 a f (by omega) (decide_eq_false (by omega))).1) (fun a n z1 z2 z3 => hx.nmd SL_lt (decide_eq_false (by omega)) (by omega) z3), ?_, ?_⟩
  · rw [(hx.2.2.2 p 1 (by omega) (decide_eq_false (by omega))).1]; exact h3
  · rw [(hx.2.2.2 8 2 (by omega) (decide_eq_false (by omega))).2]; exact h4
theorem HB.at {B B' : Hp} {i j : Nat} (h : HB w T L g E Nm i B) (hl : LB B' w L T g j) (hs : same (fun a f => (a = w ∧ f = 11) ∨ a = w + 7) B B') : HB w T L g E Nm j B' := by
  obtain ⟨h1, h2, h3⟩ := h
  refine ⟨hl, h2.fr ⟨?_, ?_, ?_⟩ (fun a f z => hs.1 _ _ (by omega)), by rw [hs.1 _ _ (by omega)]; exact h3⟩ <;> (funext f; exact hs.1 _ _ (by omega))
/-- the class behind the word or the comma -/
def nbA (N : Nat) (p1 p2 p3 p4 : Int32) (kq : Int32 → Int32 → Hp → Option (Ot Int32 × Hp)) (l5 l6 : Int32) (H14 : Hp) : Option (Ot Int32 × Hp) :=
    rf (H14.P 8 0) fun a15 =>
    ck (H14.sh[a15]? = some (1, 0)) <|
    bnd ((H14.D a15 3)) fun x18 =>
    rf (H14.P 8 0) fun a19 =>
    ck (H14.sh[a19]? = some (1, 0)) <|
    bT (F_Lexer_takeName N a19 H14) fun v23 H24 =>
    on v23 fun a26 =>
    bT (F_Reader_known N 8 a26 x18 H24) fun v28 H29 =>
    on v28 fun a31 =>
    ck (H29.sh[a31]? = some (2, 0)) <|
    bnd ((H29.D a31 2)) fun x33 =>
    bnd (((1 : Int32) <<< (x33 &&& 31))) fun x34 =>
    bnd ((H29.D a31 1)) fun x35 =>
    if x35 = p2 then
    if ((p3 ||| l5) &&& x34) = (0 : Int32) then
    B_Reader_namesBehind_95 N 8 p1 p2 p3 p4 kq l5 l6 x18 a31 x34 H29
    else
    rf (H29.P 8 0) fun a38 =>
    ck (H29.sh[a38]? = some (1, 0)) <|
    bT (F_Lexer_refuse N a38 (3 : Int32) x18 H29) fun v42 H43 =>
    B_Reader_namesBehind_95 N 8 p1 p2 p3 p4 kq l5 l6 x18 a31 x34 H43
    else
    B_Reader_namesBehind_95 N 8 p1 p2 p3 p4 kq l5 l6 x18 a31 x34 H29
/-- what the class makes of a name -/
theorem ev_nb {A : Hp} {i so told may mask s : Nat} {p1 l6 : Int32} {kq : Int32 → Int32 → Hp → Option (Ot Int32 × Hp)} {n : List Nat} (ha : HA p T L g E Nm i A) (hp : p = 133 ∨ p = 325) (hW : W1 E) (hN : 7000 ≤ N) (hso : so ≤ 3) (ht : told < 65536) (hm : may < 65536) (hk : mask < 65536) (hs : strA A s n) {x : Nat} :
    (bT (F_Reader_known N 8 s (nI x) A) fun v28 H29 => on v28 fun a31 => ck (H29.sh[a31]? = some (2, 0)) <| bnd ((H29.D a31 2)) fun x33 => bnd (((1 : Int32) <<< (x33 &&& 31))) fun x34 => bnd ((H29.D a31 1)) fun x35 => if x35 = nI so then if ((nI told ||| nI mask) &&& x34) = (0 : Int32) then B_Reader_namesBehind_95 N 8 p1 (nI so) (nI told) (nI may) kq (nI mask) l6 (nI x) a31 x34 H29 else rf (H29.P 8 0) fun a38 => ck (H29.sh[a38]? = some (1, 0)) <| bT (F_Lexer_refuse N a38 (3 : Int32) (nI x) H29) fun v42 H43 => B_Reader_namesBehind_95 N 8 p1 (nI so) (nI told) (nI may) kq (nI mask) l6 (nI x) a31 x34 H43 else B_Reader_namesBehind_95 N 8 p1 (nI so) (nI told) (nI may) kq (nI mask) l6 (nI x) a31 x34 H29) =
    match fnm (Nm 1) n (E 0 0) 0 with
    | some k => if E 2 k = so then (if (told ||| mask) / 2 ^ E 3 k % 2 = 1 then some (.inr A.sh.length, refA A 3 (nI x)) else if may / 2 ^ E 3 k % 2 = 1 then (if tkk L i = 14 then kq (nI (mask ||| 2 ^ E 3 k)) (l6 + 1) A else some (.inl (nI (mask ||| 2 ^ E 3 k)), A)) else some (.inr A.sh.length, refA A 5 (nI x))) else some (.inr A.sh.length, refA A 5 (nI x))
    | none => some (.inr A.sh.length, refA A 4 (nI x)) := by
  have hG := ha.1.1.1
  have hi := ha.1.2.2.2.2.2.2.1
  have hP := ha.1.pP hp
  have w56 := hW.1
  have h81 := (ha.1.2.2.2.2.2.2.2.2.2.2.2.1 i hi).2.1
  have k14 : (nI (tkk L i) = (14 : Int32)) = (tkk L i = 14) := propext (nI_eq (b := 14) (by omega) (by decide))
  rw [ev_hknown ha.1 ha.2.1 ha.2.2.1 ha.2.2.2 hp hW hs (by omega)]
  cases hkk : fnm (Nm 1) n (E 0 0) 0 with
  | none => rfl
  | some k =>
    have hkb := fnm_bd _ _ _ hkk
    have hw := hW.2 k (by omega)
    obtain ⟨n1, n2, n3, n4⟩ := ha.2.1 k (by omega)
    have hKn := PrK hP k (by omega)
    have e2 : (nI (E 2 k) = nI so) = (E 2 k = so) := propext ⟨fun z => (nI_eq (by omega) (by omega)).mp z, fun z => by rw [z]⟩
    simp only
    rw [bT_v, on_t, ck_t hKn.2, bnd_t, n3, nI_shl (show E 3 k < 31 by omega), bnd_t, bnd_t, n2, nI_or]
    have hand : ∀ y, y < 65536 → ((nI y &&& nI (2 ^ E 3 k) = 0) = ¬ y / 2 ^ E 3 k % 2 = 1) := fun y hy => by
      have : y &&& 2 ^ E 3 k ≤ y := Nat.and_le_left
      rw [nI_and y _ (by omega), ← and_p2]
      exact propext (nI_eq (b := 0) (by omega) (by decide))
    have e95 : B_Reader_namesBehind_95 N 8 p1 (nI so) (nI told) (nI may) kq (nI mask) l6 (nI x) (p + 2 + k) (nI (2 ^ E 3 k)) A = if E 2 k = so then (if may / 2 ^ E 3 k % 2 = 1 then (if tkk L i = 14 then kq (nI (mask ||| 2 ^ E 3 k)) (l6 + 1) A else some (.inl (nI (mask ||| 2 ^ E 3 k)), A)) else some (.inr A.sh.length, refA A 5 (nI x))) else some (.inr A.sh.length, refA A 5 (nI x)) := by
      have e112 : B_Reader_namesBehind_112 N 8 p1 (nI so) (nI told) (nI may) kq (nI mask) l6 (nI x) (nI (2 ^ E 3 k)) A = some (.inr A.sh.length, refA A 5 (nI x)) := by
        unfold B_Reader_namesBehind_112
        rw [ck_t (rS_8 hG), rf_t (rP_8_0 hG), ck_t (rS_1 hG), ev_refuse hG, bT_z]
      have e122 : B_Reader_namesBehind_122 N 8 p1 (nI so) (nI told) (nI may) kq (nI mask) l6 (nI (2 ^ E 3 k)) A = if tkk L i = 14 then kq (nI (mask ||| 2 ^ E 3 k)) (l6 + 1) A else some (.inl (nI (mask ||| 2 ^ E 3 k)), A) := by
        unfold B_Reader_namesBehind_122
        rw [ck_t (rS_8 hG), rf_t (rP_8_0 hG), ck_t (rS_1 hG), bnd_t, ha.1.2.2.2.2.1, nI_or]
        simp only [k14]
      unfold B_Reader_namesBehind_95
      rw [ck_t hKn.2, bnd_t, n2, e112, e122]
      simp only [e2, hand may hm]
      by_cases z : E 2 k = so
      · rw [if_pos z, if_pos z]
        by_cases y : may / 2 ^ E 3 k % 2 = 1
        · rw [if_neg (fun q => q y), if_pos y]
        · rw [if_pos y, if_neg y]
      · rw [if_neg z, if_neg z]
    rw [e95]
    simp only [e2, hand (told ||| mask) (Nat.or_lt_two_pow (n := 16) ht hk)]
    by_cases z : E 2 k = so
    · rw [if_pos z, if_pos z]
      by_cases y : (told ||| mask) / 2 ^ E 3 k % 2 = 1
      · rw [if_neg (fun q => q y), if_pos y, rf_t (rP_8_0 hG), ck_t (rS_1 hG), ev_refuse hG, bT_z, if_pos z]
      · rw [if_pos y, if_neg y, if_pos z]
    · rw [if_neg z, if_neg z, if_neg z]
theorem fz_n5 {B : Hp} {k p0 fu : Nat} {a b c d : Int32} (h : Zf B w k p0) : B_MText_names_5 N w a b (fu + 1) c d B = some (c, B) := by
  rw [B_MText_names_5, ck_t (TS h.1), bnd_t, if_neg h.n0]
theorem fz_n46 {B : Hp} {k p0 fu : Nat} {a b c d : Int32} (h : Zf B w k p0) : B_MText_names_46 N w a b (fun l3 l4 H => B_MText_names_5 N w a b (fu + 1) l3 l4 H) c d B = some (c ||| d, B) := by
  unfold B_MText_names_46
  rw [ck_t (TS h.1), bC_t (fz_accepts h)]
  exact fz_n5 h
/-- components -/
theorem jo_hnames {told may : Nat} {p1 : Int32} (hp : p = 133 ∨ p = 325) (hW : W1 E) (hN : 7000 ≤ N) (ht : told < 65536) (hm : may < 65536) :
    ∀ M mask i A B fu fu', pcn 16 mask + M = 17 → mask < 65536 → M < fu → M + 1 < fu' → HA p T L g E Nm i A → HB w T L g E Nm i B →
      (Out (SD p) (SRd w) w L i A B (nbA N p1 (nI 0) (nI told) (nI may) (fun l5 l6 H => B_Reader_namesBehind_19 N 8 p1 (nI 0) (nI told) (nI may) fu l5 l6 H) (nI mask) (nI (pcn 16 mask)) A) (B_MText_names_5 N w (nI told) (nI may) fu' (nI mask) 1 B) (fun j v A' y B' => ∃ m', m' < 65536 ∧ v = nI m' ∧ y = nI m' ∧ HA p T L g E Nm j A' ∧ HB w T L g E Nm j B' ∧ i < j ∧ (∃ kx, exA SL kx A A') ∧ same (fun a f => (a = w ∧ f = 11) ∨ (a = w + 7 ∧ i ≤ f)) B B' ∧ ∀ c, m' / 2 ^ c % 2 = 1 → mask / 2 ^ c % 2 = 1 ∨ may / 2 ^ c % 2 = 1)) := by
  intro M
  induction M with
  | zero => intro mask i A B fu fu' h1; have := pcn_le 16 mask; omega
  | succ M ihm =>
    intro mask i A B fu fu' hpM hk hfu hfu' ha hb
    have hG := ha.1.1.1
    have hi := ha.1.2.2.2.2.2.2.1
    have hp16 := pcn_le 16 mask
    obtain ⟨fu, rfl⟩ : ∃ z, fu = z + 1 := ⟨fu - 1, by omega⟩
    obtain ⟨fu', rfl⟩ : ∃ z, fu' = z + 2 := ⟨fu' - 2, by omega⟩
    rw [B_MText_names_5, ck_t (TS hb.1.1.1), bnd_t, hb.1.2.2.2.1, if_pos (show (0 : Int32) = 0 from rfl), if_neg (show ¬ (1 : Int32) = 0 by decide)]
    unfold nbA
    rw [rf_t (rP_8_0 hG), ck_t (rS_1 hG), bnd_t, ha.1.2.2.2.2.2.1, rf_t (rP_8_0 hG), ck_t (rS_1 hG)]
    refine Out.bind (jo_uname ha.1 hb.1 (by omega)) ?_ ?_
    rotate_left
    · intro y B' k p0 hz
      exact ⟨nI mask ||| 0, B', by rw [bC_t (fz_componentOf hz), bnd_t, if_neg hz.n0, fz_n46 hz], hz, same.rf⟩
    intro j v A1 y B1 hij hxa hsb hQ
    obtain ⟨rfl, t2, hn1, rfl, hBe, hl1, hr1, hx1, s, rfl, s1, s2, s3⟩ := hQ
    have hA1 := ha.sl hx1 hp hW hl1
    have hsB1 : same (fun a f => (a = w ∧ f = 11) ∨ (a = w + 7 ∧ i ≤ f)) B B1 := by rw [hBe]; exact same.rf.sD (by omega)
    have hB1 : HB w T L g E Nm (i + 1) B1 := hb.at hr1 (hsB1.mono (fun a f z => by omega))
    rw [on_t, ev_nb (so := 0) hA1 hp hW hN (by decide) ht hm hk s1, ev_hcompOf hB1.1 hB1.2.1 hB1.2.2 hW hi hN hk ht hm]
    have z3 : Zf (failB B1 w 3 (tkp L i)) w 3 (tkp L i) := hB1.1.fail (by decide) (by decide)
    have z4 : Zf (failB B1 w 4 (tkp L i)) w 4 (tkp L i) := hB1.1.fail (by decide) (by decide)
    have z5 : Zf (failB B1 w 5 (tkp L i)) w 5 (tkp L i) := hB1.1.fail (by decide) (by decide)
    cases hkk : fnm (Nm 1) (nmT g L i) (E 0 0) 0 with
    | none =>
      simp only
      rw [bC_v, bnd_t, if_neg z4.n0, fz_n46 z4]
      exact Out.noD (k := 4) hB1.1 (by decide) (by decide) hn1 z4 SRd_fail
    | some k =>
      have hkb := fnm_bd _ _ _ hkk
      have hw := hW.2 k (by omega)
      simp only
      by_cases qs : E 2 k = 0
      case neg =>
        rw [if_neg qs, if_neg qs, bC_v, bnd_t, if_neg z5.n0, fz_n46 z5]
        exact Out.noD (k := 5) hB1.1 (by decide) (by decide) hn1 z5 SRd_fail
      rw [if_pos qs, if_pos qs, Nat.or_comm told mask]
      by_cases qb : (mask ||| told) / 2 ^ E 3 k % 2 = 1
      · rw [if_pos qb, if_pos qb, bC_v, bnd_t, if_neg z3.n0, fz_n46 z3]
        exact Out.noD (k := 3) hB1.1 (by decide) (by decide) hn1 z3 SRd_fail
      rw [if_neg qb, if_neg qb]
      have hl2 : LB (B1.sD (w + 7) i (nI (E 3 k))) w L T g (i + 1) := hB1.1.sD (by omega)
      by_cases qm : may / 2 ^ E 3 k % 2 = 1
      case neg =>
        have z7 : Zf (failB (B1.sD (w + 7) i (nI (E 3 k))) w 5 (tkp L i)) w 5 (tkp L i) := hl2.fail (by decide) (by decide)
        rw [if_neg qm, if_neg qm, bC_v, bnd_t, if_neg z7.n0, fz_n46 z7]
        exact Out.noD (k := 5) hB1.1 (by decide) (by decide) hn1 z7 ((same.rf.sD (by unfold SRd; omega)).tr SRd_fail)
      rw [if_pos qm, if_pos qm, bC_v]
      generalize hB2e : B1.sD (w + 7) i (nI (E 3 k)) = B2 at hl2
      have hsB2 : same (fun a f => (a = w ∧ f = 11) ∨ (a = w + 7 ∧ i ≤ f)) B1 B2 := by rw [← hB2e]; exact same.rf.sD (by omega)
      have hB2 : HB w T L g E Nm (i + 1) B2 := hB1.at hl2 (hsB2.mono (fun a f z => by omega))
      have hb0 : mask / 2 ^ E 3 k % 2 = 0 := by
        have : ¬ mask / 2 ^ E 3 k % 2 = 1 := fun z => qb (by rw [bit_tb, Nat.testBit_or, bit_tb.mp z, Bool.true_or])
        omega
      have hpc : pcn 16 (mask ||| 2 ^ E 3 k) = pcn 16 mask + 1 := pcn_or 16 _ _ hw.2.1 hb0
      have hmk : mask ||| 2 ^ E 3 k < 65536 := Nat.or_lt_two_pow (n := 16) hk (Nat.pow_lt_pow_right (m := E 3 k) (n := 16) (by decide) hw.2.1)
      have hp17 := pcn_le 16 (mask ||| 2 ^ E 3 k)
      have hbits : ∀ {c}, (mask ||| 2 ^ E 3 k) / 2 ^ c % 2 = 1 → mask / 2 ^ c % 2 = 1 ∨ may / 2 ^ c % 2 = 1 := fun {c} hc => (bit_or.mp hc).elim Or.inl (fun z => Or.inr (by rw [z]; exact qm))
      unfold B_MText_names_46
      rw [bnd_t, hB2.1.2.2.2.1, if_pos (show (0 : Int32) = 0 from rfl), nI_shl (show E 3 k < 31 by omega), nI_or, ck_t (TS hB2.1.1.1), show (44 : Int32) = nI (tyK 14) from rfl, ev_accepts hB2.1 (by decide)]
      refine Out.pre (i := i + 1) (j := i + 1) (k := 0) (A1 := A1) (B1 := B2) ?_ exA.rf (hsB2.mono (fun a f z => by unfold SRd; omega)) (Nat.le_refl _) hn1 (by omega)
      by_cases z : tkk L (i + 1) = 14
      · have hn4 := hB2.1.gt (show 2 ≤ tkk L (i + 1) by omega)
        have hA5 := hA1.sl (adv_ex (i := i + 1) (L := L)) hp hW (adv_LA hA1.1 hn4)
        have hsB5 : same (fun a f => (a = w ∧ f = 11) ∨ (a = w + 7 ∧ i ≤ f)) B2 (B2.sD w 11 (nI (i + 1 + 1))) := same.rf.sD (by omega)
        have hB5 : HB w T L g E Nm (i + 1 + 1) (B2.sD w 11 (nI (i + 1 + 1))) := hB2.at (hB2.1.nx hn4) (hsB5.mono (fun a f z => by omega))
        have hG1 := hA1.1.1.1
        rw [if_pos z, if_pos z, bC_v, nI_1, ← hpc]
        show (Out (SD p) (SRd w) w L (i + 1) A1 B2 (B_Reader_namesBehind_19 N 8 p1 (nI 0) (nI told) (nI may) (fu + 1) (nI (mask ||| 2 ^ E 3 k)) (nI (pcn 16 (mask ||| 2 ^ E 3 k))) A1) (B_MText_names_5 N w (nI told) (nI may) (fu' + 1) (nI (mask ||| 2 ^ E 3 k)) 1 (B2.sD w 11 (nI (i + 1 + 1)))) _)
        rw [B_Reader_namesBehind_19, if_neg (show ¬ (16 : Int32) < nI (pcn 16 (mask ||| 2 ^ E 3 k)) from nI_nlt (a := 16) (by omega) (by decide)), ck_t (rS_8 hG1), rf_t (rP_8_0 hG1), ck_t (rS_1 hG1), bC_t (ev_advance hA1.1 hn4)]
        refine Out.pre (Out.wk (ihm (mask ||| 2 ^ E 3 k) (i + 1 + 1) _ _ fu (fu' + 1) (by omega) hmk (by omega) (by omega) hA5 hB5) ?_) (adv_ex.mono SL_SD (Nat.le_refl _)) (same.rf.sD (by unfold SRd; omega)) (show i + 1 ≤ i + 1 + 1 by omega) hn4 (by omega)
        rintro j6 v6 A6 y6 B6 q1 q2 q3 ⟨m', r1, r2, r3, r4, r5, r6, ⟨kx, r7⟩, r8, r9⟩
        exact ⟨m', r1, r2, r3, r4, r5, by omega, ⟨_, (hx1.tr adv_ex).tr r7⟩, ((hsB1.tr hsB2).tr hsB5).tr (r8.mono (fun a f z => by omega)), fun c hc => (r9 c hc).elim hbits Or.inr⟩
      · rw [if_neg z, if_neg z, bC_v]
        show (Out (SD p) (SRd w) w L (i + 1) A1 B2 _ (B_MText_names_5 N w (nI told) (nI may) (fu' + 1) (nI (mask ||| 2 ^ E 3 k)) 0 B2) _)
        rw [B_MText_names_5, ck_t (TS hB2.1.1.1), bnd_t, hB2.1.2.2.2.1, if_pos (show (0 : Int32) = 0 from rfl), if_pos (show (0 : Int32) = 0 from rfl)]
        exact Out.ok hn1 ⟨mask ||| 2 ^ E 3 k, hmk, rfl, rfl, hA1, hB2, by omega, ⟨_, hx1⟩, hsB1.tr hsB2, fun c hc => hbits hc⟩
theorem fz_s4 {B : Hp} {k p0 fu : Nat} {c d : Int32} (h : Zf B w k p0) : B_MText_systemNames_4 N w (fu + 1) c d B = some (c, B) := by
  rw [B_MText_systemNames_4, ck_t (TS h.1), bnd_t, if_neg h.n0]
theorem fz_s75 {B : Hp} {k p0 fu : Nat} {c d : Int32} (h : Zf B w k p0) : B_MText_systemNames_75 N w (fun l1 l2 H => B_MText_systemNames_4 N w (fu + 1) l1 l2 H) c d B = some (c ||| 0, B) := by
  unfold B_MText_systemNames_75 B_MText_systemNames_99
  rw [ck_t (TS h.1), bC_t (fz_numberOf h), bnd_t, if_neg h.n0, ck_t (TS h.1), bC_t (fz_accepts h)]
  exact fz_s4 h
/-- systems -/
theorem jo_hsys {p1 : Int32} (hp : p = 133 ∨ p = 325) (hW : W1 E) (hN : 7000 ≤ N) :
    ∀ M mask i A B fu fu', pcn 16 mask + M = 17 → mask < 65536 → M < fu → M + 1 < fu' → HA p T L g E Nm i A → HB w T L g E Nm i B →
      (Out (SD p) (SRd w) w L i A B (nbA N p1 (nI 3) (nI 0) (nI 65535) (fun l5 l6 H => B_Reader_namesBehind_19 N 8 p1 (nI 3) (nI 0) (nI 65535) fu l5 l6 H) (nI mask) (nI (pcn 16 mask)) A) (B_MText_systemNames_4 N w fu' (nI mask) 1 B) (fun j v A' y B' => ∃ m', m' < 65536 ∧ v = nI m' ∧ y = nI m' ∧ HA p T L g E Nm j A' ∧ HB w T L g E Nm j B' ∧ i < j ∧ (∃ kx, exA SL kx A A') ∧ same (fun a f => (a = w ∧ f = 11) ∨ (a = w + 7 ∧ i ≤ f)) B B')) := by
  intro M
  induction M with
  | zero => intro mask i A B fu fu' h1; have := pcn_le 16 mask; omega
  | succ M ihm =>
    intro mask i A B fu fu' hpM hk hfu hfu' ha hb
    have hG := ha.1.1.1
    have hi := ha.1.2.2.2.2.2.2.1
    have w56 := hW.1
    have hp16 := pcn_le 16 mask
    obtain ⟨fu, rfl⟩ : ∃ z, fu = z + 1 := ⟨fu - 1, by omega⟩
    obtain ⟨fu', rfl⟩ : ∃ z, fu' = z + 2 := ⟨fu' - 2, by omega⟩
    rw [B_MText_systemNames_4, ck_t (TS hb.1.1.1), bnd_t, hb.1.2.2.2.1, if_pos (show (0 : Int32) = 0 from rfl), if_neg (show ¬ (1 : Int32) = 0 by decide)]
    unfold nbA
    rw [rf_t (rP_8_0 hG), ck_t (rS_1 hG), bnd_t, ha.1.2.2.2.2.2.1, rf_t (rP_8_0 hG), ck_t (rS_1 hG)]
    refine Out.bind (jo_uname ha.1 hb.1 (by omega)) ?_ ?_
    rotate_left
    · intro y B' k p0 hz
      refine ⟨nI mask ||| 0, B', ?_, hz, same.rf⟩
      unfold B_MText_systemNames_36
      rw [bnd_t, if_neg hz.nle, if_pos (by decide), fz_s75 hz]
    intro j v A1 y B1 hij hxa hsb hQ
    obtain ⟨rfl, t2, hn1, rfl, hBe, hl1, hr1, hx1, s, rfl, s1, s2, s3⟩ := hQ
    have hA1 := ha.sl hx1 hp hW hl1
    have hsB1 : same (fun a f => (a = w ∧ f = 11) ∨ (a = w + 7 ∧ i ≤ f)) B B1 := by rw [hBe]; exact same.rf.sD (by omega)
    have hB1 : HB w T L g E Nm (i + 1) B1 := hb.at hr1 (hsB1.mono (fun a f z => by omega))
    have eix := ev_index (N := N) (f := Nm 1) hB1.1.1.1 hB1.2.1.1 w56 (hB1.1.tn hi) (fun k hk => (hB1.2.1.2 k hk).1) hN
    have en : F_MText_numberOf N w (nI i) (5 : Int32) B1 = _ := ev_hnum (so := 3) hB1.1 hB1.2.1 hB1.2.2 hW hi hN (by decide)
    rw [on_t, ev_nb (so := 3) hA1 hp hW hN (by decide) (by decide) (by decide) hk s1, bnd_t, hB1.1.2.2.2.1, if_pos (by decide), bC_t eix]
    have z3 : Zf (failB B1 w 3 (tkp L i)) w 3 (tkp L i) := hB1.1.fail (by decide) (by decide)
    have z4 : Zf (failB B1 w 4 (tkp L i)) w 4 (tkp L i) := hB1.1.fail (by decide) (by decide)
    have z5 : Zf (failB B1 w 5 (tkp L i)) w 5 (tkp L i) := hB1.1.fail (by decide) (by decide)
    unfold B_MText_systemNames_36
    cases hkk : fnm (Nm 1) (nmT g L i) (E 0 0) 0 with
    | none =>
      rw [hkk] at en
      simp only at en ⊢
      unfold B_MText_systemNames_75 B_MText_systemNames_99
      rw [show oNI none = -1 from rfl, if_pos (by decide), ck_t (TS hB1.1.1.1), bC_t en, bnd_t, if_neg z4.n0, ck_t (TS z4.1), bC_t (fz_accepts z4)]
      show (Out (SD p) (SRd w) w L (i + 1) A1 B1 _ (B_MText_systemNames_4 N w (fu' + 1) (nI mask ||| 0) 0 _) _)
      rw [fz_s4 z4]
      exact Out.noD (k := 4) hB1.1 (by decide) (by decide) hn1 z4 SRd_fail
    | some k =>
      have hkb := fnm_bd _ _ _ hkk
      have hw := hW.2 k (by omega)
      rw [hkk] at en
      simp only at en ⊢
      have e5 : (nI (E 2 k + 2) = (5 : Int32)) = (E 2 k = 3) := propext ⟨fun z => by have := (nI_eq (b := 5) (by omega) (by decide)).mp z; omega, fun z => by rw [z]; rfl⟩
      rw [show oNI (some k) = nI k from rfl, if_neg (nI_pos (by omega)), ck_t (TS hB1.1.1.1), rf_t (TP_14 hB1.1.1.1), ar_t (TA_14 hB1.1.1.1), rdI (show k < 56 by omega) (by decide), (hB1.2.1.2 k (by omega)).2.1]
      simp only [e5]
      by_cases qs : E 2 k = 3
      case neg =>
        rw [if_neg qs] at en
        unfold B_MText_systemNames_75 B_MText_systemNames_99
        rw [if_neg qs, if_neg qs, ck_t (TS hB1.1.1.1), bC_t en, bnd_t, if_neg z5.n0, ck_t (TS z5.1), bC_t (fz_accepts z5)]
        show (Out (SD p) (SRd w) w L (i + 1) A1 B1 _ (B_MText_systemNames_4 N w (fu' + 1) (nI mask ||| 0) 0 _) _)
        rw [fz_s4 z5]
        exact Out.noD (k := 5) hB1.1 (by decide) (by decide) hn1 z5 SRd_fail
      rw [if_pos qs] at en
      rw [if_pos qs, if_pos qs, rf_t (TP_15 hB1.1.1.1), ar_t (TA_15 hB1.1.1.1), rdI (show k < 56 by omega) (by decide), (hB1.2.1.2 k (by omega)).2.2, Nat.zero_or]
      by_cases qb : mask / 2 ^ E 3 k % 2 = 1
      · rw [if_pos qb, if_pos ((nI_bit1 (by omega) (by omega)).mpr qb), bC_t (show F_MText_fails N w (3 : Int32) (nI i) B1 = _ from ev_fails (k := 3) hB1.1 hi), fz_s75 z3]
        exact Out.noD (k := 3) hB1.1 (by decide) (by decide) hn1 z3 SRd_fail
      have hmay : 65535 / 2 ^ E 3 k % 2 = 1 := by
        have h0 : ∀ x : Fin 16, 65535 / 2 ^ x.val % 2 = 1 := by decide
        exact h0 ⟨E 3 k, hw.2.1⟩
      rw [if_neg qb, if_pos hmay, if_neg (fun z => qb ((nI_bit1 (by omega) (by omega)).mp z))]
      have hl2 : LB (B1.sD (w + 7) i (nI (E 3 k))) w L T g (i + 1) := hB1.1.sD (by omega)
      unfold B_MText_systemNames_75 B_MText_systemNames_99
      rw [ck_t (TS hB1.1.1.1), bC_t en]
      generalize hB2e : B1.sD (w + 7) i (nI (E 3 k)) = B2 at hl2
      have hsB2 : same (fun a f => (a = w ∧ f = 11) ∨ (a = w + 7 ∧ i ≤ f)) B1 B2 := by rw [← hB2e]; exact same.rf.sD (by omega)
      have hB2 : HB w T L g E Nm (i + 1) B2 := hB1.at hl2 (hsB2.mono (fun a f z => by omega))
      have hpc : pcn 16 (mask ||| 2 ^ E 3 k) = pcn 16 mask + 1 := pcn_or 16 _ _ hw.2.1 (by omega)
      have hmk : mask ||| 2 ^ E 3 k < 65536 := Nat.or_lt_two_pow (n := 16) hk (Nat.pow_lt_pow_right (m := E 3 k) (n := 16) (by decide) hw.2.1)
      have hp17 := pcn_le 16 (mask ||| 2 ^ E 3 k)
      rw [bnd_t, hB2.1.2.2.2.1, if_pos (show (0 : Int32) = 0 from rfl), nI_shl (show E 3 k < 31 by omega), nI_or, ck_t (TS hB2.1.1.1), show (44 : Int32) = nI (tyK 14) from rfl, ev_accepts hB2.1 (by decide)]
      refine Out.pre (i := i + 1) (j := i + 1) (k := 0) (A1 := A1) (B1 := B2) ?_ exA.rf (hsB2.mono (fun a f z => by unfold SRd; omega)) (Nat.le_refl _) hn1 (by omega)
      by_cases z : tkk L (i + 1) = 14
      · have hn4 := hB2.1.gt (show 2 ≤ tkk L (i + 1) by omega)
        have hA5 := hA1.sl (adv_ex (i := i + 1) (L := L)) hp hW (adv_LA hA1.1 hn4)
        have hsB5 : same (fun a f => (a = w ∧ f = 11) ∨ (a = w + 7 ∧ i ≤ f)) B2 (B2.sD w 11 (nI (i + 1 + 1))) := same.rf.sD (by omega)
        have hB5 : HB w T L g E Nm (i + 1 + 1) (B2.sD w 11 (nI (i + 1 + 1))) := hB2.at (hB2.1.nx hn4) (hsB5.mono (fun a f z => by omega))
        have hG1 := hA1.1.1.1
        rw [if_pos z, if_pos z, bC_v, nI_1, ← hpc]
        show (Out (SD p) (SRd w) w L (i + 1) A1 B2 (B_Reader_namesBehind_19 N 8 p1 (nI 3) (nI 0) (nI 65535) (fu + 1) (nI (mask ||| 2 ^ E 3 k)) (nI (pcn 16 (mask ||| 2 ^ E 3 k))) A1) (B_MText_systemNames_4 N w (fu' + 1) (nI (mask ||| 2 ^ E 3 k)) 1 (B2.sD w 11 (nI (i + 1 + 1)))) _)
        rw [B_Reader_namesBehind_19, if_neg (show ¬ (16 : Int32) < nI (pcn 16 (mask ||| 2 ^ E 3 k)) from nI_nlt (a := 16) (by omega) (by decide)), ck_t (rS_8 hG1), rf_t (rP_8_0 hG1), ck_t (rS_1 hG1), bC_t (ev_advance hA1.1 hn4)]
        refine Out.pre (Out.wk (ihm (mask ||| 2 ^ E 3 k) (i + 1 + 1) _ _ fu (fu' + 1) (by omega) hmk (by omega) (by omega) hA5 hB5) ?_) (adv_ex.mono SL_SD (Nat.le_refl _)) (same.rf.sD (by unfold SRd; omega)) (show i + 1 ≤ i + 1 + 1 by omega) hn4 (by omega)
        rintro j6 v6 A6 y6 B6 q1 q2 q3 ⟨m', r1, r2, r3, r4, r5, r6, ⟨kx, r7⟩, r8⟩
        exact ⟨m', r1, r2, r3, r4, r5, by omega, ⟨_, (hx1.tr adv_ex).tr r7⟩, ((hsB1.tr hsB2).tr hsB5).tr (r8.mono (fun a f z => by omega))⟩
      · rw [if_neg z, if_neg z, bC_v]
        show (Out (SD p) (SRd w) w L (i + 1) A1 B2 _ (B_MText_systemNames_4 N w (fu' + 1) (nI (mask ||| 2 ^ E 3 k)) 0 B2) _)
        rw [B_MText_systemNames_4, ck_t (TS hB2.1.1.1), bnd_t, hB2.1.2.2.2.1, if_pos (show (0 : Int32) = 0 from rfl), if_pos (show (0 : Int32) = 0 from rfl)]
        exact Out.ok hn1 ⟨mask ||| 2 ^ E 3 k, hmk, rfl, rfl, hA1, hB2, by omega, ⟨_, hx1⟩, hsB1.tr hsB2⟩
end Par
