/-! ===== locals on the reference's side, new names ===== -/
section Par
variable {N p w T : Nat} {L : List (Nat × Nat × Int32 × Bool × Nat)} {g : Nat → Nat} {E : Nat → Nat → Nat} {Nm : Nat → Nat → List Nat} {Pv : Nat → Nat → Int32} {nL lc dp : Nat} {ln : Nat → List Nat} {lk lf : Nat → Nat} {hd : Nat → Int32}
def tlB (B : Hp) (w t n : Nat) (k f : Int32) : Hp := ((((B.sD (w + 7) t (nI n)).sD (w + 28) n (nI t)).sD (w + 29) n k).sD (w + 30) n f).sD w 37 (nI (n + 1))
theorem tlB_sm {B : Hp} {t n : Nat} {k f : Int32} : same (SRo w) B (tlB B w t n k f) := (((((same.rf.sD (by unfold SRo; omega)).sD (by unfold SRo; omega)).sD (by unfold SRo; omega)).sD (by unfold SRo; omega)).sD (by unfold SRo; omega))
theorem ev_tells {B : Hp} {i t k f : Nat} (h : (JB w T L g E Nm Pv nL lc dp ln lk lf hd i B)) (h12 : nL < 12) (ht : t < 6002) (hf : f ≤ 1) : F_MText_tells N w (nI t) (nI k) (nI f) B = some ((), tlB B w t nL (nI k) (nI f)) := by
  have hT := h.1.1.1
  have e : B.D w 37 = nI nL := h.2.2.1
  have ef : vp_nar .boolean (nI f) = nI f := by
    rcases (show f = 0 ∨ f = 1 by omega) with rfl | rfl <;> rfl
  have hT1 : isT (B.sD (w + 7) t (nI nL)) w := hT
  have hT2 : isT ((B.sD (w + 7) t (nI nL)).sD (w + 28) nL (nI t)) w := hT
  have hT3 : isT (((B.sD (w + 7) t (nI nL)).sD (w + 28) nL (nI t)).sD (w + 29) nL (nI k)) w := hT
  unfold F_MText_tells
  rw [ck_t (TS hT), bnd_t, h.1.2.2.2.1, if_pos (by decide), rf_t (TP_8 hT), bnd_t, e, ar_t (TA_8 hT), wrI ht (by decide), rf_t (TP_38 hT1), bnd_t, rdw (by omega), e, ar_t (TA_38 hT1), wrI h12 (by decide), rf_t (TP_39 hT2), bnd_t, rdw (by omega), rdw (by omega), e, ar_t (TA_39 hT2), wrI h12 (by decide), rf_t (TP_40 hT3), bnd_t, rdw (by omega), rdw (by omega), rdw (by omega), e, ar_t (TA_40 hT3), wrI h12 (by decide), ef, bnd_t, rdw (by omega), rdw (by omega), rdw (by omega), rdw (by omega), e, bnd_t, nI_1]
  rfl
theorem JB.tell {B : Hp} {i t k f : Nat} {nm : List Nat} (h : (JB w T L g E Nm Pv nL lc dp ln lk lf hd i B)) (hn : tokN B w t nm) : (JB w T L g E Nm Pv (nL + 1) lc dp (upn ln nL nm) (up1 lk nL k) (up1 lf nL f) hd i (tlB B w t nL (nI k) (nI f))) := by
  obtain ⟨⟨t1, t2, t3, t4, t5, t6⟩, e, b1, b2, b3, b4⟩ := h
  have rd : ∀ x y, x ≠ w + 7 → x ≠ w + 28 → x ≠ w + 29 → x ≠ w + 30 → ¬ (x = w ∧ y = 37) → (tlB B w t nL (nI k) (nI f)).D x y = B.D x y := by
    intro x y h1 h2 h3 h4 h5
    unfold tlB
    by_cases q : x = w
    · subst q
      rw [rdf (by omega), rdw (by omega), rdw (by omega), rdw (by omega), rdw (by omega)]
    · rw [rdw q, rdw h4, rdw h3, rdw h2, rdw h1]
  have tk : ∀ u m, tokN B w u m → tokN (tlB B w t nL (nI k) (nI f)) w u m := fun u m hu => hu.ex (by funext z; exact rd _ _ (by omega) (by omega) (by omega) (by omega) (by omega)) (by funext z; exact rd _ _ (by omega) (by omega) (by omega) (by omega) (by omega)) (by funext z; exact rd _ _ (by omega) (by omega) (by omega) (by omega) (by omega))
  refine ⟨⟨?_, fun j hj => ?_, ?_, ?_, t5, t6⟩, e.ex tlB_sm, ?_, ?_, ?_, fun x hx => ?_⟩
  · unfold tlB
    exact ((((t1.sD (by omega) (by omega)).sD (by omega) (by omega)).sD (by omega) (by omega)).sD (by omega) (by omega)).sD (by omega) (by omega)
  · rw [rd _ _ (by omega) (by omega) (by omega) (by omega) (by omega), rd _ _ (by omega) (by omega) (by omega) (by omega) (by omega), rd _ _ (by omega) (by omega) (by omega) (by omega) (by omega), rd _ _ (by omega) (by omega) (by omega) (by omega) (by omega), rd _ _ (by omega) (by omega) (by omega) (by omega) (by omega)]
    exact t2 j hj
  · rw [rd _ _ (by omega) (by omega) (by omega) (by omega) (by omega)]; exact t3
  · rw [rd _ _ (by omega) (by omega) (by omega) (by omega) (by omega)]; exact t4
  · unfold tlB; rw [rds]
  · rw [rd _ _ (by omega) (by omega) (by omega) (by omega) (by omega)]; exact b2
  · rw [rd _ _ (by omega) (by omega) (by omega) (by omega) (by omega)]; exact b3
  · by_cases q : x = nL
    · subst q
      rw [upn_s, up1_s, up1_s]
      refine ⟨⟨t, ?_, tk t nm hn⟩, ?_, ?_⟩
      · unfold tlB; rw [rdw (by omega), rdw (by omega), rdw (by omega), rds]
      · unfold tlB; rw [rdw (by omega), rdw (by omega), rds]
      · unfold tlB; rw [rdw (by omega), rds]
    · rw [upn_o q, up1_o q, up1_o q]
      obtain ⟨⟨u, u1, u2⟩, u3, u4⟩ := b4 x (by omega)
      refine ⟨⟨u, ?_, tk u _ u2⟩, ?_, ?_⟩
      · unfold tlB; rw [rdw (by omega), rdw (by omega), rdw (by omega), rdf q, rdw (by omega)]; exact u1
      · unfold tlB; rw [rdw (by omega), rdw (by omega), rdf q, rdw (by omega), rdw (by omega)]; exact u3
      · unfold tlB; rw [rdw (by omega), rdf q, rdw (by omega), rdw (by omega), rdw (by omega)]; exact u4
theorem fz_tells {B : Hp} {k p0 : Nat} {a b c : Int32} (h : Zf B w k p0) : F_MText_tells N w a b c B = some ((), B) := by
  unfold F_MText_tells
  rw [ck_t (TS h.1), bnd_t, if_neg h.nle]
theorem fz_localName {B : Hp} {k p0 : Nat} (h : Zf B w k p0) : F_MText_localName N w B = some (B.D w 11, B) := by
  unfold F_MText_localName B_MText_localName_27
  rw [ck_t (TS h.1), bC_t (fz_name h), bnd_t, if_neg h.n0, ck_t (TS h.1), bnd_t, if_neg h.n0]
/-! a new name -/
def nlC (N : Nat) (p0 : Nat) (x5 : Int32) (v10 : Option Nat) (H11 : Hp) : Option (Ot (Option Nat) × Hp) :=
    on v10 fun a13 =>
    bnd ((H11.D p0 3)) fun x14 =>
    if x14 < (12 : Int32) then
    B_Body_newLocal_34 N p0 x5 a13 H11
    else
    rf (H11.P p0 0) fun a16 =>
    ck (H11.sh[a16]? = some (1, 0)) <|
    bT (F_Lexer_refuse N a16 (2 : Int32) x5 H11) fun v20 H21 =>
    B_Body_newLocal_34 N p0 x5 a13 H21
def nlR (N : Nat) (p0 : Nat) (v3 : Int32) (H4 : Hp) : Option (Int32 × Hp) :=
    bnd ((H4.D p0 9)) fun x5 =>
    if x5 = (0 : Int32) then
    bnd ((H4.D p0 37)) fun x37 =>
    if x37 = (12 : Int32) then
    bC (F_MText_fails N p0 (2 : Int32) v3 H4) fun v40 H41 =>
    B_MText_localName_27 N p0 v3 H41
    else
    B_MText_localName_27 N p0 v3 H4
    else
    B_MText_localName_27 N p0 v3 H4
theorem jo_new {A B : Hp} {i cs : Nat} (ha : (JA p T L g E Nm Pv nL lc dp ln lk lf hd i cs A)) (hb : (JB w T L g E Nm Pv nL lc dp ln lk lf hd i B)) (hC : (CX p E Nm nL lc dp ln lk lf hd)) (hN : 7000 ≤ N) : (Out (SBo p (E 0 0)) (SRo w) w L i A B (F_Body_newLocal N 9 A) (F_MText_localName N w B) (fun j v A' y B' => j = i + 1 ∧ tkk L i = 2 ∧ y = nI i ∧ B' = B.sD w 11 (nI (i + 1)) ∧ (JA p T L g E Nm Pv nL lc dp ln lk lf hd (i + 1) cs A') ∧ (JB w T L g E Nm Pv nL lc dp ln lk lf hd (i + 1) B') ∧ (∀ x, A'.D (p + 191) x = A.D (p + 191) x) ∧ nL < 12 ∧ (∀ x, x < E 0 0 → Nm 1 x ≠ nmT g L i) ∧ ∃ s, v = some s ∧ strA A' s (nmT g L i) ∧ 626 ≤ s ∧ ∀ b, A'.P s 0 = .ref b → 626 ≤ b)) := by
  have hG := ha.1.1.1
  have hi := ha.1.2.2.2.2.2.2.1
  have e1 : F_Body_newLocal N 9 A = bT (F_Lexer_takeName N 1 A) (nlC N 9 (nI (tkp L i))) := by
    unfold F_Body_newLocal
    rw [ck_t (rS_9 hG), rf_t (rP_9_0 hG), ck_t (rS_1 hG), bnd_t, ha.1.2.2.2.2.2.1, rf_t (rP_9_0 hG), ck_t (rS_1 hG)]
    rfl
  have e2 : F_MText_localName N w B = bC (F_MText_name N w B) (nlR N w) := by
    unfold F_MText_localName
    rw [ck_t (TS hb.1.1.1)]
    rfl
  rw [e1, e2]
  refine Out.bind (jo_name ha hb hC (by omega)) ?_ ?_
  rotate_left
  · intro y B' k p0 hz
    refine ⟨y, B', ?_, hz, same.rf⟩
    unfold nlR B_MText_localName_27
    rw [bnd_t, if_neg hz.n0, ck_t (TS hz.1), bnd_t, if_neg hz.n0]
  intro j v A' y B' hij hxa hsb hQ
  obtain ⟨rfl, q2, rfl, rfl, hA, hB, hco, hxl, s, rfl, hs1, hs2, hs3⟩ := hQ
  have hG' := hA.1.1.1
  have hi' := hA.1.2.2.2.2.2.2.1
  have hP' := hA.pP hC
  have h12 : nL ≤ 12 := hC.2.2.2.1
  unfold nlC nlR
  rw [on_t, bnd_t, hA.2.2.2.2.1, bnd_t, hB.1.2.2.2.1, if_pos (show (0 : Int32) = 0 from rfl), bnd_t (e := Hp.D _ w 37), hB.2.2.1]
  by_cases q : nL < 12
  · rw [if_pos (show nI nL < (12 : Int32) from nI_lt (b := 12) q (by decide)), if_neg (show ¬ nI nL = (12 : Int32) from fun z => by have := (nI_eq (b := 12) (by omega) (by decide)).mp z; omega)]
    unfold B_Body_newLocal_34 B_MText_localName_27 B_MText_localName_50
    have htn := hB.1.tn hi
    rw [ck_t (rS_9 hG'), rf_t hA.2.2.1, ck_t (PrS hP'), bC_t (ev_fnd hA hC hs1 (by omega)), ck_t (TS hB.1.1.1), bnd_t, hB.1.2.2.2.1, if_pos (show (0 : Int32) = 0 from rfl), bC_t (ev_lc hB hC htn hN)]
    have z3 : Zf (failB (B.sD w 11 (nI (i + 1))) w 3 (tkp L i)) w 3 (tkp L i) := hB.1.fail (by decide) (by decide)
    cases q3 : fnm (Nm 1) (nmT g L i) (E 0 0) 0 with
    | some k =>
      have q4 : fnm ln (nmT g L i) nL 0 = none := by
        cases z : fnm ln (nmT g L i) nL 0 with
        | none => rfl
        | some l => exact (no_both hC q3 z).elim
      have hkb := fnm_bd _ _ _ q3
      have h56 : E 0 0 ≤ 56 := hC.1.2.2.2.2.2.2.2.2.2.2.2.2.2.1
      rw [q4]
      show (Out (SBo p (E 0 0)) (SRo w) w L (i + 1) A' (B.sD w 11 (nI (i + 1))) (nl (some (p + 2 + k)) _ _) _ _)
      rw [show oNI none = (-1 : Int32) from rfl, if_neg (show ¬ (0 : Int32) ≤ -1 by decide), bC_t (ev_ix hB hC htn hN), q3, show oNI (some k) = nI k from rfl, if_neg (show ¬ nI k < (0 : Int32) from nI_pos (by omega)), ck_t (TS hB.1.1.1), bC_t (show F_MText_fails N w (3 : Int32) (nI i) (B.sD w 11 (nI (i + 1))) = _ from ev_fails (k := 3) hB.1 hi)]
      show (Out (SBo p (E 0 0)) (SRo w) w L (i + 1) A' (B.sD w 11 (nI (i + 1))) ((rf (A'.P 9 0) fun a24 => ck (A'.sh[a24]? = some (1, 0)) <| bT (F_Lexer_refuse N a24 (3 : Int32) (nI (tkp L i)) A') fun v28 H29 => some (.inl (some s), H29))) _ _)
      rw [rf_t (rP_9_0 hG'), ck_t (rS_1 hG'), ev_refuse hG', bT_z]
      exact Out.no (k := 3) hB.1 (by decide) (by decide) hi' z3 SRo_fail
    | none =>
      cases q4 : fnm ln (nmT g L i) nL 0 with
      | some l =>
        have hlb := fnm_bd _ _ _ q4
        rw [show oNI (some l) = nI l from rfl, if_pos (show (0 : Int32) ≤ nI l from nI_le (a := 0) (by omega) (by omega)), ck_t (TS hB.1.1.1), bC_t (show F_MText_fails N w (3 : Int32) (nI i) (B.sD w 11 (nI (i + 1))) = _ from ev_fails (k := 3) hB.1 hi)]
        show (Out (SBo p (E 0 0)) (SRo w) w L (i + 1) A' (B.sD w 11 (nI (i + 1))) ((rf (A'.P 9 0) fun a24 => ck (A'.sh[a24]? = some (1, 0)) <| bT (F_Lexer_refuse N a24 (3 : Int32) (nI (tkp L i)) A') fun v28 H29 => some (.inl (some s), H29))) _ _)
        rw [rf_t (rP_9_0 hG'), ck_t (rS_1 hG'), ev_refuse hG', bT_z]
        exact Out.no (k := 3) hB.1 (by decide) (by decide) hi' z3 SRo_fail
      | none =>
        rw [show oNI none = (-1 : Int32) from rfl, if_neg (show ¬ (0 : Int32) ≤ -1 by decide), bC_t (ev_ix hB hC htn hN), q3, show oNI none = (-1 : Int32) from rfl, if_pos (show (-1 : Int32) < 0 by decide)]
        show (Out (SBo p (E 0 0)) (SRo w) w L (i + 1) A' (B.sD w 11 (nI (i + 1))) (some (.inl (some s), A')) _ _)
        exact Or.inr ⟨_, _, _, _, i + 1, rfl, rfl, Nat.le_refl _, hi', exA.rf.mono (fun _ _ h => h) (by omega), same.rf, rfl, q2, rfl, rfl, hA, hB, hco, q, fun x hx => fnm_none _ _ q3 x (by omega) (by omega), s, rfl, hs1, hs2, hs3⟩
  · have z2 : Zf (failB (B.sD w 11 (nI (i + 1))) w 2 (tkp L i)) w 2 (tkp L i) := hB.1.fail (by decide) (by decide)
    unfold B_MText_localName_27
    rw [if_neg (show ¬ nI nL < (12 : Int32) from nI_nlt (b := 12) (by omega) (by omega)), if_pos (show nI nL = (12 : Int32) by rw [show nL = 12 by omega]; rfl), rf_t (rP_9_0 hG'), ck_t (rS_1 hG'), ev_refuse hG', bT_z, bC_t (show F_MText_fails N w (2 : Int32) (nI i) (B.sD w 11 (nI (i + 1))) = _ from ev_fails (k := 2) hB.1 hi), ck_t (TS z2.1), bnd_t, if_neg z2.n0]
    exact Out.no (k := 2) hB.1 (by decide) (by decide) hi' z2 SRo_fail
end Par
