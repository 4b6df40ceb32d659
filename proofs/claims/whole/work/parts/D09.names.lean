/-! ===== names in a body; parentheses ===== -/
theorem bC_as {α β γ : Type} {m : Option (α × Hp)} {f : α → Hp → Option (β × Hp)} {k : β → Hp → Option γ} : bC (bC m f) k = bC m (fun v H => bC (f v H) k) := by
  cases m with
  | none => rfl
  | some q => rfl
theorem bT_as {α β γ : Type} {m : Option (Ot α × Hp)} {f : α → Hp → Option (Ot β × Hp)} {k : β → Hp → Option (Ot γ × Hp)} : bT (bT m f) k = bT m (fun v H => bT (f v H) k) := by
  cases m with
  | none => rfl
  | some q =>
    obtain ⟨v, H⟩ := q
    cases v <;> rfl
theorem Out.bindQ {α β γ δ : Type} {S : Nat → Nat → Bool} {R : Nat → Nat → Prop} {w : Nat} {L : List (Nat × Nat × Int32 × Bool × Nat)} {i : Nat} {A B : Hp} {fA : Option (Ot α × Hp)} {fB : Option (β × Hp)} {Post : Nat → α → Hp → β → Hp → Prop} {K : α → Hp → Option (Ot γ × Hp)} {K' : β → Hp → Option (δ × Hp)} {Post' : Nat → γ → Hp → δ → Hp → Prop} {Q : β → Prop}
    (h : Out S R w L i A B fA fB Post) (hy : ∀ y B', fB = some (y, B') → Q y) (hs : ∀ j v A' y B', i ≤ j → exA S (2 * (j - i)) A A' → same R B B' → Post j v A' y B' → Out S R w L j A' B' (K v A') (K' y B') Post')
    (hz : ∀ y B' k p0, Q y → Zf B' w k p0 → ∃ y2 B2, K' y B' = some (y2, B2) ∧ Zf B2 w k p0 ∧ same R B' B2) : Out S R w L i A B (bT fA K) (bC fB K') Post' := by
  rcases h with ⟨x, A', y, B', k, p0, e1, e2, e3, e4, e5, e6, e7⟩ | ⟨v, A', y, B', j, e1, e2, e3, e4, e5, e6, e7⟩
  · obtain ⟨y2, B2, z1, z2, z3⟩ := hz y B' k p0 (hy y B' e2) e5
    exact Or.inl ⟨x, A', y2, B2, k, p0, by rw [e1]; rfl, by rw [e2]; exact z1, e3, e4, z2, e6, e7.tr z3⟩
  · rw [e1, e2]
    rcases hs j v A' y B' e3 e5 e6 e7 with ⟨x, A2, y2, B2, k, p0, f1, f2, f3, f4, f5, f6, f7⟩ | ⟨v2, A2, y2, B2, j2, f1, f2, f3, f4, f5, f6, f7⟩
    · exact Or.inl ⟨x, A2, y2, B2, k, p0, f1, f2, f3, f4, f5, (e5.tr f6).mono (fun _ _ h => h) (by omega), e6.tr f7⟩
    · exact Or.inr ⟨v2, A2, y2, B2, j2, f1, f2, by omega, f4, (e5.tr f5).mono (fun _ _ h => h) (by omega), e6.tr f6, f7⟩
section Par
variable {N p w T : Nat} {L : List (Nat × Nat × Int32 × Bool × Nat)} {g : Nat → Nat} {E : Nat → Nat → Nat} {Nm : Nat → Nat → List Nat} {Pv : Nat → Nat → Int32} {nL lc dp : Nat} {ln : Nat → List Nat} {lk lf : Nat → Nat} {hd : Nat → Int32}
theorem name_y {B : Hp} {i : Nat} (h : LB B w L T g i) : ∀ y B', F_MText_name N w B = some (y, B') → y = nI i := by
  intro y B' e
  rw [ev_name h] at e
  split at e
  · split at e <;> (have := Option.some.inj e; exact (Prod.mk.inj this).1.symm)
  · have := Option.some.inj e
    exact (Prod.mk.inj this).1.symm
theorem ev_sort {B : Hp} {i t : Nat} (hb : (JB w T L g E Nm Pv nL lc dp ln lk lf hd i B)) (hC : (CX p E Nm nL lc dp ln lk lf hd)) (ht : t < L.length) (hN : 7000 ≤ N) : F_MText_sort N w (nI t) B = match fnm ln (nmT g L t) nL 0 with
    | some _ => some (1, B)
    | none => match fnm (Nm 1) (nmT g L t) (E 0 0) 0 with
      | some k => some (nI (E 2 k + 2), B)
      | none => some (0, failB B w 4 (tkp L t)) := by
  have hG := hb.1.1.1
  have h12 : nL ≤ 12 := hC.2.2.2.1
  have h56 : E 0 0 ≤ 56 := hC.1.2.2.2.2.2.2.2.2.2.2.2.2.2.1
  unfold F_MText_sort
  rw [ck_t (TS hG), bnd_t, hb.1.2.2.2.1, if_pos (by decide), bC_t (ev_lc hb hC (hb.1.tn ht) hN)]
  cases hl : fnm ln (nmT g L t) nL 0 with
  | some l =>
    have := fnm_bd _ _ _ hl
    rw [show oNI (some l) = nI l from rfl, if_neg (nI_pos (by omega))]
  | none =>
    rw [show oNI none = -1 from rfl, if_pos (by decide), bC_t (ev_ix hb hC (hb.1.tn ht) hN)]
    cases hk : fnm (Nm 1) (nmT g L t) (E 0 0) 0 with
    | some k =>
      have hkb := fnm_bd _ _ _ hk
      unfold B_MText_sort_35
      rw [show oNI (some k) = nI k from rfl, if_pos (nI_pos' (by omega)), if_pos (nI_pos' (by omega)), ck_t (TS hG), rf_t (TP_14 hG), ar_t (TA_14 hG), rdI (by omega) (by decide), (hb.2.1.1.2 k (by omega)).2.1]
    | none =>
      rw [show oNI none = -1 from rfl, if_neg (by decide), bC_t (show F_MText_fails N w (4 : Int32) (nI t) B = some ((), failB B w 4 (tkp L t)) from ev_fails (k := 4) hb.1 ht)]
      unfold B_MText_sort_35
      rw [if_neg (by decide)]
theorem ev_numberOf {B : Hp} {i t so : Nat} (hb : (JB w T L g E Nm Pv nL lc dp ln lk lf hd i B)) (hC : (CX p E Nm nL lc dp ln lk lf hd)) (ht : t < L.length) (hN : 7000 ≤ N) (hso : so ≤ 3) : F_MText_numberOf N w (nI t) (nI (so + 2)) B = match fnm ln (nmT g L t) nL 0 with
    | some _ => some (0, failB B w 5 (tkp L t))
    | none => match fnm (Nm 1) (nmT g L t) (E 0 0) 0 with
      | some k => if E 2 k = so then some (nI (E 3 k), B.sD (w + 7) t (nI (E 3 k))) else some (0, failB B w 5 (tkp L t))
      | none => some (0, failB B w 4 (tkp L t)) := by
  have hG := hb.1.1.1
  have h56 : E 0 0 ≤ 56 := hC.1.2.2.2.2.2.2.2.2.2.2.2.2.2.1
  have hW := hC.1.2.2.2.2.2.2.2.2.2.2.2.2.2.2
  have h61 : L.length ≤ 6001 := by have := hb.1.2.2.2.2.2.2.1; have := hb.1.2.2.2.2.2.2.2.1; omega
  unfold F_MText_numberOf
  rw [ck_t (TS hG), ev_sort hb hC ht hN]
  have f5 : F_MText_fails N w (5 : Int32) (nI t) B = some ((), failB B w 5 (tkp L t)) := ev_fails (k := 5) hb.1 ht
  have z5 : Zf (failB B w 5 (tkp L t)) w 5 (tkp L t) := hb.1.fail (by decide) (by decide)
  have z4 : Zf (failB B w 4 (tkp L t)) w 4 (tkp L t) := hb.1.fail (by decide) (by decide)
  have t5 : B_MText_numberOf_24 N w (nI t) (nI (so + 2)) (failB B w 5 (tkp L t)) = some (0, failB B w 5 (tkp L t)) := by
    unfold B_MText_numberOf_24
    rw [ck_t (TS z5.1), bnd_t, if_neg z5.nle]
  cases hl : fnm ln (nmT g L t) nL 0 with
  | some l =>
    simp only
    rw [bC_v, bnd_t, hb.1.2.2.2.1, if_pos rfl, if_neg (show ¬ (1 : Int32) = nI (so + 2) from fun z => by have := (nI_eq (a := 1) (by decide) (by omega)).mp z; omega), bC_t f5, t5]
  | none =>
    simp only
    cases hk : fnm (Nm 1) (nmT g L t) (E 0 0) 0 with
    | some k =>
      simp only
      have hkb := fnm_bd _ _ _ hk
      have hw := hW k (by omega)
      rw [bC_v, bnd_t, hb.1.2.2.2.1, if_pos rfl]
      by_cases q : E 2 k = so
      · rw [if_pos (by rw [q]), if_pos q]
        unfold B_MText_numberOf_24
        rw [ck_t (TS hG), bnd_t, hb.1.2.2.2.1, if_pos (by decide), rf_t (TP_8 hG), rf_t (TP_15 hG), bC_t (ev_ix hb hC (hb.1.tn ht) hN), hk, show oNI (some k) = nI k from rfl, ar_t (TA_15 hG), rdI (by omega) (by decide), (hb.2.1.1.2 k (by omega)).2.2, ar_t (TA_8 hG), wrI (by omega) (by decide), rf_t (show (B.sD (w + 7) t (nI (E 3 k))).P w 8 = .ref (w + 7) from TP_8 hG), ar_sD, ar_t (TA_8 hG), rdI (by omega) (by decide), rds]
      · rw [if_neg (fun z => q (by have := (nI_eq (by omega) (by omega)).mp z; omega)), if_neg q, bC_t f5, t5]
    | none =>
      simp only
      rw [bC_v, bnd_t, if_neg z4.n0]
      unfold B_MText_numberOf_24
      rw [ck_t (TS z4.1), bnd_t, if_neg z4.nle]
/-- knownHere behind its name -/
def knC (N p : Nat) (x5 : Int32) (v12 : Option Nat) (H13 : Hp) : Option (Ot (Option Nat) × Hp) :=
  on v12 fun a15 =>
    ck (H13.sh[p]? = some (4, 0)) <|
    bC (F_Program_find N p a15 H13) fun v18 H19 =>
    nl v18 (rf (H19.P 9 0) fun a21 =>
    ck (H19.sh[a21]? = some (1, 0)) <|
    bT (F_Lexer_refuse N a21 (4 : Int32) x5 H19) fun v25 H26 =>
    some (.inl none, H26)) fun a20 =>
    some (.inl (some a20), H19)
theorem kn_un {A : Hp} {i cs : Nat} (ha : (JA p T L g E Nm Pv nL lc dp ln lk lf hd i cs A)) : F_Body_knownHere N 9 A = bT (F_Lexer_takeName N 1 A) (knC N p (nI (tkp L i))) := by
  have hG := ha.1.1.1
  unfold F_Body_knownHere
  rw [ck_t (rS_9 hG), rf_t (rP_9_0 hG), ck_t (rS_1 hG), bnd_t, ha.1.2.2.2.2.2.1, rf_t ha.2.2.1, rf_t (rP_9_0 hG), ck_t (rS_1 hG)]
  rfl
/-- a known name's place in the row -/
def kix (E : Nat → Nat → Nat) (Nm : Nat → Nat → List Nat) (nL : Nat) (ln : Nat → List Nat) (n : List Nat) : Option Nat := match fnm (Nm 1) n (E 0 0) 0 with | some k => some k | none => (fnm ln n nL 0).map (E 0 0 + ·)
theorem kn_ev {A : Hp} {i cs s : Nat} {x5 : Int32} {n : List Nat} (ha : (JA p T L g E Nm Pv nL lc dp ln lk lf hd i cs A)) (hC : (CX p E Nm nL lc dp ln lk lf hd)) (hs : strA A s n) (hN : 100 ≤ N) : knC N p x5 (some s) A = match kix E Nm nL ln n with
    | some k => some (.inl (some (p + 2 + k)), A)
    | none => some (.inr A.sh.length, refA A 4 x5) := by
  have hG := ha.1.1.1
  unfold knC
  rw [on_t, ck_t (PrS (ha.pP hC)), bC_t (ev_fnd ha hC hs hN)]
  unfold kix
  cases fnm (Nm 1) n (E 0 0) 0 with
  | some k => rfl
  | none =>
    cases fnm ln n nL 0 with
    | some l => rfl
    | none =>
      show nl none _ _ = _
      unfold nl
      simp only
      rw [rf_t (rP_9_0 hG), ck_t (rS_1 hG), ev_refuse hG]
      rfl
theorem jo_number {A B : Hp} {i cs so : Nat} (ha : (JA p T L g E Nm Pv nL lc dp ln lk lf hd i cs A)) (hb : (JB w T L g E Nm Pv nL lc dp ln lk lf hd i B)) (hC : (CX p E Nm nL lc dp ln lk lf hd)) (hN : 7000 ≤ N) (hso : so ≤ 3) : (Out (SBo p (E 0 0)) (SRo w) w L i A B (F_Body_numberHere N 9 (nI so) A) (bC (F_MText_name N w B) (fun y H => F_MText_numberOf N w y (nI (so + 2)) H)) (fun j v A' y B' => j = i + 1 ∧ tkk L i = 2 ∧ (JA p T L g E Nm Pv nL lc dp ln lk lf hd (i + 1) cs A') ∧ (JB w T L g E Nm Pv nL lc dp ln lk lf hd (i + 1) B') ∧ (∀ x, A'.D (p + 191) x = A.D (p + 191) x) ∧ ∃ k, k < E 0 0 ∧ E 2 k = so ∧ v = nI (E 3 k) ∧ y = nI (E 3 k) ∧ B' = (B.sD w 11 (nI (i + 1))).sD (w + 7) i (nI (E 3 k)))) := by
  have hG := ha.1.1.1
  have hi := ha.1.2.2.2.2.2.2.1
  have h56 : E 0 0 ≤ 56 := hC.1.2.2.2.2.2.2.2.2.2.2.2.2.2.1
  have hW := hC.1.2.2.2.2.2.2.2.2.2.2.2.2.2.2
  have e : F_Body_numberHere N 9 (nI so) A = bT (F_Lexer_takeName N 1 A) (fun v H => bT (knC N p (nI (tkp L i)) v H) fun v7 H8 =>
    on v7 fun a10 =>
    ck (H8.sh[a10]? = some (2, 0)) <|
    bnd ((H8.D a10 1)) fun x12 =>
    if x12 = nI so then
    bnd ((H8.D a10 2)) fun x14 =>
    some (.inl x14, H8)
    else
    rf (H8.P 9 0) fun a15 =>
    ck (H8.sh[a15]? = some (1, 0)) <|
    bT (F_Lexer_refuse N a15 (5 : Int32) (nI (tkp L i)) H8) fun v19 H20 =>
    bnd ((H20.D a10 2)) fun x22 =>
    some (.inl x22, H20)) := by
    unfold F_Body_numberHere
    rw [ck_t (rS_9 hG), rf_t (rP_9_0 hG), ck_t (rS_1 hG), bnd_t, ha.1.2.2.2.2.2.1, kn_un ha, bT_as]
  rw [e]
  refine Out.bind (jo_name ha hb hC (by omega)) ?_ (fun y B' k p0 hz => ⟨0, B', fz_numberOf hz, hz, same.rf⟩)
  intro j v A' y B' hij hxa hsb hP
  obtain ⟨rfl, h2, rfl, rfl, hA, hB, hcd, hx, s, rfl, s1, s2, s3⟩ := hP
  have hG' := hA.1.1.1
  have hi' := hA.1.2.2.2.2.2.2.1
  rw [kn_ev hA hC s1 (by omega), ev_numberOf hB hC hi hN hso]
  unfold kix
  cases hk : fnm (Nm 1) (nmT g L i) (E 0 0) 0 with
  | some k =>
    have hkb := fnm_bd _ _ _ hk
    have hw := hW k (by omega)
    cases hl : fnm ln (nmT g L i) nL 0 with
    | some l => exact (no_both hC hk hl).elim
    | none =>
      simp only
      obtain ⟨n1, n2, n3, n4⟩ := hA.2.1.1 k (by omega)
      rw [bT_v, on_t, ck_t (PrK (hA.pP hC) k (by omega)).2, bnd_t, n2]
      by_cases q : E 2 k = so
      · rw [if_pos (by rw [q]), bnd_t, n3, if_pos q]
        exact Or.inr ⟨_, _, _, _, i + 1, rfl, rfl, by omega, hi', exA.rf.mono (fun _ _ h => h) (by omega), same.rf.sD (by unfold SRo; omega), rfl, h2, hA, hB.sD rfl, hcd, k, by omega, q, rfl, rfl, rfl⟩
      · rw [if_neg (fun z => q ((nI_eq (by omega) (by omega)).mp z)), if_neg q, rf_t (rP_9_0 hG'), ck_t (rS_1 hG'), ev_refuse hG', bT_z]
        exact Out.no (k := 5) hB.1 (by decide) (by decide) hi' (hB.1.fail (by decide) (by decide)) SRo_fail
  | none =>
    cases hl : fnm ln (nmT g L i) nL 0 with
    | some l =>
      have hlb := fnm_bd _ _ _ hl
      have h12 : nL ≤ 12 := hC.2.2.2.1
      have hlf := (hC.2.2.2.2.2.2.1 l (by omega)).2.2.1
      simp only [Option.map_some]
      obtain ⟨n1, n2, n3, n4⟩ := hA.2.2.2.2.2.2.2.2.2.1 l (by omega)
      rw [bT_v, on_t, ck_t (PrK (hA.pP hC) (E 0 0 + l) (by omega)).2, bnd_t, n2, if_neg (fun z => by have := (nI_eq (by omega) (by omega)).mp z; omega), rf_t (rP_9_0 hG'), ck_t (rS_1 hG'), ev_refuse hG', bT_z]
      exact Out.no (k := 5) hB.1 (by decide) (by decide) hi' (hB.1.fail (by decide) (by decide)) SRo_fail
    | none =>
      simp only [Option.map_none]
      rw [bT_z]
      exact Out.no (k := 4) hB.1 (by decide) (by decide) hi' (hB.1.fail (by decide) (by decide)) SRo_fail
theorem fz_memberName {k p0 : Nat} {c : Int32} {B : Hp} (h : Zf B w k p0) : ∃ y B', F_MText_memberName N w c B = some (y, B') ∧ Zf B' w k p0 ∧ same (SRo w) B B' := by
  obtain ⟨i, h6, h7⟩ := h.2.2.2.2.2
  refine ⟨0, B.sD (w + 7) i 0, ?_, h.sD (by omega), same.rf.sD (by unfold SRo; omega)⟩
  unfold F_MText_memberName B_MText_memberName_23 B_MText_memberName_34
  rw [ck_t (TS h.1), bC_t (fz_name h), bnd_t, if_neg h.n0, if_pos (by decide), ck_t (TS h.1), rf_t (TP_8 h.1), h6, ar_t (TA_8 h.1), wrI h7 (by decide), if_pos (by decide)]
theorem jo_member {A B : Hp} {i cs c : Nat} (ha : (JA p T L g E Nm Pv nL lc dp ln lk lf hd i cs A)) (hb : (JB w T L g E Nm Pv nL lc dp ln lk lf hd i B)) (hC : (CX p E Nm nL lc dp ln lk lf hd)) (hN : 7000 ≤ N) (hc : c < E 4 0) : (Out (SBo p (E 0 0)) (SRo w) w L i A B (F_Body_memberHere N 9 (p + 70) (nI c) A) (F_MText_memberName N w (nI c) B) (fun j v A' y B' => j = i + 1 ∧ tkk L i = 2 ∧ (JA p T L g E Nm Pv nL lc dp ln lk lf hd (i + 1) cs A') ∧ (JB w T L g E Nm Pv nL lc dp ln lk lf hd (i + 1) B') ∧ (∀ x, A'.D (p + 191) x = A.D (p + 191) x) ∧ ∃ m, mOf E c m ∧ v = nI m ∧ y = nI m ∧ B' = (B.sD w 11 (nI (i + 1))).sD (w + 7) i (nI m))) := by
  have hG := ha.1.1.1
  have hi := ha.1.2.2.2.2.2.2.1
  have h61 : L.length ≤ 6001 := by have := hb.1.2.2.2.2.2.2.1; have := hb.1.2.2.2.2.2.2.2.1; omega
  obtain ⟨w1, w2, w3, w4, w5, -⟩ := hC.1
  obtain ⟨m1, m2, m3⟩ := w3 c hc
  have hPA := ha.pP hC
  unfold F_Body_memberHere F_MText_memberName
  rw [ck_t (rS_9 hG), rf_t (rP_9_0 hG), ck_t (rS_1 hG), bnd_t, ha.1.2.2.2.2.2.1, rf_t (rP_9_0 hG), ck_t (rS_1 hG), ck_t (TS hb.1.1.1)]
  refine Out.bindQ (jo_name ha hb hC (by omega)) (name_y hb.1) ?_ ?_
  · intro j v A' y B' hij hxa hsb hP
    obtain ⟨rfl, h2, rfl, rfl, hA, hB, hcd, hx, s, rfl, s1, s2, s3⟩ := hP
    have hG' := hA.1.1.1
    have hi' := hA.1.2.2.2.2.2.2.1
    have hP' := hA.pP hC
    obtain ⟨e1, e2, e3, e4⟩ := hA.2.1.2.1
    obtain ⟨f1, f2, f3, f4⟩ := hB.2.1.2.1
    have eM : F_Shapes_memberNamed N (p + 70) (nI c) s A' = some (oNI (fnm (Nm 7) (nmT g L i) (E 5 (c + 1) - E 5 c) (E 5 c)), A') := ev_mnamed (m := p + 88) (M := 48) (R := 17) (fr := p + 137) (PrA_2 hP') (PcP_1 hP') (PcA_1 hP') (PcM hP') (PcP_2 hP') (PcA_2 hP') (by decide) (by decide) e1 (by omega) hc (e2 c (by omega)) (e2 (c + 1) (by omega)) m1 (by omega) s1 (fun i h1 h2 => (e3 i (by omega)).1) (by omega)
    have eB : F_MText_member N w (nI c) w (nI i) (B.sD w 11 (nI (i + 1))) = some (oNI (fnm (Nm 7) (nmT g L i) (E 5 (c + 1) - E 5 c) (E 5 c)), B.sD w 11 (nI (i + 1))) := ev_member hB.1.1.1 hB.1.1.1 (by omega) (f2 c (by omega)) (f2 (c + 1) (by omega)) m1 (by omega) (hB.1.tn hi) (fun i h1 h2 => (f3 i (by omega)).1) hN
    rw [on_t, ck_t (PrA_2 hP'), bC_t eM, bnd_t, hB.1.2.2.2.1, if_pos rfl, bC_t eB]
    unfold B_MText_memberName_23 B_MText_memberName_34
    cases hk : fnm (Nm 7) (nmT g L i) (E 5 (c + 1) - E 5 c) (E 5 c) with
    | some m =>
      have hkb := fnm_bd _ _ _ hk
      rw [show oNI (some m) = nI m from rfl, if_pos (nI_pos' (by omega)), if_pos (nI_pos' (by omega)), ck_t (TS hB.1.1.1), rf_t (TP_8 hB.1.1.1), ar_t (TA_8 hB.1.1.1), wrI (by omega) (by decide), if_pos (nI_pos' (by omega))]
      exact Or.inr ⟨_, _, _, _, i + 1, rfl, rfl, by omega, hi', exA.rf.mono (fun _ _ h => h) (by omega), same.rf.sD (by unfold SRo; omega), rfl, h2, hA, hB.sD rfl, hcd, m, ⟨hc, by omega, by omega⟩, rfl, rfl, rfl⟩
    | none =>
      have z4 : Zf (failB (B.sD w 11 (nI (i + 1))) w 4 (tkp L i)) w 4 (tkp L i) := hB.1.fail (by decide) (by decide)
      rw [show oNI none = -1 from rfl, if_neg (by decide), rf_t (rP_9_0 hG'), ck_t (rS_1 hG'), ev_refuse hG', bT_z, if_neg (by decide), ck_t (TS hB.1.1.1), bC_t (show F_MText_fails N w (4 : Int32) (nI i) _ = some ((), failB _ w 4 (tkp L i)) from ev_fails (k := 4) hB.1 hi), ck_t (TS z4.1), rf_t (TP_8 z4.1), ar_t (TA_8 z4.1), wrI (by omega) (by decide), if_neg (by decide)]
      exact Out.no (k := 4) hB.1 (by decide) (by decide) hi' (z4.sD (by omega)) (SRo_fail.tr (same.rf.sD (by unfold SRo; omega)))
  · intro y B' k p0 hy hz
    subst hy
    refine ⟨0, B'.sD (w + 7) i 0, ?_, hz.sD (by omega), same.rf.sD (by unfold SRo; omega)⟩
    rw [bnd_t, if_neg hz.n0]
    unfold B_MText_memberName_23 B_MText_memberName_34
    rw [if_pos (by decide), ck_t (TS hz.1), rf_t (TP_8 hz.1), ar_t (TA_8 hz.1), wrI (by omega) (by decide), if_pos (by decide)]
/-! depth -/
theorem JA.dep {A : Hp} {i cs d2 : Nat} (h : (JA p T L g E Nm Pv nL lc dp ln lk lf hd i cs A)) (hC : (CX p E Nm nL lc dp ln lk lf hd)) : (JA p T L g E Nm Pv nL lc d2 ln lk lf hd i cs (A.sD 9 6 (nI d2))) := by
  have hle := h.1.1.1.len
  obtain ⟨hl, he, b1, b2, b3, b4, b5, b6, b7, b8, b9⟩ := h
  obtain ⟨hE, hp, c3, c4, c5, c6, c7, c8, c9⟩ := hC
  have h56 : E 0 0 ≤ 56 := hE.2.2.2.2.2.2.2.2.2.2.2.2.2.1
  have hx : exA (SBo p (E 0 0)) 0 A (A.sD 9 6 (nI d2)) := exA.rf.sD (decide_eq_true (by omega))
  refine ⟨?_, he.ex hx hE hp hle, b1, ?_, ?_, ?_, rds, ?_, ?_, fun k hk => ?_, fun l hl => ?_⟩
  · refine hl.ex (exA.rf.sD (S := fun a f => decide (a = 9 ∧ f = 6)) (decide_eq_true (by omega))) ?_ (decide_eq_false (by omega)) (decide_eq_false (by omega)) (decide_eq_false (by omega)) (decide_eq_false (by omega))
    exact ⟨by decide +kernel, fun f => decide_eq_false (by omega), fun f => decide_eq_false (by omega), fun f => decide_eq_false (by omega), fun f => decide_eq_false (by omega), fun f => decide_eq_false (by omega), decide_eq_false (by omega), decide_eq_false (by omega)⟩
  · rw [rdf (by decide)]; exact b2
  · rw [rdf (by decide)]; exact b3
  · rw [rdf (by decide)]; exact b4
  · rw [rdw (by omega)]; exact b6
  · rw [rdw (by omega)]; exact b7
  · obtain ⟨a1, a2, a3, a4⟩ := b8 k hk
    refine ⟨?_, ?_, ?_, ?_⟩
    · obtain ⟨s, s1, s2, s3, s4⟩ := a1
      obtain ⟨t1, t2⟩ := hx.str (SBo_lt (by omega)) s2 s3 s4
      exact ⟨s, s1, t1, s3, t2⟩
    · rw [rdw (by omega)]; exact a2
    · rw [rdw (by omega)]; exact a3
    · rw [rdw (by omega)]; exact a4
  · rw [rdw (by omega)]; exact b9 l hl
theorem JB.dep {B : Hp} {i d2 : Nat} (h : (JB w T L g E Nm Pv nL lc dp ln lk lf hd i B)) : (JB w T L g E Nm Pv nL lc d2 ln lk lf hd i (B.sD w 41 (nI d2))) := by
  obtain ⟨⟨t1, t2, t3, t4, t5, t6⟩, e, b1, b2, b3, b4⟩ := h
  refine ⟨⟨t1.sD (by omega) (by omega), fun j hj => ?_, by rw [rdf (by decide)]; exact t3, by rw [rdf (by decide)]; exact t4, t5, t6⟩, e.ex (same.rf.sD (by unfold SRo; omega)), by rw [rdf (by decide)]; exact b1, rds, by rw [rdf (by decide)]; exact b3, fun k hk => ?_⟩
  · rw [rdw (by omega), rdw (by omega), rdw (by omega), rdw (by omega), rdw (by omega)]
    exact t2 j hj
  · obtain ⟨⟨u, u1, u2⟩, u3, u4⟩ := b4 k hk
    refine ⟨⟨u, by rw [rdw (by omega)]; exact u1, u2.ex ?_ ?_ ?_⟩, by rw [rdw (by omega)]; exact u3, by rw [rdw (by omega)]; exact u4⟩ <;> (funext z; rw [rdw (by omega)])
theorem CX.dep {d2 : Nat} (h : (CX p E Nm nL lc dp ln lk lf hd)) (h1 : lc ≤ d2) (h2 : d2 ≤ 20) : (CX p E Nm nL lc d2 ln lk lf hd) := by
  obtain ⟨hE, hp, c3, c4, c5, c6, c7, c8, c9⟩ := h
  exact ⟨hE, hp, c3, c4, h1, h2, c7, c8, c9⟩
theorem fz_deeper {k p0 : Nat} {B : Hp} (h : Zf B w k p0) : ∃ B', F_MText_deeper N w B = some ((), B') ∧ Zf B' w k p0 ∧ same (SRo w) B B' := by
  refine ⟨B.sD w 41 (B.D w 41 + 1), ?_, h.sD (by omega), same.rf.sD (by unfold SRo; omega)⟩
  unfold F_MText_deeper B_MText_deeper_25
  rw [ck_t (TS h.1), bnd_t, if_neg h.n0, ck_t (TS h.1), bnd_t, bnd_t]
theorem fz_opens {k p0 : Nat} {B : Hp} (h : Zf B w k p0) : F_MText_opens N w B = some ((), B) := by
  unfold F_MText_opens B_MText_opens_13
  rw [ck_t (TS h.1), bC_t (fz_is h), if_pos rfl, ck_t (TS h.1), bC_t (fz_takes h)]
theorem fz_closes {k p0 : Nat} {B : Hp} (h : Zf B w k p0) : ∃ B', F_MText_closes N w B = some ((), B') ∧ Zf B' w k p0 ∧ same (SRo w) B B' := by
  refine ⟨B.sD w 41 (B.D w 41 - 1), ?_, h.sD (by omega), same.rf.sD (by unfold SRo; omega)⟩
  unfold F_MText_closes
  rw [ck_t (TS h.1), bC_t (fz_takes h), bnd_t, bnd_t]
/-- one deeper, at this token -/
theorem jo_deepen {A B : Hp} {i cs : Nat} (ha : (JA p T L g E Nm Pv nL lc dp ln lk lf hd i cs A)) (hb : (JB w T L g E Nm Pv nL lc dp ln lk lf hd i B)) (hC : (CX p E Nm nL lc dp ln lk lf hd)) : (Out (SBo p (E 0 0)) (SRo w) w L i A B (F_Body_deepen N 9 A) (F_MText_deeper N w B) (fun j _ A' _ B' => j = i ∧ dp < 20 ∧ A' = A.sD 9 6 (nI (dp + 1)) ∧ B' = B.sD w 41 (nI (dp + 1)) ∧ (JA p T L g E Nm Pv nL lc (dp + 1) ln lk lf hd i cs A') ∧ (JB w T L g E Nm Pv nL lc (dp + 1) ln lk lf hd i B'))) := by
  have hG := ha.1.1.1
  have hi := ha.1.2.2.2.2.2.2.1
  have h20 : dp ≤ 20 := hC.2.2.2.2.2.1
  have e6 : A.D 9 6 = nI dp := ha.2.2.2.2.2.2.1
  have f6 : B.D w 41 = nI dp := hb.2.2.2.1
  unfold F_Body_deepen F_MText_deeper
  rw [ck_t (rS_9 hG), bnd_t, e6, ck_t (TS hb.1.1.1), bnd_t, hb.1.2.2.2.1, if_pos rfl, bnd_t, f6]
  unfold B_Body_deepen_24 B_MText_deeper_25
  by_cases q : dp < 20
  · rw [if_pos (show nI dp < (20 : Int32) from nI_lt (b := 20) q (by decide)), if_neg (show ¬ nI dp = (20 : Int32) from fun z => by have := (nI_eq (b := 20) (by omega) (by decide)).mp z; omega), ck_t (rS_9 hG), bnd_t, e6, bnd_t, nI_1, ck_t (TS hb.1.1.1), bnd_t, f6, bnd_t, nI_1]
    exact Or.inr ⟨_, _, _, _, i, rfl, rfl, by omega, hi, (exA.rf.sD (decide_eq_true (by omega))).mono (fun _ _ h => h) (by omega), same.rf.sD (by unfold SRo; omega), rfl, q, rfl, rfl, ha.dep hC, hb.dep⟩
  · have z2 : Zf (failB B w 2 (tkp L i)) w 2 (tkp L i) := hb.1.fail (by decide) (by decide)
    rw [if_neg (show ¬ nI dp < (20 : Int32) from nI_nlt (b := 20) (by omega) (by omega)), if_pos (show nI dp = (20 : Int32) by rw [show dp = 20 by omega]; rfl), rf_t (rP_9_0 hG), rf_t (rP_9_0 hG), ck_t (rS_1 hG), bnd_t, ha.1.2.2.2.2.2.1, ck_t (rS_1 hG), ev_refuse hG, bT_z, bnd_t, hb.1.2.2.1, bC_t (show F_MText_fails N w (2 : Int32) (nI i) B = some ((), failB B w 2 (tkp L i)) from ev_fails (k := 2) hb.1 hi), ck_t (TS z2.1), bnd_t, bnd_t]
    exact Out.no (k := 2) hb.1 (by decide) (by decide) hi (z2.sD (by omega)) (SRo_fail.tr (same.rf.sD (by unfold SRo; omega)))
theorem jo_opens {A B : Hp} {i cs : Nat} (ha : (JA p T L g E Nm Pv nL lc dp ln lk lf hd i cs A)) (hb : (JB w T L g E Nm Pv nL lc dp ln lk lf hd i B)) (hC : (CX p E Nm nL lc dp ln lk lf hd)) : (Out (SBo p (E 0 0)) (SRo w) w L i A B (F_Body_openParens N 9 A) (F_MText_opens N w B) (fun j _ A' _ B' => j = i + 1 ∧ tkk L i = 12 ∧ dp < 20 ∧ A' = advA (A.sD 9 6 (nI (dp + 1))) L i ∧ B' = (B.sD w 41 (nI (dp + 1))).sD w 11 (nI (i + 1)) ∧ (JA p T L g E Nm Pv nL lc (dp + 1) ln lk lf hd (i + 1) cs A') ∧ (JB w T L g E Nm Pv nL lc (dp + 1) ln lk lf hd (i + 1) B'))) := by
  have hG := ha.1.1.1
  have hi := ha.1.2.2.2.2.2.2.1
  have h81 := (ha.1.2.2.2.2.2.2.2.2.2.2.2.1 i hi).2.1
  have h20 : dp ≤ 20 := hC.2.2.2.2.2.1
  unfold F_Body_openParens F_MText_opens
  rw [ck_t (rS_9 hG), rf_t (rP_9_0 hG), ck_t (rS_1 hG), bnd_t, ha.1.2.2.2.2.1, ck_t (TS hb.1.1.1), bC_t (show F_MText_is N w (40 : Int32) B = some (bI (decide (tkk L i = 12)), B) from ev_is (k := 12) hb.1 (by decide))]
  unfold B_Body_openParens_27 B_MText_opens_13
  by_cases q : tkk L i = 12
  · have hn := hb.1.gt (by omega)
    rw [q, if_pos (by rfl), decide_eq_true rfl, if_neg bI_t0, ck_t (rS_9 hG)]
    refine Out.bind (jo_deepen ha hb hC) ?_ ?_
    · intro j v A' y B' hij hxa hsb hP
      obtain ⟨rfl, h20, rfl, rfl, hA, hB⟩ := hP
      have hC' : (CX p E Nm nL lc (dp + 1) ln lk lf hd) := hC.dep (by have := hC.2.2.2.2.1; omega) (by omega)
      have hG' := hA.1.1.1
      rw [rf_t (rP_9_0 hG'), ck_t (rS_1 hG'), bC_t (ev_advance hA.1 hn), ck_t (TS hB.1.1.1), show (40 : Int32) = nI (tyK 12) from rfl, ev_takes hB.1 (by decide), if_pos q, bC_v]
      exact Or.inr ⟨_, _, _, _, j + 1, rfl, rfl, by omega, hn, adv_ex.mono SL_SBo (by omega), same.rf.sD (by unfold SRo; omega), rfl, rfl, h20, rfl, rfl, hA.adv hC' hn, hB.nx hn⟩
    · intro y B' k p0 hz
      exact ⟨(), B', by rw [ck_t (TS hz.1), bC_t (fz_takes hz)], hz, same.rf⟩
  · rw [if_neg (show ¬ nI (tkk L i) = (12 : Int32) from fun z => q ((nI_eq (b := 12) (by omega) (by decide)).mp z)), rf_t (rP_9_0 hG), rf_t (rP_9_0 hG), ck_t (rS_1 hG), bnd_t, ha.1.2.2.2.2.2.1, ck_t (rS_1 hG), ev_refuse hG, bT_z, decide_eq_false q, if_pos bI_f, ck_t (TS hb.1.1.1), show (40 : Int32) = nI (tyK 12) from rfl, ev_takes hb.1 (by decide), if_neg q, bC_v]
    exact Out.no (k := 1) hb.1 (by decide) (by decide) hi (hb.1.fail (by decide) (by decide)) SRo_fail
theorem jo_closes {A B : Hp} {i cs : Nat} (ha : (JA p T L g E Nm Pv nL lc (dp + 1) ln lk lf hd i cs A)) (hb : (JB w T L g E Nm Pv nL lc (dp + 1) ln lk lf hd i B)) (hC : (CX p E Nm nL lc dp ln lk lf hd)) (h20 : dp < 20) : (Out (SBo p (E 0 0)) (SRo w) w L i A B (F_Body_closeParens N 9 A) (F_MText_closes N w B) (fun j _ A' _ B' => j = i + 1 ∧ tkk L i = 13 ∧ A' = (advA A L i).sD 9 6 (nI dp) ∧ B' = (B.sD w 11 (nI (i + 1))).sD w 41 (nI dp) ∧ (JA p T L g E Nm Pv nL lc dp ln lk lf hd (i + 1) cs A') ∧ (JB w T L g E Nm Pv nL lc dp ln lk lf hd (i + 1) B'))) := by
  have hG := ha.1.1.1
  have hi := ha.1.2.2.2.2.2.2.1
  have hC' : (CX p E Nm nL lc (dp + 1) ln lk lf hd) := hC.dep (by have := hC.2.2.2.2.1; omega) (by omega)
  unfold F_Body_closeParens F_MText_closes
  rw [ck_t (rS_9 hG), rf_t (rP_9_0 hG), ck_t (rS_1 hG), ck_t (TS hb.1.1.1)]
  refine Out.bind (show _ from jo_take (k := 13) ha hb hC' (by decide) (by decide)) ?_ ?_
  · intro j v A' y B' hij hxa hsb hP
    obtain ⟨rfl, q, rfl, rfl, hA, hB⟩ := hP
    have hi' := hA.1.2.2.2.2.2.2.1
    rw [bnd_t, hA.2.2.2.2.2.2.1, bnd_t, bnd_t, hB.2.2.2.1, bnd_t, nI_m]
    exact Or.inr ⟨_, _, _, _, i + 1, rfl, rfl, by omega, hi', (exA.rf.sD (decide_eq_true (by omega))).mono (fun _ _ h => h) (by omega), same.rf.sD (by unfold SRo; omega), rfl, q, rfl, rfl, hA.dep hC', hB.dep⟩
  · intro y B' k p0 hz
    exact ⟨(), B'.sD w 41 (B'.D w 41 - 1), by rw [bnd_t, bnd_t], hz.sD (by omega), same.rf.sD (by unfold SRo; omega)⟩
end Par
