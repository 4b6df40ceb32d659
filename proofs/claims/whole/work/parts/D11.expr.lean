/-! ===== expressions: what is read is derived ===== -/
def tyF (L : List (Nat × Nat × Int32 × Bool × Nat)) (t : Nat) : Int32 := nI (tyK (tkk L t))
def cfr (p cs : Nat) (A A' : Hp) : Prop := ∀ x, x < cs → A'.D (p + 191) x = A.D (p + 191) x
def mfr (w i : Nat) (B B' : Hp) : Prop := ∀ t, t < i → B'.D (w + 7) t = B.D (w + 7) t ∧ B'.D (w + 5) t = B.D (w + 5) t
def Agr (p w cs cs' i j : Nat) (A B : Hp) (cd mn nu : Nat → Int32) : Prop := (∀ x, cs ≤ x → x < cs' → cd x = A.D (p + 191) x) ∧ ∀ t, i ≤ t → t < j → mn t = B.D (w + 7) t ∧ nu t = B.D (w + 5) t
theorem cfr.rf {p cs : Nat} {A : Hp} : cfr p cs A A := fun _ _ => rfl
theorem mfr.rf {w i : Nat} {B : Hp} : mfr w i B B := fun _ _ => ⟨rfl, rfl⟩
theorem cfr.tr {p cs c2 : Nat} {A A1 A2 : Hp} (h : cfr p cs A A1) (h2 : cfr p c2 A1 A2) (hc : cs ≤ c2) : cfr p cs A A2 := fun x hx => (h2 x (by omega)).trans (h x hx)
theorem mfr.tr {w i i2 : Nat} {A A1 A2 : Hp} (h : mfr w i A A1) (h2 : mfr w i2 A1 A2) (hc : i ≤ i2) : mfr w i A A2 := fun x hx => ⟨(h2 x (by omega)).1.trans (h x hx).1, (h2 x (by omega)).2.trans (h x hx).2⟩
theorem Agr.sub {p w c0 c1 cs cs' i0 j0 i j : Nat} {A B A1 B1 : Hp} {cd mn nu : Nat → Int32} (h : Agr p w c0 c1 i0 j0 A B cd mn nu) (hc : cfr p cs' A1 A) (hm : mfr w j B1 B) (h1 : c0 ≤ cs) (h2 : cs' ≤ c1) (h3 : i0 ≤ i) (h4 : j ≤ j0) : Agr p w cs cs' i j A1 B1 cd mn nu := by
  refine ⟨fun x hx hy => (h.1 x (by omega) (by omega)).trans (hc x hy), fun t ht hu => ?_⟩
  obtain ⟨a, b⟩ := h.2 t (by omega) (by omega)
  obtain ⟨c, d⟩ := hm t hu
  exact ⟨a.trans c, b.trans d⟩
def PE (p w T : Nat) (L : List (Nat × Nat × Int32 × Bool × Nat)) (g : Nat → Nat) (E : Nat → Nat → Nat) (Nm : Nat → Nat → List Nat) (Pv : Nat → Nat → Int32) (nL lc dp : Nat) (ln : Nat → List Nat) (lk lf : Nat → Nat) (hd : Nat → Int32) (l i cs : Nat) (A B : Hp) (j : Nat) (v : Int32) (A' : Hp) (y : Int32) (B' : Hp) : Prop :=
  ∃ k cs', v = nI k ∧ y = nI k ∧ (k = 0 ∨ k = 2 ∨ k = 3 ∨ k = 4) ∧ (JA p T L g E Nm Pv nL lc dp ln lk lf hd j cs' A') ∧ (JB w T L g E Nm Pv nL lc dp ln lk lf hd j B') ∧ i < j ∧ cs ≤ cs' ∧ cs' + 2 * tkp L i ≤ cs + 2 * tkp L j ∧ cfr p cs A A' ∧ mfr w i B B' ∧ ∀ cd mn nu, Agr p w cs cs' i j A' B' cd mn nu → DE (tyF L) mn nu cd E nL lc lk hd l dp i j cs cs' k
section Par
variable {N p w T : Nat} {L : List (Nat × Nat × Int32 × Bool × Nat)} {g : Nat → Nat} {E : Nat → Nat → Nat} {Nm : Nat → Nat → List Nat} {Pv : Nat → Nat → Int32} {nL lc dp : Nat} {ln : Nat → List Nat} {lk lf : Nat → Nat} {hd : Nat → Int32}
theorem kc_eq {A : Hp} {i c : Nat} (h : LA A L T g i) (hc : c < 2 ^ 31) : (nI (tkk L i) = nI c) = (tkk L i = c) := by
  have := (h.2.2.2.2.2.2.2.2.2.2.2.1 i h.2.2.2.2.2.2.1).2.1
  exact propext (nI_eq (by omega) hc)
theorem pos_lt {B : Hp} {i : Nat} (h : LB B w L T g i) (hk : 2 ≤ tkk L i) : tkp L i + 1 ≤ tkp L (i + 1) ∧ tkp L i + tkn L i ≤ tkp L (i + 1) ∧ tkp L (i + 1) ≤ 6000 := by
  have hn := h.gt hk
  obtain ⟨a1, a2, a3, a4, a5⟩ := h.2.2.2.2.2.2.2.2.1 i hn
  have b := (h.2.2.2.2.2.2.2.2.2.1 (i + 1) hn).1
  have h6 := h.2.2.2.2.2.2.2.1
  omega
theorem pos_le {B : Hp} {i : Nat} (h : LB B w L T g i) (hk : 2 ≤ tkk L i) : tkp L i + 1 ≤ 6000 := by
  obtain ⟨a, b, c⟩ := pos_lt h hk
  omega
/-- the two ints of a PUSH -/
theorem ev_push {A : Hp} {i cs : Nat} {v : Int32} (ha : (JA p T L g E Nm Pv nL lc dp ln lk lf hd i cs A)) (hC : (CX p E Nm nL lc dp ln lk lf hd)) (hc : cs + 1 < 12000) : F_Body_push N 9 v A = some ((), addA (addA A p cs 30) p (cs + 1) v) := by
  have hG := ha.1.1.1
  have h2 := ha.add (v := 30) hC
  have hG2 := h2.1.1.1
  unfold F_Body_push
  rw [ck_t (rS_9 hG), rf_t ha.2.2.1, ck_t (PrS (ha.pP hC)), bC_t (ev_add ha (ha.pP hC) (by omega)), rf_t h2.2.2.1, ck_t (PrS (h2.pP hC)), bC_t (ev_add h2 (h2.pP hC) hc)]
theorem cfr_add {A : Hp} {p cs c : Nat} {v : Int32} (h : c ≤ cs) : cfr p c A (addA A p cs v) := fun x hx => by rw [code_add, if_neg (by omega)]
theorem code_adv {A : Hp} {p x i : Nat} (hp : p = 133 ∨ p = 325) : (advA A L i).D (p + 191) x = A.D (p + 191) x := by
  unfold advA
  rw [rdw (by omega), rdw (by omega), rdw (by omega)]
theorem mfr_at {B : Hp} {w i : Nat} {v : Int32} {f : Nat} (hf : f ≠ 0 ∨ True) : mfr w i B (B.sD w f v) := fun t _ => ⟨by rw [rdw (by omega)], by rw [rdw (by omega)]⟩
theorem un_ref {B : Hp} {i : Nat} {o : Orc_TextE} (hb : LB B w L T g i) (h1 : tkk L i ≠ 19) (h2 : tkk L i ≠ 25) : F_MText_unary N o w B = bC (F_MText_primary N o w B) (fun v H => some (v, H)) := by
  unfold F_MText_unary
  rw [ck_t (TS hb.1.1), bC_t (show F_MText_is N w (45 : Int32) B = _ from ev_is (k := 19) hb (by decide)), decide_eq_false h1, if_pos bI_f, bC_t (show F_MText_is N w (33 : Int32) B = _ from ev_is (k := 25) hb (by decide)), decide_eq_false h2, if_pos bI_f]
theorem pr_ref {B : Hp} {i : Nat} {o : Orc_TextE} (hb : LB B w L T g i) : F_MText_primary N o w B = if tkk L i = 3 ∨ tkk L i = 4 then (if tko L i = true then B_MText_primary_51 N o w (nI i) (nI (tyK (tkk L i))) (failB B w 2 (tkp L i)) else B_MText_primary_51 N o w (nI i) (nI (tyK (tkk L i))) B) else B_MText_primary_51 N o w (nI i) (nI (tyK (tkk L i))) B := by
  have hi := hb.2.2.2.2.1
  have h61 : L.length ≤ 6001 := by have := hb.2.2.2.2.2.2.1; have := hb.2.2.2.2.2.2.2.1; omega
  obtain ⟨m1, m2, m3, m4, m5⟩ := hb.2.1 i hi
  have e36 : B_MText_primary_36 N o w (nI i) (nI (tyK (tkk L i))) B = if tko L i = true then B_MText_primary_51 N o w (nI i) (nI (tyK (tkk L i))) (failB B w 2 (tkp L i)) else B_MText_primary_51 N o w (nI i) (nI (tyK (tkk L i))) B := by
    unfold B_MText_primary_36
    rw [ck_t (TS hb.1.1), rf_t (TP_7 hb.1.1), ar_t (TA_7 hb.1.1), rdI (by omega) (by decide), m4]
    cases z : tko L i
    · rw [if_pos bI_f, if_neg (by decide)]
    · rw [if_neg bI_t0, if_pos rfl, bC_t (show F_MText_fails N w (2 : Int32) (nI i) B = _ from ev_fails (k := 2) hb hi)]
  unfold F_MText_primary B_MText_primary_25
  rw [ck_t (TS hb.1.1), bnd_t, bnd_t, hb.2.2.2.1, if_pos (by decide), rf_t (TP_3 hb.1.1), bnd_t, hb.2.2.1, ar_t (TA_3 hb.1.1), rdI (by omega) (by decide), m1, e36]
  simp only [(show (nI (tyK (tkk L i)) = (2 : Int32)) = (tkk L i = 3) from propext (LB.ty hb (k := 3) (by decide))), (show (nI (tyK (tkk L i)) = (3 : Int32)) = (tkk L i = 4) from propext (LB.ty hb (k := 4) (by decide)))]
  by_cases q : tkk L i = 3
  · simp only [q, true_or, if_true]
  · by_cases q2 : tkk L i = 4
    · simp only [q2, or_true, if_true, show ¬ (4 : Nat) = 3 by decide, if_false]
    · simp only [q, q2, or_self, if_false]
/-- a number -/
theorem jo_num {A B : Hp} {i cs kn : Nat} {o : Orc_BodyE} {o' : Orc_TextE} (ha : (JA p T L g E Nm Pv nL lc dp ln lk lf hd i cs A)) (hb : (JB w T L g E Nm Pv nL lc dp ln lk lf hd i B)) (hC : (CX p E Nm nL lc dp ln lk lf hd)) (hcs : cs ≤ 2 * tkp L i) (hk : (tkk L i = 3 ∧ kn = 0) ∨ (tkk L i = 4 ∧ kn = 2)) : (Out (SBo p (E 0 0)) (SRo w) w L i A B (F_Body_unary N o 9 A) (F_MText_unary N o' w B) ((PE p w T L g E Nm Pv nL lc dp ln lk lf hd 5 i cs A B))) := by
  have hG := ha.1.1.1
  have hi := ha.1.2.2.2.2.2.2.1
  have hp := hC.2.1
  have hk2 : 2 ≤ tkk L i := by omega
  have hn := hb.1.gt hk2
  obtain ⟨q1, q2, q3⟩ := pos_lt hb.1 hk2
  rw [un_ref hb.1 (by omega) (by omega), pr_ref hb.1, if_pos (by omega)]
  have eA : F_Body_unary N o 9 A = bT (bT (F_Lexer_takeValue N 1 A) fun v7 H8 => bC (F_Body_push N 9 v7 H8) fun _ H12 => some (.inl (nI kn), H12)) fun v H => some (.inl v, H) := by
    unfold F_Body_unary F_Body_plainValue
    rw [ck_t (rS_9 hG), rf_t (rP_9_0 hG), ck_t (rS_1 hG), bnd_t, ha.1.2.2.2.2.1]
    rcases hk with ⟨hk, rfl⟩ | ⟨hk, rfl⟩ <;> rw [hk, if_neg (by decide), if_neg (by decide), if_neg (by decide), if_neg (by decide), if_neg (by decide), if_neg (by decide), if_neg (by decide), if_neg (by decide), if_neg (by decide), if_neg (by decide), if_neg (by decide), rf_t (rP_9_0 hG), ck_t (rS_1 hG), bnd_t, ha.1.2.2.2.2.1, hk]
    · rw [if_pos (by rfl), ck_t (rS_9 hG), rf_t (rP_9_0 hG), ck_t (rS_1 hG)]
      rfl
    · rw [if_neg (by decide), if_pos (by rfl), ck_t (rS_9 hG), rf_t (rP_9_0 hG), ck_t (rS_1 hG)]
      rfl
  rw [eA, ev_takeValue ha.1 hk2]
  cases ho : tko L i
  · rw [if_neg (by decide), bT_v, if_neg (by decide)]
    have hA1 := ha.adv hC hn
    rw [bC_t (ev_push hA1 hC (by omega)), bT_v]
    have eB : B_MText_primary_51 N o' w (nI i) (nI (tyK (tkk L i))) B = some (nI kn, B.sD w 11 (nI (i + 1))) := by
      unfold B_MText_primary_51
      rw [ck_t (TS hb.1.1.1), bnd_t, hb.1.2.2.2.1, if_pos (by decide)]
      rcases hk with ⟨hk, rfl⟩ | ⟨hk, rfl⟩
      · rw [hk, if_neg (by decide), bnd_t, hb.1.2.2.1, nI_1, bnd_t, if_pos (by rfl)]; rfl
      · rw [hk, if_neg (by decide), bnd_t, hb.1.2.2.1, nI_1, bnd_t, if_neg (by decide), if_pos (by rfl)]; rfl
    rw [eB, bC_v]
    have hA2 := (hA1.add (v := 30) hC).add (v := tkv L i) hC
    refine Or.inr ⟨_, _, _, _, i + 1, rfl, rfl, by omega, hn, ?_, same.rf.sD (by unfold SRo; omega), kn, cs + 2, rfl, rfl, by omega, hA2, hb.nx hn, by omega, by omega, by omega, ?_, mfr_at (Or.inr trivial), ?_⟩
    · exact ((adv_ex.mono SL_SBo (Nat.le_refl _)).tr (add_ex.tr add_ex)).mono (fun _ _ h => h) (by omega)
    · intro x hx
      rw [code_add, if_neg (by omega), code_add, if_neg (by omega), code_adv hp]
    · intro cd mn nu hag
      have c0 := hag.1 cs (by omega) (by omega)
      have c1 := hag.1 (cs + 1) (by omega) (by omega)
      rw [code_add, if_neg (by omega), code_add, if_pos rfl] at c0
      rw [code_add, if_pos rfl] at c1
      have n0 := (hag.2 i (by omega) (by omega)).2
      rw [rdw (by omega)] at n0
      have m5 := (hb.1.2.1 i hi).2.2.2.2 (by omega) ho
      rcases hk with ⟨hk, rfl⟩ | ⟨hk, rfl⟩
      · exact DE.num (by unfold tyF; rw [hk]; rfl) c0 (by rw [c1, n0, m5])
      · exact DE.fix (by unfold tyF; rw [hk]; rfl) c0 (by rw [c1, n0, m5])
  · rw [if_pos rfl, bT_z, if_pos rfl, bT_z]
    have z2 : Zf (failB B w 2 (tkp L i)) w 2 (tkp L i) := hb.1.fail (by decide) (by decide)
    have eB : B_MText_primary_51 N o' w (nI i) (nI (tyK (tkk L i))) (failB B w 2 (tkp L i)) = some (0, failB B w 2 (tkp L i)) := by
      unfold B_MText_primary_51
      rw [ck_t (TS z2.1), bnd_t, if_neg z2.nle]
    rw [eB, bC_v]
    exact Out.no (k := 2) hb.1 (by decide) (by decide) hi z2 SRo_fail
/-- words that stand for one value, pushed: true, false, none -/
theorem jo_word {A B : Hp} {i cs kn : Nat} {v : Int32} {o : Orc_BodyE} {o' : Orc_TextE} (ha : (JA p T L g E Nm Pv nL lc dp ln lk lf hd i cs A)) (hb : (JB w T L g E Nm Pv nL lc dp ln lk lf hd i B)) (hC : (CX p E Nm nL lc dp ln lk lf hd)) (hcs : cs ≤ 2 * tkp L i) (hk : (tkk L i = 71 ∧ kn = 3 ∧ v = 1) ∨ (tkk L i = 72 ∧ kn = 3 ∧ v = 0) ∨ (tkk L i = 73 ∧ kn = 4 ∧ v = -1)) : (Out (SBo p (E 0 0)) (SRo w) w L i A B (F_Body_unary N o 9 A) (F_MText_unary N o' w B) ((PE p w T L g E Nm Pv nL lc dp ln lk lf hd 5 i cs A B))) := by
  have hG := ha.1.1.1
  have hi := ha.1.2.2.2.2.2.2.1
  have hp := hC.2.1
  have hk2 : 2 ≤ tkk L i := by omega
  have hn := hb.1.gt hk2
  obtain ⟨q1, q2, q3⟩ := pos_lt hb.1 hk2
  rw [un_ref hb.1 (by omega) (by omega), pr_ref hb.1, if_neg (by omega)]
  have hA1 := (ha.add (v := 30) hC).add (v := v) hC
  have hG1 := hA1.1.1.1
  have hA2 := hA1.adv hC hn
  have eA : F_Body_unary N o 9 A = some (.inl (nI kn), advA (addA (addA A p cs 30) p (cs + 1) v) L i) := by
    unfold F_Body_unary F_Body_plainValue B_Body_plainValue_106
    rw [ck_t (rS_9 hG), rf_t (rP_9_0 hG), ck_t (rS_1 hG), bnd_t, ha.1.2.2.2.2.1]
    rcases hk with ⟨hk, rfl, rfl⟩ | ⟨hk, rfl, rfl⟩ | ⟨hk, rfl, rfl⟩ <;> rw [hk, if_neg (by decide), if_neg (by decide), if_neg (by decide), if_neg (by decide), if_neg (by decide), if_neg (by decide), if_neg (by decide), if_neg (by decide), if_neg (by decide), if_neg (by decide), if_neg (by decide), rf_t (rP_9_0 hG), ck_t (rS_1 hG), bnd_t, ha.1.2.2.2.2.1, hk, if_neg (by decide), if_neg (by decide)]
    · rw [if_pos (by rfl), if_pos (by rfl), ck_t (rS_9 hG), bC_t (ev_push ha hC (by omega)), ck_t (rS_9 hG1), rf_t (rP_9_0 hG1), ck_t (rS_1 hG1), bC_t (ev_advance hA1.1 hn)]; rfl
    · rw [if_neg (by decide), if_pos (by rfl), if_neg (by decide), ck_t (rS_9 hG), bC_t (ev_push ha hC (by omega)), ck_t (rS_9 hG1), rf_t (rP_9_0 hG1), ck_t (rS_1 hG1), bC_t (ev_advance hA1.1 hn)]; rfl
    · rw [if_neg (by decide), if_neg (by decide), if_pos (by rfl), ck_t (rS_9 hG), bC_t (ev_push ha hC (by omega)), rf_t (rP_9_0 hG1), ck_t (rS_1 hG1), bC_t (ev_advance hA1.1 hn)]; rfl
  have eB : B_MText_primary_51 N o' w (nI i) (nI (tyK (tkk L i))) B = some (nI kn, B.sD w 11 (nI (i + 1))) := by
    unfold B_MText_primary_51
    rw [ck_t (TS hb.1.1.1), bnd_t, hb.1.2.2.2.1, if_pos (by decide)]
    rcases hk with ⟨hk, rfl, rfl⟩ | ⟨hk, rfl, rfl⟩ | ⟨hk, rfl, rfl⟩ <;> rw [hk, if_neg (by decide), bnd_t, hb.1.2.2.1, nI_1, bnd_t, if_neg (by decide), if_neg (by decide), if_neg (by decide), if_neg (by decide), if_neg (by decide)]
    · rw [if_pos (by rfl)]; rfl
    · rw [if_neg (by decide), if_pos (by rfl)]; rfl
    · rw [if_neg (by decide), if_neg (by decide), if_pos (by rfl)]; rfl
  rw [eA, eB, bC_v]
  refine Or.inr ⟨_, _, _, _, i + 1, rfl, rfl, by omega, hn, ?_, same.rf.sD (by unfold SRo; omega), kn, cs + 2, rfl, rfl, by omega, hA2, hb.nx hn, by omega, by omega, by omega, ?_, mfr_at (Or.inr trivial), ?_⟩
  · exact ((add_ex.tr add_ex).tr (adv_ex.mono SL_SBo (Nat.le_refl _))).mono (fun _ _ h => h) (by omega)
  · intro x hx
    rw [code_adv hp, code_add, if_neg (by omega), code_add, if_neg (by omega)]
  · intro cd mn nu hag
    have c0 := hag.1 cs (by omega) (by omega)
    have c1 := hag.1 (cs + 1) (by omega) (by omega)
    rw [code_adv hp, code_add, if_neg (by omega), code_add, if_pos rfl] at c0
    rw [code_adv hp, code_add, if_pos rfl] at c1
    rcases hk with ⟨hk, rfl, rfl⟩ | ⟨hk, rfl, rfl⟩ | ⟨hk, rfl, rfl⟩
    · exact DE.tru (by unfold tyF; rw [hk]; rfl) c0 c1
    · exact DE.fal (by unfold tyF; rw [hk]; rfl) c0 c1
    · exact DE.non (by unfold tyF; rw [hk]; rfl) c0 c1
/-- self, tick -/
theorem jo_self {A B : Hp} {i cs kn : Nat} {v : Int32} {o : Orc_BodyE} {o' : Orc_TextE} (ha : (JA p T L g E Nm Pv nL lc dp ln lk lf hd i cs A)) (hb : (JB w T L g E Nm Pv nL lc dp ln lk lf hd i B)) (hC : (CX p E Nm nL lc dp ln lk lf hd)) (hcs : cs ≤ 2 * tkp L i) (hk : (tkk L i = 74 ∧ kn = 4 ∧ v = 31) ∨ (tkk L i = 75 ∧ kn = 0 ∧ v = 32)) : (Out (SBo p (E 0 0)) (SRo w) w L i A B (F_Body_unary N o 9 A) (F_MText_unary N o' w B) ((PE p w T L g E Nm Pv nL lc dp ln lk lf hd 5 i cs A B))) := by
  have hG := ha.1.1.1
  have hi := ha.1.2.2.2.2.2.2.1
  have hp := hC.2.1
  have hk2 : 2 ≤ tkk L i := by omega
  have hn := hb.1.gt hk2
  obtain ⟨q1, q2, q3⟩ := pos_lt hb.1 hk2
  rw [un_ref hb.1 (by omega) (by omega), pr_ref hb.1, if_neg (by omega)]
  have hA1 := ha.add (v := v) hC
  have hG1 := hA1.1.1.1
  have hA2 := hA1.adv hC hn
  have eA : F_Body_unary N o 9 A = some (.inl (nI kn), advA (addA A p cs v) L i) := by
    unfold F_Body_unary F_Body_plainValue
    rw [ck_t (rS_9 hG), rf_t (rP_9_0 hG), ck_t (rS_1 hG), bnd_t, ha.1.2.2.2.2.1]
    rcases hk with ⟨hk, rfl, rfl⟩ | ⟨hk, rfl, rfl⟩ <;> rw [hk, if_neg (by decide), if_neg (by decide), if_neg (by decide), if_neg (by decide), if_neg (by decide), if_neg (by decide), if_neg (by decide), if_neg (by decide), if_neg (by decide), if_neg (by decide), if_neg (by decide), rf_t (rP_9_0 hG), ck_t (rS_1 hG), bnd_t, ha.1.2.2.2.2.1, hk, if_neg (by decide), if_neg (by decide), if_neg (by decide), if_neg (by decide), if_neg (by decide)]
    · rw [if_pos (by rfl), ck_t (rS_9 hG), rf_t ha.2.2.1, ck_t (PrS (ha.pP hC)), bC_t (ev_add ha (ha.pP hC) (by omega)), rf_t (rP_9_0 hG1), ck_t (rS_1 hG1), bC_t (ev_advance hA1.1 hn)]; rfl
    · rw [if_neg (by decide), if_pos (by rfl), ck_t (rS_9 hG), rf_t ha.2.2.1, ck_t (PrS (ha.pP hC)), bC_t (ev_add ha (ha.pP hC) (by omega)), rf_t (rP_9_0 hG1), ck_t (rS_1 hG1), bC_t (ev_advance hA1.1 hn)]; rfl
  have eB : B_MText_primary_51 N o' w (nI i) (nI (tyK (tkk L i))) B = some (nI kn, B.sD w 11 (nI (i + 1))) := by
    unfold B_MText_primary_51
    rw [ck_t (TS hb.1.1.1), bnd_t, hb.1.2.2.2.1, if_pos (by decide)]
    rcases hk with ⟨hk, rfl, rfl⟩ | ⟨hk, rfl, rfl⟩ <;> rw [hk, if_neg (by decide), bnd_t, hb.1.2.2.1, nI_1, bnd_t, if_neg (by decide), if_neg (by decide), if_neg (by decide), if_neg (by decide), if_neg (by decide), if_neg (by decide), if_neg (by decide), if_neg (by decide)]
    · rw [if_pos (by rfl)]; rfl
    · rw [if_neg (by decide), if_pos (by rfl)]; rfl
  rw [eA, eB, bC_v]
  refine Or.inr ⟨_, _, _, _, i + 1, rfl, rfl, by omega, hn, ?_, same.rf.sD (by unfold SRo; omega), kn, cs + 1, rfl, rfl, by omega, hA2, hb.nx hn, by omega, by omega, by omega, ?_, mfr_at (Or.inr trivial), ?_⟩
  · exact (add_ex.tr (adv_ex.mono SL_SBo (Nat.le_refl _))).mono (fun _ _ h => h) (by omega)
  · intro x hx
    rw [code_adv hp, code_add, if_neg (by omega)]
  · intro cd mn nu hag
    have c0 := hag.1 cs (by omega) (by omega)
    rw [code_adv hp, code_add, if_pos rfl] at c0
    rcases hk with ⟨hk, rfl, rfl⟩ | ⟨hk, rfl, rfl⟩
    · exact DE.slf (by unfold tyF; rw [hk]; rfl) c0
    · exact DE.tck (by unfold tyF; rw [hk]; rfl) c0
/-- nothing that may stand there -/
theorem jo_none {A B : Hp} {i cs : Nat} {o : Orc_BodyE} {o' : Orc_TextE} {Post : Nat → Int32 → Hp → Int32 → Hp → Prop} (ha : (JA p T L g E Nm Pv nL lc dp ln lk lf hd i cs A)) (hb : (JB w T L g E Nm Pv nL lc dp ln lk lf hd i B)) (hC : (CX p E Nm nL lc dp ln lk lf hd)) (hk : tkk L i ≠ 2 ∧ tkk L i ≠ 3 ∧ tkk L i ≠ 4 ∧ tkk L i ≠ 12 ∧ tkk L i ≠ 19 ∧ tkk L i ≠ 25 ∧ tkk L i ≠ 49 ∧ tkk L i ≠ 51 ∧ tkk L i ≠ 71 ∧ tkk L i ≠ 72 ∧ tkk L i ≠ 73 ∧ tkk L i ≠ 74 ∧ tkk L i ≠ 75 ∧ tkk L i ≠ 76 ∧ tkk L i ≠ 77 ∧ tkk L i ≠ 78 ∧ tkk L i ≠ 79 ∧ tkk L i ≠ 80) : (Out (SBo p (E 0 0)) (SRo w) w L i A B (F_Body_unary N o 9 A) (F_MText_unary N o' w B) Post) := by
  have hG := ha.1.1.1
  have hi := ha.1.2.2.2.2.2.2.1
  obtain ⟨k1, k2, k3, k4, k5, k6, k7, k8, k9, k10, k11, k12, k13, k14, k15, k16, k17, k18⟩ := hk
  have eA : F_Body_unary N o 9 A = some (.inr A.sh.length, refA A 1 (nI (tkp L i))) := by
    unfold F_Body_unary F_Body_plainValue
    rw [ck_t (rS_9 hG), rf_t (rP_9_0 hG), ck_t (rS_1 hG), bnd_t, ha.1.2.2.2.2.1]
    simp only [(show (nI (tkk L i) = (2 : Int32)) = (tkk L i = 2) from kc_eq ha.1 (by decide)), (show (nI (tkk L i) = (12 : Int32)) = (tkk L i = 12) from kc_eq ha.1 (by decide)), (show (nI (tkk L i) = (19 : Int32)) = (tkk L i = 19) from kc_eq ha.1 (by decide)), (show (nI (tkk L i) = (25 : Int32)) = (tkk L i = 25) from kc_eq ha.1 (by decide)), (show (nI (tkk L i) = (49 : Int32)) = (tkk L i = 49) from kc_eq ha.1 (by decide)), (show (nI (tkk L i) = (51 : Int32)) = (tkk L i = 51) from kc_eq ha.1 (by decide)), (show (nI (tkk L i) = (76 : Int32)) = (tkk L i = 76) from kc_eq ha.1 (by decide)), (show (nI (tkk L i) = (77 : Int32)) = (tkk L i = 77) from kc_eq ha.1 (by decide)), (show (nI (tkk L i) = (78 : Int32)) = (tkk L i = 78) from kc_eq ha.1 (by decide)), (show (nI (tkk L i) = (79 : Int32)) = (tkk L i = 79) from kc_eq ha.1 (by decide)), (show (nI (tkk L i) = (80 : Int32)) = (tkk L i = 80) from kc_eq ha.1 (by decide)), (show (nI (tkk L i) = (3 : Int32)) = (tkk L i = 3) from kc_eq ha.1 (by decide)), (show (nI (tkk L i) = (4 : Int32)) = (tkk L i = 4) from kc_eq ha.1 (by decide)), (show (nI (tkk L i) = (71 : Int32)) = (tkk L i = 71) from kc_eq ha.1 (by decide)), (show (nI (tkk L i) = (72 : Int32)) = (tkk L i = 72) from kc_eq ha.1 (by decide)), (show (nI (tkk L i) = (73 : Int32)) = (tkk L i = 73) from kc_eq ha.1 (by decide)), (show (nI (tkk L i) = (74 : Int32)) = (tkk L i = 74) from kc_eq ha.1 (by decide)), (show (nI (tkk L i) = (75 : Int32)) = (tkk L i = 75) from kc_eq ha.1 (by decide)), k1, k2, k3, k4, k5, k6, k7, k8, k9, k10, k11, k12, k13, k14, k15, k16, k17, k18, if_false]
    rw [rf_t (rP_9_0 hG), ck_t (rS_1 hG), bnd_t, ha.1.2.2.2.2.1]
    simp only [(show (nI (tkk L i) = (2 : Int32)) = (tkk L i = 2) from kc_eq ha.1 (by decide)), (show (nI (tkk L i) = (12 : Int32)) = (tkk L i = 12) from kc_eq ha.1 (by decide)), (show (nI (tkk L i) = (19 : Int32)) = (tkk L i = 19) from kc_eq ha.1 (by decide)), (show (nI (tkk L i) = (25 : Int32)) = (tkk L i = 25) from kc_eq ha.1 (by decide)), (show (nI (tkk L i) = (49 : Int32)) = (tkk L i = 49) from kc_eq ha.1 (by decide)), (show (nI (tkk L i) = (51 : Int32)) = (tkk L i = 51) from kc_eq ha.1 (by decide)), (show (nI (tkk L i) = (76 : Int32)) = (tkk L i = 76) from kc_eq ha.1 (by decide)), (show (nI (tkk L i) = (77 : Int32)) = (tkk L i = 77) from kc_eq ha.1 (by decide)), (show (nI (tkk L i) = (78 : Int32)) = (tkk L i = 78) from kc_eq ha.1 (by decide)), (show (nI (tkk L i) = (79 : Int32)) = (tkk L i = 79) from kc_eq ha.1 (by decide)), (show (nI (tkk L i) = (80 : Int32)) = (tkk L i = 80) from kc_eq ha.1 (by decide)), (show (nI (tkk L i) = (3 : Int32)) = (tkk L i = 3) from kc_eq ha.1 (by decide)), (show (nI (tkk L i) = (4 : Int32)) = (tkk L i = 4) from kc_eq ha.1 (by decide)), (show (nI (tkk L i) = (71 : Int32)) = (tkk L i = 71) from kc_eq ha.1 (by decide)), (show (nI (tkk L i) = (72 : Int32)) = (tkk L i = 72) from kc_eq ha.1 (by decide)), (show (nI (tkk L i) = (73 : Int32)) = (tkk L i = 73) from kc_eq ha.1 (by decide)), (show (nI (tkk L i) = (74 : Int32)) = (tkk L i = 74) from kc_eq ha.1 (by decide)), (show (nI (tkk L i) = (75 : Int32)) = (tkk L i = 75) from kc_eq ha.1 (by decide)), k1, k2, k3, k4, k5, k6, k7, k8, k9, k10, k11, k12, k13, k14, k15, k16, k17, k18, if_false]
    rw [ck_t (rS_9 hG), rf_t (rP_9_0 hG), rf_t (rP_9_0 hG), ck_t (rS_1 hG), bnd_t, ha.1.2.2.2.2.2.1, ck_t (rS_1 hG), ev_refuse hG]
    rfl
  have hL1 : LB ((B.sD w 11 (nI i + 1)).sD w 11 (nI i)) w L T g i := by
    have e : (B.sD w 11 (nI i + 1)).sD w 11 (nI i) = B := by
      have : ∀ v, (B.sD w 11 v).sD w 11 (B.D w 11) = B := by
        intro v
        have e1 : (B.sD w 11 v).sD w 11 (B.D w 11) = B.sD w 11 (B.D w 11) := by
          unfold Hp.sD
          simp only [mkH_D, mkH_P, mkH_L, mkH_sh, mkH_sl]
          congr 1
          funext x y
          unfold up2
          (repeat' split) <;> rfl
        rw [e1, sD_self]
      rw [← hb.1.2.2.1]
      exact this _
    rw [e]; exact hb.1
  have eB : F_MText_unary N o' w B = some (0, failB ((B.sD w 11 (nI i + 1)).sD w 11 (nI i)) w 1 (tkp L i)) := by
    rw [un_ref hb.1 k5 k6, pr_ref hb.1, if_neg (by omega)]
    unfold B_MText_primary_51
    rw [ck_t (TS hb.1.1.1), bnd_t, hb.1.2.2.2.1, if_pos (by decide)]
    simp only [(show (nI (tyK (tkk L i)) = (1 : Int32)) = (tkk L i = 2) from propext (LB.ty hb.1 (k := 2) (by decide))), (show (nI (tyK (tkk L i)) = (2 : Int32)) = (tkk L i = 3) from propext (LB.ty hb.1 (k := 3) (by decide))), (show (nI (tyK (tkk L i)) = (3 : Int32)) = (tkk L i = 4) from propext (LB.ty hb.1 (k := 4) (by decide))), (show (nI (tyK (tkk L i)) = (40 : Int32)) = (tkk L i = 12) from propext (LB.ty hb.1 (k := 12) (by decide))), (show (nI (tyK (tkk L i)) = (209 : Int32)) = (tkk L i = 49) from propext (LB.ty hb.1 (k := 49) (by decide))), (show (nI (tyK (tkk L i)) = (211 : Int32)) = (tkk L i = 51) from propext (LB.ty hb.1 (k := 51) (by decide))), (show (nI (tyK (tkk L i)) = (231 : Int32)) = (tkk L i = 71) from propext (LB.ty hb.1 (k := 71) (by decide))), (show (nI (tyK (tkk L i)) = (232 : Int32)) = (tkk L i = 72) from propext (LB.ty hb.1 (k := 72) (by decide))), (show (nI (tyK (tkk L i)) = (233 : Int32)) = (tkk L i = 73) from propext (LB.ty hb.1 (k := 73) (by decide))), (show (nI (tyK (tkk L i)) = (234 : Int32)) = (tkk L i = 74) from propext (LB.ty hb.1 (k := 74) (by decide))), (show (nI (tyK (tkk L i)) = (235 : Int32)) = (tkk L i = 75) from propext (LB.ty hb.1 (k := 75) (by decide))), (show (nI (tyK (tkk L i)) = (236 : Int32)) = (tkk L i = 76) from propext (LB.ty hb.1 (k := 76) (by decide))), (show (nI (tyK (tkk L i)) = (237 : Int32)) = (tkk L i = 77) from propext (LB.ty hb.1 (k := 77) (by decide))), (show (nI (tyK (tkk L i)) = (238 : Int32)) = (tkk L i = 78) from propext (LB.ty hb.1 (k := 78) (by decide))), (show (nI (tyK (tkk L i)) = (239 : Int32)) = (tkk L i = 79) from propext (LB.ty hb.1 (k := 79) (by decide))), (show (nI (tyK (tkk L i)) = (240 : Int32)) = (tkk L i = 80) from propext (LB.ty hb.1 (k := 80) (by decide))), k1, k2, k3, k4, k7, k8, k9, k10, k11, k12, k13, k14, k15, k16, k17, k18, if_false]
    rw [bnd_t, hb.1.2.2.1, bnd_t, bnd_t, bC_t (show F_MText_fails N w (1 : Int32) (nI i) _ = _ from ev_fails (k := 1) hL1 hi), bC_v]
  rw [eA, eB]
  exact Out.no (k := 1) hb.1 (by decide) (by decide) hi (hL1.fail (by decide) (by decide)) (((same.rf.sD (by unfold SRo; omega)).sD (by unfold SRo; omega)).tr SRo_fail)
end Par
