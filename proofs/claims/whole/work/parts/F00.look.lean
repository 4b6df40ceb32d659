/-! ===== the call look ===== -/
/-- how many places from i on pr holds of, from l on -/
def ctF (pr : Nat → Bool) : Nat → Nat → Int32 → Int32
  | 0, _, l => l
  | j + 1, i, l => if pr i = true then ctF pr j (i + 1) (l + 1) else ctF pr j (i + 1) l
theorem ctF_no {pr : Nat → Bool} : ∀ j i l, (∀ q, i ≤ q → q < i + j → ¬ pr q = true) → ctF pr j i l = l := by
  intro j
  induction j with
  | zero => intro i l _; rfl
  | succ j ih =>
    intro i l h
    rw [ctF, if_neg (h i (Nat.le_refl _) (by omega))]
    exact ih (i + 1) l (fun q y1 y2 => h q (by omega) (by omega))
theorem ctF_ext {pr : Nat → Bool} : ∀ j i l k, (∀ q, i + j ≤ q → q < i + (j + k) → ¬ pr q = true) → ctF pr (j + k) i l = ctF pr j i l := by
  intro j
  induction j with
  | zero =>
    intro i l k h
    rw [Nat.zero_add]
    rw [ctF_no k i l (fun q y1 y2 => h q (by omega) (by omega))]
    rfl
  | succ j ih =>
    intro i l k h
    rw [show j + 1 + k = j + k + 1 by omega, ctF, ctF, ih (i + 1) _ k (fun q y1 y2 => h q (by omega) (by omega)), ih (i + 1) _ k (fun q y1 y2 => h q (by omega) (by omega))]
section Par
variable {N p wo inp cs w u ir M K0 : Nat} {s pl : Int32} {ty mn nu cd : Nat → Int32} {E Q : Nat → Nat → Nat} {V : Nat → Nat → Int32} {nL lc : Nat} {lk : Nat → Nat} {hd : Nat → Int32}
theorem ec_A {A : Hp} {top : Nat} (W : isW A wo) (hP : PPL Q A wo) (h9 : A.D wo 9 = nI top) (ht : top ≤ 256) : ∀ j i n l, i + j = top → j < n → B_World_entityCount_4 N wo n l (nI i) A = some (ctF (fun q => decide (Q 1 q = 1)) j i l, A) := by
  intro j
  induction j with
  | zero =>
    intro i n l hi hn
    obtain ⟨n, rfl⟩ : ∃ y, n = y + 1 := ⟨n - 1, by omega⟩
    rw [B_World_entityCount_4, ck_t (WS W), bnd_t, h9, if_pos (nI_le (by omega) (by omega))]
    rfl
  | succ j ih =>
    intro i n l hi hn
    obtain ⟨n, rfl⟩ : ∃ y, n = y + 1 := ⟨n - 1, by omega⟩
    obtain ⟨p1, p2, p3, p4⟩ := hP i (by omega)
    rw [B_World_entityCount_4, ck_t (WS W), bnd_t, h9, if_neg (nI_ge (by omega) (by omega)), rf_t (WP_8 W), ar_t (WA_8 W), rdI (show i < 256 by omega) (by decide), p4]
    unfold B_World_entityCount_24
    dsimp only
    rw [nI_1, ih (i + 1) n l (by omega) (by omega), ih (i + 1) n (l + 1) (by omega) (by omega), ctF]
    by_cases c : Q 1 i = 1
    · rw [if_pos c, if_neg (show ¬ nI (Q 2 i) < (0 : Int32) from nI_nlt (b := 0) (by omega) (by omega)), if_pos (show decide (Q 1 i = 1) = true from decide_eq_true c)]
    · rw [if_neg c, if_pos (show ((-1) : Int32) < 0 by decide), if_neg (show ¬ decide (Q 1 i = 1) = true from fun z => c (of_decide_eq_true z))]
theorem ec_B {B : Hp} (U : isU B u) (hP : PPB Q B u) : ∀ j i n l, i + j = 256 → j < n → B_MWorld_entities_4 N u n l (nI i) B = some (ctF (fun q => decide (Q 1 q = 1)) j i l, B) := by
  intro j
  induction j with
  | zero =>
    intro i n l hi hn
    obtain ⟨n, rfl⟩ : ∃ y, n = y + 1 := ⟨n - 1, by omega⟩
    rw [B_MWorld_entities_4, if_pos (show (256 : Int32) ≤ nI i from nI_le (a := 256) (by omega) (by omega))]
    rfl
  | succ j ih =>
    intro i n l hi hn
    obtain ⟨n, rfl⟩ : ∃ y, n = y + 1 := ⟨n - 1, by omega⟩
    rw [B_MWorld_entities_4, if_neg (show ¬ (256 : Int32) ≤ nI i from nI_ge (b := 256) (by omega) (by decide)), ck_t (US U), rf_t (UP_5 U), ar_t (UA_5 U), rdI (show i < 256 by omega) (by decide), (hP i (by omega)).2.2.2.1]
    unfold B_MWorld_entities_26
    dsimp only
    rw [nI_1, Int32.add_zero, ih (i + 1) n l (by omega) (by omega), ih (i + 1) n (l + 1) (by omega) (by omega), ctF]
    by_cases c : Q 1 i = 1
    · rw [if_pos c, if_neg (show ¬ (1 : Int32) = 0 by decide), if_pos (show decide (Q 1 i = 1) = true from decide_eq_true c)]
    · rw [if_neg c, if_pos rfl, if_neg (show ¬ decide (Q 1 i = 1) = true from fun z => c (of_decide_eq_true z))]
theorem look_jo {S : Nat → Nat} {kT b t0 la z us un c n U F : Nat} {q : Int32} {Nm : Nat → Nat → List Nat} {Pv : Nat → Nat → Int32} {A B : Hp} (h : PLI N p cs w M ty mn nu cd E Nm Pv S b t0 A la z B us un c n) (hE : WE E) (hG : GM E) (hN : 300 ≤ N) (hTl : TLD kT A B) (hk : WKR A B U F) (hag : A.D 11 3 = B.D 517 13) (hon : A.D 11 2 = B.D 517 12) (hta : A.D 1 1 = B.D 517 2) (hou : A.D 131 1 = B.D 517 22) (hpr : A.P 0 4 = .ref p) : ∃ r, F_W_look N 0 q A = some (r, A) ∧ F_M_look N 517 q B = some (r, B.sD 517 0 0) := by
  obtain ⟨⟨hGA, hGB, hT, hL⟩, ⟨hus, hun, hne, b8, b9, b3⟩, ⟨n0, n1, n2, n3, n4, n5, n6⟩, ⟨Qn, ⟨⟨w1, w2, w3, w4, w5, w6, w7⟩, a0, a1, a3, a15⟩, -, -⟩, -⟩ := h
  obtain ⟨⟨-, ⟨ac, -⟩, -, -, ⟨a7, a51⟩, a26⟩, ⟨-, ⟨bc, -⟩, -, -, b29, -⟩, hp, hw, -, -, -, g27⟩ := hT
  have w17 : E 17 0 ≤ 16 := hE.2.2.2.2.2.2.2.2.2.2.2.1
  have hw' := lT_le hw
  have hu1 := lU_le hus
  have hu2 := lU_le hun
  have hP := gr_P hGA hp
  have W := gr_W hGA 12 (by decide)
  have G1 : Gr (B.sD 517 0 0) := hGB.sD
  have U1 := gr_U G1 un hun
  have U2 := gr_U G1 us hus
  have T := gr_T G1 w hw
  have b81 : (B.sD 517 0 0).P 517 8 = .ref us := b8
  have b91 : (B.sD 517 0 0).P 517 9 = .ref un := b9
  have b31 : (B.sD 517 0 0).P 517 3 = .ref w := b3
  have d : ∀ a f, ¬ (a = 517 ∧ f = 0) → (B.sD 517 0 0).D a f = B.D a f := fun a f y => rdnn y
  have hk1 : WKR A (B.sD 517 0 0) U F := ⟨hk.1, hk.2.1, hk.2.2.1, hk.2.2.2.1, fun k y => by rw [d _ _ (by omega), d _ _ (by omega)]; exact hk.2.2.2.2 k y⟩
  have hPB : PPB Qn (B.sD 517 0 0) un := fun x hx => by
    rw [rdw (by omega), rdw (by omega), rdw (by omega)]
    exact w2 x hx
  have ea : F_World_entityCount N 12 A = some (ctF (fun q => decide (Qn 1 q = 1)) (Qn 5 1) 0 0, A) := ec_A W w1 w5.1 w5.2.1 (Qn 5 1) 0 N 0 (by omega) (by have := w5.2.1; omega)
  have eb : F_MWorld_entities N un (B.sD 517 0 0) = some (ctF (fun q => decide (Qn 1 q = 1)) (Qn 5 1) 0 0, B.sD 517 0 0) := by
    have e := ec_B (N := N) U1 hPB 256 0 N 0 (by omega) (by omega)
    have : 256 = Qn 5 1 + (256 - Qn 5 1) := by have := w5.2.1; omega
    rw [this, ctF_ext (Qn 5 1) 0 0 (256 - Qn 5 1) (fun q y1 y2 => by rw [decide_eq_true_iff]; exact w5.2.2 q (by omega) (by omega))] at e
    exact e
  have eg : F_MText_groups N w (B.sD 517 0 0) = some (nI (E 26 0), B.sD 517 0 0) := by
    unfold F_MText_groups
    rw [ck_t (TS T), bnd_t, d w 29 (by omega), b29, hG.2.2]
    by_cases y : E 17 0 = 0
    · rw [if_pos (by rw [y]; rfl), if_pos y]
      rfl
    · rw [if_neg (show ¬ nI (E 17 0) = 0 from fun z => y ((nI_eq (b := 0) (by omega) (by decide)).mp z)), if_neg y, rf_t (TP_36 T), bnd_t, ar_t (TA_36 T), show nI (E 17 0) - (1 : Int32) = nI (E 17 0 - 1) from nI_dif (b := 1) (by omega), rdI (show E 17 0 - 1 < 16 by omega) (by decide), d _ _ (by omega), g27 _ (by omega), nI_1]
  by_cases q0 : q = 0
  · subst q0
    refine ⟨nI (E 17 0), ?_, ?_⟩
    · unfold F_W_look
      rw [if_pos rfl, ck_t (rS_0 hGA), rf_t hpr, ck_t (PrS hP), bnd_t, a7]
    · unfold F_M_look
      rw [ck_t (rS_517 hGB), bnd_t, if_pos rfl, rf_t b31, ck_t (TS T), bnd_t, d w 29 (by omega), b29]
  by_cases q1 : q = 1
  · subst q1
    refine ⟨nI (E 4 0), ?_, ?_⟩
    · unfold F_W_look
      rw [if_neg (show ¬ (1 : Int32) = 0 by decide), if_pos rfl, ck_t (rS_0 hGA), rf_t hpr, ck_t (PrS hP), rf_t (PrP_2 hP), ck_t (PrA_2 hP), bnd_t, ac]
    · unfold F_M_look
      rw [ck_t (rS_517 hGB), bnd_t, if_neg (show ¬ (1 : Int32) = 0 by decide), if_pos rfl, rf_t b31, ck_t (TS T), bnd_t, d w 16 (by omega), bc]
  by_cases q2 : q = 2
  · subst q2
    refine ⟨A.D 12 0, ?_, ?_⟩
    · unfold F_W_look
      rw [if_neg (show ¬ (2 : Int32) = 0 by decide), if_neg (show ¬ (2 : Int32) = 1 by decide), if_pos rfl, ck_t (rS_0 hGA), rf_t (rP_0_2 hGA), ck_t (rS_11 hGA), rf_t (rP_11_0 hGA), ck_t (rA_11_0 hGA), bnd_t]
    · unfold F_M_look
      rw [ck_t (rS_517 hGB), bnd_t, if_neg (show ¬ (2 : Int32) = 0 by decide), if_neg (show ¬ (2 : Int32) = 1 by decide), if_pos rfl, rf_t b91, ck_t (US U1), bnd_t, d un 0 (by omega), ← a0]
  by_cases q3 : q = 3
  · subst q3
    refine ⟨nI c, ?_, ?_⟩
    · unfold F_W_look
      rw [if_neg (show ¬ (3 : Int32) = 0 by decide), if_neg (show ¬ (3 : Int32) = 1 by decide), if_neg (show ¬ (3 : Int32) = 2 by decide), if_pos rfl, ck_t (rS_0 hGA), rf_t (rP_0_2 hGA), ck_t (rS_11 hGA), bnd_t, n4]
    · unfold F_M_look
      rw [ck_t (rS_517 hGB), bnd_t, if_neg (show ¬ (3 : Int32) = 0 by decide), if_neg (show ¬ (3 : Int32) = 1 by decide), if_neg (show ¬ (3 : Int32) = 2 by decide), if_pos rfl, rf_t b81, ck_t (US U2), bnd_t, d us 0 (by omega), n5]
  by_cases q4 : q = 4
  · subst q4
    refine ⟨ctF (fun q => decide (Qn 1 q = 1)) (Qn 5 1) 0 0, ?_, ?_⟩
    · unfold F_W_look
      rw [if_neg (show ¬ (4 : Int32) = 0 by decide), if_neg (show ¬ (4 : Int32) = 1 by decide), if_neg (show ¬ (4 : Int32) = 2 by decide), if_neg (show ¬ (4 : Int32) = 3 by decide), if_pos rfl, ck_t (rS_0 hGA), rf_t (rP_0_2 hGA), ck_t (rS_11 hGA), rf_t (rP_11_0 hGA), ck_t (rA_11_0 hGA), bC_t ea]
    · unfold F_M_look
      rw [ck_t (rS_517 hGB), bnd_t, if_neg (show ¬ (4 : Int32) = 0 by decide), if_neg (show ¬ (4 : Int32) = 1 by decide), if_neg (show ¬ (4 : Int32) = 2 by decide), if_neg (show ¬ (4 : Int32) = 3 by decide), if_pos rfl, rf_t b91, ck_t (US U1), bC_t eb]
  by_cases q5 : q = 5
  · subst q5
    refine ⟨nI (Qn 5 2), ?_, ?_⟩
    · unfold F_W_look
      rw [if_neg (show ¬ (5 : Int32) = 0 by decide), if_neg (show ¬ (5 : Int32) = 1 by decide), if_neg (show ¬ (5 : Int32) = 2 by decide), if_neg (show ¬ (5 : Int32) = 3 by decide), if_neg (show ¬ (5 : Int32) = 4 by decide), if_pos rfl, ck_t (rS_0 hGA), rf_t (rP_0_2 hGA), ck_t (rS_11 hGA), rf_t (rP_11_0 hGA), ck_t (rA_11_0 hGA), bnd_t, w6.1]
    · unfold F_M_look
      rw [ck_t (rS_517 hGB), bnd_t, if_neg (show ¬ (5 : Int32) = 0 by decide), if_neg (show ¬ (5 : Int32) = 1 by decide), if_neg (show ¬ (5 : Int32) = 2 by decide), if_neg (show ¬ (5 : Int32) = 3 by decide), if_neg (show ¬ (5 : Int32) = 4 by decide), if_pos rfl, rf_t b91, ck_t (US U1), bnd_t, d un 8 (by omega), w6.2.1]
  by_cases q6 : q = 6
  · subst q6
    refine ⟨A.D 12 2, ?_, ?_⟩
    · unfold F_W_look
      rw [if_neg (show ¬ (6 : Int32) = 0 by decide), if_neg (show ¬ (6 : Int32) = 1 by decide), if_neg (show ¬ (6 : Int32) = 2 by decide), if_neg (show ¬ (6 : Int32) = 3 by decide), if_neg (show ¬ (6 : Int32) = 4 by decide), if_neg (show ¬ (6 : Int32) = 5 by decide), if_pos rfl, ck_t (rS_0 hGA), rf_t (rP_0_2 hGA), ck_t (rS_11 hGA), rf_t (rP_11_0 hGA), ck_t (rA_11_0 hGA), bnd_t]
    · unfold F_M_look
      rw [ck_t (rS_517 hGB), bnd_t, if_neg (show ¬ (6 : Int32) = 0 by decide), if_neg (show ¬ (6 : Int32) = 1 by decide), if_neg (show ¬ (6 : Int32) = 2 by decide), if_neg (show ¬ (6 : Int32) = 3 by decide), if_neg (show ¬ (6 : Int32) = 4 by decide), if_neg (show ¬ (6 : Int32) = 5 by decide), if_pos rfl, rf_t b91, ck_t (US U1), bnd_t, d un 2 (by omega), ← a15.1]
  by_cases q7 : q = 7
  · subst q7
    refine ⟨A.D 12 3, ?_, ?_⟩
    · unfold F_W_look
      rw [if_neg (show ¬ (7 : Int32) = 0 by decide), if_neg (show ¬ (7 : Int32) = 1 by decide), if_neg (show ¬ (7 : Int32) = 2 by decide), if_neg (show ¬ (7 : Int32) = 3 by decide), if_neg (show ¬ (7 : Int32) = 4 by decide), if_neg (show ¬ (7 : Int32) = 5 by decide), if_neg (show ¬ (7 : Int32) = 6 by decide), if_pos rfl, ck_t (rS_0 hGA), rf_t (rP_0_2 hGA), ck_t (rS_11 hGA), rf_t (rP_11_0 hGA), ck_t (rA_11_0 hGA), bnd_t]
    · unfold F_M_look
      rw [ck_t (rS_517 hGB), bnd_t, if_neg (show ¬ (7 : Int32) = 0 by decide), if_neg (show ¬ (7 : Int32) = 1 by decide), if_neg (show ¬ (7 : Int32) = 2 by decide), if_neg (show ¬ (7 : Int32) = 3 by decide), if_neg (show ¬ (7 : Int32) = 4 by decide), if_neg (show ¬ (7 : Int32) = 5 by decide), if_neg (show ¬ (7 : Int32) = 6 by decide), if_pos rfl, rf_t b91, ck_t (US U1), bnd_t, d un 3 (by omega), ← a3]
  by_cases q8 : q = 8
  · subst q8
    refine ⟨A.D 11 5, ?_, ?_⟩
    · unfold F_W_look
      rw [if_neg (show ¬ (8 : Int32) = 0 by decide), if_neg (show ¬ (8 : Int32) = 1 by decide), if_neg (show ¬ (8 : Int32) = 2 by decide), if_neg (show ¬ (8 : Int32) = 3 by decide), if_neg (show ¬ (8 : Int32) = 4 by decide), if_neg (show ¬ (8 : Int32) = 5 by decide), if_neg (show ¬ (8 : Int32) = 6 by decide), if_neg (show ¬ (8 : Int32) = 7 by decide), if_pos rfl, ck_t (rS_0 hGA), rf_t (rP_0_2 hGA), ck_t (rS_11 hGA), bnd_t]
    · unfold F_M_look
      rw [ck_t (rS_517 hGB), bnd_t, if_neg (show ¬ (8 : Int32) = 0 by decide), if_neg (show ¬ (8 : Int32) = 1 by decide), if_neg (show ¬ (8 : Int32) = 2 by decide), if_neg (show ¬ (8 : Int32) = 3 by decide), if_neg (show ¬ (8 : Int32) = 4 by decide), if_neg (show ¬ (8 : Int32) = 5 by decide), if_neg (show ¬ (8 : Int32) = 6 by decide), if_neg (show ¬ (8 : Int32) = 7 by decide), if_pos rfl, bnd_t, d 517 20 (by omega), ← hTl.1]
  by_cases q9 : q = 9
  · subst q9
    refine ⟨A.D 131 1, ?_, ?_⟩
    · unfold F_W_look
      rw [if_neg (show ¬ (9 : Int32) = 0 by decide), if_neg (show ¬ (9 : Int32) = 1 by decide), if_neg (show ¬ (9 : Int32) = 2 by decide), if_neg (show ¬ (9 : Int32) = 3 by decide), if_neg (show ¬ (9 : Int32) = 4 by decide), if_neg (show ¬ (9 : Int32) = 5 by decide), if_neg (show ¬ (9 : Int32) = 6 by decide), if_neg (show ¬ (9 : Int32) = 7 by decide), if_neg (show ¬ (9 : Int32) = 8 by decide), if_pos rfl, ck_t (rS_0 hGA), rf_t (rP_0_3 hGA), ck_t (rS_131 hGA), bnd_t]
    · unfold F_M_look
      rw [ck_t (rS_517 hGB), bnd_t, if_neg (show ¬ (9 : Int32) = 0 by decide), if_neg (show ¬ (9 : Int32) = 1 by decide), if_neg (show ¬ (9 : Int32) = 2 by decide), if_neg (show ¬ (9 : Int32) = 3 by decide), if_neg (show ¬ (9 : Int32) = 4 by decide), if_neg (show ¬ (9 : Int32) = 5 by decide), if_neg (show ¬ (9 : Int32) = 6 by decide), if_neg (show ¬ (9 : Int32) = 7 by decide), if_neg (show ¬ (9 : Int32) = 8 by decide), if_pos rfl, bnd_t, d 517 22 (by omega), ← hou]
  by_cases q10 : q = 10
  · subst q10
    refine ⟨nI (E 26 0), ?_, ?_⟩
    · unfold F_W_look
      rw [if_neg (show ¬ (10 : Int32) = 0 by decide), if_neg (show ¬ (10 : Int32) = 1 by decide), if_neg (show ¬ (10 : Int32) = 2 by decide), if_neg (show ¬ (10 : Int32) = 3 by decide), if_neg (show ¬ (10 : Int32) = 4 by decide), if_neg (show ¬ (10 : Int32) = 5 by decide), if_neg (show ¬ (10 : Int32) = 6 by decide), if_neg (show ¬ (10 : Int32) = 7 by decide), if_neg (show ¬ (10 : Int32) = 8 by decide), if_neg (show ¬ (10 : Int32) = 9 by decide), if_pos rfl, ck_t (rS_0 hGA), rf_t hpr, ck_t (PrS hP), bnd_t, a26]
    · unfold F_M_look
      rw [ck_t (rS_517 hGB), bnd_t, if_neg (show ¬ (10 : Int32) = 0 by decide), if_neg (show ¬ (10 : Int32) = 1 by decide), if_neg (show ¬ (10 : Int32) = 2 by decide), if_neg (show ¬ (10 : Int32) = 3 by decide), if_neg (show ¬ (10 : Int32) = 4 by decide), if_neg (show ¬ (10 : Int32) = 5 by decide), if_neg (show ¬ (10 : Int32) = 6 by decide), if_neg (show ¬ (10 : Int32) = 7 by decide), if_neg (show ¬ (10 : Int32) = 8 by decide), if_neg (show ¬ (10 : Int32) = 9 by decide), if_pos rfl, rf_t b31, ck_t (TS T), bC_t eg]
  by_cases q11 : q = 11
  · subst q11
    refine ⟨nI (pcn 8 U), ?_, ?_⟩
    · unfold F_W_look
      rw [if_neg (show ¬ (11 : Int32) = 0 by decide), if_neg (show ¬ (11 : Int32) = 1 by decide), if_neg (show ¬ (11 : Int32) = 2 by decide), if_neg (show ¬ (11 : Int32) = 3 by decide), if_neg (show ¬ (11 : Int32) = 4 by decide), if_neg (show ¬ (11 : Int32) = 5 by decide), if_neg (show ¬ (11 : Int32) = 6 by decide), if_neg (show ¬ (11 : Int32) = 7 by decide), if_neg (show ¬ (11 : Int32) = 8 by decide), if_neg (show ¬ (11 : Int32) = 9 by decide), if_neg (show ¬ (11 : Int32) = 10 by decide), if_pos rfl, ck_t (rS_0 hGA), bnd_t, hk.2.2.1, bC_t (ev_bitCount (by have := hk.1; omega)), (pc8 ⟨U, hk.1⟩).2.2]
    · unfold F_M_look
      rw [ck_t (rS_517 hGB), bnd_t, if_neg (show ¬ (11 : Int32) = 0 by decide), if_neg (show ¬ (11 : Int32) = 1 by decide), if_neg (show ¬ (11 : Int32) = 2 by decide), if_neg (show ¬ (11 : Int32) = 3 by decide), if_neg (show ¬ (11 : Int32) = 4 by decide), if_neg (show ¬ (11 : Int32) = 5 by decide), if_neg (show ¬ (11 : Int32) = 6 by decide), if_neg (show ¬ (11 : Int32) = 7 by decide), if_neg (show ¬ (11 : Int32) = 8 by decide), if_neg (show ¬ (11 : Int32) = 9 by decide), if_neg (show ¬ (11 : Int32) = 10 by decide), if_pos rfl, bC_t (ev_wk1 G1 hk1 hN)]
  by_cases q12 : q = 12
  · subst q12
    refine ⟨A.D 11 3, ?_, ?_⟩
    · unfold F_W_look
      rw [if_neg (show ¬ (12 : Int32) = 0 by decide), if_neg (show ¬ (12 : Int32) = 1 by decide), if_neg (show ¬ (12 : Int32) = 2 by decide), if_neg (show ¬ (12 : Int32) = 3 by decide), if_neg (show ¬ (12 : Int32) = 4 by decide), if_neg (show ¬ (12 : Int32) = 5 by decide), if_neg (show ¬ (12 : Int32) = 6 by decide), if_neg (show ¬ (12 : Int32) = 7 by decide), if_neg (show ¬ (12 : Int32) = 8 by decide), if_neg (show ¬ (12 : Int32) = 9 by decide), if_neg (show ¬ (12 : Int32) = 10 by decide), if_neg (show ¬ (12 : Int32) = 11 by decide), if_pos rfl, ck_t (rS_0 hGA), rf_t (rP_0_2 hGA), ck_t (rS_11 hGA), bnd_t]
    · unfold F_M_look
      rw [ck_t (rS_517 hGB), bnd_t, if_neg (show ¬ (12 : Int32) = 0 by decide), if_neg (show ¬ (12 : Int32) = 1 by decide), if_neg (show ¬ (12 : Int32) = 2 by decide), if_neg (show ¬ (12 : Int32) = 3 by decide), if_neg (show ¬ (12 : Int32) = 4 by decide), if_neg (show ¬ (12 : Int32) = 5 by decide), if_neg (show ¬ (12 : Int32) = 6 by decide), if_neg (show ¬ (12 : Int32) = 7 by decide), if_neg (show ¬ (12 : Int32) = 8 by decide), if_neg (show ¬ (12 : Int32) = 9 by decide), if_neg (show ¬ (12 : Int32) = 10 by decide), if_neg (show ¬ (12 : Int32) = 11 by decide), if_pos rfl, bnd_t, d 517 13 (by omega), ← hag]
  by_cases q13 : q = 13
  · subst q13
    refine ⟨A.D 1 1, ?_, ?_⟩
    · unfold F_W_look
      rw [if_neg (show ¬ (13 : Int32) = 0 by decide), if_neg (show ¬ (13 : Int32) = 1 by decide), if_neg (show ¬ (13 : Int32) = 2 by decide), if_neg (show ¬ (13 : Int32) = 3 by decide), if_neg (show ¬ (13 : Int32) = 4 by decide), if_neg (show ¬ (13 : Int32) = 5 by decide), if_neg (show ¬ (13 : Int32) = 6 by decide), if_neg (show ¬ (13 : Int32) = 7 by decide), if_neg (show ¬ (13 : Int32) = 8 by decide), if_neg (show ¬ (13 : Int32) = 9 by decide), if_neg (show ¬ (13 : Int32) = 10 by decide), if_neg (show ¬ (13 : Int32) = 11 by decide), if_neg (show ¬ (13 : Int32) = 12 by decide), if_pos rfl, ck_t (rS_0 hGA), rf_t (rP_0_0 hGA), ck_t (rS_1 hGA), bnd_t]
    · unfold F_M_look
      rw [ck_t (rS_517 hGB), bnd_t, if_neg (show ¬ (13 : Int32) = 0 by decide), if_neg (show ¬ (13 : Int32) = 1 by decide), if_neg (show ¬ (13 : Int32) = 2 by decide), if_neg (show ¬ (13 : Int32) = 3 by decide), if_neg (show ¬ (13 : Int32) = 4 by decide), if_neg (show ¬ (13 : Int32) = 5 by decide), if_neg (show ¬ (13 : Int32) = 6 by decide), if_neg (show ¬ (13 : Int32) = 7 by decide), if_neg (show ¬ (13 : Int32) = 8 by decide), if_neg (show ¬ (13 : Int32) = 9 by decide), if_neg (show ¬ (13 : Int32) = 10 by decide), if_neg (show ¬ (13 : Int32) = 11 by decide), if_neg (show ¬ (13 : Int32) = 12 by decide), if_pos rfl, bnd_t, d 517 2 (by omega), ← hta]
  by_cases q14 : q = 14
  · subst q14
    refine ⟨A.D 11 2, ?_, ?_⟩
    · unfold F_W_look
      rw [if_neg (show ¬ (14 : Int32) = 0 by decide), if_neg (show ¬ (14 : Int32) = 1 by decide), if_neg (show ¬ (14 : Int32) = 2 by decide), if_neg (show ¬ (14 : Int32) = 3 by decide), if_neg (show ¬ (14 : Int32) = 4 by decide), if_neg (show ¬ (14 : Int32) = 5 by decide), if_neg (show ¬ (14 : Int32) = 6 by decide), if_neg (show ¬ (14 : Int32) = 7 by decide), if_neg (show ¬ (14 : Int32) = 8 by decide), if_neg (show ¬ (14 : Int32) = 9 by decide), if_neg (show ¬ (14 : Int32) = 10 by decide), if_neg (show ¬ (14 : Int32) = 11 by decide), if_neg (show ¬ (14 : Int32) = 12 by decide), if_neg (show ¬ (14 : Int32) = 13 by decide), if_pos rfl, ck_t (rS_0 hGA), rf_t (rP_0_2 hGA), ck_t (rS_11 hGA), bnd_t]
    · unfold F_M_look
      rw [ck_t (rS_517 hGB), bnd_t, if_neg (show ¬ (14 : Int32) = 0 by decide), if_neg (show ¬ (14 : Int32) = 1 by decide), if_neg (show ¬ (14 : Int32) = 2 by decide), if_neg (show ¬ (14 : Int32) = 3 by decide), if_neg (show ¬ (14 : Int32) = 4 by decide), if_neg (show ¬ (14 : Int32) = 5 by decide), if_neg (show ¬ (14 : Int32) = 6 by decide), if_neg (show ¬ (14 : Int32) = 7 by decide), if_neg (show ¬ (14 : Int32) = 8 by decide), if_neg (show ¬ (14 : Int32) = 9 by decide), if_neg (show ¬ (14 : Int32) = 10 by decide), if_neg (show ¬ (14 : Int32) = 11 by decide), if_neg (show ¬ (14 : Int32) = 12 by decide), if_neg (show ¬ (14 : Int32) = 13 by decide), if_pos rfl, bnd_t, d 517 12 (by omega), ← hon]
  refine ⟨-1, ?_, ?_⟩
  · unfold F_W_look
    rw [if_neg q0, if_neg q1, if_neg q2, if_neg q3, if_neg q4, if_neg q5, if_neg q6, if_neg q7, if_neg q8, if_neg q9, if_neg q10, if_neg q11, if_neg q12, if_neg q13, if_neg q14]
  · unfold F_M_look
    rw [ck_t (rS_517 hGB), bnd_t, if_neg q0, if_neg q1, if_neg q2, if_neg q3, if_neg q4, if_neg q5, if_neg q6, if_neg q7, if_neg q8, if_neg q9, if_neg q10, if_neg q11, if_neg q12, if_neg q13, if_neg q14]
end Par
