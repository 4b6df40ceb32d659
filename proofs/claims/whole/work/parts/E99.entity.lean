/-! ===== the calls entity, row ===== -/
/-- the l-th place from i on of which pr holds -/
def mtF (pr : Nat → Bool) (nm : Nat → Int32) : Nat → Nat → Int32 → Int32
  | 0, _, _ => -1
  | j + 1, i, l => if pr i = true then (if l = 0 then nm i else mtF pr nm j (i + 1) (l + (-1))) else mtF pr nm j (i + 1) l
theorem mtF_no {pr : Nat → Bool} {nm : Nat → Int32} : ∀ j i l, (∀ q, i ≤ q → q < i + j → ¬ pr q = true) → mtF pr nm j i l = -1 := by
  intro j
  induction j with
  | zero => intro i l _; rfl
  | succ j ih =>
    intro i l h
    rw [mtF, if_neg (h i (Nat.le_refl _) (by omega))]
    exact ih (i + 1) l (fun q y1 y2 => h q (by omega) (by omega))
theorem mtF_ext {pr : Nat → Bool} {nm : Nat → Int32} : ∀ j i l k, (∀ q, i + j ≤ q → q < i + (j + k) → ¬ pr q = true) → mtF pr nm (j + k) i l = mtF pr nm j i l := by
  intro j
  induction j with
  | zero =>
    intro i l k h
    rw [Nat.zero_add]
    rw [mtF_no k i l (fun q y1 y2 => h q (by omega) (by omega))]
    rfl
  | succ j ih =>
    intro i l k h
    rw [show j + 1 + k = j + k + 1 by omega, mtF, mtF, ih (i + 1) _ k (fun q y1 y2 => h q (by omega) (by omega)), ih (i + 1) _ k (fun q y1 y2 => h q (by omega) (by omega))]
/-- from a negative number on none is found -/
theorem mtF_neg {pr : Nat → Bool} {nm : Nat → Int32} {k : Int32} (hk : k < 0) : ∀ j i d l, l = k - nI d → d + j < 1000 → mtF pr nm j i l = -1 := by
  intro j
  induction j with
  | zero => intro i d l _ _; rfl
  | succ j ih =>
    intro i d l hl hd
    have nz : ¬ l = 0 := fun y => by
      rw [hl] at y
      have e : k = nI d := by
        have : k - nI d + nI d = 0 + nI d := by rw [y]
        rw [Int32.sub_add_cancel, Int32.zero_add] at this
        exact this
      rw [e] at hk
      exact nI_nlt (b := 0) (by omega) (by omega) hk
    have e1 : l + -1 = k - nI (d + 1) := by
      rw [hl, ← nI_1, Int32.sub_eq_add_neg, Int32.sub_eq_add_neg k (nI d + 1), Int32.neg_add, Int32.add_assoc, Int32.sub_eq_add_neg (-nI d) 1]
    rw [mtF, if_neg nz, ih (i + 1) d l hl (by omega), ih (i + 1) (d + 1) (l + -1) e1 (by omega), ite_self]
section Par
variable {N p wo inp cs w u ir M K0 : Nat} {s pl : Int32} {ty mn nu cd : Nat → Int32} {E Q : Nat → Nat → Nat} {V : Nat → Nat → Int32} {nL lc : Nat} {lk : Nat → Nat} {hd : Nat → Int32}
def nmQ (Q : Nat → Nat → Nat) (q : Nat) : Int32 := (256 : Int32) * nI (Q 0 q) + nI q
/-- class: the loop -/
theorem ma_A {A : Hp} {x y k : Int32} {pr : Nat → Bool} {top : Nat} (W : isW A wo) (hP : PPL Q A wo) (h9 : A.D wo 9 = nI top) (ht : top ≤ 256) (hm : ∀ q, q < 256 → ∃ v, F_World_matches N wo (nI q) x y A = some (v, A) ∧ (v = 0 ↔ ¬ pr q = true)) : ∀ j i n l, i + j = top → j < n → B_World_matchAt_6 N wo x y k n l (nI i) A = some (mtF pr (nmQ Q) j i l, A) := by
  intro j
  induction j with
  | zero =>
    intro i n l hi hn
    obtain ⟨n, rfl⟩ : ∃ y, n = y + 1 := ⟨n - 1, by omega⟩
    rw [B_World_matchAt_6, ck_t (WS W), bnd_t, h9, if_pos (nI_le (by omega) (by omega))]
    rfl
  | succ j ih =>
    intro i n l hi hn
    obtain ⟨n, rfl⟩ : ∃ y, n = y + 1 := ⟨n - 1, by omega⟩
    obtain ⟨v, v1, v2⟩ := hm i (by omega)
    rw [B_World_matchAt_6, ck_t (WS W), bnd_t, h9, if_neg (nI_ge (by omega) (by omega)), bC_t v1, bC_t (ev_numAt W (show i < 256 by omega)), (hP i (by omega)).1]
    unfold B_World_matchAt_41
    dsimp only
    rw [nI_1, ih (i + 1) n l (by omega) (by omega), ih (i + 1) n (l + (-1)) (by omega) (by omega), mtF]
    by_cases c : pr i = true
    · rw [if_neg (fun z => v2.mp z c), if_pos c]
      by_cases c2 : l = 0
      · rw [if_pos c2, if_pos c2]
        rfl
      · rw [if_neg c2, if_neg c2]
    · rw [if_pos (v2.mpr c), if_neg c]
theorem ev_nmB {B : Hp} {q : Nat} (U : isU B u) (hP : PPB Q B u) (hq : q < 256) : F_MWorld_number N u (nI q) B = some (nmQ Q q, B) := by
  unfold F_MWorld_number nmQ
  rw [ck_t (US U), rf_t (UP_4 U), ar_t (UA_4 U), rdI hq (by decide), (hP q hq).1]
/-- reference: the loop of entity -/
theorem ma_B {B : Hp} {k : Int32} (hG : Gr B) (b9 : B.P 517 9 = .ref u) (U : isU B u) (hP : PPB Q B u) (hk : ¬ k < 0) : ∀ j i n l, i + j = 256 → j < n → B_M_entity_9 N 517 k n l (nI i) B = some (mtF (fun q => decide (Q 1 q = 1)) (nmQ Q) j i l, B) := by
  intro j
  induction j with
  | zero =>
    intro i n l hi hn
    obtain ⟨n, rfl⟩ : ∃ y, n = y + 1 := ⟨n - 1, by omega⟩
    rw [B_M_entity_9, if_pos (show (256 : Int32) ≤ nI i from nI_le (a := 256) (by omega) (by omega))]
    rfl
  | succ j ih =>
    intro i n l hi hn
    obtain ⟨n, rfl⟩ : ∃ y, n = y + 1 := ⟨n - 1, by omega⟩
    rw [B_M_entity_9, if_neg (show ¬ (256 : Int32) ≤ nI i from nI_ge (b := 256) (by omega) (by decide)), if_neg hk, ck_t (rS_517 hG), rf_t b9, ck_t (US U), rf_t (UP_5 U), ar_t (UA_5 U), rdI (show i < 256 by omega) (by decide), (hP i (by omega)).2.2.2.1, rf_t b9, ck_t (US U), bC_t (ev_nmB U hP (show i < 256 by omega))]
    unfold B_M_entity_51
    dsimp only
    rw [nI_1, ih (i + 1) n l (by omega) (by omega), ih (i + 1) n (l + (-1)) (by omega) (by omega), mtF]
    by_cases c : Q 1 i = 1
    · rw [if_pos c, if_neg (show ¬ (1 : Int32) = 0 by decide), if_pos (show decide (Q 1 i = 1) = true from decide_eq_true c)]
      by_cases c2 : l = 0
      · rw [if_pos c2, if_pos c2]
      · rw [if_neg c2, if_neg c2]
    · rw [if_neg c, if_pos rfl, if_neg (show ¬ decide (Q 1 i = 1) = true from fun z => c (of_decide_eq_true z))]
/-- reference: the loop of row -/
theorem mr_B {B : Hp} {k : Int32} {sy : Nat} (hG : Gr B) (b9 : B.P 517 9 = .ref u) (b3 : B.P 517 3 = .ref w) (U : isU B u) (T : isT B w) (hP : PPB Q B u) (hS : TSB B w E) (hE : WE E) (hs : sy < E 17 0) (hk : ¬ k < 0) : ∀ j i n l, i + j = 256 → j < n → B_M_row_10 N 517 (nI sy) k n l (nI i) B = some (mtF (fun q => decide (Q 1 q = 1 ∧ Q 2 q &&& E 18 sy = E 18 sy ∧ Q 2 q &&& E 19 sy = 0)) (nmQ Q) j i l, B) := by
  have w17 : E 17 0 ≤ 16 := hE.2.2.2.2.2.2.2.2.2.2.2.1
  intro j
  induction j with
  | zero =>
    intro i n l hi hn
    obtain ⟨n, rfl⟩ : ∃ y, n = y + 1 := ⟨n - 1, by omega⟩
    rw [B_M_row_10, if_pos (show (256 : Int32) ≤ nI i from nI_le (a := 256) (by omega) (by omega))]
    rfl
  | succ j ih =>
    intro i n l hi hn
    obtain ⟨n, rfl⟩ : ∃ y, n = y + 1 := ⟨n - 1, by omega⟩
    obtain ⟨v, v1, v2⟩ := ev_isr (N := N) U T hP hS hE (show i < 256 by omega) hs
    have q1 : ¬ nI sy < 0 := nI_nlt (b := 0) (by omega) (by omega)
    rw [B_M_row_10, if_neg (show ¬ (256 : Int32) ≤ nI i from nI_ge (b := 256) (by omega) (by decide)), if_neg hk, ck_t (rS_517 hG), rf_t b3, ck_t (TS T), bnd_t, hS.1, bC_t (ev_in (a := (0 : Int64)) (b := (nI (E 17 0) - 1).toInt64) (lo := 0) (hi := nI (E 17 0) - 1) rfl rfl), if_neg q1, if_neg (fun y => nI_ge (b := E 17 0) hs (by omega) ((nI_m1 (n := E 17 0) (by omega) (nI sy) q1).mp y)), if_neg (show ¬ (1 : Int32) = 0 by decide), rf_t b3, rf_t b9, ck_t (TS T), bC_t v1, rf_t b9, ck_t (US U), bC_t (ev_nmB U hP (show i < 256 by omega))]
    unfold B_M_row_78
    dsimp only
    rw [nI_1, ih (i + 1) n l (by omega) (by omega), ih (i + 1) n (l + (-1)) (by omega) (by omega), mtF]
    by_cases c : Q 1 i = 1 ∧ Q 2 i &&& E 18 sy = E 18 sy ∧ Q 2 i &&& E 19 sy = 0
    · rw [if_neg (fun z => v2.mp z c), if_pos (show decide (Q 1 i = 1 ∧ Q 2 i &&& E 18 sy = E 18 sy ∧ Q 2 i &&& E 19 sy = 0) = true from decide_eq_true c)]
      by_cases c2 : l = 0
      · rw [if_pos c2, if_pos c2]
      · rw [if_neg c2, if_neg c2]
    · rw [if_pos (v2.mpr c), if_neg (show ¬ decide (Q 1 i = 1 ∧ Q 2 i &&& E 18 sy = E 18 sy ∧ Q 2 i &&& E 19 sy = 0) = true from fun z => c (of_decide_eq_true z))]
theorem entity_jo {k : Int32} {A B : Hp} {un : Nat} (hN : 300 ≤ N) (hGA : Gr A) (hGB : Gr B) (hun : un ∈ lU) (b9 : B.P 517 9 = .ref un) (hW : WRL A 12 B un E Q) : ∃ r, F_W_entity N 0 k A = some (r, A) ∧ F_M_entity N 517 k B = some (r, B.sD 517 0 0) := by
  have hu2 := lU_le hun
  have W := gr_W hGA 12 (by decide)
  have G1 : Gr (B.sD 517 0 0) := hGB.sD
  have U := gr_U G1 un hun
  have b91 : (B.sD 517 0 0).P 517 9 = .ref un := b9
  obtain ⟨w1, w2, w3, w4, w5, w6, w7⟩ := hW
  have hPB : PPB Q (B.sD 517 0 0) un := fun x hx => by
    rw [rdw (by omega), rdw (by omega), rdw (by omega)]
    exact w2 x hx
  have ea : F_World_matchAt N 12 0 0 k A = some (mtF (fun q => decide (Q 1 q = 1)) (nmQ Q) (Q 5 1) 0 k, A) := by
    unfold F_World_matchAt
    exact ma_A (k := k) W w1 w5.1 w5.2.1 (fun q hq => by
      obtain ⟨v, v1, v2⟩ := ev_mat (N := N) (x := 0) (y := 0) W w1 hq (by decide) (by decide)
      refine ⟨v, v1, v2.trans ?_⟩
      rw [Nat.and_zero, decide_eq_true_iff]
      exact ⟨fun z y => z ⟨y, rfl, rfl⟩, fun z y => z y.1⟩) (Q 5 1) 0 N k (by omega) (by have := w5.2.1; omega)
  have eA : F_W_entity N 0 k A = some (mtF (fun q => decide (Q 1 q = 1)) (nmQ Q) (Q 5 1) 0 k, A) := by
    unfold F_W_entity
    rw [ck_t (rS_0 hGA), rf_t (rP_0_2 hGA), ck_t (rS_11 hGA), rf_t (rP_11_0 hGA), ck_t (rA_11_0 hGA), bC_t ea]
  refine ⟨_, eA, ?_⟩
  unfold F_M_entity
  rw [ck_t (rS_517 hGB), bnd_t]
  by_cases k1 : k < 0
  · obtain ⟨N1, hN1⟩ : ∃ y, N = y + 1 := ⟨N - 1, by omega⟩
    have : B_M_entity_9 N 517 k (N1 + 1) k 0 (B.sD 517 0 0) = some (-1, B.sD 517 0 0) := by
      rw [B_M_entity_9, if_neg (by decide), if_pos k1]
    rw [← hN1] at this
    rw [this, mtF_neg k1 _ _ 0 k (by show k = k - 0; rw [Int32.sub_zero]) (by have := w5.2.1; omega)]
  · have e := ma_B (N := N) (k := k) G1 b91 U hPB k1 256 0 N k (by omega) (by omega)
    have : 256 = Q 5 1 + (256 - Q 5 1) := by have := w5.2.1; omega
    rw [this, mtF_ext (Q 5 1) 0 k (256 - Q 5 1) (fun q y1 y2 => by rw [decide_eq_true_iff]; exact w5.2.2 q (by omega) (by omega))] at e
    exact e
theorem row_jo2 {s k : Int32} {Nm : Nat → Nat → List Nat} {Pv : Nat → Nat → Int32} {A B : Hp} {un : Nat} (hN : 300 ≤ N) (hT : TXF A p B w cs M ty mn nu cd E Nm Pv) (hE : WE E) (hGA : Gr A) (hGB : Gr B) (hpr : A.P 0 4 = .ref p) (hwr : B.P 517 3 = .ref w) (hun : un ∈ lU) (b9 : B.P 517 9 = .ref un) (hW : WRL A 12 B un E Q) : ∃ r, F_W_row N 0 s k A = some (r, A) ∧ F_M_row N 517 s k B = some (r, B.sD 517 0 0) := by
  obtain ⟨⟨-, -, -, -, ⟨a7, a51⟩, -⟩, ⟨-, -, -, -, b29, b51⟩, hp, hw, -, -, -, g27⟩ := hT
  have w17 : E 17 0 ≤ 16 := hE.2.2.2.2.2.2.2.2.2.2.2.1
  have hw' := lT_le hw
  have hu2 := lU_le hun
  have hP := gr_P hGA hp
  have W := gr_W hGA 12 (by decide)
  have G1 : Gr (B.sD 517 0 0) := hGB.sD
  have U := gr_U G1 un hun
  have T := gr_T G1 w hw
  have b91 : (B.sD 517 0 0).P 517 9 = .ref un := b9
  have b31 : (B.sD 517 0 0).P 517 3 = .ref w := hwr
  have d : ∀ a f, a ≠ 517 → (B.sD 517 0 0).D a f = B.D a f := fun a f y => rdw y
  obtain ⟨w1, w2, w3, w4, w5, w6, w7⟩ := hW
  have hPB : PPB Q (B.sD 517 0 0) un := fun x hx => by
    rw [rdw (by omega), rdw (by omega), rdw (by omega)]
    exact w2 x hx
  have hS : TSB (B.sD 517 0 0) w E := ⟨by rw [d _ _ (by omega)]; exact b29, fun s hs => by
    rw [d _ _ (by omega), d _ _ (by omega), d _ _ (by omega), d _ _ (by omega)]
    obtain ⟨k1, k2, k3, k4, k5, k6⟩ := b51 s hs
    exact ⟨k2, k3, k6, g27 s hs⟩⟩
  obtain ⟨N1, hN1⟩ : ∃ y, N = y + 1 := ⟨N - 1, by omega⟩
  have eB0 : F_M_row N 517 s k B = B_M_row_10 N 517 s k N k 0 (B.sD 517 0 0) := by
    unfold F_M_row
    rw [ck_t (rS_517 hGB), bnd_t]
  have no : (k < 0 ∨ s < 0 ∨ ¬ s < nI (E 17 0)) → F_M_row N 517 s k B = some (-1, B.sD 517 0 0) := fun y => by
    have : B_M_row_10 N 517 s k (N1 + 1) k 0 (B.sD 517 0 0) = some (-1, B.sD 517 0 0) := by
      rw [B_M_row_10, if_neg (by decide)]
      by_cases k1 : k < 0
      · rw [if_pos k1]
      · rw [if_neg k1, ck_t (rS_517 G1), rf_t b31, ck_t (TS T), bnd_t, hS.1, bC_t (ev_in (a := (0 : Int64)) (b := (nI (E 17 0) - 1).toInt64) (lo := 0) (hi := nI (E 17 0) - 1) rfl rfl)]
        by_cases s1 : s < 0
        · rw [if_pos s1, if_pos rfl]
        · rw [if_neg s1, if_pos ((nI_m1 (n := E 17 0) (by omega) s s1).mpr (i32_nlt.mp (by rcases y with y | y | y; exact absurd y k1; exact absurd y s1; exact y))), if_pos rfl]
    rw [← hN1] at this
    rw [eB0, this]
  by_cases s1 : s < 0
  · refine ⟨-1, ?_, no (.inr (.inl s1))⟩
    unfold F_W_row
    rw [if_pos s1]
  · by_cases s2 : s < nI (E 17 0)
    · obtain ⟨sy, hs, rfl⟩ := nI_small (n := E 17 0) s1 (fun y => i32_nlt.mpr y s2) (by omega)
      obtain ⟨c1, c2, c3, -⟩ := a51 sy hs
      obtain ⟨x1, x2, -⟩ := hE.2.2.2.2.2.2.2.2.2.2.2.2.1 sy hs
      have ea : F_World_matchAt N 12 (nI (E 18 sy)) (nI (E 19 sy)) k A = some (mtF (fun q => decide (Q 1 q = 1 ∧ Q 2 q &&& E 18 sy = E 18 sy ∧ Q 2 q &&& E 19 sy = 0)) (nmQ Q) (Q 5 1) 0 k, A) := by
        unfold F_World_matchAt
        exact ma_A (k := k) W w1 w5.1 w5.2.1 (fun q hq => by
          obtain ⟨v, v1, v2⟩ := ev_mat (N := N) (x := E 18 sy) (y := E 19 sy) W w1 hq x1 x2
          refine ⟨v, v1, v2.trans ?_⟩
          rw [decide_eq_true_iff]) (Q 5 1) 0 N k (by omega) (by have := w5.2.1; omega)
      have eA : F_W_row N 0 (nI sy) k A = some (mtF (fun q => decide (Q 1 q = 1 ∧ Q 2 q &&& E 18 sy = E 18 sy ∧ Q 2 q &&& E 19 sy = 0)) (nmQ Q) (Q 5 1) 0 k, A) := by
        unfold F_W_row
        rw [if_neg s1, ck_t (rS_0 hGA), rf_t hpr, ck_t (PrS hP), bnd_t, a7, if_pos s2, rf_t (rP_0_2 hGA), ck_t (rS_11 hGA), rf_t (rP_11_0 hGA), rf_t hpr, ck_t (PrS hP), rf_t (PrP_9 hP), ar_t (PrA_9 hP), rdI (show sy < 16 by omega) (by decide), c2, rf_t hpr, ck_t (PrS hP), rf_t (PrP_10 hP), ar_t (PrA_10 hP), rdI (show sy < 16 by omega) (by decide), c3, ck_t (rA_11_0 hGA), bC_t ea]
      refine ⟨_, eA, ?_⟩
      by_cases k1 : k < 0
      · rw [no (.inl k1), mtF_neg k1 _ _ 0 k (by show k = k - 0; rw [Int32.sub_zero]) (by have := w5.2.1; omega)]
      · have e := mr_B (N := N) (k := k) G1 b91 b31 U T hPB hS hE hs k1 256 0 N k (by omega) (by omega)
        have : 256 = Q 5 1 + (256 - Q 5 1) := by have := w5.2.1; omega
        rw [this, mtF_ext (Q 5 1) 0 k (256 - Q 5 1) (fun q y1 y2 => by rw [decide_eq_true_iff]; exact fun z => w5.2.2 q (by omega) (by omega) z.1)] at e
        rw [eB0]
        exact e
    · refine ⟨-1, ?_, no (.inr (.inr s2))⟩
      unfold F_W_row
      rw [if_neg s1, ck_t (rS_0 hGA), rf_t hpr, ck_t (PrS hP), bnd_t, a7, if_neg s2]
end Par
