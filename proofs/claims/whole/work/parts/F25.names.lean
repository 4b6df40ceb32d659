/-! ===== swap: names found, values turned ===== -/
/-- what a value of kind a is as one of kind b -/
def trn (a b : Nat) (v : Int32) : Int32 := if a = b then v else if a = 4 ∨ b = 4 then fstV b else if b = 2 then clp (65536 * v.toInt64) else if b = 3 then (if v = 0 then 0 else 1) else hv b (if a = 2 then v >>> ((16 : Int32) &&& 31) else v)
theorem nI_4e {a : Nat} (ha : a ≤ 4) (k : Nat) (hk : k ≤ 4) : (nI a = nI k) = (a = k) := propext (nI_eq (by omega) (by omega))
theorem ev_trnA {N a b : Nat} {v : Int32} {H : Hp} (ha : a ≤ 4) (hb : b ≤ 4) : F_World_turned N v (nI a) (nI b) H = some (trn a b v, H) := by
  have e : ∀ x k, x ≤ 4 → k ≤ 4 → (nI x = nI k) = (x = k) := fun x k h1 h2 => propext (nI_eq (by omega) (by omega))
  have t41 : ∀ w0, ¬ b = 4 → B_World_turned_41 N v (nI a) (nI b) w0 H = some (if b = 2 then clp (65536 * v.toInt64) else if b = 3 then (if v = 0 then 0 else 1) else hv b w0, H) := fun w0 h4 => by
    unfold B_World_turned_41
    simp only [show (nI b = (1 : Int32)) = (b = 1) from e b 1 hb (by decide), show (nI b = (2 : Int32)) = (b = 2) from e b 2 hb (by decide), show (nI b = (3 : Int32)) = (b = 3) from e b 3 hb (by decide)]
    by_cases b1 : b = 1
    · rw [if_pos b1, if_neg (by omega), if_neg (by omega), b1, ← byt_hv]
      unfold F_Math_min F_Math_max byt
      by_cases c : w0 < 127
      · rw [if_pos c, if_pos c, bC_t rfl]
        by_cases d : (-128 : Int32) < w0
        · rw [if_pos d, if_pos d, bC_t rfl]
        · rw [if_neg d, if_neg d, bC_t rfl]
      · rw [if_neg c, if_neg c, bC_t rfl, if_pos (by decide), if_pos (by decide), bC_t rfl]
    · rw [if_neg b1]
      by_cases b2 : b = 2
      · rw [if_pos b2, if_pos b2, bnd_t, bC_t ev_min2, bC_t ev_max2]
        rfl
      · rw [if_neg b2, if_neg b2]
        by_cases b3 : b = 3
        · rw [if_pos b3, if_pos b3]
          split <;> rfl
        · rw [if_neg b3, if_neg b3, show b = 0 by omega]
          rfl
  unfold F_World_turned trn
  simp only [e a b ha hb, show (nI a = (4 : Int32)) = (a = 4) from e a 4 ha (by decide), show (nI b = (4 : Int32)) = (b = 4) from e b 4 hb (by decide), show (nI a = (2 : Int32)) = (a = 2) from e a 2 ha (by decide)]
  have t17 : B_World_turned_17 N v (nI a) (nI b) H = some (fstV b, H) := by
    unfold B_World_turned_17 fstV
    simp only [show (nI b = (4 : Int32)) = (b = 4) from e b 4 hb (by decide)]
    split <;> rfl
  by_cases q : a = b
  · rw [if_pos q, if_pos q]
  · rw [if_neg q, if_neg q]
    by_cases a4 : a = 4
    · rw [if_pos a4, if_pos (.inl a4), t17]
    · rw [if_neg a4]
      by_cases b4 : b = 4
      · rw [if_pos b4, if_pos (.inr b4), t17]
      · rw [if_neg b4, if_neg (show ¬ (a = 4 ∨ b = 4) by omega), t41 _ b4, t41 _ b4]
        by_cases a2 : a = 2
        · rw [if_pos a2, if_pos a2]
        · rw [if_neg a2, if_neg a2]
theorem ev_trnB {N a b : Nat} {v : Int32} {H : Hp} (ha : a ≤ 4) (hb : b ≤ 4) : F_M_changed N (nI a) (nI b) v H = some (trn a b v, H) := by
  have e : ∀ x k, x ≤ 4 → k ≤ 4 → (nI x = nI k) = (x = k) := fun x k h1 h2 => propext (nI_eq (by omega) (by omega))
  unfold F_M_changed trn
  simp only [e a b ha hb, show (nI a = (4 : Int32)) = (a = 4) from e a 4 ha (by decide), show (nI b = (4 : Int32)) = (b = 4) from e b 4 hb (by decide), show (nI a = (2 : Int32)) = (a = 2) from e a 2 ha (by decide), show (nI b = (2 : Int32)) = (b = 2) from e b 2 hb (by decide), show (nI b = (3 : Int32)) = (b = 3) from e b 3 hb (by decide)]
  have t17 : B_M_changed_17 N (nI a) (nI b) v H = some (fstV b, H) := by
    unfold B_M_changed_17
    rw [bC_t (ev_first hb)]
  have t69 : ∀ x : Int32, B_M_changed_69 N (nI a) (nI b) v (nI b) x.toInt64 H = some (hv b x, H) := fun x => by
    unfold B_M_changed_69
    rw [bC_t (ev_held hb)]
  by_cases q : a = b
  · rw [if_pos q, if_pos q]
  · rw [if_neg q, if_neg q]
    by_cases a4 : a = 4
    · rw [if_pos a4, if_pos (.inl a4), t17]
    · rw [if_neg a4]
      by_cases b4 : b = 4
      · rw [if_pos b4, if_pos (.inr b4), t17]
      · rw [if_neg b4, if_neg (show ¬ (a = 4 ∨ b = 4) by omega)]
        by_cases b2 : b = 2
        · rw [if_pos b2, if_pos b2, bC_t ev_held2]
        · rw [if_neg b2, if_neg b2]
          by_cases b3 : b = 3
          · rw [if_pos b3, if_pos b3]
            split <;> rfl
          · rw [if_neg b3, if_neg b3, t69, t69]
            by_cases a2 : a = 2
            · rw [if_pos a2, if_pos a2]
            · rw [if_neg a2, if_neg a2]
/-- heads by name -/
theorem ev_hnamed {N q m s cnt M : Nat} {f : Nat → List Nat} {n : List Nat} {A : Hp} (hq : A.sh[q]? = some (3, 0)) (hm : A.P q 0 = .ref m) (hmA : A.sh[m]? = some (106, M)) (hM : ∀ k, k < M → A.P m k = .ref (m + 1 + k) ∧ A.sh[m + 1 + k]? = some (2, 0)) (hM2 : M ≤ 100) (hcnt : A.D q 3 = nI cnt) (hc2 : cnt ≤ M) (hs : strA A s n) (hf : ∀ i, i < cnt → nmd A (m + 1 + i) (f i)) (hN : 200 ≤ N) : F_Shapes_headNamed N q s A = some (oNI (fnm f n cnt 0), A) := by
  have lp : ∀ (k r i : Nat), i + k = cnt → k < r → B_Shapes_headNamed_2 N q s r (nI i) A = some (oNI (fnm f n k i), A) := by
    intro k
    induction k with
    | zero =>
      intro r i hi hr
      obtain ⟨r, rfl⟩ : ∃ m, r = m + 1 := ⟨r - 1, by omega⟩
      rw [B_Shapes_headNamed_2, ck_t hq, bnd_t, hcnt, if_pos (nI_le (by omega) (by omega))]
      rfl
    | succ k ih =>
      intro r i hi hr
      obtain ⟨r, rfl⟩ : ∃ m, r = m + 1 := ⟨r - 1, by omega⟩
      obtain ⟨x, x1, x2, -, -⟩ := hf i (by omega)
      obtain ⟨k1, k2⟩ := hM i (by omega)
      rw [B_Shapes_headNamed_2, ck_t hq, bnd_t, hcnt, if_neg (nI_ge (by omega) (by omega)), rf_t hm, ar_t hmA, rdP (by omega) (by omega), rf_t k1, ck_t k2, rf_t x1, ck_t x2.1, bC_t (str_eq x2 hs (by omega))]
      simp only [fnm]
      by_cases z : f i = n
      · rw [show decide (f i = n) = true from decide_eq_true z, if_neg bI_t0, if_pos z]
        rfl
      · rw [show decide (f i = n) = false from decide_eq_false z, if_pos bI_f, nI_1, if_neg z]
        exact ih r (i + 1) (by omega) (by omega)
  unfold F_Shapes_headNamed
  exact lp cnt N 0 (by omega) (by omega)
/-- things by name and sort -/
theorem ev_thing {N w v t so : Nat} {E : Nat → Nat → Nat} {Nm : Nat → Nat → List Nat} {n : List Nat} {B : Hp} (hw : isT B w) (hv : isT B v) (h1 : EB1 B w E Nm) (hW : W1 E) (ht : tokN B v t n) (hso : so ≤ 3) (hN : 7000 ≤ N) : ∃ r, F_MText_thing N w v (nI t) (nI (so + 2)) B = some (oNI r, B) ∧ (∀ d, r = some d → ∃ k, k < E 0 0 ∧ E 2 k = so ∧ Nm 1 k = n ∧ E 3 k = d) ∧ (r = none → ∀ k, k < E 0 0 → E 2 k = so → Nm 1 k ≠ n) := by
  obtain ⟨h12, hk⟩ := h1
  have h56 := hW.1
  have lp : ∀ (j q i : Nat), i + j = E 0 0 → j < q → ∃ r, B_MText_thing_3 N w v (nI t) (nI (so + 2)) q (nI i) B = some (oNI r, B) ∧ (∀ d, r = some d → ∃ k, k < E 0 0 ∧ E 2 k = so ∧ Nm 1 k = n ∧ E 3 k = d) ∧ (r = none → ∀ k, i ≤ k → k < E 0 0 → E 2 k = so → Nm 1 k ≠ n) := by
    intro j
    induction j with
    | zero =>
      intro q i hi hq
      obtain ⟨q, rfl⟩ : ∃ m, q = m + 1 := ⟨q - 1, by omega⟩
      refine ⟨none, ?_, fun d y => (by cases y), fun _ k k1 k2 => by omega⟩
      rw [B_MText_thing_3, ck_t (TS hw), bnd_t, h12, if_pos (nI_le (by omega) (by omega))]
      rfl
    | succ j ih =>
      intro q i hi hq
      obtain ⟨q, rfl⟩ : ∃ m, q = m + 1 := ⟨q - 1, by omega⟩
      obtain ⟨⟨u, u1, u2⟩, k2, k3⟩ := hk i (by omega)
      have w2 := hW.2 i (by omega)
      obtain ⟨r, r1, r2, r3⟩ := ih q (i + 1) (by omega) (by omega)
      have hd : B_MText_thing_3 N w v (nI t) (nI (so + 2)) (q + 1) (nI i) B = if E 2 i = so then (if Nm 1 i = n then some (nI (E 3 i), B) else B_MText_thing_3 N w v (nI t) (nI (so + 2)) q (nI (i + 1)) B) else B_MText_thing_3 N w v (nI t) (nI (so + 2)) q (nI (i + 1)) B := by
        rw [B_MText_thing_3, ck_t (TS hw), bnd_t, h12, if_neg (nI_ge (by omega) (by omega)), rf_t (TP_14 hw), ar_t (TA_14 hw), rdI (show i < 56 by omega) (by decide), k2, rf_t (TP_13 hw), ar_t (TA_13 hw), rdI (show i < 56 by omega) (by decide), u1, bC_t (is_same hw hv u2 ht hN), rf_t (TP_15 hw), ar_t (TA_15 hw), rdI (show i < 56 by omega) (by decide), k3]
        unfold B_MText_thing_47
        simp only [show (nI (E 2 i + 2) = nI (so + 2)) = (E 2 i = so) from propext (Iff.trans (nI_eq (by omega) (by omega)) (by omega))]
        rw [nI_1]
        by_cases z : Nm 1 i = n
        · rw [if_pos z, show decide (Nm 1 i = n) = true from decide_eq_true z, if_neg bI_t0]
        · rw [if_neg z, show decide (Nm 1 i = n) = false from decide_eq_false z, if_pos bI_f]
      by_cases z1 : E 2 i = so
      · by_cases z2 : Nm 1 i = n
        · refine ⟨some (E 3 i), by rw [hd, if_pos z1, if_pos z2]; rfl, fun d y => ⟨i, by omega, z1, z2, Option.some.inj y⟩, fun y => (by cases y)⟩
        · refine ⟨r, by rw [hd, if_pos z1, if_neg z2]; exact r1, r2, fun y k y1 y2 y3 => ?_⟩
          by_cases e : k = i
          · rw [e]; exact z2
          · exact r3 y k (by omega) y2 y3
      · refine ⟨r, by rw [hd, if_neg z1]; exact r1, r2, fun y k y1 y2 y3 => ?_⟩
        by_cases e : k = i
        · exact absurd (by rw [← e]; exact y3) z1
        · exact r3 y k (by omega) y2 y3
  obtain ⟨r, r1, r2, r3⟩ := lp (E 0 0) N 0 (by omega) (by omega)
  exact ⟨r, by unfold F_MText_thing; exact r1, r2, fun y k => r3 y k (Nat.zero_le _)⟩
/-- r is the one of a row of c names that is n -/
def fdn (f : Nat → List Nat) (n : List Nat) (c : Nat) (r : Option Nat) : Prop := (∀ d, r = some d → d < c ∧ f d = n) ∧ (r = none → ∀ d, d < c → f d ≠ n)
theorem fdn_f {f : Nat → List Nat} {n : List Nat} {c : Nat} : fdn f n c (fnm f n c 0) := ⟨fun d y => by have := fnm_bd _ _ _ y; exact ⟨by omega, this.2.2⟩, fun y d hd => fnm_none _ _ y d (Nat.zero_le _) (by omega)⟩
theorem NMQ.i8 {E : Nat → Nat → Nat} {Nm : Nat → Nat → List Nat} (h : NMQ E Nm) {c d : Nat} (hc : c < E 4 0) (hd : d < E 4 0) (e : Nm 8 c = Nm 8 d) : c = d := by
  obtain ⟨h1, h2, h3, -⟩ := h
  obtain ⟨k, k1, k2, k3⟩ := h3 c hc
  obtain ⟨l, l1, l2, l3⟩ := h3 d hd
  have := h1 k l k1 l1 (by rw [h2 k k1 k2, h2 l l1 l2, k3, l3, e])
  rw [← k3, ← l3, this]
theorem NMQ.i14 {E : Nat → Nat → Nat} {Nm : Nat → Nat → List Nat} (h : NMQ E Nm) {c d : Nat} (hc : c < E 9 0) (hd : d < E 9 0) (e : Nm 14 c = Nm 14 d) : c = d := by
  obtain ⟨h1, -, -, h2, h3, -⟩ := h
  obtain ⟨k, k1, k2, k3⟩ := h3 c hc
  obtain ⟨l, l1, l2, l3⟩ := h3 d hd
  have := h1 k l k1 l1 (by rw [h2 k k1 k2, h2 l l1 l2, k3, l3, e])
  rw [← k3, ← l3, this]
theorem ev_thc {N w v t : Nat} {E : Nat → Nat → Nat} {Nm : Nat → Nat → List Nat} {n : List Nat} {B : Hp} (hw : isT B w) (hv : isT B v) (h1 : EB1 B w E Nm) (hW : W1 E) (hQ : NMQ E Nm) (ht : tokN B v t n) (hN : 7000 ≤ N) : F_MText_thing N w v (nI t) (2 : Int32) B = some (oNI (fnm (Nm 8) n (E 4 0) 0), B) := by
  obtain ⟨r, r1, r2, r3⟩ := ev_thing (so := 0) hw hv h1 hW ht (by decide) hN
  rw [show (2 : Int32) = nI (0 + 2) from rfl, r1]
  have f := fdn_f (f := Nm 8) (n := n) (c := E 4 0)
  have hr : r = fnm (Nm 8) n (E 4 0) 0 := by
    cases hx : r with
    | none =>
      cases hy : fnm (Nm 8) n (E 4 0) 0 with
      | none => rfl
      | some d =>
        obtain ⟨f1, f2⟩ := f.1 d hy
        obtain ⟨k, k1, k2, k3⟩ := hQ.2.2.1 d f1
        exact absurd (by rw [hQ.2.1 k k1 k2, k3, f2]) (r3 hx k k1 k2)
    | some d =>
      obtain ⟨k, k1, k2, k3, k4⟩ := r2 d hx
      have k5 := (hW.2 k k1).2.2.1 k2
      have k6 := hQ.2.1 k k1 k2
      cases hy : fnm (Nm 8) n (E 4 0) 0 with
      | none => exact absurd (by rw [← k6, k3]) (f.2 hy (E 3 k) k5)
      | some e =>
        obtain ⟨f1, f2⟩ := f.1 e hy
        rw [hQ.i8 (c := d) (d := e) (by omega) f1 (by rw [f2, ← k4, ← k6, k3])]
  rw [hr]
theorem ev_the {N w v t : Nat} {E : Nat → Nat → Nat} {Nm : Nat → Nat → List Nat} {n : List Nat} {B : Hp} (hw : isT B w) (hv : isT B v) (h1 : EB1 B w E Nm) (hW : W1 E) (hQ : NMQ E Nm) (ht : tokN B v t n) (hN : 7000 ≤ N) : F_MText_thing N w v (nI t) (3 : Int32) B = some (oNI (fnm (Nm 14) n (E 9 0) 0), B) := by
  obtain ⟨r, r1, r2, r3⟩ := ev_thing (so := 1) hw hv h1 hW ht (by decide) hN
  rw [show (3 : Int32) = nI (1 + 2) from rfl, r1]
  have f := fdn_f (f := Nm 14) (n := n) (c := E 9 0)
  have hr : r = fnm (Nm 14) n (E 9 0) 0 := by
    cases hx : r with
    | none =>
      cases hy : fnm (Nm 14) n (E 9 0) 0 with
      | none => rfl
      | some d =>
        obtain ⟨f1, f2⟩ := f.1 d hy
        obtain ⟨k, k1, k2, k3⟩ := hQ.2.2.2.2.1 d f1
        exact absurd (by rw [hQ.2.2.2.1 k k1 k2, k3, f2]) (r3 hx k k1 k2)
    | some d =>
      obtain ⟨k, k1, k2, k3, k4⟩ := r2 d hx
      have k5 := (hW.2 k k1).2.2.2.1 k2
      have k6 := hQ.2.2.2.1 k k1 k2
      cases hy : fnm (Nm 14) n (E 9 0) 0 with
      | none => exact absurd (by rw [← k6, k3]) (f.2 hy (E 3 k) k5)
      | some e =>
        obtain ⟨f1, f2⟩ := f.1 e hy
        rw [hQ.i14 (c := d) (d := e) (by omega) f1 (by rw [f2, ← k4, ← k6, k3])]
  rw [hr]
