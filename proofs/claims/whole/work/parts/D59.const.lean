/-! ===== constants ===== -/
/-- what a member of kind kd keeps of a number -/
def hv (kd : Nat) (x : Int32) : Int32 := if kd = 1 then (if x < -128 then -128 else if 127 < x then 127 else x) else x
theorem i64_lt {x y : Int32} : x.toInt64 < y.toInt64 ↔ x < y := by
  rw [Int64.lt_iff_toInt_lt, Int32.lt_iff_toInt_lt, Int32.toInt_toInt64, Int32.toInt_toInt64]
theorem lg_le {a b : Int64} : lg_cmp a b ≤ 0 ↔ ¬ b < a := by
  rw [← lg_pos]
  rw [Int32.le_iff_toInt_le, Int32.lt_iff_toInt_lt]
  omega
theorem lg_ge {a b : Int64} : 0 ≤ lg_cmp a b ↔ ¬ a < b := by
  rw [← lg_lt]
  rw [Int32.le_iff_toInt_le, Int32.lt_iff_toInt_lt]
  omega
theorem ev_held {N kd : Nat} {x : Int32} {H : Hp} (hk : kd ≤ 4) : F_M_held N (nI kd) x.toInt64 H = some (hv kd x, H) := by
  have e1 : (nI kd = (1 : Int32)) = (kd = 1) := propext (nI_eq (b := 1) (by omega) (by decide))
  have e2 : (nI kd = (2 : Int32)) = (kd = 2) := propext (nI_eq (b := 2) (by omega) (by decide))
  have lo : (x.toInt64 < (-2147483648 : Int64)) = False := by
    rw [Int64.lt_iff_toInt_lt, Int32.toInt_toInt64]
    have := Int32.le_toInt x
    exact eq_false (by rw [show (-2147483648 : Int64).toInt = -2147483648 by decide]; omega)
  have hi : ((2147483647 : Int64) < x.toInt64) = False := by
    rw [Int64.lt_iff_toInt_lt, Int32.toInt_toInt64]
    have := Int32.toInt_lt x
    exact eq_false (by rw [show (2147483647 : Int64).toInt = 2147483647 by decide]; omega)
  have l1 : (x.toInt64 < (-128 : Int64)) = (x < -128) := propext (i64_lt (y := -128))
  have l2 : ((127 : Int64) < x.toInt64) = ((127 : Int32) < x) := propext (i64_lt (x := 127))
  have tx : x.toInt64.toInt32 = x := Int32.toInt32_toInt64 x
  unfold F_M_held hv
  simp only [e1, e2]
  by_cases k1 : kd = 1
  · rw [if_pos k1, if_pos k1]
    by_cases a : x < -128
    · rw [if_neg (fun z => (lg_ge.mp z) (by rw [l1]; exact a)), if_pos a]; rfl
    · rw [if_pos (lg_ge.mpr (by rw [l1]; exact a)), if_neg a]
      by_cases b : (127 : Int32) < x
      · rw [if_neg (fun z => (lg_le.mp z) (by rw [l2]; exact b)), if_pos b]; rfl
      · rw [if_pos (lg_le.mpr (by rw [l2]; exact b)), if_neg b, tx]
  · rw [if_neg k1, if_neg k1]
    by_cases k2 : kd = 2
    · rw [if_pos k2, if_pos (lg_ge.mpr (by rw [lo]; exact id)), if_pos (lg_le.mpr (by rw [hi]; exact id)), tx]
    · rw [if_neg k2, tx]
theorem ev_cv {N kd : Nat} {x : Int32} {H : Hp} (hk : kd ≤ 4) : B_Reader_readConst_212 N 8 (nI kd) x H = some (.inl (hv kd x), H) := by
  have e1 : (nI kd = (1 : Int32)) = (kd = 1) := propext (nI_eq (b := 1) (by omega) (by decide))
  unfold B_Reader_readConst_212 hv F_Math_min F_Math_max
  simp only [e1]
  by_cases k1 : kd = 1
  · rw [if_pos k1, if_pos k1]
    by_cases b : (127 : Int32) < x
    · rw [if_neg (show ¬ x < 127 by rw [Int32.lt_iff_toInt_lt] at b ⊢; omega), bC_v, if_pos (show (-128 : Int32) < 127 by decide), bC_v, if_neg (show ¬ x < -128 by rw [Int32.lt_iff_toInt_lt] at b ⊢; rw [show (127 : Int32).toInt = 127 by decide] at b; rw [show (-128 : Int32).toInt = -128 by decide]; omega), if_pos b]
    · by_cases c : x < 127
      · rw [if_pos c, bC_v]
        by_cases a : x < -128
        · rw [if_neg (show ¬ (-128 : Int32) < x by rw [Int32.lt_iff_toInt_lt] at a ⊢; omega), bC_v, if_pos a]
        · by_cases d : (-128 : Int32) < x
          · rw [if_pos d, bC_v, if_neg a, if_neg b]
          · have : x = -128 := by
              apply Int32.toInt_inj.mp
              rw [Int32.lt_iff_toInt_lt] at a d
              omega
            rw [if_neg d, bC_v, if_neg a, if_neg b, this]
      · have : x = 127 := by
          apply Int32.toInt_inj.mp
          rw [Int32.lt_iff_toInt_lt] at b c
          omega
        rw [if_neg c, bC_v, if_pos (show (-128 : Int32) < 127 by decide), bC_v, this]
        rfl
  · rw [if_neg k1, if_neg k1]
theorem hv_gd {kd : Nat} {x : Int32} (h3 : kd = 3 → x = 0 ∨ x = 1) (h4 : kd = 4 → x = -1) : gdC kd (hv kd x) := by
  unfold hv
  refine ⟨fun k => ?_, fun k => ?_, fun k => ?_⟩
  · rw [if_pos k]
    by_cases a : x < -128
    · rw [if_pos a]; decide
    · rw [if_neg a]
      by_cases b : (127 : Int32) < x
      · rw [if_pos b]; decide
      · rw [if_neg b, Int32.le_iff_toInt_le, Int32.le_iff_toInt_le]
        rw [Int32.lt_iff_toInt_lt] at a b
        omega
  · rw [if_neg (by omega)]; exact h3 k
  · rw [if_neg (by omega)]; exact h4 k
section Par
variable {N p w T : Nat} {L : List (Nat × Nat × Int32 × Bool × Nat)} {g : Nat → Nat} {E : Nat → Nat → Nat} {Nm : Nat → Nat → List Nat} {Pv : Nat → Nat → Int32} {nL lc dp : Nat} {ln : Nat → List Nat} {lk lf : Nat → Nat} {hd : Nat → Int32}
/-- a constant was read: its kind is kn, its number v -/
theorem jo_cfit {A B : Hp} {i t u kd kn : Nat} {m : Bool} {v : Int32} (hk : kd ≤ 4) (hkn : kn ≤ 4) (hb : LB B w L T g i) (ht : t < L.length) (hA : LA A L T g (u + 1)) (hi' : u + 1 < L.length) (hiu : i = u)
    (hv3 : kn = 3 → v = 0 ∨ v = 1) (hv4 : kn = 4 → v = -1) (hm : m = true → kn ≤ 2)
    {fB : Option (Int32 × Hp)} (hB : fB = if (if kd = 1 then 0 else kd) = kn then some (hv kd (if m then -v else v), B.sD w 11 (nI (u + 1))) else some (0, failB B w 5 (tkp L t))) :
    (Out (SD p) (SRd w) w L (u + 1) A B (B_Reader_readConst_176 N 8 (nI kd) (nI (tkp L t)) (bI m) v (nI kn) A) fB (fun j x A' y B' => j = u + 1 ∧ A' = A ∧ B' = B.sD w 11 (nI (u + 1)) ∧ y = x ∧ gdC kd x)) := by
  have hG := hA.1.1
  subst hiu
  have e1 : (nI kd = (1 : Int32)) = (kd = 1) := propext (nI_eq (b := 1) (by omega) (by decide))
  have e188 : B_Reader_readConst_176 N 8 (nI kd) (nI (tkp L t)) (bI m) v (nI kn) A = B_Reader_readConst_188 N 8 (nI kd) (nI (tkp L t)) (bI m) v (nI kn) (nI (if kd = 1 then 0 else kd)) A := by
    unfold B_Reader_readConst_176
    simp only [e1]
    by_cases k1 : kd = 1
    · rw [if_pos k1, if_pos k1]; rfl
    · rw [if_neg k1, if_neg k1]
  have e2 : (nI kn = nI (if kd = 1 then 0 else kd)) = ((if kd = 1 then 0 else kd) = kn) := propext ⟨fun z => ((nI_eq (by omega) (by split <;> omega)).mp z).symm, fun z => by rw [z]⟩
  have e200 : B_Reader_readConst_200 N 8 (nI kd) (bI m) v A = some (.inl (hv kd (if m then -v else v)), A) := by
    unfold B_Reader_readConst_200
    cases m
    · rw [if_pos (show bI false = 0 from rfl), ev_cv hk]; rfl
    · rw [if_neg (show ¬ bI true = 0 by decide), ev_cv hk]; rfl
  rw [e188, hB]
  unfold B_Reader_readConst_188
  simp only [e2]
  by_cases z : (if kd = 1 then 0 else kd) = kn
  · rw [if_pos z, if_pos z, e200]
    refine Or.inr ⟨_, _, _, _, i + 1, rfl, rfl, Nat.le_refl _, hi', exA.rf.mono (fun _ _ h => h) (by omega), same.rf.sD (by unfold SRd; omega), rfl, rfl, rfl, rfl, hv_gd (fun k3 => ?_) (fun k4 => ?_)⟩
    · have q : kn = 3 := by rw [if_neg (by omega)] at z; omega
      cases m
      · exact hv3 q
      · exact absurd (hm rfl) (by omega)
    · have q : kn = 4 := by rw [if_neg (by omega)] at z; omega
      cases m
      · exact hv4 q
      · exact absurd (hm rfl) (by omega)
  · rw [if_neg z, if_neg z, ck_t (rS_8 hG), rf_t (rP_8_0 hG), ck_t (rS_1 hG), ev_refuse hG, bT_z]
    exact Out.noD (k := 5) hb (by decide) (by decide) hi' (hb.fail (by decide) (by decide)) SRd_fail
/-- the reference behind the minus -/
def csB (N w : Nat) (p1 x2 v4 : Int32) (H5 : Hp) : Option (Int32 × Hp) :=
    bnd ((H5.D w 11)) fun x6 =>
    bC (F_MText_is N w (2 : Int32) H5) fun v8 H9 =>
    if v8 = (0 : Int32) then
    bC (F_MText_is N w (3 : Int32) H9) fun v184 H185 =>
    if v184 = (0 : Int32) then
    B_MText_constant_39 N w p1 x2 v4 x6 0 H185
    else
    B_MText_constant_34 N w p1 x2 v4 x6 H185
    else
    B_MText_constant_34 N w p1 x2 v4 x6 H9
theorem fz_k123 {B : Hp} {k p0 : Nat} {a b c d e : Int32} (h : Zf B w k p0) : B_MText_constant_123 N w a b c d e B = some (0, B) := by
  have e215 : B_MText_constant_215 N w a c d e B = some (0, B) := by
    unfold B_MText_constant_215
    rw [ck_t (TS h.1), bnd_t, if_neg h.nle]
  have e202 : ∀ x, B_MText_constant_202 N w a b c d e x B = some (0, B) := by
    intro x
    unfold B_MText_constant_202
    split
    · rw [ck_t (TS h.1), bC_t (fz_fails h), e215]
    · exact e215
  unfold B_MText_constant_123 B_MText_constant_140
  rw [ck_t (TS h.1), bC_t (fz_is h), if_pos rfl, bC_t (fz_is h), if_pos rfl, bC_t (fz_is h), if_pos rfl, e202, e202]
  split <;> rfl
/-- a constant behind its minus -/
theorem jo_const2 {A B : Hp} {u t kd : Nat} {m : Bool} (ha : LA A L T g u) (hb : LB B w L T g u) (hk : kd ≤ 4) (ht : t < L.length) : (Out (SD p) (SRd w) w L u A B (B_Reader_readConst_37 N 8 (nI kd) (nI (tkp L t)) (bI m) A) (csB N w (nI kd) (nI t) (bI m) B) (fun j x A' y B' => j = u + 1 ∧ u + 1 < L.length ∧ A' = advA A L u ∧ B' = B.sD w 11 (nI (u + 1)) ∧ y = x ∧ gdC kd x)) := by
  have hG := ha.1.1
  have hi := ha.2.2.2.2.2.2.1
  have hT := hb.1.1
  have h61 : L.length ≤ 6001 := by have := hb.2.2.2.2.2.2.1; have := hb.2.2.2.2.2.2.2.1; omega
  have h81 := (hb.2.2.2.2.2.2.2.2.2.1 u hi).2.1
  have q : ∀ c : Nat, c < 100 → (nI (tkk L u) = nI c) = (tkk L u = c) := fun c hc => propext (nI_eq (by omega) (by omega))
  have i3 : F_MText_is N w (2 : Int32) B = some (bI (decide (tkk L u = 3)), B) := ev_is (k := 3) hb (by decide)
  have i4 : F_MText_is N w (3 : Int32) B = some (bI (decide (tkk L u = 4)), B) := ev_is (k := 4) hb (by decide)
  have i71 : F_MText_is N w (231 : Int32) B = some (bI (decide (tkk L u = 71)), B) := ev_is (k := 71) hb (by decide)
  have i72 : F_MText_is N w (232 : Int32) B = some (bI (decide (tkk L u = 72)), B) := ev_is (k := 72) hb (by decide)
  have i73 : F_MText_is N w (233 : Int32) B = some (bI (decide (tkk L u = 73)), B) := ev_is (k := 73) hb (by decide)
  have e0 : (nI kd = (0 : Int32)) = (kd = 0) := propext (nI_eq (b := 0) (by omega) (by decide))
  have e1 : (nI kd = (1 : Int32)) = (kd = 1) := propext (nI_eq (b := 1) (by omega) (by decide))
  have e2 : (nI kd = (2 : Int32)) = (kd = 2) := propext (nI_eq (b := 2) (by omega) (by decide))
  have e3 : (nI kd = (3 : Int32)) = (kd = 3) := propext (nI_eq (b := 3) (by omega) (by decide))
  have e4 : (nI kd = (4 : Int32)) = (kd = 4) := propext (nI_eq (b := 4) (by omega) (by decide))
  have fz5 : ∀ l5, B_MText_constant_202 N w (nI kd) (nI t) (bI m) (nI u) l5 0 B = some (0, failB B w 5 (tkp L t)) := by
    intro l5
    have z5 : Zf (failB B w 5 (tkp L t)) w 5 (tkp L t) := hb.fail (by decide) (by decide)
    unfold B_MText_constant_202 B_MText_constant_215
    rw [if_pos rfl, ck_t (TS hT), bC_t (show F_MText_fails N w (5 : Int32) (nI t) B = _ from ev_fails (k := 5) hb ht), ck_t (TS z5.1), bnd_t, if_neg z5.nle]
  have e284 : ∀ (x : Int32) (H : Hp), B_MText_constant_284 N w (nI kd) (bI m) x H = some (hv kd (if m then -x else x), H) := by
    intro x H
    unfold B_MText_constant_284 B_MText_constant_301
    cases m
    · rw [if_pos (show bI false = 0 from rfl), ev_held hk, bC_v]; rfl
    · rw [if_neg (show ¬ bI true = 0 by decide), ev_held hk, bC_v]; rfl
  have ok1 : (tkk L u = 3 ∨ tkk L u = 4) → tko L u = false → B_MText_constant_202 N w (nI kd) (nI t) (bI m) (nI u) 1 1 B = some (hv kd (if m then -(tkv L u) else tkv L u), B.sD w 11 (nI (u + 1))) := by
    intro hk3 ho
    unfold B_MText_constant_202 B_MText_constant_215
    rw [if_neg (show ¬ (1 : Int32) = 0 by decide), ck_t (TS hT), bnd_t, hb.2.2.2.1, if_pos (show (0 : Int32) ≤ 0 by decide), bnd_t, hb.2.2.1, nI_1, bnd_t, if_neg (show ¬ (1 : Int32) = 0 by decide), sD_P, rf_t (TP_6 hT), ar_sD, ar_t (TA_6 hT), rdI (show u < 6002 by omega) (by decide), rdw (by omega), (hb.2.1 u hi).2.2.2.2 hk3 ho, e284]
  have ok0 : B_MText_constant_202 N w (nI kd) (nI t) (bI m) (nI u) 0 1 B = some (hv kd (if m then -(if tkk L u = 71 then 1 else if tkk L u = 73 then -1 else 0) else (if tkk L u = 71 then 1 else if tkk L u = 73 then -1 else 0)), B.sD w 11 (nI (u + 1))) := by
    have t71 : (nI (tyK (tkk L u)) = (231 : Int32)) = (tkk L u = 71) := propext (LB.ty hb (k := 71) (by decide))
    have t73 : (nI (tyK (tkk L u)) = (233 : Int32)) = (tkk L u = 73) := propext (LB.ty hb (k := 73) (by decide))
    unfold B_MText_constant_202 B_MText_constant_215
    rw [if_neg (show ¬ (1 : Int32) = 0 by decide), ck_t (TS hT), bnd_t, hb.2.2.2.1, if_pos (show (0 : Int32) ≤ 0 by decide), bnd_t, hb.2.2.1, nI_1, bnd_t, if_pos (show (0 : Int32) = 0 from rfl), sD_P, rf_t (TP_3 hT), ar_sD, ar_t (TA_3 hT), rdI (show u < 6002 by omega) (by decide), rdw (by omega), (hb.2.1 u hi).1]
    simp only [t71]
    by_cases z1 : tkk L u = 71
    · rw [if_pos z1, e284, if_pos z1]
    · rw [if_neg z1, rf_t (TP_3 hT), ar_sD, ar_t (TA_3 hT), rdI (show u < 6002 by omega) (by decide), rdw (by omega), (hb.2.1 u hi).1]
      simp only [t73]
      by_cases z3 : tkk L u = 73
      · rw [if_pos z3, e284, if_neg z1, if_pos z3]
      · rw [if_neg z3, e284, if_neg z1, if_neg z3]
  unfold csB B_Reader_readConst_37
  rw [ck_t (rS_8 hG), rf_t (rP_8_0 hG), ck_t (rS_1 hG), bnd_t, ha.2.2.2.2.1, bnd_t, hb.2.2.1, bC_t i3, show (3 : Int32) = nI 3 from rfl, show (4 : Int32) = nI 4 from rfl, show (71 : Int32) = nI 71 from rfl, show (72 : Int32) = nI 72 from rfl]
  simp only [q 3 (by decide), q 4 (by decide), q 71 (by decide), q 72 (by decide)]
  by_cases num : tkk L u = 3 ∨ tkk L u = 4
  · have hn := hb.gt (show 2 ≤ tkk L u by omega)
    -- both take a number
    have eB : (if bI (decide (tkk L u = 3)) = 0 then bC (F_MText_is N w (nI 3) B) fun v184 H185 => if v184 = 0 then B_MText_constant_39 N w (nI kd) (nI t) (bI m) (nI u) 0 H185 else B_MText_constant_34 N w (nI kd) (nI t) (bI m) (nI u) H185 else B_MText_constant_34 N w (nI kd) (nI t) (bI m) (nI u) B) = B_MText_constant_101 N w (nI kd) (nI t) (bI m) (nI u) 1 B := by
      have e39 : B_MText_constant_39 N w (nI kd) (nI t) (bI m) (nI u) 1 B = B_MText_constant_101 N w (nI kd) (nI t) (bI m) (nI u) 1 B := by
        unfold B_MText_constant_39 B_MText_constant_79 B_MText_constant_80
        cases m
        · rw [if_pos (show bI false = 0 from rfl), ck_t (TS hT), bC_t i71, decide_eq_false (by omega), if_pos bI_f, bC_t i72, decide_eq_false (by omega), if_pos bI_f, bC_t i73, decide_eq_false (by omega), if_pos bI_f, if_neg (show ¬ (1 : Int32) = 0 by decide)]
        · rw [if_neg (show ¬ bI true = 0 by decide), if_neg (show ¬ (1 : Int32) = 0 by decide)]
      unfold B_MText_constant_34
      rcases num with z | z
      · rw [decide_eq_true z, if_neg bI_t0, e39]
      · rw [decide_eq_false (by omega), if_pos bI_f, bC_t (show F_MText_is N w (nI 3) B = _ from i4), decide_eq_true z, if_neg bI_t0, e39]
    have eA : (if tkk L u = 3 then B_Reader_readConst_64 N 8 (nI kd) (nI (tkp L t)) (bI m) (nI (tkk L u)) A else if tkk L u = 4 then B_Reader_readConst_64 N 8 (nI kd) (nI (tkp L t)) (bI m) (nI (tkk L u)) A else if bI m = 0 then if tkk L u = 71 then B_Reader_readConst_107 N 8 (nI kd) (nI (tkp L t)) (bI m) (nI (tkk L u)) A else if tkk L u = 72 then B_Reader_readConst_107 N 8 (nI kd) (nI (tkp L t)) (bI m) (nI (tkk L u)) A else B_Reader_readConst_134 N 8 (nI kd) (nI (tkp L t)) (bI m) (nI (tkk L u)) 0 0 A else B_Reader_readConst_134 N 8 (nI kd) (nI (tkp L t)) (bI m) (nI (tkk L u)) 0 0 A) = B_Reader_readConst_64 N 8 (nI kd) (nI (tkp L t)) (bI m) (nI (tkk L u)) A := by
      rcases num with z | z
      · rw [if_pos z]
      · rw [if_neg (by omega), if_pos z]
    rw [eA, eB]
    unfold B_Reader_readConst_64 B_Reader_readConst_84 B_MText_constant_101
    rw [ck_t (rS_8 hG), rf_t (rP_8_0 hG), ck_t (rS_1 hG), ev_takeValue ha (by omega), if_neg (show ¬ (1 : Int32) = 0 by decide), ck_t (TS hT), rf_t (TP_7 hT), ar_t (TA_7 hT), rdI (show u < 6002 by omega) (by decide), (hb.2.1 u hi).2.2.2.1, show (3 : Int32) = nI 3 from rfl]
    simp only [q 3 (by decide)]
    cases ho : tko L u
    · rw [if_neg (show ¬ false = true by decide), bT_v, if_pos (show bI false = 0 from rfl)]
      have hA1 := adv_LA ha hn
      refine Out.pre (i := u) (j := u + 1) (k := 0) (A1 := advA A L u) (B1 := B) ?_ (adv_ex.mono SL_SD (Nat.le_refl _)) same.rf (by omega) hn (by omega)
      rcases num with z | z
      · rw [if_pos z]
        refine Out.wk (jo_cfit (kn := 0) (m := m) hk (by decide) hb ht hA1 hn rfl (fun y => absurd y (by decide)) (fun y => absurd y (by decide)) (fun _ => by decide) ?_) (fun j v A' y B' a1 a2 a3 ⟨b1, b2, b3, b4, b5⟩ => ⟨b1, hn, b2, b3, b4, b5⟩)
        unfold B_MText_constant_123 B_MText_constant_140
        rw [ck_t (TS hT), bC_t i3, decide_eq_true z, if_neg bI_t0]
        simp only [e0, e1]
        by_cases k0 : kd = 0
        · rw [if_pos k0, ok1 (Or.inl z) ho, if_pos (show (if kd = 1 then 0 else kd) = 0 by rw [if_neg (by omega)]; exact k0)]
        · rw [if_neg k0]
          by_cases k1 : kd = 1
          · rw [if_pos k1, ok1 (Or.inl z) ho, if_pos k1, if_pos rfl]
          · rw [if_neg k1, fz5, if_neg k1, if_neg k0]
      · rw [if_neg (show ¬ tkk L u = 3 by omega)]
        refine Out.wk (jo_cfit (kn := 2) (m := m) hk (by decide) hb ht hA1 hn rfl (fun y => absurd y (by decide)) (fun y => absurd y (by decide)) (fun _ => by decide) ?_) (fun j v A' y B' a1 a2 a3 ⟨b1, b2, b3, b4, b5⟩ => ⟨b1, hn, b2, b3, b4, b5⟩)
        unfold B_MText_constant_123
        rw [ck_t (TS hT), bC_t i3, decide_eq_false (by omega), if_pos bI_f, bC_t i4, decide_eq_true z, if_neg bI_t0]
        simp only [e2]
        by_cases k2 : kd = 2
        · rw [if_pos k2, ok1 (Or.inr z) ho, if_pos (show (if kd = 1 then 0 else kd) = 2 by rw [if_neg (by omega)]; exact k2)]
        · rw [if_neg k2, fz5, if_neg (by split <;> omega)]
    · have z2 : Zf (failB B w 2 (tkp L u)) w 2 (tkp L u) := hb.fail (by decide) (by decide)
      rw [if_pos (show true = true from rfl), bT_z, if_neg (show ¬ bI true = 0 by decide), bC_t (show F_MText_fails N w (2 : Int32) (nI u) B = _ from ev_fails (k := 2) hb hi), fz_k123 z2]
      exact Out.noD (k := 2) hb (by decide) (by decide) hi z2 SRd_fail
  · rw [decide_eq_false (by omega), if_pos bI_f, bC_t (show F_MText_is N w (nI 3) B = _ from i4), decide_eq_false (show ¬ tkk L u = 4 by omega), if_pos bI_f, if_neg (show ¬ tkk L u = 3 by omega), if_neg (show ¬ tkk L u = 4 by omega)]
    by_cases wd : m = false ∧ (tkk L u = 71 ∨ tkk L u = 72 ∨ tkk L u = 73)
    · obtain ⟨rfl, wd⟩ := wd
      have hn := hb.gt (show 2 ≤ tkk L u by omega)
      have hA1 := adv_LA ha hn
      have eB : B_MText_constant_39 N w (nI kd) (nI t) (bI false) (nI u) 0 B = B_MText_constant_123 N w (nI kd) (nI t) (bI false) (nI u) 0 B := by
        have e75 : B_MText_constant_75 N w (nI kd) (nI t) (bI false) (nI u) 0 B = B_MText_constant_123 N w (nI kd) (nI t) (bI false) (nI u) 0 B := by
          unfold B_MText_constant_75 B_MText_constant_80 B_MText_constant_101
          rw [if_pos (show (0 : Int32) = 0 from rfl), if_neg (show ¬ (1 : Int32) = 0 by decide), if_pos (show (0 : Int32) = 0 from rfl)]
        unfold B_MText_constant_39
        rw [if_pos (show bI false = 0 from rfl), ck_t (TS hT), bC_t i71]
        by_cases z1 : tkk L u = 71
        · rw [decide_eq_true z1, if_neg bI_t0, e75]
        · rw [decide_eq_false z1, if_pos bI_f, bC_t i72]
          by_cases z2 : tkk L u = 72
          · rw [decide_eq_true z2, if_neg bI_t0, e75]
          · rw [decide_eq_false z2, if_pos bI_f, bC_t i73, decide_eq_true (by omega), if_neg bI_t0, e75]
      have eB2 : B_MText_constant_123 N w (nI kd) (nI t) (bI false) (nI u) 0 B = if tkk L u = 73 then (if kd = 4 then B_MText_constant_202 N w (nI kd) (nI t) (bI false) (nI u) 0 1 B else B_MText_constant_202 N w (nI kd) (nI t) (bI false) (nI u) 0 0 B) else (if kd = 3 then B_MText_constant_202 N w (nI kd) (nI t) (bI false) (nI u) 0 1 B else B_MText_constant_202 N w (nI kd) (nI t) (bI false) (nI u) 0 0 B) := by
        unfold B_MText_constant_123
        rw [ck_t (TS hT), bC_t i3, decide_eq_false (by omega), if_pos bI_f, bC_t i4, decide_eq_false (by omega), if_pos bI_f, bC_t i73]
        simp only [e3, e4]
        by_cases z3 : tkk L u = 73
        · rw [decide_eq_true z3, if_neg bI_t0, if_pos z3]
        · rw [decide_eq_false z3, if_pos bI_f, if_neg z3]
      rw [if_pos (show bI false = 0 from rfl), eB, eB2, ok0, fz5]
      by_cases z3 : tkk L u = 73
      · rw [if_neg (show ¬ tkk L u = 71 by omega), if_neg (show ¬ tkk L u = 72 by omega)]
        unfold B_Reader_readConst_134
        rw [if_pos (show bI false = 0 from rfl), if_pos (show nI (tkk L u) = (73 : Int32) from (nI_eq (b := 73) (by omega) (by decide)).mpr z3), ck_t (rS_8 hG), rf_t (rP_8_0 hG), ck_t (rS_1 hG), bC_t (ev_advance ha hn), if_pos z3]
        refine Out.pre (i := u) (j := u + 1) (k := 0) (A1 := advA A L u) (B1 := B) ?_ (adv_ex.mono SL_SD (Nat.le_refl _)) same.rf (by omega) hn (by omega)
        refine Out.wk (jo_cfit (kn := 4) (m := false) hk (by decide) hb ht hA1 hn rfl (fun y => absurd y (by decide)) (fun _ => rfl) (fun y => absurd y (by decide)) ?_) (fun j v A' y B' a1 a2 a3 ⟨b1, b2, b3, b4, b5⟩ => ⟨b1, hn, b2, b3, b4, b5⟩)
        by_cases k4 : kd = 4
        · rw [if_pos k4, if_pos (show (if kd = 1 then 0 else kd) = 4 by rw [if_neg (by omega)]; exact k4), if_neg (show ¬ tkk L u = 71 by omega), if_pos z3]
        · rw [if_neg k4, if_neg (by split <;> omega)]
      · have eA : (if tkk L u = 71 then B_Reader_readConst_107 N 8 (nI kd) (nI (tkp L t)) (bI false) (nI (tkk L u)) A else if tkk L u = 72 then B_Reader_readConst_107 N 8 (nI kd) (nI (tkp L t)) (bI false) (nI (tkk L u)) A else B_Reader_readConst_134 N 8 (nI kd) (nI (tkp L t)) (bI false) (nI (tkk L u)) 0 0 A) = B_Reader_readConst_119 N 8 (nI kd) (nI (tkp L t)) (bI false) (if tkk L u = 71 then 1 else 0) A := by
          unfold B_Reader_readConst_107
          rw [show (71 : Int32) = nI 71 from rfl]
          simp only [q 71 (by decide)]
          by_cases z1 : tkk L u = 71
          · rw [if_pos z1, if_pos z1, if_pos z1]
          · rw [if_neg z1, if_pos (by omega), if_neg z1, if_neg z1]
        rw [eA, if_neg z3]
        unfold B_Reader_readConst_119
        rw [ck_t (rS_8 hG), rf_t (rP_8_0 hG), ck_t (rS_1 hG), bC_t (ev_advance ha hn)]
        refine Out.pre (i := u) (j := u + 1) (k := 0) (A1 := advA A L u) (B1 := B) ?_ (adv_ex.mono SL_SD (Nat.le_refl _)) same.rf (by omega) hn (by omega)
        refine Out.wk (jo_cfit (kn := 3) (m := false) hk (by decide) hb ht hA1 hn rfl (fun _ => by split <;> simp) (fun y => absurd y (by decide)) (fun y => absurd y (by decide)) ?_) (fun j v A' y B' a1 a2 a3 ⟨b1, b2, b3, b4, b5⟩ => ⟨b1, hn, b2, b3, b4, b5⟩)
        by_cases k3 : kd = 3
        · rw [if_pos k3, if_pos (show (if kd = 1 then 0 else kd) = 3 by rw [if_neg (by omega)]; exact k3), if_neg z3]
        · rw [if_neg k3, if_neg (by split <;> omega)]
    · have z1 : Zf (failB B w 1 (tkp L u)) w 1 (tkp L u) := hb.fail (by decide) (by decide)
      have e161 : B_Reader_readConst_161 N 8 (nI kd) (nI (tkp L t)) (bI m) 0 0 A = some (.inr A.sh.length, refA A 1 (nI (tkp L u))) := by
        unfold B_Reader_readConst_161
        rw [ck_t (rS_8 hG), rf_t (rP_8_0 hG), rf_t (rP_8_0 hG), ck_t (rS_1 hG), bnd_t, ha.2.2.2.2.2.1, ck_t (rS_1 hG), ev_refuse hG, bT_z]
      have e79 : B_MText_constant_79 N w (nI kd) (nI t) (bI m) (nI u) 0 B = some (0, failB B w 1 (tkp L u)) := by
        unfold B_MText_constant_79 B_MText_constant_80 B_MText_constant_101
        rw [if_pos (show (0 : Int32) = 0 from rfl), if_pos (show (0 : Int32) = 0 from rfl), ck_t (TS hT), bnd_t, hb.2.2.1, bC_t (show F_MText_fails N w (1 : Int32) (nI u) B = _ from ev_fails (k := 1) hb hi), if_pos (show (0 : Int32) = 0 from rfl), fz_k123 z1]
      have hfail : (Out (SD p) (SRd w) w L u A B ((some (.inr A.sh.length, refA A 1 (nI (tkp L u))) : Option (Ot Int32 × Hp))) ((some (0, failB B w 1 (tkp L u)) : Option (Int32 × Hp))) (fun j x A' y B' => j = u + 1 ∧ u + 1 < L.length ∧ A' = advA A L u ∧ B' = B.sD w 11 (nI (u + 1)) ∧ y = x ∧ gdC kd x)) := Out.noD (k := 1) hb (by decide) (by decide) hi z1 SRd_fail
      have e134 : B_Reader_readConst_134 N 8 (nI kd) (nI (tkp L t)) (bI m) (nI (tkk L u)) 0 0 A = some (.inr A.sh.length, refA A 1 (nI (tkp L u))) := by
        unfold B_Reader_readConst_134
        rw [show (73 : Int32) = nI 73 from rfl, e161]
        simp only [q 73 (by decide)]
        cases m
        · rw [if_pos (show bI false = 0 from rfl), if_neg (fun y => wd ⟨rfl, by omega⟩)]
        · rw [if_neg (show ¬ bI true = 0 by decide)]
      rw [e134]
      unfold B_MText_constant_39
      cases m
      · have w71 : ¬ tkk L u = 71 := fun y => wd ⟨rfl, by omega⟩
        have w72 : ¬ tkk L u = 72 := fun y => wd ⟨rfl, by omega⟩
        have w73 : ¬ tkk L u = 73 := fun y => wd ⟨rfl, by omega⟩
        rw [if_pos (show bI false = 0 from rfl), if_neg w71, if_neg w72, if_pos (show bI false = 0 from rfl), ck_t (TS hT), bC_t i71, decide_eq_false w71, if_pos bI_f, bC_t i72, decide_eq_false w72, if_pos bI_f, bC_t i73, decide_eq_false w73, if_pos bI_f, e79]
        exact hfail
      · rw [if_neg (show ¬ bI true = 0 by decide), if_neg (show ¬ bI true = 0 by decide), e79]
        exact hfail
theorem jo_const {A B : Hp} {i kd : Nat} (ha : LA A L T g i) (hb : LB B w L T g i) (hk : kd ≤ 4) : (Out (SD p) (SRd w) w L i A B (F_Reader_readConst N 8 (nI kd) A) (F_MText_constant N w (nI kd) B) (fun j v A' y B' => i < j ∧ j < L.length ∧ LA A' L T g j ∧ LB B' w L T g j ∧ exA SL 0 A A' ∧ same (fun a f => a = w ∧ f = 11) B B' ∧ y = v ∧ gdC kd v)) := by
  have hG := ha.1.1
  have hi := ha.2.2.2.2.2.2.1
  have h81 := (hb.2.2.2.2.2.2.2.2.2.1 i hi).2.1
  have k19 : (nI (tkk L i) = (19 : Int32)) = (tkk L i = 19) := propext (nI_eq (b := 19) (by omega) (by decide))
  have eB : F_MText_constant N w (nI kd) B = bC (F_MText_accepts N w (45 : Int32) B) fun v4 H5 => csB N w (nI kd) (nI i) v4 H5 := by
    unfold F_MText_constant
    rw [ck_t (TS hb.1.1), bnd_t, hb.2.2.1]
    rfl
  unfold F_Reader_readConst B_Reader_readConst_25
  rw [eB, ck_t (rS_8 hG), rf_t (rP_8_0 hG), ck_t (rS_1 hG), bnd_t, ha.2.2.2.2.2.1, rf_t (rP_8_0 hG), ck_t (rS_1 hG), bnd_t, ha.2.2.2.2.1, show (45 : Int32) = nI (tyK 19) from rfl, ev_accepts hb (by decide)]
  simp only [k19]
  by_cases z : tkk L i = 19
  · have hn := hb.gt (show 2 ≤ tkk L i by omega)
    have hA1 := adv_LA ha hn
    have hB1 := hb.nx hn
    rw [if_pos z, if_neg (show ¬ (1 : Int32) = 0 by decide), ck_t (rS_8 hG), rf_t (rP_8_0 hG), ck_t (rS_1 hG), bC_t (ev_advance ha hn), if_pos z, bC_v]
    refine Out.pre (Out.wk (jo_const2 (m := true) hA1 hB1 hk hi) ?_) (adv_ex.mono SL_SD (Nat.le_refl _)) (same.rf.sD (by unfold SRd; omega)) (show i ≤ i + 1 by omega) hn (by omega)
    rintro j v A' y B' a1 a2 a3 ⟨rfl, b2, rfl, rfl, b5, b6⟩
    exact ⟨by omega, b2, adv_LA hA1 b2, hB1.nx b2, adv_ex.tr adv_ex, (same.rf.sD (by omega)).sD (by omega), b5, b6⟩
  · rw [if_neg z, if_pos trivial, if_neg z, bC_v]
    refine Out.wk (jo_const2 (m := false) ha hb hk hi) ?_
    rintro j v A' y B' a1 a2 a3 ⟨rfl, b2, rfl, rfl, b5, b6⟩
    exact ⟨by omega, b2, adv_LA ha b2, hb.nx b2, adv_ex, same.rf.sD (by omega), b5, b6⟩
end Par
