/-! ===== for ===== -/
def nearN (E : Nat → Nat → Nat) (s c : Nat) : Prop := E 18 s / 2 ^ c % 2 = 1 ∧ E 21 s / 2 ^ c % 2 = 1 ∧ E 5 c + 1 < E 5 (c + 1) ∧ E 6 (E 5 c) = 2 ∧ E 6 (E 5 c + 1) = 2
theorem nI_lt1 {a b : Nat} (h : a < 2 ^ 31) (hb : b < 2 ^ 31) : (nI a < nI b) ↔ a < b := ⟨fun z => Decidable.byContradiction fun y => nI_nlt (a := a) (b := b) (by omega) (by omega) z, fun z => nI_lt z hb⟩
theorem and_bit {m c : Nat} : (m &&& 2 ^ c = 0) ↔ ¬ m.testBit c = true := by
  constructor
  · intro h z
    have e : (m &&& 2 ^ c).testBit c = true := by rw [Nat.testBit_and, z, Nat.testBit_two_pow_self]; rfl
    rw [h, Nat.zero_testBit] at e
    exact Bool.noConfusion e
  · intro h
    apply Nat.eq_of_testBit_eq
    intro j
    rw [Nat.testBit_and, Nat.testBit_two_pow, Nat.zero_testBit]
    by_cases z : c = j
    · subst z
      rw [Bool.eq_false_iff.mpr h]; rfl
    · rw [decide_eq_false z, Bool.and_false]
section Par
variable {N p w T : Nat} {L : List (Nat × Nat × Int32 × Bool × Nat)} {g : Nat → Nat} {E : Nat → Nat → Nat} {Nm : Nat → Nat → List Nat} {Pv : Nat → Nat → Int32} {nL lc dp : Nat} {ln : Nat → List Nat} {lk lf : Nat → Nat} {hd : Nat → Int32}
theorem ev_near {A : Hp} {i cs c : Nat} (ha : (JA p T L g E Nm Pv nL lc dp ln lk lf hd i cs A)) (hC : (CX p E Nm nL lc dp ln lk lf hd)) (hc : c < E 4 0) : (nearN E (E 17 0 - 1) c → F_Body_canBeNear N 9 (nI c) A = some (1, A)) ∧ (¬ nearN E (E 17 0 - 1) c → F_Body_canBeNear N 9 (nI c) A = some (0, A)) := by
  have hG := ha.1.1.1
  have hP := ha.pP hC
  have hE := hC.1
  have h16 : E 4 0 ≤ 16 := hE.1
  have h48 : E 5 (E 4 0) ≤ 48 := hE.2.2.2.1
  have h17 : E 17 0 ≤ 16 := hE.2.2.2.2.2.2.2.2.2.2.2.1
  have h171 : 1 ≤ E 17 0 := hC.2.2.1
  obtain ⟨s18, s19, s20, s21, s22⟩ := hE.2.2.2.2.2.2.2.2.2.2.2.2.1 (E 17 0 - 1) (by omega)
  obtain ⟨w1, w2, w3, w4, w5, w6, w7⟩ := ha.2.1.2.2.2.2.1.2 (E 17 0 - 1) (by omega)
  obtain ⟨q1, q2, q3⟩ := hE.2.2.1 c hc
  have f1 : A.D (p + 137) c = nI (E 5 c) := ha.2.1.2.1.2.1 c (by omega)
  have f2 : A.D (p + 137) (c + 1) = nI (E 5 (c + 1)) := ha.2.1.2.1.2.1 (c + 1) (by omega)
  have esz := ev_sizeOf (N := N) (PrA_2 hP) (PcP_2 hP) (PcA_2 hP) (by decide) ha.2.1.2.1.1 (by omega) hc f1 f2 q1
  have e0 : F_Body_canBeNear N 9 (nI c) A = if (((nI (E 18 (E 17 0 - 1)) &&& nI (E 21 (E 17 0 - 1))) >>> (nI c &&& 31)) &&& (1 : Int32)) = 1 then (if nI (E 5 (c + 1) - E 5 c) < (2 : Int32) then some (0, A) else ck (inb (nI (E 5 c)) 48) (rf (A.P (p + 88) (nI (E 5 c)).toNatClampNeg) fun a56 => ck (A.sh[a56]? = some (2, 0)) (bnd (A.D a56 3) fun x59 => if x59 = (2 : Int32) then ck (inb (nI (E 5 c) + (1 : Int32)) 48) (rf (A.P (p + 88) (nI (E 5 c) + (1 : Int32)).toNatClampNeg) fun a72 => ck (A.sh[a72]? = some (2, 0)) (bnd (A.D a72 3) fun x75 => if x75 = (2 : Int32) then some (1, A) else some (0, A))) else some (0, A)))) else some (0, A) := by
    unfold F_Body_canBeNear
    rw [ck_t (rS_9 hG), rf_t ha.2.2.1, ck_t (PrS hP), rf_t (PrP_2 hP), ck_t (PrA_2 hP), rf_t (PcP_2 hP), ar_t (PcA_2 hP), rdI (show c < 17 by omega) (by decide), f1, rf_t ha.2.2.1, ck_t (PrS hP), rf_t (PrP_9 hP), bnd_t (e := A.D 9 2), ha.2.2.2.1, ar_t (PrA_9 hP), rdI (show E 17 0 - 1 < 16 by omega) (by decide), w2, rf_t ha.2.2.1, ck_t (PrS hP), rf_t (PrP_12 hP), bnd_t (e := nI (E 17 0 - 1)), ar_t (PrA_12 hP), rdI (show E 17 0 - 1 < 16 by omega) (by decide), w5, rf_t ha.2.2.1, ck_t (PrS hP), rf_t (PrP_2 hP), ck_t (PrA_2 hP), bC_t esz, rf_t ha.2.2.1, ck_t (PrS hP), rf_t (PrP_2 hP), ck_t (PrA_2 hP), rf_t (PcP_1 hP), ar_t (PcA_1 hP)]
    simp only [rf_t ha.2.2.1, ck_t (PrS hP), rf_t (PrP_2 hP), ck_t (PrA_2 hP), rf_t (PcP_1 hP), ar_t (PcA_1 hP)]
  have eb : ((((nI (E 18 (E 17 0 - 1)) &&& nI (E 21 (E 17 0 - 1))) >>> (nI c &&& 31)) &&& (1 : Int32)) = 1) ↔ (E 18 (E 17 0 - 1) / 2 ^ c % 2 = 1 ∧ E 21 (E 17 0 - 1) / 2 ^ c % 2 = 1) := by
    have hle : E 18 (E 17 0 - 1) &&& E 21 (E 17 0 - 1) ≤ E 18 (E 17 0 - 1) := Nat.and_le_left
    rw [nI_and _ _ (by omega), nI_bit1 (by omega) (by omega), bit_tb, bit_tb, bit_tb, Nat.testBit_and, Bool.and_eq_true]
  have e2 : (nI (E 5 (c + 1) - E 5 c) < (2 : Int32)) ↔ ¬ E 5 c + 1 < E 5 (c + 1) := by
    refine (nI_lt1 (b := 2) (by omega) (by decide)).trans ?_
    omega
  rw [e0]
  unfold nearN
  by_cases b1 : E 18 (E 17 0 - 1) / 2 ^ c % 2 = 1 ∧ E 21 (E 17 0 - 1) / 2 ^ c % 2 = 1
  · rw [if_pos (eb.mpr b1)]
    by_cases b2 : E 5 c + 1 < E 5 (c + 1)
    · have r1 := PcM hP (E 5 c) (by omega)
      have r2 := PcM hP (E 5 c + 1) (by omega)
      have k1 := (ha.2.1.2.1.2.2.1 (E 5 c) (by omega)).2
      have k2 := (ha.2.1.2.1.2.2.1 (E 5 c + 1) (by omega)).2
      have l1 := hE.2.2.2.2.1 (E 5 c) (by omega)
      have l2 := hE.2.2.2.2.1 (E 5 c + 1) (by omega)
      rw [if_neg (fun z => e2.mp z b2), rdP (by omega) (by decide), rf_t r1.1, ck_t r1.2, bnd_t, k1, nI_1, rdP (by omega) (by decide), rf_t r2.1, ck_t r2.2, bnd_t, k2]
      by_cases b3 : E 6 (E 5 c) = 2
      · rw [if_pos (show nI (E 6 (E 5 c)) = (2 : Int32) by rw [b3]; rfl)]
        by_cases b4 : E 6 (E 5 c + 1) = 2
        · rw [if_pos (show nI (E 6 (E 5 c + 1)) = (2 : Int32) by rw [b4]; rfl)]
          exact ⟨fun _ => rfl, fun z => absurd ⟨b1.1, b1.2, b2, b3, b4⟩ z⟩
        · rw [if_neg (show ¬ nI (E 6 (E 5 c + 1)) = (2 : Int32) from fun z => b4 ((nI_eq (b := 2) (by omega) (by decide)).mp z))]
          exact ⟨fun z => absurd z.2.2.2.2 b4, fun _ => rfl⟩
      · rw [if_neg (show ¬ nI (E 6 (E 5 c)) = (2 : Int32) from fun z => b3 ((nI_eq (b := 2) (by omega) (by decide)).mp z))]
        exact ⟨fun z => absurd z.2.2.2.1 b3, fun _ => rfl⟩
    · rw [if_pos (e2.mpr b2)]
      exact ⟨fun z => absurd z.2.2.1 b2, fun _ => rfl⟩
  · rw [if_neg (fun z => b1 (eb.mp z))]
    exact ⟨fun z => absurd ⟨z.1, z.2.1⟩ b1, fun _ => rfl⟩
def nrR (N : Nat) (o : Orc_TextS) (p0 : Nat) (v3 v12 : Int32) (H16 : Hp) : Option (Unit × Hp) :=
    rf (H16.P p0 30) fun a36 =>
    bnd ((H16.D p0 29)) fun x38 =>
    ar H16 100 a36 fun n39 =>
    ck (inb (x38 - (1 : Int32)) n39) <|
    bnd ((H16.D a36 ((x38 - (1 : Int32))).toNatClampNeg)) fun x42 =>
    rf (H16.P p0 33) fun a43 =>
    bnd ((H16.D p0 29)) fun x45 =>
    ar H16 100 a43 fun n46 =>
    ck (inb (x45 - (1 : Int32)) n46) <|
    bnd ((H16.D a43 ((x45 - (1 : Int32))).toNatClampNeg)) fun x49 =>
    if ((x42 &&& x49) &&& ((1 : Int32) <<< (v12 &&& 31))) = (0 : Int32) then
    B_MText_goes_67 N o p0 v3 v12 0 H16
    else
    B_MText_goes_67 N o p0 v3 v12 1 H16
theorem ev_nrR {B : Hp} {i c : Nat} {v3 : Int32} {o' : Orc_TextS} (hb : (JB w T L g E Nm Pv nL lc dp ln lk lf hd i B)) (hC : (CX p E Nm nL lc dp ln lk lf hd)) (hc : c < E 4 0) : (nearN E (E 17 0 - 1) c → nrR N o' w v3 (nI c) B = B_MText_goes_128 N o' w v3 1 B) ∧ (¬ nearN E (E 17 0 - 1) c → nrR N o' w v3 (nI c) B = B_MText_goes_128 N o' w v3 0 B) := by
  have hT := hb.1.1.1
  have hE := hC.1
  have h16 : E 4 0 ≤ 16 := hE.1
  have h48 : E 5 (E 4 0) ≤ 48 := hE.2.2.2.1
  have h17 : E 17 0 ≤ 16 := hE.2.2.2.2.2.2.2.2.2.2.2.1
  have h171 : 1 ≤ E 17 0 := hC.2.2.1
  obtain ⟨s18, s19, s20, s21, s22⟩ := hE.2.2.2.2.2.2.2.2.2.2.2.2.1 (E 17 0 - 1) (by omega)
  obtain ⟨w1, w2, w3, w4, w5, w6⟩ := hb.2.1.2.2.2.2.2 (E 17 0 - 1) (by omega)
  obtain ⟨q1, q2, q3⟩ := hE.2.2.1 c hc
  have d1 : nI (E 17 0) - 1 = nI (E 17 0 - 1) := nI_dif (a := E 17 0) (b := 1) h171
  have f1 : B.D (w + 12) c = nI (E 5 c) := hb.2.1.2.1.2.1 c (by omega)
  have f2 : B.D (w + 12) (c + 1) = nI (E 5 (c + 1)) := hb.2.1.2.1.2.1 (c + 1) (by omega)
  have eb : (((nI (E 18 (E 17 0 - 1)) &&& nI (E 21 (E 17 0 - 1))) &&& ((1 : Int32) <<< (nI c &&& 31))) = 0) ↔ ¬ (E 18 (E 17 0 - 1) / 2 ^ c % 2 = 1 ∧ E 21 (E 17 0 - 1) / 2 ^ c % 2 = 1) := by
    have hle : E 18 (E 17 0 - 1) &&& E 21 (E 17 0 - 1) ≤ E 18 (E 17 0 - 1) := Nat.and_le_left
    have hle2 : (E 18 (E 17 0 - 1) &&& E 21 (E 17 0 - 1)) &&& 2 ^ c ≤ E 18 (E 17 0 - 1) &&& E 21 (E 17 0 - 1) := Nat.and_le_left
    rw [nI_shl (by omega), nI_and _ _ (by omega), nI_and _ _ (by omega), bit_tb, bit_tb]
    refine (nI_eq (b := 0) (by omega) (by decide)).trans ?_
    rw [and_bit, Nat.testBit_and, Bool.and_eq_true]
  have e67 : B_MText_goes_67 N o' w v3 (nI c) 1 B = if nI (E 5 (c + 1) - E 5 c) ≤ (1 : Int32) then B_MText_goes_127 N o' w v3 B else ck (inb (nI (E 5 c)) 48) (bnd (B.D (w + 13) (nI (E 5 c)).toNatClampNeg) fun x113 => if x113 = (2 : Int32) then ck (inb (nI (E 5 c) + (1 : Int32)) 48) (bnd (B.D (w + 13) (nI (E 5 c) + (1 : Int32)).toNatClampNeg) fun x126 => if x126 = (2 : Int32) then B_MText_goes_128 N o' w v3 1 B else B_MText_goes_127 N o' w v3 B) else B_MText_goes_127 N o' w v3 B) := by
    unfold B_MText_goes_67
    rw [if_neg (by decide), ck_t (TS hT), rf_t (TP_18 hT), ar_t (TA_18 hT), nI_1, rdI (show c + 1 < 17 by omega) (by decide), f2, rf_t (TP_18 hT), ar_t (TA_18 hT), rdI (show c < 17 by omega) (by decide), f1, nI_dif q1]
    simp only [rf_t (TP_18 hT), rf_t (TP_19 hT), ar_t (TA_18 hT), ar_t (TA_19 hT)]
    rw [rdI (show c < 17 by omega) (by decide), f1, rdI (show c < 17 by omega) (by decide), f1]
  have e0 : B_MText_goes_67 N o' w v3 (nI c) 0 B = B_MText_goes_128 N o' w v3 0 B := by
    unfold B_MText_goes_67
    rw [if_pos rfl]; rfl
  have e127 : B_MText_goes_127 N o' w v3 B = B_MText_goes_128 N o' w v3 0 B := rfl
  have e2 : (nI (E 5 (c + 1) - E 5 c) ≤ (1 : Int32)) ↔ ¬ E 5 c + 1 < E 5 (c + 1) := by
    refine ⟨fun z y => nI_ge (a := 1) (b := E 5 (c + 1) - E 5 c) (by omega) (by omega) z, fun z => nI_le (b := 1) (by omega) (by decide)⟩
  unfold nrR nearN
  rw [rf_t (TP_30 hT), bnd_t, hb.2.1.2.2.2.2.1, d1, ar_t (TA_30 hT), rdI (show E 17 0 - 1 < 16 by omega) (by decide), w2, rf_t (TP_33 hT), bnd_t, d1, ar_t (TA_33 hT), rdI (show E 17 0 - 1 < 16 by omega) (by decide), w5, e0, e67, e127]
  by_cases b1 : E 18 (E 17 0 - 1) / 2 ^ c % 2 = 1 ∧ E 21 (E 17 0 - 1) / 2 ^ c % 2 = 1
  · rw [if_neg (fun z => eb.mp z b1)]
    by_cases b2 : E 5 c + 1 < E 5 (c + 1)
    · have k1 := (hb.2.1.2.1.2.2.1 (E 5 c) (by omega)).2
      have k2 := (hb.2.1.2.1.2.2.1 (E 5 c + 1) (by omega)).2
      have l1 := hE.2.2.2.2.1 (E 5 c) (by omega)
      have l2 := hE.2.2.2.2.1 (E 5 c + 1) (by omega)
      rw [if_neg (fun z => e2.mp z b2), rdI (show E 5 c < 48 by omega) (by decide), k1, nI_1, rdI (show E 5 c + 1 < 48 by omega) (by decide), k2]
      by_cases b3 : E 6 (E 5 c) = 2
      · rw [if_pos (show nI (E 6 (E 5 c)) = (2 : Int32) by rw [b3]; rfl)]
        by_cases b4 : E 6 (E 5 c + 1) = 2
        · rw [if_pos (show nI (E 6 (E 5 c + 1)) = (2 : Int32) by rw [b4]; rfl)]
          exact ⟨fun _ => rfl, fun z => absurd ⟨b1.1, b1.2, b2, b3, b4⟩ z⟩
        · rw [if_neg (show ¬ nI (E 6 (E 5 c + 1)) = (2 : Int32) from fun z => b4 ((nI_eq (b := 2) (by omega) (by decide)).mp z))]
          exact ⟨fun z => absurd z.2.2.2.2 b4, fun _ => rfl⟩
      · rw [if_neg (show ¬ nI (E 6 (E 5 c)) = (2 : Int32) from fun z => b3 ((nI_eq (b := 2) (by omega) (by decide)).mp z))]
        exact ⟨fun z => absurd z.2.2.2.1 b3, fun _ => rfl⟩
    · rw [if_pos (e2.mpr b2)]
      exact ⟨fun z => absurd z.2.2.1 b2, fun _ => rfl⟩
  · rw [if_pos (eb.mpr b1)]
    exact ⟨fun z => absurd ⟨z.1, z.2.1⟩ b1, fun _ => rfl⟩
end Par
