/-! ===== operations on ints ===== -/
def bi (c : Nat) (x y : Int32) : Int32 := if c = 52 then x + y else if c = 53 then x - y else if c = 54 then x * y else if c = 55 then x / y else x - x / y * y
def cmI (c : Nat) (x y : Int32) : Int32 := if c = 57 then (if y ≤ x then 0 else 1) else if c = 58 then (if y < x then 0 else 1) else if c = 59 then (if x ≤ y then 0 else 1) else if c = 60 then (if x < y then 0 else 1) else if c = 61 then (if x = y then 1 else 0) else (if x = y then 0 else 1)
section Par
variable {N p wo inp cs : Nat} {s pl : Int32}
theorem op_50 {A : Hp} {pc h : Nat}  (h0 : VS0 A p wo inp cs) (hs : CS A pc (h + 1)) (hpc : pc < cs) (hp : p ≠ 117) (hh : h < 160) (hc : A.D (p + 191) pc = nI 50) : ∃ A2, VR N s pl 1 A A2 ∧ VO A A2 h (pc + 1) (-A.D 119 h) := by
  have hG1 : Gr (A.sD 117 12 (nI (pc + 1))) := h0.1
  have hG2 : Gr ((A.sD 117 12 (nI (pc + 1))).sD 117 12 (nI (pc + 2))) := h0.1
  have hGp : Gr ((A.sD 117 12 (nI (pc + 1))).sD 117 6 (nI h)) := h0.1
  refine VR.op (z := ()) h0 hs (by omega) hp hc (by decide) (by decide) (A2 := psA ((A.sD 117 12 (nI (pc + 1))).sD 117 6 (nI h)) h (-A.D 119 h)) ?_ ?_
  · rw [vOp5 (by decide) (by decide)]
    unfold F_Row_ints
    rw [ck_t (rS_117 hG1), bC_t (ev_vpop (h := h) hG1 (by rw [rdf (by decide)]; exact hs.2.1) hh), rdw (show (119 : Nat) ≠ 117 by decide), if_pos (show nI 50 = (50 : Int32) by decide)]
    unfold B_Row_ints_17 B_Row_ints_32
    rw [if_pos (show nI 50 = (50 : Int32) by decide), ck_t (rS_117 hGp), bC_t (ev_vpush (h := h) hGp rds hh)]
  · have := hs.2.2
    refine ⟨by unfold psA; repeat (first | exact same.rf | refine same.sD ?_ (by unfold EXA; omega)), ⟨?_, ?_, ?_⟩, ?_, ?_⟩ <;> simp [psA, sD_D, up2, this]
theorem op_51 {A : Hp} {pc h : Nat}  (h0 : VS0 A p wo inp cs) (hs : CS A pc (h + 1)) (hpc : pc < cs) (hp : p ≠ 117) (hh : h < 160) (hc : A.D (p + 191) pc = nI 51) : ∃ A2, VR N s pl 1 A A2 ∧ VO A A2 h (pc + 1) (1 - A.D 119 h) := by
  have hG1 : Gr (A.sD 117 12 (nI (pc + 1))) := h0.1
  have hG2 : Gr ((A.sD 117 12 (nI (pc + 1))).sD 117 12 (nI (pc + 2))) := h0.1
  have hGp : Gr ((A.sD 117 12 (nI (pc + 1))).sD 117 6 (nI h)) := h0.1
  refine VR.op (z := ()) h0 hs (by omega) hp hc (by decide) (by decide) (A2 := psA ((A.sD 117 12 (nI (pc + 1))).sD 117 6 (nI h)) h (1 - A.D 119 h)) ?_ ?_
  · rw [vOp5 (by decide) (by decide)]
    unfold F_Row_ints
    rw [ck_t (rS_117 hG1), bC_t (ev_vpop (h := h) hG1 (by rw [rdf (by decide)]; exact hs.2.1) hh), rdw (show (119 : Nat) ≠ 117 by decide), if_neg (show ¬ nI 51 = (50 : Int32) by decide), if_pos (show nI 51 = (51 : Int32) by decide)]
    unfold B_Row_ints_17 B_Row_ints_32
    rw [if_neg (show ¬ nI 51 = (50 : Int32) by decide), ck_t (rS_117 hGp), bC_t (ev_vpush (h := h) hGp rds hh)]
  · have := hs.2.2
    refine ⟨by unfold psA; repeat (first | exact same.rf | refine same.sD ?_ (by unfold EXA; omega)), ⟨?_, ?_, ?_⟩, ?_, ?_⟩ <;> simp [psA, sD_D, up2, this]
theorem op_bi {A : Hp} {pc h : Nat} {c : Nat} (c1 : c = 52 ∨ c = 53 ∨ c = 54 ∨ c = 55 ∨ c = 56) (c2 : c = 55 ∨ c = 56 → ¬ A.D 119 (h + 1) = 0) (h0 : VS0 A p wo inp cs) (hs : CS A pc (h + 2)) (hpc : pc < cs) (hp : p ≠ 117) (hh : h + 1 < 160) (hc : A.D (p + 191) pc = nI c) : ∃ A2, VR N s pl 1 A A2 ∧ VO A A2 h (pc + 1) (bi c (A.D 119 h) (A.D 119 (h + 1))) := by
  have hG1 : Gr (A.sD 117 12 (nI (pc + 1))) := h0.1
  have hG2 : Gr ((A.sD 117 12 (nI (pc + 1))).sD 117 12 (nI (pc + 2))) := h0.1
  have hGa : Gr ((A.sD 117 12 (nI (pc + 1))).sD 117 6 (nI (h + 1))) := h0.1
  have hGb : Gr (((A.sD 117 12 (nI (pc + 1))).sD 117 6 (nI (h + 1))).sD 117 6 (nI h)) := h0.1
  refine VR.op (z := ()) h0 hs (by omega) hp hc (by omega) (by omega) (A2 := psA (((A.sD 117 12 (nI (pc + 1))).sD 117 6 (nI (h + 1))).sD 117 6 (nI h)) h (bi c (A.D 119 h) (A.D 119 (h + 1)))) ?_ ?_
  · rw [vOp5 (by omega) (by omega)]
    unfold F_Row_ints
    have pu : ∀ x, F_Row_push N 117 x (((A.sD 117 12 (nI (pc + 1))).sD 117 6 (nI (h + 1))).sD 117 6 (nI h)) = some ((), psA (((A.sD 117 12 (nI (pc + 1))).sD 117 6 (nI (h + 1))).sD 117 6 (nI h)) h x) := fun x => ev_vpush (h := h) hGb rds (by omega)
    have fin : (c = 55 ∨ c = 56 → ¬ A.D 119 (h + 1) = 0) → B_Row_ints_88 N 117 (nI c) (A.D 119 (h + 1)) (A.D 119 h) (((A.sD 117 12 (nI (pc + 1))).sD 117 6 (nI (h + 1))).sD 117 6 (nI h)) = some ((), psA (((A.sD 117 12 (nI (pc + 1))).sD 117 6 (nI (h + 1))).sD 117 6 (nI h)) h (bi c (A.D 119 h) (A.D 119 (h + 1)))) := fun hz => by
      unfold B_Row_ints_88
      rcases c1 with rfl | rfl | rfl | rfl | rfl
      · rw [if_pos (show nI 52 = (52 : Int32) by decide), ck_t (rS_117 hGb), bC_t (pu _)]
        rfl
      · rw [if_neg (show ¬ nI 53 = (52 : Int32) by decide), if_pos (show nI 53 = (53 : Int32) by decide), ck_t (rS_117 hGb), bC_t (pu _)]
        rfl
      · rw [if_neg (show ¬ nI 54 = (52 : Int32) by decide), if_neg (show ¬ nI 54 = (53 : Int32) by decide), if_pos (show nI 54 = (54 : Int32) by decide), ck_t (rS_117 hGb), bC_t (pu _)]
        rfl
      · rw [if_neg (show ¬ nI 55 = (52 : Int32) by decide), if_neg (show ¬ nI 55 = (53 : Int32) by decide), if_neg (show ¬ nI 55 = (54 : Int32) by decide), if_pos (show nI 55 = (55 : Int32) by decide), ck_t (hz (.inl rfl)), ck_t (rS_117 hGb), bC_t (pu _)]
        rfl
      · rw [if_neg (show ¬ nI 56 = (52 : Int32) by decide), if_neg (show ¬ nI 56 = (53 : Int32) by decide), if_neg (show ¬ nI 56 = (54 : Int32) by decide), if_neg (show ¬ nI 56 = (55 : Int32) by decide), ck_t (hz (.inr rfl)), ck_t (rS_117 hGb), bC_t (pu _)]
        rfl
    have n50 : ¬ nI c = (50 : Int32) := by rcases c1 with rfl | rfl | rfl | rfl | rfl <;> decide
    have n51 : ¬ nI c = (51 : Int32) := by rcases c1 with rfl | rfl | rfl | rfl | rfl <;> decide
    have n57 : nI c < (57 : Int32) := by rcases c1 with rfl | rfl | rfl | rfl | rfl <;> decide
    rw [ck_t (rS_117 hG1), bC_t (ev_vpop (h := h + 1) hG1 (by rw [rdf (by decide)]; exact hs.2.1) hh), rdw (show (119 : Nat) ≠ 117 by decide), if_neg n50, if_neg n51, bC_t (ev_vpop (h := h) hGa rds (by omega)), rdw (show (119 : Nat) ≠ 117 by decide), rdw (show (119 : Nat) ≠ 117 by decide), if_pos n57]
    by_cases z : A.D 119 (h + 1) = 0
    · have n55 : ¬ nI c = (55 : Int32) := fun y => c2 (.inl ((nI_eq (b := 55) (by omega) (by decide)).mp y)) z
      have n56 : ¬ nI c = (56 : Int32) := fun y => c2 (.inr ((nI_eq (b := 56) (by omega) (by decide)).mp y)) z
      rw [if_pos z, if_neg n55, if_neg n56, fin c2]
    · rw [if_neg z, fin c2]
  · have := hs.2.2
    refine ⟨by unfold psA; repeat (first | exact same.rf | refine same.sD ?_ (by unfold EXA; omega)), ⟨?_, ?_, ?_⟩, ?_, ?_⟩ <;> simp [psA, sD_D, up2, this]
theorem op_bif {A : Hp} {pc h : Nat} {c : Nat} (c1 : c = 55 ∨ c = 56) (c2 : A.D 119 (h + 1) = 0) (h0 : VS0 A p wo inp cs) (hs : CS A pc (h + 2)) (hpc : pc < cs) (hp : p ≠ 117) (hh : h + 1 < 160) (hc : A.D (p + 191) pc = nI c) : ∃ A2, VR N s pl 1 A A2 ∧ VF A A2 1 := by
  have hG1 : Gr (A.sD 117 12 (nI (pc + 1))) := h0.1
  have hG2 : Gr ((A.sD 117 12 (nI (pc + 1))).sD 117 12 (nI (pc + 2))) := h0.1
  have hGa : Gr ((A.sD 117 12 (nI (pc + 1))).sD 117 6 (nI (h + 1))) := h0.1
  have hGb : Gr (((A.sD 117 12 (nI (pc + 1))).sD 117 6 (nI (h + 1))).sD 117 6 (nI h)) := h0.1
  refine VR.fl (z := ()) h0 hs (by omega) hp hc (by omega) (by omega) (A2 := (((A.sD 117 12 (nI (pc + 1))).sD 117 6 (nI (h + 1))).sD 117 6 (nI h)).sD 117 16 1) ?_ ?_
  · rw [vOp5 (by omega) (by omega)]
    unfold F_Row_ints
    have n50 : ¬ nI c = (50 : Int32) := by rcases c1 with rfl | rfl <;> decide
    have n51 : ¬ nI c = (51 : Int32) := by rcases c1 with rfl | rfl <;> decide
    have n57 : nI c < (57 : Int32) := by rcases c1 with rfl | rfl <;> decide
    rw [ck_t (rS_117 hG1), bC_t (ev_vpop (h := h + 1) hG1 (by rw [rdf (by decide)]; exact hs.2.1) hh), rdw (show (119 : Nat) ≠ 117 by decide), if_neg n50, if_neg n51, bC_t (ev_vpop (h := h) hGa rds (by omega)), rdw (show (119 : Nat) ≠ 117 by decide), rdw (show (119 : Nat) ≠ 117 by decide), if_pos n57, if_pos c2]
    rcases c1 with rfl | rfl
    · rw [if_pos (show nI 55 = (55 : Int32) from rfl), bnd_t]
    · rw [if_neg (show ¬ nI 56 = (55 : Int32) by decide), if_pos (show nI 56 = (56 : Int32) from rfl), bnd_t]
  · refine ⟨by repeat (first | exact same.rf | refine same.sD ?_ (by unfold EXA; omega)), ?_⟩ <;> simp [sD_D, up2]
theorem op_cm {A : Hp} {pc h : Nat} {c : Nat} (c1 : c = 57 ∨ c = 58 ∨ c = 59 ∨ c = 60 ∨ c = 61 ∨ c = 62) (h0 : VS0 A p wo inp cs) (hs : CS A pc (h + 2)) (hpc : pc < cs) (hp : p ≠ 117) (hh : h + 1 < 160) (hc : A.D (p + 191) pc = nI c) : ∃ A2, VR N s pl 1 A A2 ∧ VO A A2 h (pc + 1) (cmI c (A.D 119 h) (A.D 119 (h + 1))) := by
  have hG1 : Gr (A.sD 117 12 (nI (pc + 1))) := h0.1
  have hG2 : Gr ((A.sD 117 12 (nI (pc + 1))).sD 117 12 (nI (pc + 2))) := h0.1
  have hGa : Gr ((A.sD 117 12 (nI (pc + 1))).sD 117 6 (nI (h + 1))) := h0.1
  have hGb : Gr (((A.sD 117 12 (nI (pc + 1))).sD 117 6 (nI (h + 1))).sD 117 6 (nI h)) := h0.1
  refine VR.op (z := ()) h0 hs (by omega) hp hc (by omega) (by omega) (A2 := psA (((A.sD 117 12 (nI (pc + 1))).sD 117 6 (nI (h + 1))).sD 117 6 (nI h)) h (cmI c (A.D 119 h) (A.D 119 (h + 1)))) ?_ ?_
  · rw [vOp5 (by omega) (by omega)]
    unfold F_Row_ints
    have pu : ∀ x, F_Row_push N 117 x (((A.sD 117 12 (nI (pc + 1))).sD 117 6 (nI (h + 1))).sD 117 6 (nI h)) = some ((), psA (((A.sD 117 12 (nI (pc + 1))).sD 117 6 (nI (h + 1))).sD 117 6 (nI h)) h x) := fun x => ev_vpush (h := h) hGb rds (by omega)
    have n50 : ¬ nI c = (50 : Int32) := by rcases c1 with rfl | rfl | rfl | rfl | rfl | rfl <;> decide
    have n51 : ¬ nI c = (51 : Int32) := by rcases c1 with rfl | rfl | rfl | rfl | rfl | rfl <;> decide
    have n57 : ¬ nI c < (57 : Int32) := by rcases c1 with rfl | rfl | rfl | rfl | rfl | rfl <;> decide
    have ec : ∀ H : Hp, F_Row_compared N (nI c) (A.D 119 h) (A.D 119 (h + 1)) H = some (cmI c (A.D 119 h) (A.D 119 (h + 1)), H) := fun H => by
      unfold F_Row_compared
      rcases c1 with rfl | rfl | rfl | rfl | rfl | rfl
      · rw [if_pos (show nI 57 = (57 : Int32) by decide)]
        show (if A.D 119 (h + 1) ≤ A.D 119 h then some ((0 : Int32), H) else some ((1 : Int32), H)) = some ((if A.D 119 (h + 1) ≤ A.D 119 h then (0 : Int32) else 1), H)
        split <;> rfl
      · rw [if_neg (show ¬ nI 58 = (57 : Int32) by decide), if_pos (show nI 58 = (58 : Int32) by decide)]
        show (if A.D 119 (h + 1) < A.D 119 h then some ((0 : Int32), H) else some ((1 : Int32), H)) = some ((if A.D 119 (h + 1) < A.D 119 h then (0 : Int32) else 1), H)
        split <;> rfl
      · rw [if_neg (show ¬ nI 59 = (57 : Int32) by decide), if_neg (show ¬ nI 59 = (58 : Int32) by decide), if_pos (show nI 59 = (59 : Int32) by decide)]
        show (if A.D 119 h ≤ A.D 119 (h + 1) then some ((0 : Int32), H) else some ((1 : Int32), H)) = some ((if A.D 119 h ≤ A.D 119 (h + 1) then (0 : Int32) else 1), H)
        split <;> rfl
      · rw [if_neg (show ¬ nI 60 = (57 : Int32) by decide), if_neg (show ¬ nI 60 = (58 : Int32) by decide), if_neg (show ¬ nI 60 = (59 : Int32) by decide), if_pos (show nI 60 = (60 : Int32) by decide)]
        show (if A.D 119 h < A.D 119 (h + 1) then some ((0 : Int32), H) else some ((1 : Int32), H)) = some ((if A.D 119 h < A.D 119 (h + 1) then (0 : Int32) else 1), H)
        split <;> rfl
      · rw [if_neg (show ¬ nI 61 = (57 : Int32) by decide), if_neg (show ¬ nI 61 = (58 : Int32) by decide), if_neg (show ¬ nI 61 = (59 : Int32) by decide), if_neg (show ¬ nI 61 = (60 : Int32) by decide), if_pos (show nI 61 = (61 : Int32) by decide)]
        show (if A.D 119 h = A.D 119 (h + 1) then some ((1 : Int32), H) else some ((0 : Int32), H)) = some ((if A.D 119 h = A.D 119 (h + 1) then (1 : Int32) else 0), H)
        split <;> rfl
      · rw [if_neg (show ¬ nI 62 = (57 : Int32) by decide), if_neg (show ¬ nI 62 = (58 : Int32) by decide), if_neg (show ¬ nI 62 = (59 : Int32) by decide), if_neg (show ¬ nI 62 = (60 : Int32) by decide), if_neg (show ¬ nI 62 = (61 : Int32) by decide)]
        show (if A.D 119 h = A.D 119 (h + 1) then some ((0 : Int32), H) else some ((1 : Int32), H)) = some ((if A.D 119 h = A.D 119 (h + 1) then (0 : Int32) else 1), H)
        split <;> rfl
    have c01 : cmI c (A.D 119 h) (A.D 119 (h + 1)) = 0 ∨ cmI c (A.D 119 h) (A.D 119 (h + 1)) = 1 := by
      unfold cmI
      repeat' split
      all_goals first | exact .inl rfl | exact .inr rfl
    rw [ck_t (rS_117 hG1), bC_t (ev_vpop (h := h + 1) hG1 (by rw [rdf (by decide)]; exact hs.2.1) hh), rdw (show (119 : Nat) ≠ 117 by decide), if_neg n50, if_neg n51, bC_t (ev_vpop (h := h) hGa rds (by omega)), rdw (show (119 : Nat) ≠ 117 by decide), rdw (show (119 : Nat) ≠ 117 by decide), if_neg n57, bC_t (ec _)]
    unfold B_Row_ints_62
    rcases c01 with z | z
    · rw [z, if_pos rfl, ck_t (rS_117 hGb), bC_t (pu _)]
    · rw [z, if_neg (by decide), ck_t (rS_117 hGb), bC_t (pu _)]
  · have := hs.2.2
    refine ⟨by unfold psA; repeat (first | exact same.rf | refine same.sD ?_ (by unfold EXA; omega)), ⟨?_, ?_, ?_⟩, ?_, ?_⟩ <;> simp [psA, sD_D, up2, this]
end Par
