/-! ===== signs between ===== -/
/-- the level of a sign; 5: none -/
def lvN (k : Nat) : Nat := if k = 18 ∨ k = 19 then 3 else if k = 20 ∨ k = 21 ∨ k = 22 then 4 else if k = 23 ∨ k = 24 ∨ k = 26 ∨ k = 27 ∨ k = 28 ∨ k = 29 then 2 else if k = 30 then 1 else if k = 31 then 0 else 5
def lvI (k : Nat) : Int32 := if lvN k = 5 then -1 else nI (lvN k)
def opN (sg k : Nat) : Nat := if sg = 18 then (if k = 2 then 71 else 52) else if sg = 19 then (if k = 2 then 72 else 53) else if sg = 20 then (if k = 2 then 73 else 54) else if sg = 21 then (if k = 2 then 74 else 55) else if sg = 22 then 56 else if sg = 23 then 57 else if sg = 24 then 59 else if sg = 26 then 58 else if sg = 27 then 60 else if sg = 28 then 61 else 62
/-- whether the left kind may stand there -/
def mayN (sg k : Nat) : Bool := if sg = 30 ∨ sg = 31 then decide (k = 3) else if sg = 22 then decide (k = 0) else if sg = 28 ∨ sg = 29 then true else decide (k = 0 ∨ k = 2)
theorem lvI_eq0 : ∀ k : Fin 100, ∀ l : Fin 5, (lvI k.val = nI l.val) = (lvN k.val = l.val) := by
  intro k l
  apply propext
  revert k l
  decide +kernel
theorem noS_ok0 : ∀ k : Fin 81, ∀ l : Fin 5, kvd k.val = true → ¬ lvN k.val = l.val → (if l.val = 0 then nI (tyK k.val) ≠ 10 else if l.val = 1 then nI (tyK k.val) ≠ 9 else if l.val = 2 then nI (tyK k.val) ≠ 60 ∧ nI (tyK k.val) ≠ 62 ∧ nI (tyK k.val) ≠ 5 ∧ nI (tyK k.val) ≠ 6 ∧ nI (tyK k.val) ≠ 7 ∧ nI (tyK k.val) ≠ 8 else if l.val = 3 then nI (tyK k.val) ≠ 43 ∧ nI (tyK k.val) ≠ 45 else nI (tyK k.val) ≠ 42 ∧ nI (tyK k.val) ≠ 47 ∧ nI (tyK k.val) ≠ 37) := by decide +kernel
theorem sgT_ok0 : ∀ sg : Fin 32, ∀ k : Fin 5, (lvN sg.val = 3 ∨ lvN sg.val = 4) → mayN sg.val k.val = true → (lvN sg.val, sg.val, k.val, opN sg.val k.val) ∈ [(3, 18, 0, 52), (3, 18, 2, 71), (3, 19, 0, 53), (3, 19, 2, 72), (4, 20, 0, 54), (4, 20, 2, 73), (4, 21, 0, 55), (4, 21, 2, 74), (4, 22, 0, 56)] := by decide +kernel
theorem cmT_ok0 : ∀ sg : Fin 32, ∀ k : Fin 5, lvN sg.val = 2 → mayN sg.val k.val = true → (k.val ≤ 4) ∧ (((k.val = 0 ∨ k.val = 2) ∧ (sg.val, opN sg.val k.val) ∈ [(23, 57), (24, 59), (26, 58), (27, 60)]) ∨ (sg.val, opN sg.val k.val) ∈ [(28, 61), (29, 62)]) := by decide +kernel
theorem lv_sg {sg : Nat} (h : lvN sg < 5) : sg = 18 ∨ sg = 19 ∨ sg = 20 ∨ sg = 21 ∨ sg = 22 ∨ sg = 23 ∨ sg = 24 ∨ sg = 26 ∨ sg = 27 ∨ sg = 28 ∨ sg = 29 ∨ sg = 30 ∨ sg = 31 := by
  unfold lvN at h
  (repeat' split at h) <;> omega
section Par
variable {N p w T : Nat} {L : List (Nat × Nat × Int32 × Bool × Nat)} {g : Nat → Nat} {E : Nat → Nat → Nat} {Nm : Nat → Nat → List Nat} {Pv : Nat → Nat → Int32} {nL lc dp : Nat} {ln : Nat → List Nat} {lk lf : Nat → Nat} {hd : Nat → Int32}
theorem ev_level0 {A : Hp} {v : Int32} : F_Body_levelOf N v A = some ((if v = 18 then 3 else if v = 19 then 3 else if v = 20 then 4 else if v = 21 then 4 else if v = 22 then 4 else if v = 23 then 2 else if v = 24 then 2 else if v = 26 then 2 else if v = 27 then 2 else if v = 28 then 2 else if v = 29 then 2 else if v = 30 then 1 else if v = 31 then 0 else -1), A) := by
  unfold F_Body_levelOf
  by_cases h18 : v = 18
  · subst h18; rfl
  by_cases h19 : v = 19
  · subst h19; rfl
  by_cases h20 : v = 20
  · subst h20; rfl
  by_cases h21 : v = 21
  · subst h21; rfl
  by_cases h22 : v = 22
  · subst h22; rfl
  by_cases h23 : v = 23
  · subst h23; rfl
  by_cases h24 : v = 24
  · subst h24; rfl
  by_cases h26 : v = 26
  · subst h26; rfl
  by_cases h27 : v = 27
  · subst h27; rfl
  by_cases h28 : v = 28
  · subst h28; rfl
  by_cases h29 : v = 29
  · subst h29; rfl
  by_cases h30 : v = 30
  · subst h30; rfl
  by_cases h31 : v = 31
  · subst h31; rfl
  simp only [h18, h19, h20, h21, h22, h23, h24, h26, h27, h28, h29, h30, h31, if_false]
theorem ev_level {A : Hp} {k : Nat} (hk : k < 81) : F_Body_levelOf N (nI k) A = some (lvI k, A) := by
  have h0 : ∀ k : Fin 81, lvI k.val = (if nI k.val = 18 then 3 else if nI k.val = 19 then 3 else if nI k.val = 20 then 4 else if nI k.val = 21 then 4 else if nI k.val = 22 then 4 else if nI k.val = 23 then 2 else if nI k.val = 24 then 2 else if nI k.val = 26 then 2 else if nI k.val = 27 then 2 else if nI k.val = 28 then 2 else if nI k.val = 29 then 2 else if nI k.val = 30 then 1 else if nI k.val = 31 then 0 else -1) := by decide +kernel
  have e := h0 ⟨k, hk⟩
  simp only at e
  rw [e]
  exact ev_level0
/-- kinds that do not go together -/
def fitN (sg k k2 : Nat) : Bool := mayN sg k && decide (k = k2)
theorem ev_joined {A : Hp} {i cs sg k k2 : Nat} {q : Int32} (ha : (JA p T L g E Nm Pv nL lc dp ln lk lf hd i cs A)) (hC : (CX p E Nm nL lc dp ln lk lf hd)) (hsg : lvN sg < 5) (hk : k = 0 ∨ k = 2 ∨ k = 3 ∨ k = 4) (hk2 : k2 = 0 ∨ k2 = 2 ∨ k2 = 3 ∨ k2 = 4) (hcs : cs < 12000) : F_Body_joined N 9 (nI sg) q (nI k) (nI k2) A = if fitN sg k k2 = true then (if lvN sg ≤ 1 then some (.inl (nI k), A) else some (.inl (nI (if lvN sg = 2 then 3 else k)), addA A p cs (nI (opN sg k)))) else some (.inr A.sh.length, refA A 5 q) := by
  have hG := ha.1.1.1
  have hP := ha.pP hC
  have e130 : ∀ (l6 l7 : Int32), B_Body_joined_130 N 9 (nI sg) q (nI k) (nI k2) l6 l7 A = if l6 = 0 then some (.inr A.sh.length, refA A 5 q) else B_Body_joined_144 N 9 (nI sg) q (nI k) (nI k2) l7 A := by
    intro l6 l7
    unfold B_Body_joined_130
    by_cases h : l6 = 0
    · rw [if_pos h, if_pos h, ck_t (rS_9 hG), rf_t (rP_9_0 hG), ck_t (rS_1 hG), ev_refuse hG, bT_z]
    · rw [if_neg h, if_neg h]
  have e144 : ∀ (l7 : Int32), B_Body_joined_144 N 9 (nI sg) q (nI k) (nI k2) l7 A = if lvN sg ≤ 1 then some (.inl l7, A) else some (.inl l7, addA A p cs (nI (opN sg k))) := by
    intro l7
    have hop : lvN sg ≥ 2 → ∀ f : Int32, f = (if k = 2 then 1 else 0) → F_Body_opOf N (nI sg) f A = some (nI (opN sg k), A) := by
      intro hl f hf
      subst hf
      unfold F_Body_opOf opN
      rcases lv_sg hsg with rfl | rfl | rfl | rfl | rfl | rfl | rfl | rfl | rfl | rfl | rfl | rfl | rfl <;> first | (exfalso; revert hl; decide) | (by_cases z : k = 2 <;> simp only [z, if_true, if_false] <;> rfl)
    unfold B_Body_joined_144 B_Body_joined_167
    rw [bC_t (ev_level (by rcases lv_sg hsg with rfl | rfl | rfl | rfl | rfl | rfl | rfl | rfl | rfl | rfl | rfl | rfl | rfl <;> decide)), show lvI sg = nI (lvN sg) from if_neg (by omega)]
    by_cases hl : lvN sg ≤ 1
    · rw [if_pos (show nI (lvN sg) ≤ (1 : Int32) from nI_le (b := 1) hl (by decide)), if_pos hl]
    · rw [if_neg (show ¬ nI (lvN sg) ≤ (1 : Int32) from nI_ge (a := 1) (by omega) (by omega)), if_neg hl, ck_t (rS_9 hG), rf_t ha.2.2.1]
      by_cases z : k = 2
      · rw [if_pos (show nI k = (2 : Int32) by rw [z]; rfl), bC_t (hop (by omega) 1 (by rw [if_pos z])), ck_t (PrS hP), bC_t (ev_add ha hP hcs)]
      · rw [if_neg (show ¬ nI k = (2 : Int32) from fun y => z ((nI_eq (b := 2) (by omega) (by decide)).mp y)), bC_t (hop (by omega) 0 (by rw [if_neg z])), ck_t (PrS hP), bC_t (ev_add ha hP hcs)]
  have el : F_Body_levelOf N (nI sg) A = some (nI (lvN sg), A) := by
    rw [ev_level (by rcases lv_sg hsg with rfl | rfl | rfl | rfl | rfl | rfl | rfl | rfl | rfl | rfl | rfl | rfl | rfl <;> decide), show lvI sg = nI (lvN sg) from if_neg (by omega)]
  have eqk : (nI k = nI k2) = (k = k2) := propext (nI_eq (by omega) (by omega))
  unfold F_Body_joined B_Body_joined_15 B_Body_joined_19 B_Body_joined_20 B_Body_joined_33 B_Body_joined_50 B_Body_joined_64 B_Body_joined_65 B_Body_joined_100 B_Body_joined_104 B_Body_joined_105 B_Body_joined_127 B_Body_joined_128
  simp only [el, bC_v, e130, e144, eqk]
  rcases lv_sg hsg with rfl | rfl | rfl | rfl | rfl | rfl | rfl | rfl | rfl | rfl | rfl | rfl | rfl <;> rcases hk with rfl | rfl | rfl | rfl <;> rcases hk2 with rfl | rfl | rfl | rfl <;> rfl
end Par
