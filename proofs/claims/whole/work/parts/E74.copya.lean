/-! ===== a world is copied: class ===== -/
theorem lW_md {wo : Nat} (h : wo ∈ lW) : wo = 12 ∨ (19 ≤ wo ∧ wo ≤ 109 ∧ wo % 6 = 1) := by
  unfold lW at h
  simp only [List.mem_cons, List.not_mem_nil, or_false] at h
  omega
theorem lW_dj {wo w2 : Nat} (h : wo ∈ lW) (h2 : w2 ∈ lW) (hn : wo ≠ w2) : wo + 5 < w2 ∨ w2 + 5 < wo := by
  have := lW_md h
  have := lW_md h2
  omega
def cW (wo a f : Nat) : Prop := wo ≤ a ∧ a ≤ wo + 5
theorem va_lt {f g : Nat → Int32} {n x : Nat} (h : x < n) : va_cpy f g 0 0 n x = f x := by
  unfold va_cpy
  rw [if_pos (by omega), show 0 + (x - 0) = x by omega]
section Par
variable {N p wo inp cs w u ir M K0 : Nat} {s pl : Int32} {ty mn nu cd : Nat → Int32} {E Q : Nat → Nat → Nat} {V : Nat → Nat → Int32} {nL lc : Nat} {lk : Nat → Nat} {hd : Nat → Int32}
theorem cp_A {A : Hp} {w2 top wd P sn : Nat} (hw : wo ∈ lW) (hw2 : w2 ∈ lW) (hn : wo ≠ w2) (W : isW A wo) (W2 : isW A w2) (h9 : A.D w2 9 = nI top) (ht : top ≤ 256) (h10 : A.D w2 10 = nI wd) (hwd : wd ≤ 48) (h13 : A.D w2 13 = nI P) (hP : P ≤ 256) (h15 : A.D w2 15 = nI sn) (hs : sn ≤ 32) : ∃ A2, F_World_copyFrom N wo w2 A = some ((), A2) ∧ same (cW wo) A A2 ∧ (∀ f, f < 7 ∨ f = 9 ∨ f = 10 ∨ f = 13 ∨ f = 15 → A2.D wo f = A.D w2 f) ∧ (∀ x, x < 256 → A2.D (wo + 1) x = A.D (w2 + 1) x) ∧ (∀ x, x < 256 → A2.D (wo + 2) x = A.D (w2 + 2) x) ∧ (∀ x, x < top * wd → A2.D (wo + 3) x = A.D (w2 + 3) x) ∧ (∀ x, x < 7 * P → A2.D (wo + 4) x = A.D (w2 + 4) x) ∧ (∀ x, x < sn → A2.D (wo + 5) x = A.D (w2 + 5) x) := by
  have dj := lW_dj hw hw2 hn
  have c0 : ((0 : Int32)).toNatClampNeg = 0 := rfl
  have c256 : ((256 : Int32)).toNatClampNeg = 256 := rfl
  have e7 : ∀ k, nI k * (7 : Int32) = nI (7 * k) := fun k => by rw [Nat.mul_comm]; exact nI_mu k 7
  have tw : top * wd ≤ 12288 := Nat.le_trans (Nat.mul_le_mul ht hwd) (by decide)
  have etw : nI top * nI wd = nI (top * wd) := nI_mu top wd
  unfold F_World_copyFrom
  have S0 : same (cW wo) A A := same.rf
  have o2 : ∀ H : Hp, same (cW wo) A H → ∀ a f, w2 ≤ a → a ≤ w2 + 5 → H.D a f = A.D a f := fun H h a f y1 y2 => h.1 a f (by unfold cW; omega)
  have wH : ∀ H : Hp, same (cW wo) A H → isW H wo ∧ isW H w2 := fun H h => by
    obtain ⟨q1, q2, q3, q4, q5⟩ := h
    unfold isW at W W2 ⊢
    rw [q2, q4]
    exact ⟨W, W2⟩
  have V0 : ∀ f, f < 0 → A.D wo f = A.D w2 f := fun f y => by omega
  rw [ck_t (WS W2)]
  rw [bnd_t, ck_t (WS W), bnd_t]
  generalize g1 : A.sD wo 0 (A.D w2 0) = H1
  have S1 : same (cW wo) A H1 := by
    rw [← g1]
    exact S0.sD (by unfold cW; omega)
  have V1 : ∀ f, f < 1 → H1.D wo f = A.D w2 f := fun f y => by
    rw [← g1]
    by_cases z : f = 0
    · rw [z, rds]
    · rw [rdf z]
      exact V0 f (by omega)
  rw [bnd_t, o2 _ S1 w2 1 (by omega) (by omega), bnd_t]
  generalize g2 : H1.sD wo 1 (A.D w2 1) = H2
  have S2 : same (cW wo) A H2 := by
    rw [← g2]
    exact S1.sD (by unfold cW; omega)
  have V2 : ∀ f, f < 2 → H2.D wo f = A.D w2 f := fun f y => by
    rw [← g2]
    by_cases z : f = 1
    · rw [z, rds]
    · rw [rdf z]
      exact V1 f (by omega)
  rw [bnd_t, o2 _ S2 w2 2 (by omega) (by omega), bnd_t]
  generalize g3 : H2.sD wo 2 (A.D w2 2) = H3
  have S3 : same (cW wo) A H3 := by
    rw [← g3]
    exact S2.sD (by unfold cW; omega)
  have V3 : ∀ f, f < 3 → H3.D wo f = A.D w2 f := fun f y => by
    rw [← g3]
    by_cases z : f = 2
    · rw [z, rds]
    · rw [rdf z]
      exact V2 f (by omega)
  rw [bnd_t, o2 _ S3 w2 3 (by omega) (by omega), bnd_t]
  generalize g4 : H3.sD wo 3 (A.D w2 3) = H4
  have S4 : same (cW wo) A H4 := by
    rw [← g4]
    exact S3.sD (by unfold cW; omega)
  have V4 : ∀ f, f < 4 → H4.D wo f = A.D w2 f := fun f y => by
    rw [← g4]
    by_cases z : f = 3
    · rw [z, rds]
    · rw [rdf z]
      exact V3 f (by omega)
  rw [bnd_t, o2 _ S4 w2 4 (by omega) (by omega), bnd_t]
  generalize g5 : H4.sD wo 4 (A.D w2 4) = H5
  have S5 : same (cW wo) A H5 := by
    rw [← g5]
    exact S4.sD (by unfold cW; omega)
  have V5 : ∀ f, f < 5 → H5.D wo f = A.D w2 f := fun f y => by
    rw [← g5]
    by_cases z : f = 4
    · rw [z, rds]
    · rw [rdf z]
      exact V4 f (by omega)
  rw [bnd_t, o2 _ S5 w2 5 (by omega) (by omega), bnd_t]
  generalize g6 : H5.sD wo 5 (A.D w2 5) = H6
  have S6 : same (cW wo) A H6 := by
    rw [← g6]
    exact S5.sD (by unfold cW; omega)
  have V6 : ∀ f, f < 6 → H6.D wo f = A.D w2 f := fun f y => by
    rw [← g6]
    by_cases z : f = 5
    · rw [z, rds]
    · rw [rdf z]
      exact V5 f (by omega)
  rw [bnd_t, o2 _ S6 w2 6 (by omega) (by omega), bnd_t]
  generalize g7 : H6.sD wo 6 (A.D w2 6) = H7
  have S7 : same (cW wo) A H7 := by
    rw [← g7]
    exact S6.sD (by unfold cW; omega)
  have V7 : ∀ f, f < 7 → H7.D wo f = A.D w2 f := fun f y => by
    rw [← g7]
    by_cases z : f = 6
    · rw [z, rds]
    · rw [rdf z]
      exact V6 f (by omega)
  have a7 := wH _ S7
  rw [rf_t (WP_7 a7.2), rf_t (WP_7 a7.1), ar_t (WA_7 a7.2), ar_t (WA_7 a7.1), ck_t (by decide), ck_t (by decide), ck_t (by decide), c0, c256, ck_t (by omega), ck_t (by omega), bnd_t]
  generalize g8 : H7.cpy (w2 + 1) (wo + 1) 0 0 256 = H8
  have D8 : ∀ a f, a ≠ wo + 1 → H8.D a f = H7.D a f := fun a f y => by rw [← g8, cpy_Dq, if_neg y]
  have N8 : ∀ x, x < 256 → H8.D (wo + 1) x = A.D (w2 + 1) x := fun x y => by rw [← g8, cpy_Dq, if_pos rfl, va_lt y]; exact o2 _ S7 _ _ (by omega) (by omega)
  have S8 : same (cW wo) A H8 := by
    refine S7.tr ⟨fun a f y => D8 a f (fun z => y (by unfold cW; omega)), ?_, ?_, ?_, ?_⟩ <;> rw [← g8] <;> rfl
  have a8 := wH _ S8
  rw [rf_t (WP_8 a8.2), rf_t (WP_8 a8.1), ar_t (WA_8 a8.2), ar_t (WA_8 a8.1), ck_t (by decide), ck_t (by decide), ck_t (by decide), ck_t (by omega), ck_t (by omega), bnd_t]
  generalize g9 : H8.cpy (w2 + 2) (wo + 2) 0 0 256 = H9
  have D9 : ∀ a f, a ≠ wo + 2 → H9.D a f = H8.D a f := fun a f y => by rw [← g9, cpy_Dq, if_neg y]
  have N9 : ∀ x, x < 256 → H9.D (wo + 2) x = A.D (w2 + 2) x := fun x y => by rw [← g9, cpy_Dq, if_pos rfl, va_lt y]; exact o2 _ S8 _ _ (by omega) (by omega)
  have S9 : same (cW wo) A H9 := by
    refine S8.tr ⟨fun a f y => D9 a f (fun z => y (by unfold cW; omega)), ?_, ?_, ?_, ?_⟩ <;> rw [← g9] <;> rfl
  have a9 := wH _ S9
  rw [bnd_t, o2 _ S9 w2 9 (by omega) (by omega), bnd_t]
  generalize g10 : H9.sD wo 9 (A.D w2 9) = H10
  have D10 : ∀ a f, ¬ (a = wo ∧ f = 9) → H10.D a f = H9.D a f := fun a f y => by rw [← g10, rdnn y]
  have N10 : H10.D wo 9 = A.D w2 9 := by rw [← g10, rds]
  have S10 : same (cW wo) A H10 := by
    rw [← g10]
    exact S9.sD (by unfold cW; omega)
  rw [bnd_t, o2 _ S10 w2 10 (by omega) (by omega), bnd_t]
  generalize g11 : H10.sD wo 10 (A.D w2 10) = H11
  have D11 : ∀ a f, ¬ (a = wo ∧ f = 10) → H11.D a f = H10.D a f := fun a f y => by rw [← g11, rdnn y]
  have N11 : H11.D wo 10 = A.D w2 10 := by rw [← g11, rds]
  have S11 : same (cW wo) A H11 := by
    rw [← g11]
    exact S10.sD (by unfold cW; omega)
  have a11 := wH _ S11
  rw [rf_t (WP_11 a11.2), rf_t (WP_11 a11.1), bnd_t, D11 wo 9 (by omega), N10, h9, bnd_t, N11, h10, etw, ar_t (WA_11 a11.2), ar_t (WA_11 a11.1), ck_t (by decide), ck_t (by decide), ck_t (show ¬ nI (top * wd) < (0 : Int32) from nI_nlt (b := 0) (by omega) (by omega)), cN (by omega), ck_t (by omega), ck_t (by omega), bnd_t]
  generalize g12 : H11.cpy (w2 + 3) (wo + 3) 0 0 (top * wd) = H12
  have D12 : ∀ a f, a ≠ wo + 3 → H12.D a f = H11.D a f := fun a f y => by rw [← g12, cpy_Dq, if_neg y]
  have N12 : ∀ x, x < top * wd → H12.D (wo + 3) x = A.D (w2 + 3) x := fun x y => by rw [← g12, cpy_Dq, if_pos rfl, va_lt y]; exact o2 _ S11 _ _ (by omega) (by omega)
  have S12 : same (cW wo) A H12 := by
    refine S11.tr ⟨fun a f y => D12 a f (fun z => y (by unfold cW; omega)), ?_, ?_, ?_, ?_⟩ <;> rw [← g12] <;> rfl
  have a12 := wH _ S12
  rw [rf_t (WP_12 a12.2), rf_t (WP_12 a12.1), bnd_t, o2 _ S12 w2 13 (by omega) (by omega), h13, e7, ar_t (WA_12 a12.2), ar_t (WA_12 a12.1), ck_t (by decide), ck_t (by decide), ck_t (show ¬ nI (7 * P) < (0 : Int32) from nI_nlt (b := 0) (by omega) (by omega)), cN (by omega), ck_t (by omega), ck_t (by omega), bnd_t]
  generalize g13 : H12.cpy (w2 + 4) (wo + 4) 0 0 (7 * P) = H13
  have D13 : ∀ a f, a ≠ wo + 4 → H13.D a f = H12.D a f := fun a f y => by rw [← g13, cpy_Dq, if_neg y]
  have N13 : ∀ x, x < 7 * P → H13.D (wo + 4) x = A.D (w2 + 4) x := fun x y => by rw [← g13, cpy_Dq, if_pos rfl, va_lt y]; exact o2 _ S12 _ _ (by omega) (by omega)
  have S13 : same (cW wo) A H13 := by
    refine S12.tr ⟨fun a f y => D13 a f (fun z => y (by unfold cW; omega)), ?_, ?_, ?_, ?_⟩ <;> rw [← g13] <;> rfl
  rw [bnd_t, o2 _ S13 w2 13 (by omega) (by omega), bnd_t]
  generalize g14 : H13.sD wo 13 (A.D w2 13) = H14
  have D14 : ∀ a f, ¬ (a = wo ∧ f = 13) → H14.D a f = H13.D a f := fun a f y => by rw [← g14, rdnn y]
  have N14 : H14.D wo 13 = A.D w2 13 := by rw [← g14, rds]
  have S14 : same (cW wo) A H14 := by
    rw [← g14]
    exact S13.sD (by unfold cW; omega)
  have a14 := wH _ S14
  rw [rf_t (WP_14 a14.2), rf_t (WP_14 a14.1), bnd_t, o2 _ S14 w2 15 (by omega) (by omega), h15, ar_t (WA_14 a14.2), ar_t (WA_14 a14.1), ck_t (by decide), ck_t (by decide), ck_t (show ¬ nI sn < (0 : Int32) from nI_nlt (b := 0) (by omega) (by omega)), cN (by omega), ck_t (by omega), ck_t (by omega), bnd_t]
  generalize g15 : H14.cpy (w2 + 5) (wo + 5) 0 0 sn = H15
  have D15 : ∀ a f, a ≠ wo + 5 → H15.D a f = H14.D a f := fun a f y => by rw [← g15, cpy_Dq, if_neg y]
  have N15 : ∀ x, x < sn → H15.D (wo + 5) x = A.D (w2 + 5) x := fun x y => by rw [← g15, cpy_Dq, if_pos rfl, va_lt y]; exact o2 _ S14 _ _ (by omega) (by omega)
  have S15 : same (cW wo) A H15 := by
    refine S14.tr ⟨fun a f y => D15 a f (fun z => y (by unfold cW; omega)), ?_, ?_, ?_, ?_⟩ <;> rw [← g15] <;> rfl
  rw [bnd_t, o2 _ S15 w2 15 (by omega) (by omega), bnd_t]
  have D16 : ∀ a f, ¬ (a = wo ∧ f = 15) → (H15.sD wo 15 (A.D w2 15)).D a f = H15.D a f := fun a f y => rdnn y
  have N16 : (H15.sD wo 15 (A.D w2 15)).D wo 15 = A.D w2 15 := rds
  have S16 : same (cW wo) A (H15.sD wo 15 (A.D w2 15)) := S15.sD (by unfold cW; omega)
  generalize H15.sD wo 15 (A.D w2 15) = H16 at *
  refine ⟨H16, rfl, S16, fun f y => ?_, fun x y => ?_, fun x y => ?_, fun x y => ?_, fun x y => ?_, fun x y => ?_⟩
  · have low : f ≠ 15 → f ≠ 13 → f ≠ 10 → f ≠ 9 → H16.D wo f = H7.D wo f := fun z1 z2 z3 z4 => by rw [D16 _ _ (by omega), D15 _ _ (by omega), D14 _ _ (by omega), D13 _ _ (by omega), D12 _ _ (by omega), D11 _ _ (by omega), D10 _ _ (by omega), D9 _ _ (by omega), D8 _ _ (by omega)]
    rcases y with y | y | y | y | y
    · rw [low (by omega) (by omega) (by omega) (by omega)]
      exact V7 f y
    · rw [y, D16 _ _ (by omega), D15 _ _ (by omega), D14 _ _ (by omega), D13 _ _ (by omega), D12 _ _ (by omega), D11 _ _ (by omega), N10]
    · rw [y, D16 _ _ (by omega), D15 _ _ (by omega), D14 _ _ (by omega), D13 _ _ (by omega), D12 _ _ (by omega), N11]
    · rw [y, D16 _ _ (by omega), D15 _ _ (by omega), N14]
    · rw [y, N16]
  · rw [D16 _ _ (by omega), D15 _ _ (by omega), D14 _ _ (by omega), D13 _ _ (by omega), D12 _ _ (by omega), D11 _ _ (by omega), D10 _ _ (by omega), D9 _ _ (by omega), N8 x y]
  · rw [D16 _ _ (by omega), D15 _ _ (by omega), D14 _ _ (by omega), D13 _ _ (by omega), D12 _ _ (by omega), D11 _ _ (by omega), D10 _ _ (by omega), N9 x y]
  · rw [D16 _ _ (by omega), D15 _ _ (by omega), D14 _ _ (by omega), D13 _ _ (by omega), N12 x y]
  · rw [D16 _ _ (by omega), D15 _ _ (by omega), D14 _ _ (by omega), N13 x y]
  · rw [D16 _ _ (by omega), N15 x y]
/-- a pair of worlds -/
def WPR (A : Hp) (wo : Nat) (B : Hp) (u : Nat) (E Q : Nat → Nat → Nat) : Prop := WRL A wo B u E Q ∧ A.D wo 0 = B.D u 0 ∧ A.D wo 1 = B.D u 1 ∧ A.D wo 3 = B.D u 3 ∧ FLR A wo B u
theorem WPR.cpA {A : Hp} {w2 : Nat} {B : Hp} (h : WPR A w2 B u E Q) (hw : wo ∈ lW) (hw2 : w2 ∈ lW) (hn : wo ≠ w2) (hG : Gr A) (hE : WE E) : ∃ A2, F_World_copyFrom N wo w2 A = some ((), A2) ∧ same (cW wo) A A2 ∧ WPR A2 wo B u E Q := by
  obtain ⟨⟨w1, w2', w3, w4, w5, w6, w7⟩, a0, a1, a3, a15⟩ := h
  obtain ⟨A2, r1, r2, r3, r4, r5, r6, r7, r8⟩ := cp_A (N := N) hw hw2 hn (gr_W hG wo hw) (gr_W hG w2 hw2) w5.1 w5.2.1 w4.1 w4.2.1 w6.1 w6.2.2.1 w7.1 w7.2.2.1
  refine ⟨A2, r1, r2, ⟨fun q hq => by rw [r4 q hq, r5 q hq]; exact w1 q hq, w2', fun q c m y1 y2 y3 y4 => ?_, ⟨by rw [r3 10 (by omega)]; exact w4.1, w4.2⟩, ⟨by rw [r3 9 (by omega)]; exact w5.1, w5.2⟩, ⟨by rw [r3 13 (by omega)]; exact w6.1, w6.2.1, w6.2.2.1, fun k hk => ?_⟩, by rw [r3 15 (by omega)]; exact w7.1, w7.2.1, w7.2.2.1, fun k hk => by rw [r8 k hk]; exact w7.2.2.2 k hk⟩, by rw [r3 0 (by omega)]; exact a0, by rw [r3 1 (by omega)]; exact a1, by rw [r3 3 (by omega)]; exact a3, ?_⟩
  · have hm := w4.2.2 c m y4
    have hq : q < Q 5 1 := Decidable.byContradiction fun z => w5.2.2 q (by omega) y1 y2
    have : q * Q 5 0 + Q 5 0 ≤ Q 5 1 * Q 5 0 := by
      have := Nat.mul_le_mul_right (Q 5 0) (show q + 1 ≤ Q 5 1 by omega)
      rw [Nat.add_mul, Nat.one_mul] at this
      exact this
    rw [r6 _ (by omega)]
    exact w3 q c m y1 y2 y3 y4
  · obtain ⟨m0, m1, m2, m3⟩ := w6.2.2.2 k hk
    rw [r7 _ (by omega), r7 _ (by omega), r7 _ (by omega)]
    refine ⟨m0, m1, m2, fun e q y1 y2 y3 => ?_⟩
    have e4 := (hE.2.2.2.2.2.2.2.1 e y2).1
    rw [r7 _ (by omega)]
    exact m3 e q y1 y2 y3
  · unfold FLR
    rw [r3 2 (by omega), r3 4 (by omega), r3 5 (by omega), r3 6 (by omega)]
    exact a15
end Par
