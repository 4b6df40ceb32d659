/-! ===== the class's loops: the next row heard, the next entity ===== -/
theorem nI_mu (a b : Nat) : nI a * nI b = nI (a * b) := by
  have := nI_ma a b 0
  rw [show nI 0 = (0 : Int32) from rfl, Int32.add_zero] at this
  exact this
theorem sb64 (a b : Int32) : (a.toInt64 - b.toInt64).toInt = a.toInt - b.toInt := by
  have h1 := b32 a
  have h2 := b32 b
  rw [Int64.toInt_sub, t64, t64, bmq (by omega) (by omega)]
/-- a and b lie within r of each other -/
def nrr (a b r : Int32) : Prop := a.toInt - b.toInt ≤ r.toInt ∧ b.toInt - a.toInt ≤ r.toInt
theorem ev_absd {N : Nat} {H : Hp} {a b : Int32} : ∃ v : Int64, F_Math_abs N (a.toInt64 - b.toInt64) H = some (v, H) ∧ ∀ r : Int, v.toInt ≤ r ↔ (a.toInt - b.toInt ≤ r ∧ b.toInt - a.toInt ≤ r) := by
  have h1 := b32 a
  have h2 := b32 b
  have e := sb64 a b
  unfold F_Math_abs
  by_cases q : (0 : Int32) ≤ lg_cmp (a.toInt64 - b.toInt64) 0
  · have q' := q
    rw [lg_ge, Int64.lt_iff_toInt_lt, e, show (0 : Int64).toInt = 0 from rfl] at q'
    exact ⟨_, by rw [if_pos q], fun r => by rw [e]; omega⟩
  · have q' := q
    rw [lg_ge, Int64.lt_iff_toInt_lt, e, show (0 : Int64).toInt = 0 from rfl] at q'
    exact ⟨_, by rw [if_neg q], fun r => by rw [Int64.toInt_neg, e, bmq (by omega) (by omega)]; omega⟩
theorem ev_maxd {N : Nat} {H : Hp} {x y : Int64} : ∃ v : Int64, F_Math_max2 N x y H = some (v, H) ∧ ∀ r : Int, v.toInt ≤ r ↔ (x.toInt ≤ r ∧ y.toInt ≤ r) := by
  unfold F_Math_max2
  by_cases q : lg_cmp x y < 0
  · have q' := q
    rw [lg_lt, Int64.lt_iff_toInt_lt] at q'
    exact ⟨_, by rw [if_pos q], fun r => by omega⟩
  · have q' := q
    rw [lg_lt, Int64.lt_iff_toInt_lt] at q'
    exact ⟨_, by rw [if_neg q], fun r => by omega⟩
theorem nE_ix (q0 wd f x : Nat) : nI (q0 * wd + f) + (nI x - nI q0) * nI wd = nI (x * wd + f) := by
  rw [← nI_ma, ← nI_ma]
  grind
section Par
variable {N p wo inp cs : Nat} {s pl : Int32} {Q : Nat → Nat → Nat}
def mH (H : Hp) (wo e : Nat) (sf : Int32) (k : Nat) : Prop := H.D (wo + 4) (7 * k) = nI e ∧ H.D (wo + 4) (7 * k + 1) = H.D wo 0 ∧ H.D (wo + 4) (7 * k + 2) = sf
theorem ev_nh {H : Hp} {l e t C : Nat} {sf : Int32} (h : VS0 H p wo inp cs) (hl : l < 21) (hC : H.D wo 13 = nI C) (hC2 : C ≤ 256) : ∀ r k g, k + r = C → r < g →
    (∃ k', k ≤ k' ∧ k' < C ∧ mH H wo e sf k' ∧ (∀ x, k ≤ x → x < k' → ¬ mH H wo e sf x) ∧ B_Row_nextHeard_33 N 117 (nI l) g (nI e) (nI t) sf (nI k) H = some ((), H.sD 121 l (nI k'))) ∨ ((∀ x, k ≤ x → x < C → ¬ mH H wo e sf x) ∧ B_Row_nextHeard_33 N 117 (nI l) g (nI e) (nI t) sf (nI k) H = some ((), H.sD 117 12 (nI t))) := by
  have hG := h.1
  have hW := h.2.2.1
  have hP3 := h.2.2.2.2.1
  intro r
  induction r with
  | zero =>
    intro k g hk hg
    obtain ⟨g, rfl⟩ : ∃ n, g = n + 1 := ⟨g - 1, by omega⟩
    refine .inr ⟨fun x h1 h2 => by omega, ?_⟩
    rw [B_Row_nextHeard_33, ck_t (rS_117 hG), rf_t hP3, ck_t (WS hW), bnd_t, hC, if_pos (nI_le (by omega) (by omega)), bnd_t]
  | succ r ih =>
    intro k g hk hg
    obtain ⟨g, rfl⟩ : ∃ n, g = n + 1 := ⟨g - 1, by omega⟩
    have m7 : nI k * (7 : Int32) = nI (7 * k) := by rw [Nat.mul_comm]; exact nI_mu k 7
    have no : ¬ mH H wo e sf k → B_Row_nextHeard_33 N 117 (nI l) (g + 1) (nI e) (nI t) sf (nI k) H = B_Row_nextHeard_33 N 117 (nI l) g (nI e) (nI t) sf (nI (k + 1)) H := by
      intro hm
      rw [B_Row_nextHeard_33, ck_t (rS_117 hG), rf_t hP3, ck_t (WS hW), bnd_t, hC, if_neg (nI_ge (by omega) (by omega)), bnd_t, rf_t hP3, ck_t (WS hW), rf_t (WP_12 hW), ar_t (WA_12 hW), m7, rdI (show 7 * k < 1792 by omega) (by decide)]
      unfold B_Row_nextHeard_114
      by_cases q1 : H.D (wo + 4) (7 * k) = nI e
      · rw [if_pos q1, rf_t hP3, ck_t (WS hW), rf_t (WP_12 hW), ar_t (WA_12 hW), nI_1, rdI (show 7 * k + 1 < 1792 by omega) (by decide), rf_t hP3, ck_t (WS hW), bnd_t]
        by_cases q2 : H.D (wo + 4) (7 * k + 1) = H.D wo 0
        · rw [if_pos q2, rf_t hP3, ck_t (WS hW), rf_t (WP_12 hW), ar_t (WA_12 hW), show nI (7 * k) + (2 : Int32) = nI (7 * k + 2) from nI_ad _ 2, rdI (show 7 * k + 2 < 1792 by omega) (by decide), if_neg (fun z => hm ⟨q1, q2, z⟩), nI_1]
        · rw [if_neg q2, nI_1]
      · rw [if_neg q1, nI_1]
    by_cases hm : mH H wo e sf k
    · refine .inl ⟨k, by omega, by omega, hm, fun x h1 h2 => by omega, ?_⟩
      rw [B_Row_nextHeard_33, ck_t (rS_117 hG), rf_t hP3, ck_t (WS hW), bnd_t, hC, if_neg (nI_ge (by omega) (by omega)), bnd_t, rf_t hP3, ck_t (WS hW), rf_t (WP_12 hW), ar_t (WA_12 hW), m7, rdI (show 7 * k < 1792 by omega) (by decide), if_pos hm.1, rf_t hP3, ck_t (WS hW), rf_t (WP_12 hW), ar_t (WA_12 hW), nI_1, rdI (show 7 * k + 1 < 1792 by omega) (by decide), rf_t hP3, ck_t (WS hW), bnd_t, if_pos hm.2.1, rf_t hP3, ck_t (WS hW), rf_t (WP_12 hW), ar_t (WA_12 hW), show nI (7 * k) + (2 : Int32) = nI (7 * k + 2) from nI_ad _ 2, rdI (show 7 * k + 2 < 1792 by omega) (by decide), if_pos hm.2.2, rf_t (rP_117_8 hG), ar_t (rA_117_8 hG), wrI hl (by decide)]
    · rw [no hm]
      rcases ih (k + 1) g (by omega) (by omega) with ⟨k', a1, a2, a3, a4, a5⟩ | ⟨a1, a2⟩
      · refine .inl ⟨k', by omega, a2, a3, fun x h1 h2 => ?_, a5⟩
        by_cases z : x = k
        · subst z; exact hm
        · exact a4 x (by omega) h2
      · refine .inr ⟨fun x h1 h2 => ?_, a2⟩
        by_cases z : x = k
        · subst z; exact hm
        · exact a1 x (by omega) h2
theorem ev_ownsA {A : Hp} {q c : Nat} (h : isW A wo) (hP : PPL Q A wo) (hq : q < 256) (hc : c < 16) : F_World_owns N wo (nI q) (nI c) A = some (if Q 1 q = 1 ∧ Q 2 q / 2 ^ c % 2 = 1 then 1 else 0, A) := by
  by_cases ha : Q 1 q = 1
  · rw [ev_owns h hP hq hc ha]
    by_cases hb : Q 2 q / 2 ^ c % 2 = 1
    · rw [if_pos hb, if_pos ⟨ha, hb⟩]
    · rw [if_neg hb, if_neg (fun z => hb z.2)]
  · unfold F_World_owns
    rw [if_neg (show ¬ nI q < 0 from nI_nlt (b := 0) (by omega) (by omega)), if_neg (show ¬ (256 : Int32) ≤ nI q from nI_ge (b := 256) hq (by decide)), ck_t (WS h), rf_t (WP_8 h), ar_t (WA_8 h), rdI hq (by decide), (hP q hq).2.2.2, if_neg ha, if_pos (by decide), if_neg (fun z => ha z.1)]
def mE (H : Hp) (wo q0 wd f c : Nat) (ne rad : Int32) (Q : Nat → Nat → Nat) (x : Nat) : Prop := x ≠ q0 ∧ (Q 1 x = 1 ∧ Q 2 x / 2 ^ c % 2 = 1) ∧ (ne = 1 → nrr (H.D (wo + 3) (q0 * wd + f)) (H.D (wo + 3) (x * wd + f)) rad ∧ nrr (H.D (wo + 3) (q0 * wd + f + 1)) (H.D (wo + 3) (x * wd + f + 1)) rad)
theorem ev_nE {H : Hp} {l n t c q0 wd f top : Nat} {ne : Int32} (h : VS0 H p wo inp cs) (hP : PPL Q H wo) (h18 : H.D 117 18 = nI q0) (hq0 : q0 < 256) (hw : H.D wo 10 = nI wd) (hwd : wd ≤ 48) (hf : ne = 1 → f + 1 < 48) (hc : c < 16) (hl : l < 21) (hn : n < 12) (ht : H.D wo 9 = nI top) (ht2 : top ≤ 256) (hne : ne = 0 ∨ ne = 1) : ∀ r k g, k + r = top → r < g →
    (∃ k', k ≤ k' ∧ k' < top ∧ mE H wo q0 wd f c ne (H.D 122 l) Q k' ∧ (∀ x, k ≤ x → x < k' → ¬ mE H wo q0 wd f c ne (H.D 122 l) Q x) ∧ B_Row_nextEntity_54 N 117 (nI l) ne g (nI c) (nI n) (nI t) (nI (q0 * wd + f)) (nI k) H = some ((), (H.sD 121 l (nI k')).sD 120 n ((256 : Int32) * H.D (wo + 1) k' + nI k'))) ∨ ((∀ x, k ≤ x → x < top → ¬ mE H wo q0 wd f c ne (H.D 122 l) Q x) ∧ B_Row_nextEntity_54 N 117 (nI l) ne g (nI c) (nI n) (nI t) (nI (q0 * wd + f)) (nI k) H = some ((), H.sD 117 12 (nI t))) := by
  have hG := h.1
  have hW := h.2.2.1
  have hP3 := h.2.2.2.2.1
  have w121 : wo + 1 ≠ 121 := fun z => by
    have h2 := rA_117_8 hG
    have h3 := WA_7 hW
    rw [z, h2] at h3
    exact absurd (congrArg Prod.snd (Option.some.inj h3)) (by decide)
  intro r
  induction r with
  | zero =>
    intro k g hk hg
    obtain ⟨g, rfl⟩ : ∃ n, g = n + 1 := ⟨g - 1, by omega⟩
    refine .inr ⟨fun x h1 h2 => by omega, ?_⟩
    rw [B_Row_nextEntity_54, ck_t (rS_117 hG), rf_t hP3, ck_t (WS hW), bnd_t, ht, if_pos (nI_le (by omega) (by omega)), bnd_t]
  | succ r ih =>
    intro k g hk hg
    obtain ⟨g, rfl⟩ : ∃ n, g = n + 1 := ⟨g - 1, by omega⟩
    have hk2 : k < 256 := by omega
    have s209 : ∀ b : Int32, B_Row_nextEntity_209 N 117 (nI l) ne (fun l3 l4 l5 l6 l7 H => B_Row_nextEntity_54 N 117 (nI l) ne g l3 l4 l5 l6 l7 H) (nI c) (nI n) (nI t) (nI (q0 * wd + f)) (nI k) b H = (if b = 0 then B_Row_nextEntity_54 N 117 (nI l) ne g (nI c) (nI n) (nI t) (nI (q0 * wd + f)) (nI (k + 1)) H else some ((), (H.sD 121 l (nI k)).sD 120 n ((256 : Int32) * H.D (wo + 1) k + nI k))) := by
      intro b
      unfold B_Row_nextEntity_209
      by_cases q : b = 0
      · rw [if_pos q, if_pos q, nI_1]
      · have hG1 : Gr (H.sD 121 l (nI k)) := hG
        have hW1 : isW (H.sD 121 l (nI k)) wo := hW
        rw [if_neg q, if_neg q, ck_t (rS_117 hG), rf_t (rP_117_8 hG), ar_t (rA_117_8 hG), wrI hl (by decide), rf_t (rP_117_7 hG1), rf_t (show (H.sD 121 l (nI k)).P 117 3 = .ref wo from hP3), ck_t (WS hW1), bC_t (ev_numAt hW1 hk2), ar_t (rA_117_7 hG1), wrI hn (by decide), rdw w121]
    have s54 : B_Row_nextEntity_54 N 117 (nI l) ne (g + 1) (nI c) (nI n) (nI t) (nI (q0 * wd + f)) (nI k) H = B_Row_nextEntity_93 N 117 (nI l) ne (fun l3 l4 l5 l6 l7 H => B_Row_nextEntity_54 N 117 (nI l) ne g l3 l4 l5 l6 l7 H) (nI c) (nI n) (nI t) (nI (q0 * wd + f)) (nI k) (if k ≠ q0 ∧ (Q 1 k = 1 ∧ Q 2 k / 2 ^ c % 2 = 1) then 1 else 0) H := by
      rw [B_Row_nextEntity_54, ck_t (rS_117 hG), rf_t hP3, ck_t (WS hW), bnd_t, ht, if_neg (nI_ge (by omega) (by omega)), bnd_t, h18]
      unfold B_Row_nextEntity_92
      by_cases q : k = q0
      · rw [if_pos (by rw [q]), if_neg (fun z => z.1 q)]
      · rw [if_neg (fun z => q ((nI_eq (by omega) (by omega)).mp z)), rf_t hP3, ck_t (WS hW), bC_t (ev_ownsA hW hP hk2 hc)]
        by_cases q2 : Q 1 k = 1 ∧ Q 2 k / 2 ^ c % 2 = 1
        · rw [if_pos q2, if_neg (by decide), if_pos ⟨q, q2⟩]
        · rw [if_neg q2, if_pos rfl, if_neg (fun z => q2 z.2)]
    have s93 : ∃ b : Int32, (b = 0 ↔ ¬ mE H wo q0 wd f c ne (H.D 122 l) Q k) ∧ B_Row_nextEntity_54 N 117 (nI l) ne (g + 1) (nI c) (nI n) (nI t) (nI (q0 * wd + f)) (nI k) H = B_Row_nextEntity_209 N 117 (nI l) ne (fun l3 l4 l5 l6 l7 H => B_Row_nextEntity_54 N 117 (nI l) ne g l3 l4 l5 l6 l7 H) (nI c) (nI n) (nI t) (nI (q0 * wd + f)) (nI k) b H := by
      rw [s54]
      unfold B_Row_nextEntity_93
      by_cases q : k ≠ q0 ∧ (Q 1 k = 1 ∧ Q 2 k / 2 ^ c % 2 = 1)
      · rw [if_pos q, if_neg (show ¬ (1 : Int32) = 0 by decide)]
        rcases hne with rfl | rfl
        · exact ⟨1, ⟨fun z => absurd z (by decide), fun z => absurd (show mE H wo q0 wd f c 0 (H.D 122 l) Q k from ⟨q.1, q.2, fun y => absurd y (by decide)⟩) z⟩, by rw [if_pos rfl]⟩
        · have hf1 := hf rfl
          have b0 : q0 * wd + f + 1 < 12288 := by
            have : q0 * wd ≤ 255 * 48 := Nat.mul_le_mul (by omega) hwd
            omega
          have b1 : k * wd + f + 1 < 12288 := by
            have : k * wd ≤ 255 * 48 := Nat.mul_le_mul (by omega) hwd
            omega
          obtain ⟨v1, e1, f1⟩ := ev_absd (N := N) (H := H) (a := H.D (wo + 3) (q0 * wd + f)) (b := H.D (wo + 3) (k * wd + f))
          obtain ⟨v2, e2, f2⟩ := ev_absd (N := N) (H := H) (a := H.D (wo + 3) (q0 * wd + f + 1)) (b := H.D (wo + 3) (k * wd + f + 1))
          obtain ⟨v3, e3, f3⟩ := ev_maxd (N := N) (H := H) (x := v1) (y := v2)
          have key : ((0 : Int32) < lg_cmp v3 (H.D 122 l).toInt64) ↔ ¬ mE H wo q0 wd f c 1 (H.D 122 l) Q k := by
            rw [lg_pos, Int64.lt_iff_toInt_lt, t64]
            have g3 := f3 (H.D 122 l).toInt
            rw [f1, f2] at g3
            unfold mE nrr
            constructor
            · intro z y
              have := g3.mpr (y.2.2 rfl)
              omega
            · intro z
              refine Decidable.byContradiction fun y => z ⟨q.1, q.2, fun _ => g3.mp (by omega)⟩
          rw [if_neg (show ¬ (1 : Int32) = 0 by decide), ck_t (rS_117 hG), bnd_t, h18, rf_t hP3, ck_t (WS hW), bnd_t, hw, nE_ix, bnd_t, rf_t hP3, ck_t (WS hW), rf_t (WP_11 hW), ar_t (WA_11 hW), rdI (show q0 * wd + f < 12288 by omega) (by decide), rf_t hP3, ck_t (WS hW), rf_t (WP_11 hW), ar_t (WA_11 hW), rdI (show k * wd + f < 12288 by omega) (by decide), bnd_t, rf_t hP3, ck_t (WS hW), rf_t (WP_11 hW), ar_t (WA_11 hW), nI_1, rdI b0 (by decide), rf_t hP3, ck_t (WS hW), rf_t (WP_11 hW), ar_t (WA_11 hW), nI_1, rdI b1 (by decide), bnd_t, bC_t e1, bC_t e2, bC_t e3, rf_t (rP_117_9 hG), ar_t (rA_117_9 hG), rdI hl (by decide)]
          unfold B_Row_nextEntity_207
          by_cases y : (0 : Int32) < lg_cmp v3 (H.D 122 l).toInt64
          · exact ⟨0, ⟨fun _ => key.mp y, fun _ => rfl⟩, by rw [if_pos y]⟩
          · exact ⟨1, ⟨fun z => absurd z (by decide), fun z => absurd (key.mpr z) y⟩, by rw [if_neg y]⟩
      · rw [if_neg q, if_pos rfl]
        exact ⟨0, ⟨fun _ z => q ⟨z.1, z.2.1⟩, fun _ => rfl⟩, rfl⟩
    obtain ⟨b, hb, e⟩ := s93
    rw [e, s209]
    by_cases hm : mE H wo q0 wd f c ne (H.D 122 l) Q k
    · rw [if_neg (fun z => hb.mp z hm)]
      exact .inl ⟨k, by omega, by omega, hm, fun x h1 h2 => by omega, rfl⟩
    · rw [if_pos (hb.mpr hm)]
      rcases ih (k + 1) g (by omega) (by omega) with ⟨k', a1, a2, a3, a4, a5⟩ | ⟨a1, a2⟩
      · refine .inl ⟨k', by omega, a2, a3, fun x h1 h2 => ?_, a5⟩
        by_cases z : x = k
        · subst z; exact hm
        · exact a4 x (by omega) h2
      · refine .inr ⟨fun x h1 h2 => ?_, a2⟩
        by_cases z : x = k
        · subst z; exact hm
        · exact a1 x (by omega) h2
end Par
