/-! ===== the worlds between commands; show, drop, take ===== -/
/-- both worlds hold the same -/
def WRL (A : Hp) (wo : Nat) (B : Hp) (u : Nat) (E Q : Nat → Nat → Nat) : Prop :=
  PPL Q A wo ∧ PPB Q B u ∧
  (∀ q c m, q < 256 → Q 1 q = 1 → Q 2 q / 2 ^ c % 2 = 1 → mOf E c m → A.D (wo + 3) (q * Q 5 0 + m) = B.D (u + 4) (48 * q + m)) ∧
  (A.D wo 10 = nI (Q 5 0) ∧ Q 5 0 ≤ 48 ∧ ∀ c m, mOf E c m → m < Q 5 0) ∧
  (A.D wo 9 = nI (Q 5 1) ∧ Q 5 1 ≤ 256 ∧ ∀ q, Q 5 1 ≤ q → q < 256 → Q 1 q ≠ 1) ∧
  (A.D wo 13 = nI (Q 5 2) ∧ B.D u 8 = nI (Q 5 2) ∧ Q 5 2 ≤ 256 ∧ ∀ k, k < Q 5 2 → A.D (wo + 4) (7 * k) = B.D (u + 5) k ∧ A.D (wo + 4) (7 * k + 1) = B.D (u + 6) k ∧ A.D (wo + 4) (7 * k + 2) = B.D (u + 7) k ∧ ∀ e q, B.D (u + 5) k = nI e → e < E 9 0 → q < E 10 e → A.D (wo + 4) (7 * k + 3 + q) = B.D (u + 8) (4 * k + q)) ∧
  (A.D wo 15 = nI (Q 5 3) ∧ B.D u 16 = nI (Q 5 3) ∧ Q 5 3 ≤ 32 ∧ ∀ k, k < Q 5 3 → A.D (wo + 5) k = B.D (u + 9) k)
def WCA (wo a f : Nat) : Prop := (a = wo ∧ (f = 9 ∨ f = 13 ∨ f = 15)) ∨ (wo + 1 ≤ a ∧ a ≤ wo + 5)
def WCB (u a f : Nat) : Prop := (a = u ∧ (f = 8 ∨ f = 16)) ∨ (u + 1 ≤ a ∧ a ≤ u + 9)
/-- every pending event is one of the text's -/
def PEV (E Q : Nat → Nat → Nat) (B : Hp) (u : Nat) : Prop := ∀ k, k < Q 5 2 → ∃ e, e < E 9 0 ∧ B.D (u + 5) k = nI e
/-- what the reference's world holds of kind 4 is known -/
def LKC (E Q : Nat → Nat → Nat) (B : Hp) (u : Nat) : Prop :=
  SVx E (-1) ∧ (∀ q c m, q < 256 → Q 1 q = 1 → Q 2 q / 2 ^ c % 2 = 1 → mOf E c m → E 6 m = 4 → SVx E (B.D (u + 4) (48 * q + m))) ∧
  (∀ k, k < Q 5 2 → ∀ e q, B.D (u + 5) k = nI e → e < E 9 0 → q < E 10 e → E 12 (4 * e + q) = 4 → SVx E (B.D (u + 8) (4 * k + q))) ∧ PEV E Q B u
theorem LKC.fr {E Q Q2 : Nat → Nat → Nat} {B B2 : Hp} {u : Nat} (h : LKC E Q B u) (h4 : ∀ q c m, q < 256 → Q2 1 q = 1 → Q2 2 q / 2 ^ c % 2 = 1 → mOf E c m → E 6 m = 4 → (Q 1 q = 1 ∧ Q 2 q / 2 ^ c % 2 = 1 ∧ B2.D (u + 4) (48 * q + m) = B.D (u + 4) (48 * q + m)) ∨ SVx E (B2.D (u + 4) (48 * q + m))) (h5 : Q2 5 2 = Q 5 2) (dB : ∀ a f, a = u + 5 ∨ a = u + 8 → B2.D a f = B.D a f) : LKC E Q2 B2 u := by
  obtain ⟨c0, c1, c2, c3⟩ := h
  refine ⟨c0, fun q c m y1 y2 y3 y4 y5 => ?_, fun k hk e q y1 y2 y3 y4 => ?_, fun k hk => ?_⟩
  · rcases h4 q c m y1 y2 y3 y4 y5 with ⟨z1, z2, z3⟩ | z
    · rw [z3]
      exact c1 q c m y1 z1 z2 y4 y5
    · exact z
  · rw [dB _ _ (.inl rfl)] at y1
    rw [dB _ _ (.inr rfl)]
    exact c2 k (by omega) e q y1 y2 y3 y4
  · obtain ⟨e, e1, e2⟩ := c3 k (by omega)
    exact ⟨e, e1, by rw [dB _ _ (.inl rfl)]; exact e2⟩
/-- a command acts alike -/
def ACT (N wo u la k : Nat) (E Q : Nat → Nat → Nat) (A B : Hp) : Prop := ∃ v v' A2 B2 Q2, F_Ticker_acts N 116 la (nI (11 * k)) A = some (v, A2) ∧ F_MRunner_acts N 611 (nI (12 * k)) B = some (v', B2) ∧ (v = 0 ↔ v' = 0) ∧ same (WCA wo) A A2 ∧ same (WCB u) B B2 ∧ WRL A2 wo B2 u E Q2 ∧ (∀ x, x ≠ 0 → x ≠ 1 → x ≠ 2 → x ≠ 5 → Q2 x = Q x) ∧ Q2 5 0 = Q 5 0 ∧ (LKC E Q B u → LKC E Q2 B2 u) ∧ ∀ q, Q2 0 q = Q 0 q ∨ (Q2 0 q = Q 0 q + 1 ∧ B.D 612 (12 * k) = 223 ∧ liv Q (B.D 612 (12 * k + 1)) ∧ lo8 (B.D 612 (12 * k + 1)) = q)
def upR (Q : Nat → Nat → Nat) (x y v : Nat) : Nat → Nat → Nat := fun a b => if a = x ∧ b = y then v else Q a b
theorem upR_o {Q : Nat → Nat → Nat} {x y v a : Nat} (h : a ≠ x) : upR Q x y v a = Q a := by
  funext b
  exact if_neg (fun z => h z.1)
theorem upR_s {Q : Nat → Nat → Nat} {x y v : Nat} : upR Q x y v x y = v := if_pos ⟨rfl, rfl⟩
theorem upR_n {Q : Nat → Nat → Nat} {x y v b : Nat} (h : b ≠ y) : upR Q x y v x b = Q x b := if_neg (fun z => h z.2)
section Par
variable {N p wo inp cs w u ir M K0 : Nat} {s pl : Int32} {ty mn nu cd : Nat → Int32} {E Q : Nat → Nat → Nat} {V : Nat → Nat → Int32} {nL lc : Nat} {lk : Nat → Nat} {hd : Nat → Int32}
/-- show -/
theorem ac_show {la z k : Nat} {A B : Hp} (hGA : Gr A) (hGB : Gr B) (hw : wo ∈ lW) (hu : u ∈ lU) (h116 : A.P 116 2 = .ref wo) (h611 : B.P 611 1 = .ref u) (hL : LST A la z) (hk : 11 * (k + 1) ≤ z) (hk2 : k < 32768) (f0 : A.D la (11 * k) = 26) (g0 : B.D 612 (12 * k) = 229) (f1 : A.D la (11 * k + 1) = B.D 612 (12 * k + 1)) (hW : WRL A wo B u E Q) : ACT N wo u la k E Q A B := by
  have hwo := lW_le hw
  have hu' := lU_le hu
  have W := gr_W hGA wo hw
  have U := gr_U hGB u hu
  obtain ⟨l1, l2, l3, t, l4, l5⟩ := hL
  have hz : z < 2 ^ 31 := by
    have : 2 ^ t ≤ 2 ^ 9 := Nat.pow_le_pow_right (by decide) l4
    omega
  obtain ⟨w1, w2, w3, w4, w5, w6, w7, w8, w9, w10⟩ := hW
  have eA : F_Ticker_acts N 116 la (nI (11 * k)) A = bC (F_Ticker_actShow N 116 (B.D 612 (12 * k + 1)) A) fun v22 H23 => ck (v22 &&& 1 = v22) <| some (v22, H23) := by
    unfold F_Ticker_acts
    rw [ar_t l2, rdI (show 11 * k < z by omega) (by omega), f0, if_neg (by decide), if_neg (by decide), if_pos rfl, nI_1, rdI (show 11 * k + 1 < z by omega) (by omega), f1, ck_t (rS_116 hGA)]
  have eB : F_MRunner_acts N 611 (nI (12 * k)) B = (if B.D u 16 = (32 : Int32) then some (0, B) else rf (B.P 611 1) fun a157 => ck (B.sh[a157]? = some (13, 0)) <| rf (B.P a157 17) fun a160 => rf (B.P 611 1) fun a162 => ck (B.sh[a162]? = some (13, 0)) <| bnd ((B.D a162 16)) fun x165 => ar B 100 a160 fun n166 => ck (inb x165 n166) <| bnd (B.sD a160 (x165).toNatClampNeg (B.D 612 (12 * k + 1))) fun H169 => rf (H169.P 611 1) fun a170 => ck (H169.sh[a170]? = some (13, 0)) <| bnd ((H169.D a170 16)) fun x173 => bnd (H169.sD a170 16 (x173 + (1 : Int32))) fun H174 => some (1, H174)) := by
    unfold F_MRunner_acts
    rw [ck_t (rS_611 hGB), rf_t (rP_611_3 hGB), ar_t (rA_611_3 hGB), nI_1, rdI (show 12 * k + 1 < 393216 by omega) (by decide), rf_t (rP_611_3 hGB), ar_t (rA_611_3 hGB), show nI (12 * k) + (2 : Int32) = nI (12 * k + 2) from nI_ad _ 2, rdI (show 12 * k + 2 < 393216 by omega) (by decide), rf_t (rP_611_3 hGB), ar_t (rA_611_3 hGB), rdI (show 12 * k < 393216 by omega) (by decide), g0, if_neg (by decide), if_neg (by decide), if_neg (by decide), if_neg (by decide), if_neg (by decide), if_neg (by decide), rf_t h611, ck_t (US U), bnd_t]
  generalize B.D 612 (12 * k + 1) = v at eA eB
  unfold F_Ticker_actShow at eA
  rw [ck_t (rS_116 hGA), rf_t h116, ck_t (WS W), bnd_t, w7] at eA
  rw [w8] at eB
  by_cases q : Q 5 3 < 32
  · have hGA2 : Gr (A.sD (wo + 5) (Q 5 3) v) := hGA
    have W2 : isW (A.sD (wo + 5) (Q 5 3) v) wo := W
    have U2 : isU (B.sD (u + 9) (Q 5 3) v) u := U
    rw [if_pos (show nI (Q 5 3) < (32 : Int32) from nI_lt (b := 32) q (by decide)), rf_t h116, ck_t (WS W), rf_t (WP_14 W), rf_t h116, ck_t (WS W), bnd_t, w7, ar_t (WA_14 W), wrI q (by decide), rf_t (show (A.sD (wo + 5) (Q 5 3) v).P 116 2 = .ref wo from h116), ck_t (WS W2), bnd_t, rdw (by omega), w7, nI_1, bnd_t, bC_v, ck_t (by decide)] at eA
    rw [if_neg (show ¬ nI (Q 5 3) = (32 : Int32) from fun y => by have := (nI_eq (b := 32) (by omega) (by decide)).mp y; omega), rf_t h611, ck_t (US U), rf_t (UP_17 U), rf_t h611, ck_t (US U), bnd_t, w8, ar_t (UA_17 U), wrI q (by decide), rf_t (show (B.sD (u + 9) (Q 5 3) v).P 611 1 = .ref u from h611), ck_t (US U2), bnd_t, rdw (by omega), w8, nI_1, bnd_t] at eB
    have dA : ∀ a f, a ≠ wo + 5 → ¬ (a = wo ∧ f = 15) → ((A.sD (wo + 5) (Q 5 3) v).sD wo 15 (nI (Q 5 3 + 1))).D a f = A.D a f := fun a f y1 y2 => by
      by_cases y3 : a = wo
      · rw [y3, rdf (fun z => y2 ⟨y3, z⟩), rdw (by omega)]
      · rw [rdw y3, rdw y1]
    have dB : ∀ a f, a ≠ u + 9 → ¬ (a = u ∧ f = 16) → ((B.sD (u + 9) (Q 5 3) v).sD u 16 (nI (Q 5 3 + 1))).D a f = B.D a f := fun a f y1 y2 => by
      by_cases y3 : a = u
      · rw [y3, rdf (fun z => y2 ⟨y3, z⟩), rdw (by omega)]
      · rw [rdw y3, rdw y1]
    refine ⟨1, 1, _, _, upR Q 5 3 (Q 5 3 + 1), eA, eB, Iff.rfl, same.sD (same.sD same.rf (.inr (by omega))) (.inl ⟨rfl, by omega⟩), same.sD (same.sD same.rf (.inr (by omega))) (.inl ⟨rfl, by omega⟩), ?_, fun x _ _ _ y => upR_o y, upR_n (by decide), fun c => c.fr (fun q c m y1 y2 y3 y4 y5 => .inl ⟨by rw [upR_o (by decide)] at y2; exact y2, by rw [upR_o (by decide)] at y3; exact y3, dB _ _ (by omega) (by omega)⟩) (upR_n (by decide)) (fun a f y => dB _ _ (by omega) (by omega)), fun q => .inl (by rw [upR_o (by decide)])⟩
    unfold WRL PPL PPB
    rw [upR_o (show (0 : Nat) ≠ 5 by decide), upR_o (show (1 : Nat) ≠ 5 by decide), upR_o (show (2 : Nat) ≠ 5 by decide), upR_n (show (0 : Nat) ≠ 3 by decide), upR_n (show (1 : Nat) ≠ 3 by decide), upR_n (show (2 : Nat) ≠ 3 by decide), upR_s]
    refine ⟨fun q hq => by rw [dA _ _ (by omega) (by omega), dA _ _ (by omega) (by omega)]; exact w1 q hq, fun q hq => by rw [dB _ _ (by omega) (by omega), dB _ _ (by omega) (by omega), dB _ _ (by omega) (by omega)]; exact w2 q hq, fun q c m y1 y2 y3 y4 => by rw [dA _ _ (by omega) (by omega), dB _ _ (by omega) (by omega)]; exact w3 q c m y1 y2 y3 y4, ⟨by rw [dA _ _ (by omega) (by omega)]; exact w4.1, w4.2⟩, ⟨by rw [dA _ _ (by omega) (by omega)]; exact w5.1, w5.2⟩, ⟨by rw [dA _ _ (by omega) (by omega)]; exact w6.1, by rw [dB _ _ (by omega) (by omega)]; exact w6.2.1, w6.2.2.1, fun k hk => ?_⟩, rds, rds, by omega, fun k hk => ?_⟩
    · rw [dA _ _ (by omega) (by omega), dA _ _ (by omega) (by omega), dA _ _ (by omega) (by omega), dB _ _ (by omega) (by omega), dB _ _ (by omega) (by omega), dB _ _ (by omega) (by omega)]
      obtain ⟨m0, m1, m2, m3⟩ := w6.2.2.2 k hk
      exact ⟨m0, m1, m2, fun e q y1 y2 y3 => by rw [dA _ _ (by omega) (by omega), dB _ _ (by omega) (by omega)]; exact m3 e q y1 y2 y3⟩
    · rw [rdw (show wo + 5 ≠ wo by omega), rdw (show u + 9 ≠ u by omega)]
      by_cases y : k = Q 5 3
      · rw [y, rds, rds]
      · rw [rdf y, rdf y]
        exact w10 k (by omega)
  · have : Q 5 3 = 32 := by omega
    rw [if_neg (show ¬ nI (Q 5 3) < (32 : Int32) from nI_nlt (b := 32) (by omega) (by omega)), bC_v, ck_t (by decide)] at eA
    rw [if_pos (by rw [this]; rfl)] at eB
    exact ⟨0, 0, A, B, Q, eA, eB, Iff.rfl, same.rf, same.rf, ⟨w1, w2, w3, w4, w5, w6, w7, w8, w9, w10⟩, fun x _ _ _ _ => rfl, rfl, id, fun q => .inl rfl⟩
end Par
