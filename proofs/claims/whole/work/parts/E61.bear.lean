/-! ===== a place is found and taken alike ===== -/
theorem free_p (Q : Nat → Nat → Nat) : ∀ n, ∃ q, q ≤ n ∧ (∀ x, x < q → Q 1 x = 1) ∧ (q < n → Q 1 q ≠ 1) := by
  intro n
  induction n with
  | zero => exact ⟨0, Nat.le_refl _, fun x h => by omega, fun h => by omega⟩
  | succ n ih =>
    obtain ⟨q, h1, h2, h3⟩ := ih
    by_cases y : q < n
    · exact ⟨q, by omega, h2, fun _ => h3 y⟩
    · have : q = n := by omega
      subst this
      by_cases z : Q 1 q = 1
      · refine ⟨q + 1, Nat.le_refl _, fun x hx => ?_, fun h => by omega⟩
        by_cases xq : x = q
        · rw [xq]; exact z
        · exact h2 x (by omega)
      · exact ⟨q, by omega, h2, fun _ => z⟩
section Par
variable {N p wo inp cs w u ir M K0 : Nat} {s pl : Int32} {ty mn nu cd : Nat → Int32} {E Q : Nat → Nat → Nat} {V : Nat → Nat → Int32} {nL lc : Nat} {lk : Nat → Nat} {hd : Nat → Int32}
theorem ev_bea {A : Hp} {q : Nat} {fb : Int32} (W : isW A wo) (hP : PPL Q A wo) (hq : q ≤ 256) (h1 : ∀ x, x < q → Q 1 x = 1) (h2 : q < 256 → Q 1 q ≠ 1) : ∀ j n i, i + j = q → j < n → B_World_bear_2 N wo p fb n (nI i) A = B_World_bear_24 N wo p fb (nI q) A := by
  intro j
  induction j with
  | zero =>
    intro n i hi hn
    obtain ⟨n, rfl⟩ : ∃ y, n = y + 1 := ⟨n - 1, by omega⟩
    have : i = q := by omega
    subst this
    by_cases y : i < 256
    · obtain ⟨-, -, -, p4⟩ := hP i y
      rw [if_neg (h2 y)] at p4
      rw [B_World_bear_2, if_neg (show ¬ (256 : Int32) ≤ nI i from nI_ge (b := 256) (by omega) (by omega)), ck_t (WS W), rf_t (WP_8 W), ar_t (WA_8 W), rdI y (by decide), p4, if_pos (by decide)]
    · rw [B_World_bear_2, if_pos (show (256 : Int32) ≤ nI i from nI_le (a := 256) (by omega) (by omega))]
  | succ j ih =>
    intro n i hi hn
    obtain ⟨n, rfl⟩ : ∃ y, n = y + 1 := ⟨n - 1, by omega⟩
    obtain ⟨-, -, p3, p4⟩ := hP i (by omega)
    rw [if_pos (h1 i (by omega))] at p4
    rw [B_World_bear_2, if_neg (show ¬ (256 : Int32) ≤ nI i from nI_ge (b := 256) (by omega) (by omega)), ck_t (WS W), rf_t (WP_8 W), ar_t (WA_8 W), rdI (show i < 256 by omega) (by decide), p4, if_neg (show ¬ nI (Q 2 i) < (0 : Int32) from nI_nlt (b := 0) (by omega) (by omega)), nI_1]
    exact ih n (i + 1) (by omega) (by omega)
theorem ev_spn {B : Hp} {q : Nat} {fb : Int32} (U : isU B u) (hP : PPB Q B u) (hq : q ≤ 256) (h1 : ∀ x, x < q → Q 1 x = 1) (h2 : q < 256 → Q 1 q ≠ 1) : ∀ j n i, i + j = q → j < n → B_MWorld_spawns_2 N u w fb n (nI i) B = B_MWorld_spawns_24 N u w fb (nI q) B := by
  intro j
  induction j with
  | zero =>
    intro n i hi hn
    obtain ⟨n, rfl⟩ : ∃ y, n = y + 1 := ⟨n - 1, by omega⟩
    have : i = q := by omega
    subst this
    by_cases y : i < 256
    · obtain ⟨-, -, -, p4, -⟩ := hP i y
      rw [if_neg (h2 y)] at p4
      rw [B_MWorld_spawns_2, if_neg (show ¬ (256 : Int32) ≤ nI i from nI_ge (b := 256) (by omega) (by omega)), ck_t (US U), rf_t (UP_5 U), ar_t (UA_5 U), rdI y (by decide), p4, if_pos rfl]
    · rw [B_MWorld_spawns_2, if_pos (show (256 : Int32) ≤ nI i from nI_le (a := 256) (by omega) (by omega))]
  | succ j ih =>
    intro n i hi hn
    obtain ⟨n, rfl⟩ : ∃ y, n = y + 1 := ⟨n - 1, by omega⟩
    obtain ⟨-, -, p3, p4, -⟩ := hP i (by omega)
    rw [if_pos (h1 i (by omega))] at p4
    rw [B_MWorld_spawns_2, if_neg (show ¬ (256 : Int32) ≤ nI i from nI_ge (b := 256) (by omega) (by omega)), ck_t (US U), rf_t (UP_5 U), ar_t (UA_5 U), rdI (show i < 256 by omega) (by decide), p4, if_neg (by decide), nI_1]
    exact ih n (i + 1) (by omega) (by omega)
/-- the prefab's values, the reference -/
theorem ev_spv {q fb : Nat} (hq : q < 256) (hf : fb < 16) (hwu : w + 30 < u) : ∀ j n i B, i + j = 48 → j < n → isU B u → isT B w → ∃ B2, B_MWorld_spawns_55 N u w (nI fb) n (nI q) (nI i) B = some (nI q, B2) ∧ same (fun a f => a = u + 4 ∧ 48 * q + i ≤ f ∧ f < 48 * q + 48) B B2 ∧ ∀ m, i ≤ m → m < 48 → B2.D (u + 4) (48 * q + m) = B.D (w + 20) (48 * fb + m) := by
  intro j
  induction j with
  | zero =>
    intro n i B hi hn U T
    obtain ⟨n, rfl⟩ : ∃ y, n = y + 1 := ⟨n - 1, by omega⟩
    refine ⟨B, ?_, same.rf, fun m _ _ => by omega⟩
    rw [B_MWorld_spawns_55, if_pos (show (48 : Int32) ≤ nI i from nI_le (a := 48) (by omega) (by omega))]
  | succ j ih =>
    intro n i B hi hn U T
    obtain ⟨n, rfl⟩ : ∃ y, n = y + 1 := ⟨n - 1, by omega⟩
    obtain ⟨B2, r1, r2, r3⟩ := ih n (i + 1) (B.sD (u + 4) (48 * q + i) (B.D (w + 20) (48 * fb + i))) (by omega) (by omega) U T
    refine ⟨B2, ?_, ((same.rf (H := B)).sD (by omega)).tr (r2.mono fun a f y => by omega), fun m h1 h2 => ?_⟩
    · rw [B_MWorld_spawns_55, if_neg (show ¬ (48 : Int32) ≤ nI i from nI_ge (b := 48) (by omega) (by omega)), ck_t (US U), rf_t (UP_7 U), ck_t (TS T), rf_t (TP_28 T), ar_t (TA_28 T), show (48 : Int32) * nI fb + nI i = nI (48 * fb + i) from nI_ma 48 _ i, rdI (show 48 * fb + i < 768 by omega) (by decide), ar_t (UA_7 U), show (48 : Int32) * nI q + nI i = nI (48 * q + i) from nI_ma 48 _ i, wrI (show 48 * q + i < 12288 by omega) (by decide), nI_1]
      exact r1
    · by_cases y : m = i
      · rw [r2.1 _ _ (by omega), y, rds]
      · rw [r3 m (by omega) h2, rdw (by omega)]
/-- what bearing may change -/
def BEA (wo q wd a f : Nat) : Prop := (a = wo + 2 ∧ f = q) ∨ (a = wo ∧ f = 9) ∨ (a = wo + 3 ∧ q * wd ≤ f ∧ f < q * wd + wd)
def BEB (u q a f : Nat) : Prop := (a = u + 2 ∧ f = q) ∨ (a = u + 3 ∧ f = q) ∨ (a = u + 4 ∧ 48 * q ≤ f ∧ f < 48 * q + 48)
theorem ev_bear {A : Hp} {q fb bt top wd : Nat} (W : isW A wo) (hP : isP A p) (hwo : wo + 5 < p) (hq : q < 256) (hf : fb < 16) (hwd : wd ≤ 48) (h10 : A.D wo 10 = nI wd) (h9 : A.D wo 9 = nI top) (htop : top ≤ 256) (hb : A.D (p + 182) fb = nI bt) : ∃ A2, B_World_bear_24 N wo p (nI fb) (nI q) A = some (nI q, A2) ∧ same (BEA wo q wd) A A2 ∧ A2.D (wo + 2) q = nI bt ∧ A2.D wo 9 = nI (if top < q + 1 then q + 1 else top) ∧ ∀ m, m < wd → A2.D (wo + 3) (q * wd + m) = A.D (p + 183) (48 * fb + m) := by
  have qw : q * wd ≤ 255 * wd := Nat.mul_le_mul_right _ (by omega)
  have eM : ∀ H, F_Math_max N (nI top) (nI (q + 1)) H = some (nI (if top < q + 1 then q + 1 else top), H) := fun H => by
    unfold F_Math_max
    by_cases y : top < q + 1
    · rw [if_pos (show nI top < nI (q + 1) from nI_lt y (by omega)), if_pos y]
    · rw [if_neg (show ¬ nI top < nI (q + 1) from nI_nlt (by omega) (by omega)), if_neg y]
  generalize (if top < q + 1 then q + 1 else top) = tp at eM
  have W1 : isW (A.sD (wo + 2) q (nI bt)) wo := W
  have W2 : isW ((A.sD (wo + 2) q (nI bt)).sD wo 9 (nI tp)) wo := W
  have P2 : isP ((A.sD (wo + 2) q (nI bt)).sD wo 9 (nI tp)) p := hP
  have e10 : ((A.sD (wo + 2) q (nI bt)).sD wo 9 (nI tp)).D wo 10 = nI wd := by rw [rdf (by decide), rdw (by omega)]; exact h10
  refine ⟨((A.sD (wo + 2) q (nI bt)).sD wo 9 (nI tp)).cpy (p + 183) (wo + 3) (48 * fb) (q * wd) wd, ?_, ⟨fun a f y => ?_, rfl, rfl, rfl, rfl⟩, ?_, ?_, fun m hm => ?_⟩
  · unfold B_World_bear_24 F_World_occupy
    rw [if_pos (show nI q < (256 : Int32) from nI_lt (b := 256) hq (by decide)), ck_t (PrS hP), rf_t (PrP_5 hP), ar_t (PrA_5 hP), rdI hf (by decide), hb, ck_t (WS W), ck_t (WS W), rf_t (WP_8 W), ar_t (WA_8 W), wrI hq (by decide), bnd_t, rdw (by omega), h9, nI_1, bC_t (eM _), bnd_t, bC_v, rf_t (PrP_6 P2), rf_t (WP_11 W2), bnd_t, bnd_t, e10, ar_t (PrA_6 P2), ar_t (WA_11 W2), show nI fb * (48 : Int32) = nI (48 * fb) from by rw [Nat.mul_comm]; exact nI_mu fb 48, show nI q * nI wd = nI (q * wd) from nI_mu q wd, ck_t (show ¬ nI (48 * fb) < (0 : Int32) from nI_nlt (b := 0) (by omega) (by omega)), ck_t (show ¬ nI (q * wd) < (0 : Int32) from nI_nlt (b := 0) (by omega) (by omega)), ck_t (show ¬ nI wd < (0 : Int32) from nI_nlt (b := 0) (by omega) (by omega)), cN (by omega), cN (by omega), cN (by omega), ck_t (by omega), ck_t (by omega), bnd_t]
  · unfold BEA at y
    by_cases y3 : a = wo + 3
    · rw [cpy_Dq, if_pos y3]
      unfold va_cpy
      rw [if_neg (fun z => y (.inr (.inr ⟨y3, z⟩))), rdw (by omega), rdw (by omega), y3]
    · rw [cpy_Dq, if_neg y3, rdnn (fun z => y (.inr (.inl z))), rdnn (fun z => y (.inl z))]
  · rw [cpy_Dq, if_neg (by omega), rdw (by omega), rds]
  · rw [cpy_Dq, if_neg (by omega), rds]
  · rw [cpy_Dq, if_pos rfl]
    unfold va_cpy
    rw [if_pos (by omega), rdw (by omega), rdw (by omega), show 48 * fb + (q * wd + m - q * wd) = 48 * fb + m by omega]
theorem ev_spaw {B : Hp} {q fb bt : Nat} (hN : 300 ≤ N) (U : isU B u) (T : isT B w) (hwu : w + 30 < u) (hq : q < 256) (hf : fb < 16) (hb : B.D (w + 19) fb = nI bt) : ∃ B2, B_MWorld_spawns_24 N u w (nI fb) (nI q) B = some (nI q, B2) ∧ same (BEB u q) B B2 ∧ B2.D (u + 2) q = 1 ∧ B2.D (u + 3) q = nI bt ∧ ∀ m, m < 48 → B2.D (u + 4) (48 * q + m) = B.D (w + 20) (48 * fb + m) := by
  obtain ⟨B2, r1, r2, r3⟩ := ev_spv (N := N) hq hf hwu 48 N 0 ((B.sD (u + 2) q 1).sD (u + 3) q (nI bt)) rfl (by omega) U T
  have U1 : isU (B.sD (u + 2) q 1) u := U
  have T1 : isT (B.sD (u + 2) q 1) w := T
  refine ⟨B2, ?_, (((same.rf (H := B)).sD (.inl ⟨rfl, rfl⟩)).sD (.inr (.inl ⟨rfl, rfl⟩))).tr (r2.mono fun a f y => .inr (.inr ⟨y.1, by omega⟩)), ?_, ?_, fun m hm => ?_⟩
  · unfold B_MWorld_spawns_24
    rw [if_neg (show ¬ nI q = (256 : Int32) from fun y => by have := (nI_eq (b := 256) (by omega) (by decide)).mp y; omega), ck_t (US U), rf_t (UP_5 U), ar_t (UA_5 U), show vp_nar .boolean (1 : Int32) = (1 : Int32) from rfl, wrI hq (by decide), rf_t (UP_6 U1), ck_t (TS T1), rf_t (TP_27 T1), ar_t (TA_27 T1), rdI hf (by decide), rdw (by omega), hb, ar_t (UA_6 U1), wrI hq (by decide)]
    exact r1
  · rw [r2.1 _ _ (by omega), rdw (by omega), rds]
  · rw [r2.1 _ _ (by omega), rds]
  · rw [r3 m (by omega) hm, rdw (by omega), rdw (by omega)]
end Par
