/-! ===== a tick is confirmed: the pieces ===== -/
theorem and1 (v : Int32) : v &&& 1 = 0 ∨ v &&& 1 = 1 := by
  have h : (v &&& 1).toBitVec = BitVec.setWidth 32 (BitVec.ofBool (v.toBitVec.getLsbD 0)) := by
    show v.toBitVec &&& 1#32 = _
    exact BitVec.and_one_eq_setWidth_ofBool_getLsbD
  cases hb : v.toBitVec.getLsbD 0 with
  | false => rw [hb] at h; exact .inl (Int32.toBitVec_inj.mp h)
  | true => rw [hb] at h; exact .inr (Int32.toBitVec_inj.mp h)
/-- all that sit have told of tick t, from player pl on -/
def KNW (sv : Int32) (cm : Nat → Int32) (t pl : Nat) : Prop := ∀ x, pl ≤ x → x < 4 → ¬ ((sv >>> (nI x &&& 31)) &&& (1 : Int32)) = 0 → ¬ cm (64 * x + t % 64) = 0
theorem KNW.st {sv : Int32} {cm : Nat → Int32} {t pl : Nat} (hp : pl < 4) : KNW sv cm t pl ↔ (¬ ((sv >>> (nI pl &&& 31)) &&& (1 : Int32)) = 0 → ¬ cm (64 * pl + t % 64) = 0) ∧ KNW sv cm t (pl + 1) := by
  refine ⟨fun h => ⟨h pl (Nat.le_refl _) hp, fun x y1 y2 => h x (by omega) y2⟩, fun h x y1 y2 => ?_⟩
  by_cases y : x = pl
  · rw [y]; exact h.1
  · exact h.2 x (by omega) y2
def TLD (kT : Nat) (A B : Hp) : Prop := A.D 11 5 = B.D 517 20 ∧ (∀ x, x < 256 → A.D 115 x = B.D 621 x) ∧ ∃ t, t ≤ kT ∧ A.D 11 5 = nI t
theorem TLD.fr {kT : Nat} {A B A' B' : Hp} (h : TLD kT A B) (hA : ∀ a f, (a = 11 ∧ f = 5) ∨ a = 115 → A'.D a f = A.D a f) (hB : ∀ a f, (a = 517 ∧ f = 20) ∨ a = 621 → B'.D a f = B.D a f) : TLD kT A' B' :=
  ⟨by rw [hA _ _ (.inl ⟨rfl, rfl⟩), hB _ _ (.inl ⟨rfl, rfl⟩)]; exact h.1, fun x hx => by rw [hA _ _ (.inr rfl), hB _ _ (.inr rfl)]; exact h.2.1 x hx, by rw [hA _ _ (.inl ⟨rfl, rfl⟩)]; exact h.2.2⟩
theorem TLD.mono {k k2 : Nat} {A B : Hp} (h : TLD k A B) (hk : k ≤ k2) : TLD k2 A B := by
  obtain ⟨h1, h2, t, h3, h4⟩ := h
  exact ⟨h1, h2, t, by omega, h4⟩
theorem inF_le {cm bt ls : Nat → Int32} {c pl t : Nat} (h : t ≤ c) : inF cm bt ls c pl t = ls pl := by
  cases t with
  | zero => rfl
  | succ t => rw [inF_s, if_pos h]
/-- what came for a tick is kept as the last -/
theorem inF_up {cm bt ls cm2 ls2 : Nat → Int32} {c pl : Nat} (hp : pl < 4) (h1 : ∀ x, x < 256 → x % 64 ≠ (c + 1) % 64 → cm2 x = cm x) (h2 : ∀ x, x < 4 → ls2 x = if cm (64 * x + (c + 1) % 64) = 0 then ls x else bt (64 * x + (c + 1) % 64)) : ∀ j, j < 60 → inF cm2 bt ls2 (c + 1) pl (c + 1 + j) = inF cm bt ls c pl (c + 1 + j) := by
  intro j
  induction j with
  | zero =>
    intro _
    rw [Nat.add_zero, inF_le (Nat.le_refl _), inF_s, if_neg (show ¬ c + 1 ≤ c by omega), h2 pl hp, inF_le (Nat.le_refl _)]
  | succ j ih =>
    intro hj
    rw [show c + 1 + (j + 1) = c + 1 + j + 1 by omega, inF_s, inF_s, if_neg (show ¬ c + 1 + j + 1 ≤ c + 1 by omega), if_neg (show ¬ c + 1 + j + 1 ≤ c by omega), ih (by omega), h1 (64 * pl + (c + 1 + j + 1) % 64) (by omega) (by omega)]
section Par
variable {N p wo inp cs w u ir M K0 : Nat} {s pl : Int32} {ty mn nu cd : Nat → Int32} {E Q : Nat → Nat → Nat} {V : Nat → Nat → Int32} {nL lc : Nat} {lk : Nat → Nat} {hd : Nat → Int32}
/-- class: is the tick known -/
theorem ev_kn {A : Hp} {t : Nat} (hG : Gr A) (ht : t < 2 ^ 31) : ∀ j n pl, pl + j = 4 → j < n → (KNW (A.D 128 (t % 16)) (A.D 125) t pl → B_Play_isKnown_2 N 11 (nI t) n (nI pl) A = some (1, A)) ∧ (¬ KNW (A.D 128 (t % 16)) (A.D 125) t pl → B_Play_isKnown_2 N 11 (nI t) n (nI pl) A = some (0, A)) := by
  intro j
  induction j with
  | zero =>
    intro n pl hp hn
    obtain ⟨n, rfl⟩ : ∃ y, n = y + 1 := ⟨n - 1, by omega⟩
    refine ⟨fun _ => ?_, fun h => absurd (fun x y1 y2 => by omega) h⟩
    rw [B_Play_isKnown_2, if_pos (show (4 : Int32) ≤ nI pl from nI_le (a := 4) (by omega) (by omega))]
  | succ j ih =>
    intro n pl hp hn
    obtain ⟨n, rfl⟩ : ∃ y, n = y + 1 := ⟨n - 1, by omega⟩
    obtain ⟨i1, i2⟩ := ih n (pl + 1) (by omega) (by omega)
    rw [KNW.st (show pl < 4 by omega), B_Play_isKnown_2, if_neg (show ¬ (4 : Int32) ≤ nI pl from nI_ge (b := 4) (by omega) (by omega)), ck_t (rS_11 hG), rf_t (rP_11_11 hG), ar_t (rA_11_11 hG), nI_15 ht, rdI (show t % 16 < 16 by omega) (by decide)]
    unfold B_Play_isKnown_39
    rw [nI_1]
    rcases and1 (A.D 128 (t % 16) >>> (nI pl &&& 31)) with y | y
    · rw [if_neg (by rw [y]; decide)]
      exact ⟨fun h => i1 h.2, fun h => i2 (fun z => h ⟨fun z2 => absurd y z2, z⟩)⟩
    · have y' : ¬ ((A.D 128 (t % 16) >>> (nI pl &&& 31)) &&& (1 : Int32)) = 0 := by rw [y]; decide
      rw [if_pos y, rf_t (rP_11_8 hG)]
      unfold F_Play_slot
      rw [slA ht, bC_v, ar_t (rA_11_8 hG), rdI (show 64 * pl + t % 64 < 256 by omega) (by decide)]
      by_cases y2 : A.D 125 (64 * pl + t % 64) = 0
      · rw [if_pos y2]
        exact ⟨fun h => absurd y2 (h.1 y'), fun _ => rfl⟩
      · rw [if_neg y2]
        exact ⟨fun h => i1 h.2, fun h => i2 (fun z => h ⟨fun _ => y2, z⟩)⟩
/-- reference: is the tick known -/
theorem ev_k0 {B : Hp} {l2 : Int32} {kq2 : Int32 → Hp → Option (Unit × Hp)} : ∀ j n pl, pl + j = 4 → j < n → B_M_confirms_35 N 517 kq2 n 0 l2 (nI pl) B = some ((), B) := by
  intro j
  induction j with
  | zero =>
    intro n pl hp hn
    obtain ⟨n, rfl⟩ : ∃ y, n = y + 1 := ⟨n - 1, by omega⟩
    rw [B_M_confirms_35, if_pos (show (4 : Int32) ≤ nI pl from nI_le (a := 4) (by omega) (by omega)), if_pos rfl]
  | succ j ih =>
    intro n pl hp hn
    obtain ⟨n, rfl⟩ : ∃ y, n = y + 1 := ⟨n - 1, by omega⟩
    rw [B_M_confirms_35, if_neg (show ¬ (4 : Int32) ≤ nI pl from nI_ge (b := 4) (by omega) (by omega)), if_pos rfl]
    unfold B_M_confirms_78 B_M_confirms_79
    rw [nI_1]
    exact ih n (pl + 1) (by omega) (by omega)
theorem ev_k35 {B : Hp} {t us : Nat} {kq2 : Int32 → Hp → Option (Unit × Hp)} (hG : Gr B) (hs : B.P 517 8 = .ref us) (ht : t < 2 ^ 31) : ∀ j n pl, pl + j = 4 → j < n → (KNW (B.D 618 (t % 64)) (B.D 617) t pl → B_M_confirms_35 N 517 kq2 n 1 (nI t) (nI pl) B = bC (F_M_runs N 517 us B) fun _ H24 => B_M_confirms_101 N 517 kq2 N 1 (nI t) (nI 0) H24) ∧ (¬ KNW (B.D 618 (t % 64)) (B.D 617) t pl → B_M_confirms_35 N 517 kq2 n 1 (nI t) (nI pl) B = some ((), B)) := by
  intro j
  induction j with
  | zero =>
    intro n pl hp hn
    obtain ⟨n, rfl⟩ : ∃ y, n = y + 1 := ⟨n - 1, by omega⟩
    refine ⟨fun _ => ?_, fun h => absurd (fun x y1 y2 => by omega) h⟩
    rw [B_M_confirms_35, if_pos (show (4 : Int32) ≤ nI pl from nI_le (a := 4) (by omega) (by omega)), if_neg (by decide), ck_t (rS_517 hG), rf_t hs]
    rfl
  | succ j ih =>
    intro n pl hp hn
    obtain ⟨n, rfl⟩ : ∃ y, n = y + 1 := ⟨n - 1, by omega⟩
    obtain ⟨i1, i2⟩ := ih n (pl + 1) (by omega) (by omega)
    rw [KNW.st (show pl < 4 by omega), B_M_confirms_35, if_neg (show ¬ (4 : Int32) ≤ nI pl from nI_ge (b := 4) (by omega) (by omega)), if_neg (show ¬ (1 : Int32) = 0 by decide), ck_t (rS_517 hG), rf_t (rP_517_16 hG), ar_t (rA_517_16 hG), nI_63 ht, rdI (show t % 64 < 64 by omega) (by decide)]
    unfold B_M_confirms_74 B_M_confirms_78 B_M_confirms_79
    rw [nI_1]
    by_cases y : ((B.D 618 (t % 64) >>> (nI pl &&& 31)) &&& (1 : Int32)) = 0
    · rw [if_pos y]
      exact ⟨fun h => i1 h.2, fun h => i2 (fun z => h ⟨fun z2 => absurd y z2, z⟩)⟩
    · rw [if_neg y, rf_t (rP_517_15 hG)]
      unfold F_M_slot
      rw [slB ht, bC_v, ar_t (rA_517_15 hG), rdI (show 64 * pl + t % 64 < 256 by omega) (by decide)]
      by_cases y2 : B.D 617 (64 * pl + t % 64) = 0
      · rw [if_pos y2]
        exact ⟨fun h => absurd y2 (h.1 y), fun _ => ev_k0 j n (pl + 1) (by omega) (by omega)⟩
      · rw [if_neg y2]
        exact ⟨fun h => i1 h.2, fun h => i2 (fun z => h ⟨fun _ => y2, z⟩)⟩
/-- what was shown is told, both sides -/
theorem tell_jo {us w1 sn : Nat} {l1 l2 : Int32} {kq2 : Int32 → Hp → Option (Unit × Hp)} (hw : w1 ∈ lW) (hu : us ∈ lU) (hs : sn ≤ 32) : ∀ j k kT nA nB A B, k + j = sn → j < nA → j < nB → Gr A → Gr B → B.P 517 8 = .ref us → A.D w1 15 = nI sn → B.D us 16 = nI sn → (∀ x, x < sn → A.D (w1 + 5) x = B.D (us + 9) x) → TLD kT A B → ∃ A2 B2, B_Play_tell_2 N 11 w1 nA (nI k) A = some ((), A2) ∧ B_M_confirms_101 N 517 kq2 nB l1 l2 (nI k) B = B_M_confirms_152 N 517 kq2 N l1 l2 (nI 0) B2 ∧ same (fun a f => a = 115 ∨ (a = 11 ∧ f = 5)) A A2 ∧ same (fun a f => a = 621 ∨ (a = 517 ∧ f = 20)) B B2 ∧ TLD (kT + j) A2 B2 := by
  have hw' := lW_le hw
  have hw2 := lW_md hw
  have hu' := lU_le hu
  intro j
  induction j with
  | zero =>
    intro k kT nA nB A B hk hA hB hGA hGB h8 a15 b16 hv hT
    obtain ⟨nA, rfl⟩ : ∃ y, nA = y + 1 := ⟨nA - 1, by omega⟩
    obtain ⟨nB, rfl⟩ : ∃ y, nB = y + 1 := ⟨nB - 1, by omega⟩
    refine ⟨A, B, ?_, ?_, same.rf, same.rf, hT⟩
    · rw [B_Play_tell_2, ck_t (WS (gr_W hGA w1 hw)), bnd_t, a15, if_pos (nI_le (by omega) (by omega))]
    · rw [B_M_confirms_101, ck_t (rS_517 hGB), rf_t h8, ck_t (US (gr_U hGB us hu)), bnd_t, b16, if_pos (nI_le (by omega) (by omega))]
      rfl
  | succ j ih =>
    intro k kT nA nB A B hk hA hB hGA hGB h8 a15 b16 hv hT
    obtain ⟨nA, rfl⟩ : ∃ y, nA = y + 1 := ⟨nA - 1, by omega⟩
    obtain ⟨nB, rfl⟩ : ∃ y, nB = y + 1 := ⟨nB - 1, by omega⟩
    have W := gr_W hGA w1 hw
    have U := gr_U hGB us hu
    have l8 : lo8 (A.D 11 5) < 256 := lo8_lt
    have hva := hv k (by omega)
    have dA : ∀ a f, a ≠ 115 → ¬ (a = 11 ∧ f = 5) → ((A.sD 115 (lo8 (A.D 11 5)) (A.D (w1 + 5) k)).sD 11 5 (A.D 11 5 + 1)).D a f = A.D a f := fun a f y1 y2 => by rw [rdnn y2, rdw y1]
    have dB : ∀ a f, a ≠ 621 → ¬ (a = 517 ∧ f = 20) → ((B.sD 621 (lo8 (A.D 11 5)) (A.D (w1 + 5) k)).sD 517 20 (A.D 11 5 + 1)).D a f = B.D a f := fun a f y1 y2 => by rw [rdnn y2, rdw y1]
    have hT2 : TLD (kT + 1) ((A.sD 115 (lo8 (A.D 11 5)) (A.D (w1 + 5) k)).sD 11 5 (A.D 11 5 + 1)) ((B.sD 621 (lo8 (A.D 11 5)) (A.D (w1 + 5) k)).sD 517 20 (A.D 11 5 + 1)) := by
      refine ⟨by rw [rds, rds], fun x hx => ?_, by obtain ⟨t, t1, t2⟩ := hT.2.2; exact ⟨t + 1, by omega, by rw [rds, t2, nI_1]⟩⟩
      rw [rdw (show (115 : Nat) ≠ 11 by decide), rdw (show (621 : Nat) ≠ 517 by decide)]
      by_cases y : x = lo8 (A.D 11 5)
      · rw [y, rds, rds]
      · rw [rdf y, rdf y]
        exact hT.2.1 x hx
    obtain ⟨A2, B2, r1, r2, r3, r4, r5⟩ := ih (k + 1) (kT + 1) nA nB ((A.sD 115 (lo8 (A.D 11 5)) (A.D (w1 + 5) k)).sD 11 5 (A.D 11 5 + 1)) ((B.sD 621 (lo8 (A.D 11 5)) (A.D (w1 + 5) k)).sD 517 20 (A.D 11 5 + 1)) (by omega) (by omega) (by omega) hGA.sD.sD hGB.sD.sD h8 (by rw [dA _ _ (by omega) (by omega)]; exact a15) (by rw [dB _ _ (by omega) (by omega)]; exact b16) (fun x hx => by rw [dA _ _ (by omega) (by omega), dB _ _ (by omega) (by omega)]; exact hv x hx) hT2
    refine ⟨A2, B2, ?_, ?_, (((same.rf (H := A)).sD (.inl rfl)).sD (.inr ⟨rfl, rfl⟩)).tr r3, (((same.rf (H := B)).sD (.inl rfl)).sD (.inr ⟨rfl, rfl⟩)).tr r4, by rw [show kT + (j + 1) = kT + 1 + j by omega]; exact r5⟩
    · rw [B_Play_tell_2, ck_t (WS W), bnd_t, a15, if_neg (nI_ge (by omega) (by omega)), ck_t (rS_11 hGA), rf_t (rP_11_4 hGA), bnd_t, rf_t (WP_14 W), ar_t (WA_14 W), rdI (show k < 32 by omega) (by decide), ar_t (rA_11_4 hGA), lo8_e, wrI l8 (by decide), bnd_t, rdw (by decide), bnd_t, nI_1]
      exact r1
    · rw [B_M_confirms_101, ck_t (rS_517 hGB), rf_t h8, ck_t (US U), bnd_t, b16, if_neg (nI_ge (by omega) (by omega)), rf_t (rP_517_19 hGB), bnd_t, ← hT.1, rf_t h8, ck_t (US U), rf_t (UP_17 U), ar_t (UA_17 U), rdI (show k < 32 by omega) (by decide), ← hva, ar_t (rA_517_19 hGB), lo8_e, wrI l8 (by decide), bnd_t, rdw (by decide), ← hT.1, bnd_t, nI_1]
      exact r2
end Par
