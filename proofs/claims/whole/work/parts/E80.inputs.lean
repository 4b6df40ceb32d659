/-! ===== what the players do: class and reference ===== -/
/-- the input of player pl for tick t, from what came above c -/
def inF (cm bt ls : Nat → Int32) (c pl : Nat) : Nat → Int32
  | 0 => ls pl
  | t + 1 => if t + 1 ≤ c then ls pl else if cm (64 * pl + (t + 1) % 64) = 0 then inF cm bt ls c pl t else bt (64 * pl + (t + 1) % 64)
theorem inF_s {cm bt ls : Nat → Int32} {c pl t : Nat} : inF cm bt ls c pl (t + 1) = if t + 1 ≤ c then ls pl else if cm (64 * pl + (t + 1) % 64) = 0 then inF cm bt ls c pl t else bt (64 * pl + (t + 1) % 64) := rfl
def ipV (sv : Int32) (cm bt ls : Nat → Int32) (c pl t : Nat) : Int32 := if ((sv >>> (nI pl &&& 31)) &&& (1 : Int32)) = (0 : Int32) then 0 else inF cm bt ls c pl t
theorem nI_md {t k m : Nat} (ht : t < 2 ^ 31) (hm : m + 1 = 2 ^ k) : nI t &&& nI m = nI (t % 2 ^ k) := by
  rw [nI_and _ _ ht]
  rw [show m = 2 ^ k - 1 by omega, Nat.and_two_pow_sub_one_eq_mod]
theorem nI_63 {t : Nat} (ht : t < 2 ^ 31) : nI t &&& (63 : Int32) = nI (t % 64) := nI_md (k := 6) ht rfl
theorem nI_15 {t : Nat} (ht : t < 2 ^ 31) : nI t &&& (15 : Int32) = nI (t % 16) := nI_md (k := 4) ht rfl
theorem nI_pr {t : Nat} : nI (t + 1) + (-1) = nI t := by
  rw [← nI_1, Int32.add_assoc, show (1 : Int32) + (-1) = 0 from rfl, Int32.add_zero]
theorem slA {pl t : Nat} (ht : t < 2 ^ 31) : nI pl * (64 : Int32) + (nI t &&& (63 : Int32)) = nI (64 * pl + t % 64) := by
  rw [nI_63 ht, show nI pl * (64 : Int32) = nI (pl * 64) from nI_mu pl 64, nI_ad, Nat.mul_comm]
theorem slB {pl t : Nat} (ht : t < 2 ^ 31) : (64 : Int32) * nI pl + (nI t &&& (63 : Int32)) = nI (64 * pl + t % 64) := by
  rw [nI_63 ht]
  exact nI_ma 64 _ _
section Par
variable {N p wo inp cs w u ir M K0 : Nat} {s pl : Int32} {ty mn nu cd : Nat → Int32} {E Q : Nat → Nat → Nat} {V : Nat → Nat → Int32} {nL lc : Nat} {lk : Nat → Nat} {hd : Nat → Int32}
/-- class: the loop -/
theorem ev_in20 {A : Hp} {c pl : Nat} {p2 : Int32} (hG : Gr A) (hp : pl < 4) (hc : A.D 11 1 = nI c) (hc2 : c < 2 ^ 31) : ∀ t n, t < 2 ^ 31 → t - c < n → B_Play_inputOf_20 N 11 (nI pl) p2 n (nI t) A = some (inF (A.D 125) (A.D 126) (A.D 127) c pl t, A) := by
  intro t
  induction t with
  | zero =>
    intro n ht hn
    obtain ⟨n, rfl⟩ : ∃ y, n = y + 1 := ⟨n - 1, by omega⟩
    rw [B_Play_inputOf_20, ck_t (rS_11 hG), bnd_t, hc, if_pos (nI_le (by omega) (by omega)), rf_t (rP_11_10 hG), ar_t (rA_11_10 hG), rdI hp (by decide)]
    rfl
  | succ t ih =>
    intro n ht hn
    obtain ⟨n, rfl⟩ : ∃ y, n = y + 1 := ⟨n - 1, by omega⟩
    rw [B_Play_inputOf_20, ck_t (rS_11 hG), bnd_t, hc, inF_s]
    by_cases y : t + 1 ≤ c
    · rw [if_pos (show nI (t + 1) ≤ nI c from nI_le y (by omega)), if_pos y, rf_t (rP_11_10 hG), ar_t (rA_11_10 hG), rdI hp (by decide)]
    · have sl := slA (pl := pl) (t := t + 1) ht
      have s256 : 64 * pl + (t + 1) % 64 < 256 := by omega
      rw [if_neg (show ¬ nI (t + 1) ≤ nI c from nI_ge (by omega) (by omega)), if_neg y, rf_t (rP_11_8 hG)]
      unfold F_Play_slot
      rw [sl, bC_v, ar_t (rA_11_8 hG), rdI s256 (by decide)]
      by_cases y2 : A.D 125 (64 * pl + (t + 1) % 64) = 0
      · rw [if_pos y2, if_pos y2, nI_pr]
        exact ih n (by omega) (by omega)
      · rw [if_neg y2, if_neg y2, rf_t (rP_11_9 hG), bC_v, ar_t (rA_11_9 hG), rdI s256 (by decide)]
theorem ev_inputOf {A : Hp} {c pl t : Nat} (hN : 300 ≤ N) (hG : Gr A) (hp : pl < 4) (hc : A.D 11 1 = nI c) (hc2 : c < 2 ^ 31) (ht : t < 2 ^ 31) (htc : t ≤ c + 100) : F_Play_inputOf N 11 (nI pl) (nI t) A = some (ipV (A.D 128 (t % 16)) (A.D 125) (A.D 126) (A.D 127) c pl t, A) := by
  unfold F_Play_inputOf ipV
  rw [ck_t (rS_11 hG), rf_t (rP_11_11 hG), ar_t (rA_11_11 hG), nI_15 ht, rdI (show t % 16 < 16 by omega) (by decide)]
  by_cases y : ((A.D 128 (t % 16) >>> (nI pl &&& 31)) &&& (1 : Int32)) = (0 : Int32)
  · rw [if_pos y, if_pos y]
  · rw [if_neg y, if_neg y]
    exact ev_in20 hG hp hc hc2 t N ht (by omega)
/-- reference: the loop -/
theorem ev_b40 {B : Hp} {c pl t t0 : Nat} {kq2 : Int32 → Hp → Option (Unit × Hp)} (hG : Gr B) (hu : u ∈ lU) (hs : B.P 517 8 = .ref u) (hp : pl < 4) (hc : B.D u 0 = nI c) (hc2 : c < 2 ^ 31) (ht0 : t0 < 2 ^ 31) (ht : t < 2 ^ 31) : B_M_bitsOf_40 N 517 (nI t0) kq2 (nI pl) (nI t) B = B_M_bitsOf_96 N 517 (nI t0) kq2 (nI pl) 620 (nI pl) (if ((B.D 618 (t0 % 64) >>> (nI pl &&& 31)) &&& (1 : Int32)) = (0 : Int32) then 0 else if t ≤ c then B.D 619 pl else B.D 616 (64 * pl + t % 64)) B := by
  have U := gr_U hG u hu
  unfold B_M_bitsOf_40
  rw [ck_t (rS_517 hG), rf_t (rP_517_18 hG), rf_t (rP_517_16 hG), ar_t (rA_517_16 hG), nI_63 ht0, rdI (show t0 % 64 < 64 by omega) (by decide)]
  by_cases y : ((B.D 618 (t0 % 64) >>> (nI pl &&& 31)) &&& (1 : Int32)) = (0 : Int32)
  · rw [if_pos y, if_pos y]
  · rw [if_neg y, if_neg y, rf_t hs, ck_t (US U), bnd_t, hc]
    by_cases y2 : t ≤ c
    · rw [if_pos (show nI t ≤ nI c from nI_le y2 (by omega)), if_pos y2, rf_t (rP_517_17 hG), ar_t (rA_517_17 hG), rdI hp (by decide)]
    · rw [if_neg (show ¬ nI t ≤ nI c from nI_ge (by omega) (by omega)), if_neg y2, rf_t (rP_517_14 hG)]
      unfold F_M_slot
      rw [slB ht, bC_v, ar_t (rA_517_14 hG), rdI (show 64 * pl + t % 64 < 256 by omega) (by decide)]
theorem ev_b9 {B : Hp} {c pl t0 : Nat} {kq2 : Int32 → Hp → Option (Unit × Hp)} (hG : Gr B) (hu : u ∈ lU) (hs : B.P 517 8 = .ref u) (hp : pl < 4) (hc : B.D u 0 = nI c) (hc2 : c < 2 ^ 31) (ht0 : t0 < 2 ^ 31) : ∀ t n, t < 2 ^ 31 → t - c < n → B_M_bitsOf_9 N 517 (nI t0) kq2 n (nI pl) (nI t) B = B_M_bitsOf_96 N 517 (nI t0) kq2 (nI pl) 620 (nI pl) (ipV (B.D 618 (t0 % 64)) (B.D 617) (B.D 616) (B.D 619) c pl t) B := by
  have U := gr_U hG u hu
  intro t
  induction t with
  | zero =>
    intro n ht hn
    obtain ⟨n, rfl⟩ : ∃ y, n = y + 1 := ⟨n - 1, by omega⟩
    rw [B_M_bitsOf_9, ck_t (rS_517 hG), rf_t hs, ck_t (US U), bnd_t, hc, if_pos (nI_le (by omega) (by omega)), ev_b40 hG hu hs hp hc hc2 ht0 (by omega), if_pos (show 0 ≤ c by omega)]
    rfl
  | succ t ih =>
    intro n ht hn
    obtain ⟨n, rfl⟩ : ∃ y, n = y + 1 := ⟨n - 1, by omega⟩
    rw [B_M_bitsOf_9, ck_t (rS_517 hG), rf_t hs, ck_t (US U), bnd_t, hc]
    by_cases y : t + 1 ≤ c
    · rw [if_pos (show nI (t + 1) ≤ nI c from nI_le y (by omega)), ev_b40 hG hu hs hp hc hc2 ht0 ht, if_pos y]
      unfold ipV
      rw [inF_s, if_pos y]
    · rw [if_neg (show ¬ nI (t + 1) ≤ nI c from nI_ge (by omega) (by omega)), rf_t (rP_517_15 hG)]
      unfold F_M_slot
      rw [slB ht, bC_v, ar_t (rA_517_15 hG), rdI (show 64 * pl + (t + 1) % 64 < 256 by omega) (by decide)]
      by_cases y2 : B.D 617 (64 * pl + (t + 1) % 64) = 0
      · rw [if_pos y2, nI_pr, ih n (by omega) (by omega)]
        unfold ipV
        rw [inF_s, if_neg y, if_pos y2]
      · rw [if_neg y2, ev_b40 hG hu hs hp hc hc2 ht0 ht, if_neg y]
        unfold ipV
        rw [inF_s, if_neg y, if_neg y2]
/-- reference: what all players do in tick t -/
theorem ev_bitsOf {c t : Nat} (hN : 300 ≤ N) (hu : u ∈ lU) (hc2 : c < 2 ^ 31) (ht : t < 2 ^ 31) (htc : t ≤ c + 100) : ∀ j n pl B, pl + j = 4 → j < n → Gr B → B.P 517 8 = .ref u → B.D u 0 = nI c → ∃ B2, B_M_bitsOf_2 N 517 (nI t) n (nI pl) B = some ((), B2) ∧ same (fun a f => a = 620 ∧ pl ≤ f ∧ f < 4) B B2 ∧ ∀ x, pl ≤ x → x < 4 → B2.D 620 x = ipV (B.D 618 (t % 64)) (B.D 617) (B.D 616) (B.D 619) c x t := by
  have hu' := lU_le hu
  intro j
  induction j with
  | zero =>
    intro n pl B hp hn hG hs hc
    obtain ⟨n, rfl⟩ : ∃ y, n = y + 1 := ⟨n - 1, by omega⟩
    refine ⟨B, ?_, same.rf, fun x _ _ => by omega⟩
    rw [B_M_bitsOf_2, if_pos (show (4 : Int32) ≤ nI pl from nI_le (a := 4) (by omega) (by omega))]
  | succ j ih =>
    intro n pl B hp hn hG hs hc
    obtain ⟨n, rfl⟩ : ∃ y, n = y + 1 := ⟨n - 1, by omega⟩
    generalize hv : ipV (B.D 618 (t % 64)) (B.D 617) (B.D 616) (B.D 619) c pl t = v
    have d : ∀ a f, a ≠ 620 → (B.sD 620 pl v).D a f = B.D a f := fun a f y => rdw y
    have e : ∀ a, a ≠ 620 → (B.sD 620 pl v).D a = B.D a := fun a y => funext fun f => d a f y
    obtain ⟨B2, r1, r2, r3⟩ := ih n (pl + 1) (B.sD 620 pl v) (by omega) (by omega) hG.sD hs (by rw [d _ _ (by omega)]; exact hc)
    refine ⟨B2, ?_, ((same.rf (H := B)).sD (by omega)).tr (r2.mono fun a f y => by omega), fun x h1 h2 => ?_⟩
    · rw [B_M_bitsOf_2, if_neg (show ¬ (4 : Int32) ≤ nI pl from nI_ge (b := 4) (by omega) (by omega)), ev_b9 hG hu hs (by omega) hc hc2 ht t N ht (by omega), hv]
      unfold B_M_bitsOf_96
      rw [ar_t (rA_517_18 hG), wrI (show pl < 4 by omega) (by decide), nI_1]
      exact r1
    · by_cases y : x = pl
      · rw [r2.1 _ _ (by omega), y, rds, hv]
      · rw [r3 x (by omega) h2, d 618 _ (by decide), e 617 (by decide), e 616 (by decide), e 619 (by decide)]
/-- class: what all players do in tick t -/
theorem ev_prep {c t : Nat} (hN : 300 ≤ N) (hc2 : c < 2 ^ 31) (ht : t < 2 ^ 31) (htc : t ≤ c + 100) : ∀ j n pl A, pl + j = 4 → j < n → Gr A → A.D 11 1 = nI c → ∃ A2, B_Play_prepareNext_34 N 11 n (nI t) (nI pl) A = some ((), A2) ∧ same (fun a f => (a = 130 ∧ pl ≤ f ∧ f < 4) ∨ (a = 129 ∧ 4 * (t % 16) + pl ≤ f ∧ f < 4 * (t % 16) + 4)) A A2 ∧ ∀ x, pl ≤ x → x < 4 → A2.D 130 x = ipV (A.D 128 (t % 16)) (A.D 125) (A.D 126) (A.D 127) c x t ∧ A2.D 129 (4 * (t % 16) + x) = ipV (A.D 128 (t % 16)) (A.D 125) (A.D 126) (A.D 127) c x t := by
  intro j
  induction j with
  | zero =>
    intro n pl A hp hn hG hc
    obtain ⟨n, rfl⟩ : ∃ y, n = y + 1 := ⟨n - 1, by omega⟩
    refine ⟨A, ?_, same.rf, fun x _ _ => by omega⟩
    rw [B_Play_prepareNext_34, if_pos (show (4 : Int32) ≤ nI pl from nI_le (a := 4) (by omega) (by omega))]
  | succ j ih =>
    intro n pl A hp hn hG hc
    obtain ⟨n, rfl⟩ : ∃ y, n = y + 1 := ⟨n - 1, by omega⟩
    have ev := ev_inputOf (N := N) (pl := pl) hN hG (by omega) hc hc2 ht htc
    generalize hv : ipV (A.D 128 (t % 16)) (A.D 125) (A.D 126) (A.D 127) c pl t = v at ev
    have d : ∀ a f, a ≠ 130 → a ≠ 129 → ((A.sD 130 pl v).sD 129 (4 * (t % 16) + pl) v).D a f = A.D a f := fun a f y1 y2 => by rw [rdw y2, rdw y1]
    have e : ∀ a, a ≠ 130 → a ≠ 129 → ((A.sD 130 pl v).sD 129 (4 * (t % 16) + pl) v).D a = A.D a := fun a y1 y2 => funext fun f => d a f y1 y2
    obtain ⟨A2, r1, r2, r3⟩ := ih n (pl + 1) ((A.sD 130 pl v).sD 129 (4 * (t % 16) + pl) v) (by omega) (by omega) hG.sD.sD (by rw [d _ _ (by decide) (by decide)]; exact hc)
    have hG1 : Gr (A.sD 130 pl v) := hG.sD
    refine ⟨A2, ?_, (((same.rf (H := A)).sD (by omega)).sD (by omega)).tr (r2.mono fun a f y => by omega), fun x h1 h2 => ?_⟩
    · rw [B_Play_prepareNext_34, if_neg (show ¬ (4 : Int32) ≤ nI pl from nI_ge (b := 4) (by omega) (by omega)), ck_t (rS_11 hG), rf_t (rP_11_13 hG), bC_t ev, ar_t (rA_11_13 hG), wrI (show pl < 4 by omega) (by decide), rf_t (rP_11_12 hG1), rf_t (rP_11_13 hG1), ar_t (rA_11_13 hG1), rdI (show pl < 4 by omega) (by decide), rds, ar_t (rA_11_12 hG1), nI_15 ht, show nI (t % 16) * (4 : Int32) + nI pl = nI (4 * (t % 16) + pl) from by rw [show nI (t % 16) * (4 : Int32) = nI (t % 16 * 4) from nI_mu _ 4, nI_ad, Nat.mul_comm], wrI (show 4 * (t % 16) + pl < 64 by omega) (by decide), nI_1]
      exact r1
    · by_cases y : x = pl
      · subst y
        rw [r2.1 _ _ (by omega), r2.1 _ _ (by omega), rdw (by decide), rds, rds, hv]
        exact ⟨rfl, rfl⟩
      · obtain ⟨k1, k2⟩ := r3 x (by omega) h2
        rw [k1, k2, d 128 _ (by decide) (by decide), e 125 (by decide) (by decide), e 126 (by decide) (by decide), e 127 (by decide) (by decide)]
        exact ⟨rfl, rfl⟩
end Par
