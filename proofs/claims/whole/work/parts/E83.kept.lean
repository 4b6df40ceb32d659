/-! ===== what came for a confirmed tick is kept ===== -/
/-- slots of tick t, from player pl on -/
def slt (t pl x : Nat) : Prop := pl ≤ x / 64 ∧ x % 64 = t % 64 ∧ x < 256
section Par
variable {N p wo inp cs w u ir M K0 : Nat} {s pl : Int32} {ty mn nu cd : Nat → Int32} {E Q : Nat → Nat → Nat} {V : Nat → Nat → Int32} {nL lc : Nat} {lk : Nat → Nat} {hd : Nat → Int32}
/-- class -/
theorem ev_c47 {t n0 : Nat} {l1 : Int32} {kq2 : Int32 → Hp → Option (Unit × Hp)} (ht : t < 2 ^ 31) : ∀ j n pl A, pl + j = 4 → n = n0 + 1 + j → Gr A → A.D 11 1 = nI t → ∃ A2, B_Play_confirm_47 N 11 kq2 n l1 (nI pl) A = B_Play_confirm_47 N 11 kq2 (n0 + 1) l1 (nI 4) A2 ∧ same (fun a f => (a = 127 ∧ pl ≤ f ∧ f < 4) ∨ (a = 125 ∧ slt t pl f)) A A2 ∧ (∀ x, pl ≤ x → x < 4 → A2.D 127 x = if A.D 125 (64 * x + t % 64) = 0 then A.D 127 x else A.D 126 (64 * x + t % 64)) ∧ ∀ x, slt t pl x → A2.D 125 x = 0 := by
  intro j
  induction j with
  | zero =>
    intro n pl A hp hn hG hc
    subst hn
    rw [show pl = 4 by omega]
    exact ⟨A, rfl, same.rf, fun x _ _ => by omega, fun x y => by unfold slt at y; omega⟩
  | succ j ih =>
    intro n pl A hp hn hG hc
    obtain ⟨n, rfl⟩ : ∃ y, n = y + 1 := ⟨n - 1, by omega⟩
    have s256 : 64 * pl + t % 64 < 256 := by omega
    have hslt : slt t pl (64 * pl + t % 64) := by unfold slt; omega
    by_cases y : A.D 125 (64 * pl + t % 64) = 0
    · obtain ⟨A2, r1, r2, r3, r4⟩ := ih n (pl + 1) A (by omega) (by omega) hG hc
      refine ⟨A2, ?_, r2.mono fun a f z => by unfold slt at z ⊢; omega, fun x z1 z2 => ?_, fun x z => ?_⟩
      · rw [B_Play_confirm_47, if_neg (show ¬ (4 : Int32) ≤ nI pl from nI_ge (b := 4) (by omega) (by omega)), ck_t (rS_11 hG), bnd_t, hc]
        unfold F_Play_slot B_Play_confirm_89
        rw [slA ht, bC_v, rf_t (rP_11_8 hG), ar_t (rA_11_8 hG), rdI s256 (by decide), if_pos y, nI_1]
        exact r1
      · by_cases q : x = pl
        · rw [q, r2.1 _ _ (by unfold slt; omega), if_pos y]
        · exact r3 x (by omega) z2
      · by_cases q : x = 64 * pl + t % 64
        · rw [q, r2.1 _ _ (by unfold slt; omega)]
          exact y
        · exact r4 x (by unfold slt at z ⊢; omega)
    · have dA : ∀ a f, ¬ (a = 127 ∧ f = pl) → ¬ (a = 125 ∧ f = 64 * pl + t % 64) → ((A.sD 127 pl (A.D 126 (64 * pl + t % 64))).sD 125 (64 * pl + t % 64) 0).D a f = A.D a f := fun a f z1 z2 => by rw [rdnn z2, rdnn z1]
      have hG1 : Gr (A.sD 127 pl (A.D 126 (64 * pl + t % 64))) := hG.sD
      obtain ⟨A2, r1, r2, r3, r4⟩ := ih n (pl + 1) ((A.sD 127 pl (A.D 126 (64 * pl + t % 64))).sD 125 (64 * pl + t % 64) 0) (by omega) (by omega) hG.sD.sD (by rw [dA _ _ (by omega) (by omega)]; exact hc)
      refine ⟨A2, ?_, (((same.rf (H := A)).sD (.inl ⟨rfl, by omega⟩)).sD (.inr ⟨rfl, hslt⟩)).tr (r2.mono fun a f z => by unfold slt at z ⊢; omega), fun x z1 z2 => ?_, fun x z => ?_⟩
      · rw [B_Play_confirm_47, if_neg (show ¬ (4 : Int32) ≤ nI pl from nI_ge (b := 4) (by omega) (by omega)), ck_t (rS_11 hG), bnd_t, hc]
        unfold F_Play_slot B_Play_confirm_89
        rw [slA ht, bC_v, rf_t (rP_11_8 hG), ar_t (rA_11_8 hG), rdI s256 (by decide), if_neg y, rf_t (rP_11_10 hG), rf_t (rP_11_9 hG), ar_t (rA_11_9 hG), rdI s256 (by decide), ar_t (rA_11_10 hG), wrI (show pl < 4 by omega) (by decide), rf_t (rP_11_8 hG1), ar_t (rA_11_8 hG1), wrI s256 (by decide), show vp_nar .boolean (0 : Int32) = (0 : Int32) from rfl, nI_1]
        exact r1
      · by_cases q : x = pl
        · rw [q, r2.1 _ _ (by unfold slt; omega), rdw (by decide), rds, if_neg y]
        · rw [r3 x (by omega) z2, dA _ _ (by omega) (by omega), dA _ _ (by omega) (by omega), dA _ _ (by omega) (by omega)]
      · by_cases q : x = 64 * pl + t % 64
        · rw [q, r2.1 _ _ (by unfold slt; omega), rds]
        · exact r4 x (by unfold slt at z ⊢; omega)
/-- reference -/
theorem ev_c152 {t : Nat} {l1 : Int32} {kq2 : Int32 → Hp → Option (Unit × Hp)} (ht : t < 2 ^ 31) : ∀ j n pl B, pl + j = 4 → j < n → Gr B → ∃ B2, B_M_confirms_152 N 517 kq2 n l1 (nI t) (nI pl) B = kq2 l1 B2 ∧ same (fun a f => (a = 619 ∧ pl ≤ f ∧ f < 4) ∨ (a = 617 ∧ slt t pl f)) B B2 ∧ (∀ x, pl ≤ x → x < 4 → B2.D 619 x = if B.D 617 (64 * x + t % 64) = 0 then B.D 619 x else B.D 616 (64 * x + t % 64)) ∧ ∀ x, slt t pl x → B2.D 617 x = 0 := by
  intro j
  induction j with
  | zero =>
    intro n pl B hp hn hG
    obtain ⟨n, rfl⟩ : ∃ y, n = y + 1 := ⟨n - 1, by omega⟩
    refine ⟨B, ?_, same.rf, fun x _ _ => by omega, fun x y => by unfold slt at y; omega⟩
    rw [B_M_confirms_152, if_pos (show (4 : Int32) ≤ nI pl from nI_le (a := 4) (by omega) (by omega))]
  | succ j ih =>
    intro n pl B hp hn hG
    obtain ⟨n, rfl⟩ : ∃ y, n = y + 1 := ⟨n - 1, by omega⟩
    have s256 : 64 * pl + t % 64 < 256 := by omega
    have hslt : slt t pl (64 * pl + t % 64) := by unfold slt; omega
    by_cases y : B.D 617 (64 * pl + t % 64) = 0
    · have dB : ∀ a f, ¬ (a = 617 ∧ f = 64 * pl + t % 64) → (B.sD 617 (64 * pl + t % 64) 0).D a f = B.D a f := fun a f z2 => rdnn z2
      obtain ⟨B2, r1, r2, r3, r4⟩ := ih n (pl + 1) (B.sD 617 (64 * pl + t % 64) 0) (by omega) (by omega) hG.sD
      refine ⟨B2, ?_, ((same.rf (H := B)).sD (.inr ⟨rfl, hslt⟩)).tr (r2.mono fun a f z => by unfold slt at z ⊢; omega), fun x z1 z2 => ?_, fun x z => ?_⟩
      · rw [B_M_confirms_152, if_neg (show ¬ (4 : Int32) ≤ nI pl from nI_ge (b := 4) (by omega) (by omega)), ck_t (rS_517 hG), rf_t (rP_517_15 hG)]
        unfold F_M_slot B_M_confirms_188
        rw [slB ht, bC_v, ar_t (rA_517_15 hG), rdI s256 (by decide), if_pos y, ck_t (rS_517 hG), rf_t (rP_517_15 hG)]
        unfold F_M_slot
        rw [slB ht, bC_v, ar_t (rA_517_15 hG), wrI s256 (by decide), show vp_nar .boolean (0 : Int32) = (0 : Int32) from rfl, nI_1]
        exact r1
      · by_cases q : x = pl
        · rw [q, r2.1 _ _ (by unfold slt; omega), rdw (by decide), if_pos y]
        · rw [r3 x (by omega) z2, dB _ _ (by omega), dB _ _ (by omega), dB _ _ (by omega)]
      · by_cases q : x = 64 * pl + t % 64
        · rw [q, r2.1 _ _ (by unfold slt; omega), rds]
        · exact r4 x (by unfold slt at z ⊢; omega)
    · have dB : ∀ a f, ¬ (a = 619 ∧ f = pl) → ¬ (a = 617 ∧ f = 64 * pl + t % 64) → ((B.sD 619 pl (B.D 616 (64 * pl + t % 64))).sD 617 (64 * pl + t % 64) 0).D a f = B.D a f := fun a f z1 z2 => by rw [rdnn z2, rdnn z1]
      have hG1 : Gr (B.sD 619 pl (B.D 616 (64 * pl + t % 64))) := hG.sD
      obtain ⟨B2, r1, r2, r3, r4⟩ := ih n (pl + 1) ((B.sD 619 pl (B.D 616 (64 * pl + t % 64))).sD 617 (64 * pl + t % 64) 0) (by omega) (by omega) hG.sD.sD
      refine ⟨B2, ?_, (((same.rf (H := B)).sD (.inl ⟨rfl, by omega⟩)).sD (.inr ⟨rfl, hslt⟩)).tr (r2.mono fun a f z => by unfold slt at z ⊢; omega), fun x z1 z2 => ?_, fun x z => ?_⟩
      · rw [B_M_confirms_152, if_neg (show ¬ (4 : Int32) ≤ nI pl from nI_ge (b := 4) (by omega) (by omega)), ck_t (rS_517 hG), rf_t (rP_517_15 hG)]
        unfold F_M_slot B_M_confirms_188
        rw [slB ht, bC_v, ar_t (rA_517_15 hG), rdI s256 (by decide), if_neg y, rf_t (rP_517_17 hG), rf_t (rP_517_14 hG), bC_v, ar_t (rA_517_14 hG), rdI s256 (by decide), ar_t (rA_517_17 hG), wrI (show pl < 4 by omega) (by decide), ck_t (rS_517 hG1), rf_t (rP_517_15 hG1)]
        unfold F_M_slot
        rw [slB ht, bC_v, ar_t (rA_517_15 hG1), wrI s256 (by decide), show vp_nar .boolean (0 : Int32) = (0 : Int32) from rfl, nI_1]
        exact r1
      · by_cases q : x = pl
        · rw [q, r2.1 _ _ (by unfold slt; omega), rdw (by decide), rds, if_neg y]
        · rw [r3 x (by omega) z2, dB _ _ (by omega) (by omega), dB _ _ (by omega) (by omega), dB _ _ (by omega) (by omega)]
      · by_cases q : x = 64 * pl + t % 64
        · rw [q, r2.1 _ _ (by unfold slt; omega), rds]
        · exact r4 x (by unfold slt at z ⊢; omega)
end Par
