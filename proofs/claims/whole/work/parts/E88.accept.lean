/-! ===== an input is accepted alike ===== -/
theorem nI_int {n : Nat} (h : n < 2 ^ 31) : (nI n).toInt = n := by
  show (nI n).toBitVec.toInt = n
  have e : (nI n).toBitVec = BitVec.ofNat 32 n := rfl
  rw [e, BitVec.toInt_eq_toNat_bmod, BitVec.toNat_ofNat, Nat.mod_eq_of_lt (by omega)]
  exact Int.bmod_eq_of_le (by omega) (by omega)
section Par
variable {N p wo inp cs w u ir M K0 : Nat} {s pl : Int32} {ty mn nu cd : Nat → Int32} {E Q : Nat → Nat → Nat} {V : Nat → Nat → Int32} {nL lc : Nat} {lk : Nat → Nat} {hd : Nat → Int32}
theorem neg_le {n t : Nat} (h : n < t) (ht : t < 2 ^ 31) : ¬ (0 : Int32) < nI n - nI t + 1 := fun y => by
  rw [Int32.lt_iff_toInt_lt, Int32.toInt_add, Int32.toInt_sub, nI_int (show n < 2 ^ 31 by omega), nI_int ht] at y
  have e1 : Int.bmod ((n : Int) - t) (2 ^ 32) = (n : Int) - t := Int.bmod_eq_of_le (by omega) (by omega)
  have e2 : (1 : Int32).toInt = 1 := rfl
  have e3 : (0 : Int32).toInt = 0 := rfl
  rw [e1, e2, Int.bmod_eq_of_le (by omega) (by omega), e3] at y
  omega
/-- no tick ran with another input -/
theorem ev_fw {A : Hp} {c n pl : Nat} {p2 : Int32} (hN : 300 ≤ N) (hG : Gr A) (hp : pl < 4) (hc : A.D 11 1 = nI c) (hcn : c ≤ n) (hn : n ≤ c + 16) (hn2 : n < 2000000000) (h12 : A.D 12 0 = nI n) : ∀ j t f, t + j = n + 1 → j < f → (∀ x, t ≤ x → x ≤ n → A.D 129 (4 * (x % 16) + pl) = ipV (A.D 128 (x % 16)) (A.D 125) (A.D 126) (A.D 127) c pl x) → B_Play_firstWrong_2 N 11 (nI pl) p2 f (nI t) A = some (nI (n + 1), A) := by
  intro j
  induction j with
  | zero =>
    intro t f ht hf _
    obtain ⟨f, rfl⟩ : ∃ y, f = y + 1 := ⟨f - 1, by omega⟩
    rw [show t = n + 1 by omega, B_Play_firstWrong_2, ck_t (rS_11 hG), rf_t (rP_11_0 hG), ck_t (rA_11_0 hG), bnd_t, h12, if_pos (nI_lt (by omega) (by omega))]
  | succ j ih =>
    intro t f ht hf hx
    obtain ⟨f, rfl⟩ : ∃ y, f = y + 1 := ⟨f - 1, by omega⟩
    have ix : nI (t % 16) * (4 : Int32) + nI pl = nI (4 * (t % 16) + pl) := by rw [show nI (t % 16) * (4 : Int32) = nI (t % 16 * 4) from nI_mu _ 4, nI_ad, Nat.mul_comm]
    rw [B_Play_firstWrong_2, ck_t (rS_11 hG), rf_t (rP_11_0 hG), ck_t (rA_11_0 hG), bnd_t, h12, if_neg (nI_nlt (by omega) (by omega)), rf_t (rP_11_12 hG), ar_t (rA_11_12 hG), nI_15 (by omega), ix, rdI (show 4 * (t % 16) + pl < 64 by omega) (by decide), bC_t (ev_inputOf hN hG hp hc (by omega) (by omega) (by omega)), if_pos (hx t (by omega) (by omega)), nI_1]
    exact ih (t + 1) f (by omega) (by omega) (fun x y1 y2 => hx x (by omega) y2)
/-- the first tick ran with another input -/
theorem ev_fw1 {A : Hp} {c n pl t f : Nat} {p2 : Int32} (hN : 300 ≤ N) (hG : Gr A) (hp : pl < 4) (hc : A.D 11 1 = nI c) (hcn : c ≤ n) (hn : n ≤ c + 16) (hn2 : n < 2000000000) (h12 : A.D 12 0 = nI n) (ht : t ≤ n) (hx : ¬ A.D 129 (4 * (t % 16) + pl) = ipV (A.D 128 (t % 16)) (A.D 125) (A.D 126) (A.D 127) c pl t) : B_Play_firstWrong_2 N 11 (nI pl) p2 (f + 1) (nI t) A = some (nI t, A) := by
  have ix : nI (t % 16) * (4 : Int32) + nI pl = nI (4 * (t % 16) + pl) := by rw [show nI (t % 16) * (4 : Int32) = nI (t % 16 * 4) from nI_mu _ 4, nI_ad, Nat.mul_comm]
  rw [B_Play_firstWrong_2, ck_t (rS_11 hG), rf_t (rP_11_0 hG), ck_t (rA_11_0 hG), bnd_t, h12, if_neg (nI_nlt (by omega) (by omega)), rf_t (rP_11_12 hG), ar_t (rA_11_12 hG), nI_15 (by omega), ix, rdI (show 4 * (t % 16) + pl < 64 by omega) (by decide), bC_t (ev_inputOf hN hG hp hc (by omega) (by omega) (by omega)), if_neg hx]
/-- above now -/
theorem ev_fw0 {A : Hp} {n t f : Nat} {pl p2 : Int32} (hG : Gr A) (h12 : A.D 12 0 = nI n) (ht : n < t) (ht2 : t < 2 ^ 31) : B_Play_firstWrong_2 N 11 pl p2 (f + 1) (nI t) A = some (nI t, A) := by
  rw [B_Play_firstWrong_2, ck_t (rS_11 hG), rf_t (rP_11_0 hG), ck_t (rA_11_0 hG), bnd_t, h12, if_pos (nI_lt ht ht2)]
/-- class: an input is noted -/
theorem ac_hdA {A : Hp} {n pl t : Nat} {v : Int32} (hG : Gr A) (hp : pl < 4) (ht : t < 2 ^ 31) (h12 : A.D 12 0 = nI n) : F_Play_accept N 11 p (nI pl) (nI t) v A = (bC (F_Play_firstWrong N 11 (nI pl) (nI t) ((A.sD 125 (64 * pl + t % 64) 1).sD 126 (64 * pl + t % 64) v)) fun v25 H26 => bC (F_Math_max N (0 : Int32) ((nI n - v25) + (1 : Int32)) H26) fun v28 H29 => if v28 ≤ (0 : Int32) then B_Play_accept_77 N 11 p (nI pl) (nI t) v v28 H29 else rf (H29.P 11 0) fun a73 => rf (H29.P 11 6) fun a75 => ar H29 105 a75 fun n77 => ck (inb ((v25 - (1 : Int32)) &&& (15 : Int32)) n77) <| rf (H29.P a75 (((v25 - (1 : Int32)) &&& (15 : Int32))).toNatClampNeg) fun a80 => ck (H29.sh[a73]? = some (7, 0)) <| bC (F_World_copyFrom N a73 a80 H29) fun v84 H85 => B_Play_accept_77 N 11 p (nI pl) (nI t) v v28 H85) := by
  have s256 : 64 * pl + t % 64 < 256 := by omega
  have hG1 : Gr (A.sD 125 (64 * pl + t % 64) 1) := hG.sD
  have hG2 : Gr ((A.sD 125 (64 * pl + t % 64) 1).sD 126 (64 * pl + t % 64) v) := hG1.sD
  unfold F_Play_accept F_Play_slot
  rw [ck_t (rS_11 hG), rf_t (rP_11_8 hG), slA ht, bC_v, ar_t (rA_11_8 hG), wrI s256 (by decide), show vp_nar .boolean (1 : Int32) = (1 : Int32) from rfl, rf_t (rP_11_9 hG1), bC_v, ar_t (rA_11_9 hG1), wrI s256 (by decide), rf_t (rP_11_0 hG2), ck_t (rA_11_0 hG2), bnd_t, rdw (by decide), rdw (by decide), h12]
/-- reference: an input is noted -/
theorem ac_hdB {B : Hp} {pl t : Nat} {v l5 : Int32} (hG : Gr B) (hp : pl < 4) (ht : t < 2 ^ 31) : B_M_input_156 N 517 (nI pl) (nI t) v l5 B = (if l5 ≤ (0 : Int32) then B_M_input_189 N 517 (nI pl) (nI t) v l5 ((B.sD 616 (64 * pl + t % 64) v).sD 617 (64 * pl + t % 64) 1) else bC (F_M_runsAgain N 517 ((B.sD 616 (64 * pl + t % 64) v).sD 617 (64 * pl + t % 64) 1)) fun v80 H81 => B_M_input_189 N 517 (nI pl) (nI t) v l5 H81) := by
  have s256 : 64 * pl + t % 64 < 256 := by omega
  have hG1 : Gr (B.sD 616 (64 * pl + t % 64) v) := hG.sD
  unfold B_M_input_156 F_M_slot
  rw [ck_t (rS_517 hG), rf_t (rP_517_14 hG), slB ht, bC_v, ar_t (rA_517_14 hG), wrI s256 (by decide), rf_t (rP_517_15 hG1), bC_v, ar_t (rA_517_15 hG1), wrI s256 (by decide), show vp_nar .boolean (1 : Int32) = (1 : Int32) from rfl]
/-- both count, and confirm -/
theorem ac_end {S : Nat → Nat} {kT : Nat} {nb b t0 la z us un c n k nA : Nat} {p1 p2 v : Int32} {Nm : Nat → Nat → List Nat} {Pv : Nat → Nat → Int32} {A B : Hp} (h : PLI N p cs w M ty mn nu cd E Nm Pv S b t0 A la z B us un c n) (hTl : TLD kT A B) (hag : A.D 11 3 = B.D 517 13) (hQ : TXQ M cs ty mn nu cd E Pv) (hM : M + 2 ≤ N) (hN : 2000000 ≤ N) (hb : BNS S nb) (hcn : nb + (b + 16 * (n - t0)) + 20 < 8388608) (hk : k ≤ 16) : ∃ A2 B2 c2, B_Play_accept_80 N 11 p p1 p2 v (nA + 1) (nI k) (nI k) A = some (nI k, A2) ∧ B_M_input_189 N 517 p1 p2 v (nI k) B = some (nI k, B2) ∧ PLI N p cs w M ty mn nu cd E Nm Pv S b t0 A2 la z B2 us un c2 n ∧ TLD (kT + 32 * (c2 - c)) A2 B2 ∧ A2.D 11 3 = B2.D 517 13 ∧ same (fun a f => CFA a f ∨ (a = 11 ∧ f = 3)) A A2 ∧ smT (fun a f => CFB us a f ∨ (a = 517 ∧ f = 13)) B B2 ∧ c ≤ c2 := by
  have hGA := h.1.1
  have hGB := h.1.2.1
  have hus := h.2.1.1
  have hu1 := lU_le hus
  have hi := h.2.2.1
  have h1 : PLI N p cs w M ty mn nu cd E Nm Pv S b t0 (A.sD 11 3 (A.D 11 3 + nI k)) la z (B.sD 517 13 (B.D 517 13 + nI k)) us un c n := h.fr hQ.1 (same.rf.sD (.inr (.inl ⟨rfl, by decide⟩))) (same.rf.sD (.inl rfl))
  have hT1 : TLD kT (A.sD 11 3 (A.D 11 3 + nI k)) (B.sD 517 13 (B.D 517 13 + nI k)) := hTl.fr (fun a f y => rdnn (by omega)) (fun a f y => rdnn (by omega))
  obtain ⟨A2, B2, c2, r1, r2, r3, r4, r5, r6, r7⟩ := conf_jo (N := N) hQ hM hN hb hcn (n - c) c 0 N N kT (A.sD 11 3 (A.D 11 3 + nI k)) (B.sD 517 13 (B.D 517 13 + nI k)) (by omega) (by omega) (by omega) (by omega) h1 hT1
  refine ⟨A2, B2, c2, ?_, ?_, r3, r4, ?_, (same.rf.sD (.inr ⟨rfl, rfl⟩)).tr (r5.mono fun a f y => .inl y), ((same.rf (S := fun a f => CFB us a f ∨ (a = 517 ∧ f = 13)) (H := B)).sD (.inr ⟨rfl, rfl⟩)).smT.tr (r6.mono fun a f y => .inl y), r7⟩
  · have e : F_Play_confirm N 11 (A.sD 11 3 (A.D 11 3 + nI k)) = some ((), A2) := r1
    rw [B_Play_accept_80, if_pos (nI_le (Nat.le_refl _) (by omega)), ck_t (rS_11 hGA), bnd_t, bnd_t, bC_t e]
  · have e : F_M_confirms N 517 (B.sD 517 13 (B.D 517 13 + nI k)) = some ((), B2) := r2
    unfold B_M_input_189
    rw [ck_t (rS_517 hGB), bnd_t, bnd_t, bC_t e]
  · rw [r5.1 11 3 (by unfold CFA; omega), r6.1 517 13 (by unfold CFB TGB TFB; omega), rds, rds, hag]
end Par
