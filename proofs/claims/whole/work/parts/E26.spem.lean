/-! ===== the class's commands: spawn, emit ===== -/
section Par
variable {N p wo inp cs : Nat} {s pl : Int32}
theorem nI_m0 {j : Nat} : nI (j + 1) - 1 + (-1 : Int32) = nI j - 1 := by rw [nI_m, Int32.sub_eq_add_neg]
theorem sp_55 {h : Nat} : ∀ (j g : Nat) (H : Hp), Gr H → H.D 117 6 = nI (h + j) → h + j ≤ 160 → j ≤ 4 → j < g → ∃ H', B_Row_commandSpawn_55 N 117 g (nI j - 1) H = some ((), H') ∧ same (fun a f => (a = 117 ∧ f = 6) ∨ (a = 123 ∧ 7 ≤ f)) H H' ∧ H'.D 117 6 = nI h ∧ (∀ x, x < j → H'.D 123 (7 + x) = H.D 119 (h + x)) ∧ (∀ x, j ≤ x → H'.D 123 (7 + x) = H.D 123 (7 + x)) := by
  intro j
  induction j with
  | zero =>
    intro g H hG h6 _ _ hg
    obtain ⟨g, rfl⟩ : ∃ n, g = n + 1 := ⟨g - 1, by omega⟩
    exact ⟨H, by rw [B_Row_commandSpawn_55, if_pos (by decide)], same.rf, h6, fun x y => by omega, fun x y => rfl⟩
  | succ j ih =>
    intro g H hG h6 k1 k2 hg
    obtain ⟨g, rfl⟩ : ∃ n, g = n + 1 := ⟨g - 1, by omega⟩
    have hG1 : Gr (H.sD 117 6 (nI (h + j))) := hG
    have hG2 : Gr ((H.sD 117 6 (nI (h + j))).sD 123 (7 + j) (H.D 119 (h + j))) := hG
    obtain ⟨H', a1, a2, a3, a4, a5⟩ := ih g _ hG2 (by rw [rdw (by decide), rds]) (by omega) (by omega) (by omega)
    refine ⟨H', ?_, (same.sD (same.sD same.rf (by omega)) (by omega)).tr a2, a3, fun x hx => ?_, fun x hx => ?_⟩
    · rw [B_Row_commandSpawn_55, if_neg (show ¬ nI (j + 1) - 1 < (0 : Int32) from by rw [nI_m]; exact nI_nlt (b := 0) (by omega) (by omega)), ck_t (rS_117 hG), rf_t (rP_117_10 hG), bC_t (ev_vpop (h := h + j) hG h6 (by omega)), ar_t (rA_117_10 hG1), show (7 : Int32) + (nI (j + 1) - 1) = nI (7 + j) from by rw [nI_m]; exact nI_ad 7 j, wrI (by omega) (by decide), nI_m0, a1]
    · by_cases q : x = j
      · subst q
        rw [a5 x (by omega), rds]
      · rw [a4 x (by omega), rdw (by decide), rdw (by decide)]
    · rw [a5 x (by omega), rdf (by omega), rdw (by decide)]
theorem sp_28 {pc n : Nat} (hp : p ≠ 117) (hn : n ≤ 4) (hpc : pc + n ≤ cs) : ∀ (r i g : Nat) (H : Hp), VS0 H p wo inp cs → i + r = n → r < g → H.D 117 12 = nI (pc + i) → ∃ H', B_Row_commandSpawn_28 N 117 g (nI n) (nI i) H = B_Row_commandSpawn_55 N 117 N (nI n - 1) H' ∧ same (fun a f => (a = 117 ∧ f = 12) ∨ (a = 123 ∧ 3 ≤ f ∧ f < 7)) H H' ∧ H'.D 117 12 = nI (pc + n) ∧ (∀ x, i ≤ x → x < n → H'.D 123 (3 + x) = H.D (p + 191) (pc + x)) ∧ (∀ x, x < i → H'.D 123 (3 + x) = H.D 123 (3 + x)) := by
  intro r
  induction r with
  | zero =>
    intro i g H h0 hi hg h12
    obtain ⟨g, rfl⟩ : ∃ n, g = n + 1 := ⟨g - 1, by omega⟩
    refine ⟨H, by rw [B_Row_commandSpawn_28, if_pos (nI_le (by omega) (by omega)), bnd_t], same.rf, by rw [h12, show i = n by omega], fun x y z => by omega, fun x y => rfl⟩
  | succ r ih =>
    intro i g H h0 hi hg h12
    obtain ⟨g, rfl⟩ : ∃ n, g = n + 1 := ⟨g - 1, by omega⟩
    have hG := h0.1
    have h1 := h0.pc (x := 12) (v := nI (pc + i + 1)) hp
    have h2 : VS0 ((H.sD 117 12 (nI (pc + i + 1))).sD 123 (3 + i) (H.D (p + 191) (pc + i))) p wo inp cs := h1.sm (R := fun a f => a = 123) (same.sD same.rf rfl) h0.p3
    obtain ⟨H', a1, a2, a3, a4, a5⟩ := ih (i + 1) g _ h2 (by omega) (by omega) (by rw [rdw (by decide), rds]; rfl)
    refine ⟨H', ?_, (same.sD (same.sD same.rf (by omega)) (by omega)).tr a2, a3, fun x y z => ?_, fun x y => ?_⟩
    · rw [B_Row_commandSpawn_28, if_neg (nI_ge (by omega) (by omega)), ck_t (rS_117 hG), rf_t (rP_117_10 hG), bC_t (ev_code h0 h12 (by omega) hp), ar_t (rA_117_10 h1.1), show (3 : Int32) + nI i = nI (3 + i) from nI_ad 3 i, wrI (by omega) (by decide), nI_1, a1]
    · by_cases q : x = i
      · subst q
        rw [a5 x (by omega), rds]
      · rw [a4 x (by omega) z, rdw h0.q3, rdw h0.q]
    · rw [a5 x (by omega), rdf (by omega), rdw (by decide)]
theorem op_20 {A : Hp} {pc h : Nat} {f n : Nat} (hcf : A.D (p + 191) (pc + 1) = nI f) (hcn : A.D (p + 191) (pc + 2) = nI n) (hn : n ≤ 4) (hN : 10 ≤ N) {la z K mk : Nat} (hL : LST A la z) (h1 : A.D 117 1 = nI K) (hK : 11 * K ≤ z) (hK2 : mk < 8 → K < 32768) (h15 : A.D 117 15 = nI mk) (hmk : mk ≤ 8) (h0 : VS0 A p wo inp cs) (hs : CS A pc (h + n)) (hpc : pc + 2 + n < cs) (hp : p ≠ 117) (hh : h + n ≤ 160) (hc : A.D (p + 191) pc = nI 20) : ∃ o, CMO N s pl A la z K mk (pc + 3 + n) h o ∧ o 0 = nI 20 ∧ o 1 = nI f ∧ o 2 = nI n ∧ (∀ x, x < n → o (3 + x) = A.D (p + 191) (pc + 3 + x)) ∧ (∀ x, x < n → o (7 + x) = A.D 119 (h + x)) := by
  have hG1 : Gr (A.sD 117 12 (nI (pc + 1))) := h0.1
  have hG2 : Gr ((A.sD 117 12 (nI (pc + 1))).sD 117 12 (nI (pc + 2))) := h0.1
  have hO : Gr ((A.sD 117 12 (nI (pc + 1))).sD 123 0 (nI 20)) := h0.1
  have hO1 : Gr (((A.sD 117 12 (nI (pc + 1))).sD 123 0 (nI 20)).sD 117 12 (nI (pc + 2))) := h0.1
  have hO3 : Gr (((((A.sD 117 12 (nI (pc + 1))).sD 123 0 (nI 20)).sD 117 12 (nI (pc + 2))).sD 123 1 (nI f)).sD 117 12 (nI (pc + 3))) := h0.1
  have q123 := h0.q3
  have hpq : ¬ (p = 117 ∨ p = 123) := fun y => y.elim hp (h0.p3)
  have ea := ev_o1 (N := N) (v := nI 20) h0 (show pc + 1 < cs by omega) hp
  have eb := ev_nc (N := N) (A := (((A.sD 117 12 (nI (pc + 1))).sD 123 0 (nI 20)).sD 117 12 (nI (pc + 2))).sD 123 1 (nI f)) (pc := pc + 2) (h0.sm (R := fun a f => a = 117 ∨ a = 123) (by repeat (first | exact same.rf | refine same.sD ?_ (by omega))) hpq) (by simp [sD_D, up2]) (by omega) hp
  rw [show ((((A.sD 117 12 (nI (pc + 1))).sD 123 0 (nI 20)).sD 117 12 (nI (pc + 2))).sD 123 1 (nI f)).D (p + 191) (pc + 2) = A.D (p + 191) (pc + 2) from by simp [sD_D, up2, h0.q, q123]] at eb
  have v4 : VS0 ((((((A.sD 117 12 (nI (pc + 1))).sD 123 0 (nI 20)).sD 117 12 (nI (pc + 2))).sD 123 1 (nI f)).sD 117 12 (nI (pc + 3))).sD 123 2 (nI n)) p wo inp cs := h0.sm (R := fun a f => a = 117 ∨ a = 123) (by repeat (first | exact same.rf | refine same.sD ?_ (by omega))) hpq
  obtain ⟨H1, a1, a2, a3, a4, a5⟩ := sp_28 (N := N) (pc := pc + 3) hp hn (by omega) n 0 N _ v4 (by omega) (by omega) (by simp [sD_D, up2])
  have hG1' := a2.gr v4.1
  obtain ⟨H2, b1, b2, b3, b4, b5⟩ := sp_55 (N := N) (h := h) n N H1 hG1' (by rw [a2.1 117 6 (by omega)]; simp [sD_D, up2]; exact hs.2.1) (by omega) hn (by omega)
  have hop : vOp N 20 (A.sD 117 12 (nI (pc + 1))) = B_Row_command_138 N 117 (nI 20) H2 := by
    rw [vOp2 (by decide) (by decide)]
    unfold F_Row_command
    rw [ck_t (rS_117 hG1), rf_t (rP_117_10 hG1), ar_t (rA_117_10 hG1), wrL0, if_pos (show nI 20 = (20 : Int32) from rfl)]
    unfold F_Row_commandSpawn F_Math_min
    have emin : (if nI n < (4 : Int32) then some (nI n, ((((A.sD 117 12 (nI (pc + 1))).sD 123 0 (nI 20)).sD 117 12 (nI (pc + 2))).sD 123 1 (nI f)).sD 117 12 (nI (pc + 3))) else some ((4 : Int32), ((((A.sD 117 12 (nI (pc + 1))).sD 123 0 (nI 20)).sD 117 12 (nI (pc + 2))).sD 123 1 (nI f)).sD 117 12 (nI (pc + 3)))) = some (nI n, ((((A.sD 117 12 (nI (pc + 1))).sD 123 0 (nI 20)).sD 117 12 (nI (pc + 2))).sD 123 1 (nI f)).sD 117 12 (nI (pc + 3))) := by
      by_cases q : n < 4
      · rw [if_pos (show nI n < (4 : Int32) from nI_lt (b := 4) q (by decide))]
      · have : n = 4 := by omega
        subst this
        rw [if_neg (by decide)]
        rfl
    rw [ck_t (rS_117 hO), rf_t (rP_117_10 hO), bC_t ea, hcf, ar_t (rA_117_10 hO1), wrL1, bC_t eb, hcn, emin, bC_v, rf_t (rP_117_10 hO3), ar_t (rA_117_10 hO3), wrL2, show (0 : Int32) = nI 0 from rfl, a1, b1, bC_v]
  have hs4 : same EXD (A.sD 117 12 (nI (pc + 1))) ((((((A.sD 117 12 (nI (pc + 1))).sD 123 0 (nI 20)).sD 117 12 (nI (pc + 2))).sD 123 1 (nI f)).sD 117 12 (nI (pc + 3))).sD 123 2 (nI n)) := by repeat (first | exact same.rf | refine same.sD ?_ (by unfold EXD; omega))
  have hsm : same EXD (A.sD 117 12 (nI (pc + 1))) H2 := (hs4.tr (a2.mono (fun a f y => by unfold EXD; omega))).tr (b2.mono (fun a f y => by unfold EXD; omega))
  have hsA : same EXD A H2 := (same.sD same.rf (by unfold EXD; omega)).tr hsm
  have lo : ∀ x, x < 3 → H2.D 123 x = ((((((A.sD 117 12 (nI (pc + 1))).sD 123 0 (nI 20)).sD 117 12 (nI (pc + 2))).sD 123 1 (nI f)).sD 117 12 (nI (pc + 3))).sD 123 2 (nI n)).D 123 x := fun x hx => by rw [b2.1 123 x (by omega), a2.1 123 x (by omega)]
  have h16 := hs.2.2
  refine ⟨_, ev_cmo h0 hs (by omega) hp hc (by decide) (by decide) hop hsA ⟨?_, b3, ?_⟩ hL h1 hK hK2 h15 hmk, ?_, ?_, ?_, fun x hx => ?_, fun x hx => ?_⟩
  · rw [b2.1 117 12 (by omega), a3]
  · rw [hsA.1 117 16 (by unfold EXD; omega)]
    exact h16
  · rw [lo 0 (by omega)]
    simp [sD_D, up2]
  · rw [lo 1 (by omega)]
    simp [sD_D, up2]
  · rw [lo 2 (by omega)]
    simp [sD_D, up2]
  · rw [b2.1 123 (3 + x) (by omega), a4 x (by omega) hx]
    simp [sD_D, up2, h0.q, q123]
  · rw [b4 x hx, a2.1 119 (h + x) (by omega)]
    simp [sD_D, up2]
theorem rdL1 {α : Type} {H : Hp} {K : Int32 → Option α} : ck (inb (1 : Int32) 11) (bnd (H.D 123 ((1 : Int32)).toNatClampNeg) K) = K (H.D 123 1) := rdI (i := 1) (by decide) (by decide)
theorem em_49 {h : Nat} : ∀ (j g : Nat) (H : Hp), Gr H → H.D 117 6 = nI (h + j) → h + j ≤ 160 → j ≤ 4 → j < g → ∃ H', B_Row_commandEmit_49 N 117 g (nI j - 1) H = (if H.D 123 2 < (1 : Int32) then some ((), H'.sD 117 16 8) else if H.D 123 2 ≤ (16 : Int32) then some ((), H') else some ((), H'.sD 117 16 8)) ∧ same (fun a f => (a = 117 ∧ f = 6) ∨ (a = 123 ∧ 4 ≤ f)) H H' ∧ H'.D 117 6 = nI h ∧ (∀ x, x < j → H'.D 123 (4 + x) = H.D 119 (h + x)) ∧ (∀ x, j ≤ x → H'.D 123 (4 + x) = H.D 123 (4 + x)) := by
  intro j
  have rd2 : ∀ {α : Type} {H : Hp} {K : Int32 → Option α}, ck (inb (2 : Int32) 11) (bnd (H.D 123 ((2 : Int32)).toNatClampNeg) K) = K (H.D 123 2) := fun {α H K} => rdI (i := 2) (by decide) (by decide)
  induction j with
  | zero =>
    intro g H hG h6 _ _ hg
    obtain ⟨g, rfl⟩ : ∃ n, g = n + 1 := ⟨g - 1, by omega⟩
    exact ⟨H, by rw [B_Row_commandEmit_49, if_pos (by decide), ck_t (rS_117 hG), rf_t (rP_117_10 hG), ar_t (rA_117_10 hG), rd2, bnd_t, rf_t (rP_117_10 hG), ar_t (rA_117_10 hG), rd2], same.rf, h6, fun x y => by omega, fun x y => rfl⟩
  | succ j ih =>
    intro g H hG h6 k1 k2 hg
    obtain ⟨g, rfl⟩ : ∃ n, g = n + 1 := ⟨g - 1, by omega⟩
    have hG1 : Gr (H.sD 117 6 (nI (h + j))) := hG
    have hG2 : Gr ((H.sD 117 6 (nI (h + j))).sD 123 (4 + j) (H.D 119 (h + j))) := hG
    obtain ⟨H', a1, a2, a3, a4, a5⟩ := ih g _ hG2 (by rw [rdw (by decide), rds]) (by omega) (by omega) (by omega)
    rw [show ((H.sD 117 6 (nI (h + j))).sD 123 (4 + j) (H.D 119 (h + j))).D 123 2 = H.D 123 2 from by rw [rdf (by omega), rdw (by decide)]] at a1
    refine ⟨H', ?_, (same.sD (same.sD same.rf (by omega)) (by omega)).tr a2, a3, fun x hx => ?_, fun x hx => ?_⟩
    · rw [B_Row_commandEmit_49, if_neg (show ¬ nI (j + 1) - 1 < (0 : Int32) from by rw [nI_m]; exact nI_nlt (b := 0) (by omega) (by omega)), ck_t (rS_117 hG), rf_t (rP_117_10 hG), bC_t (ev_vpop (h := h + j) hG h6 (by omega)), ar_t (rA_117_10 hG1), show (4 : Int32) + (nI (j + 1) - 1) = nI (4 + j) from by rw [nI_m]; exact nI_ad 4 j, wrI (by omega) (by decide), nI_m0, a1]
    · by_cases q : x = j
      · subst q
        rw [a5 x (by omega), rds]
      · rw [a4 x (by omega), rdw (by decide), rdw (by decide)]
    · rw [a5 x (by omega), rdf (by omega), rdw (by decide)]
theorem op_25 {A : Hp} {pc h : Nat} {e n x1 C : Nat} (hce : A.D (p + 191) (pc + 1) = nI e) (hn : n ≤ 4) (hN : 10 ≤ N) (he : e < C) (hC8 : C ≤ 8) (hC : A.D (p + 138) 3 = nI C) (he0 : A.D (p + 181) e = nI x1) (he1 : A.D (p + 181) (e + 1) = nI (x1 + n)) {la z K mk : Nat} (hL : LST A la z) (h1 : A.D 117 1 = nI K) (hK : 11 * K ≤ z) (hK2 : mk < 8 → K < 32768) (h15 : A.D 117 15 = nI mk) (hmk : mk ≤ 8) (h0 : VS0 A p wo inp cs) (hs : CS A pc (h + n + 2)) (hpc : pc + 1 < cs) (hp : p ≠ 117) (hh : h + n + 2 ≤ 160) (hc : A.D (p + 191) pc = nI 25) : ((¬ A.D 119 (h + n + 1) < (1 : Int32) ∧ A.D 119 (h + n + 1) ≤ (16 : Int32)) ∧ ∃ o, CMO N s pl A la z K mk (pc + 2) h o ∧ o 0 = nI 25 ∧ o 1 = nI e ∧ o 2 = A.D 119 (h + n + 1) ∧ o 3 = A.D 119 (h + n) ∧ (∀ x, x < n → o (4 + x) = A.D 119 (h + x))) ∨ (¬ (¬ A.D 119 (h + n + 1) < (1 : Int32) ∧ A.D 119 (h + n + 1) ≤ (16 : Int32)) ∧ ∃ A', VR N s pl 1 A A' ∧ same EXC A A' ∧ A'.D 117 16 = 8 ∧ A'.D 117 1 = nI K ∧ A'.D 117 15 = nI mk) := by
  have hG1 : Gr (A.sD 117 12 (nI (pc + 1))) := h0.1
  have hG2 : Gr ((A.sD 117 12 (nI (pc + 1))).sD 117 12 (nI (pc + 2))) := h0.1
  have hO : Gr ((A.sD 117 12 (nI (pc + 1))).sD 123 0 (nI 25)) := h0.1
  have hO1 : Gr (((A.sD 117 12 (nI (pc + 1))).sD 123 0 (nI 25)).sD 117 12 (nI (pc + 2))) := h0.1
  have hO2 : Gr ((((A.sD 117 12 (nI (pc + 1))).sD 123 0 (nI 25)).sD 117 12 (nI (pc + 2))).sD 123 1 (nI e)) := h0.1
  have hP1 : Gr (((((A.sD 117 12 (nI (pc + 1))).sD 123 0 (nI 25)).sD 117 12 (nI (pc + 2))).sD 123 1 (nI e)).sD 117 6 (nI (h + n + 1))) := h0.1
  have hP2 : Gr ((((((A.sD 117 12 (nI (pc + 1))).sD 123 0 (nI 25)).sD 117 12 (nI (pc + 2))).sD 123 1 (nI e)).sD 117 6 (nI (h + n + 1))).sD 123 2 (A.D 119 (h + n + 1))) := h0.1
  have hP3 : Gr (((((((A.sD 117 12 (nI (pc + 1))).sD 123 0 (nI 25)).sD 117 12 (nI (pc + 2))).sD 123 1 (nI e)).sD 117 6 (nI (h + n + 1))).sD 123 2 (A.D 119 (h + n + 1))).sD 117 6 (nI (h + n))) := h0.1
  have hP4 : Gr ((((((((A.sD 117 12 (nI (pc + 1))).sD 123 0 (nI 25)).sD 117 12 (nI (pc + 2))).sD 123 1 (nI e)).sD 117 6 (nI (h + n + 1))).sD 123 2 (A.D 119 (h + n + 1))).sD 117 6 (nI (h + n))).sD 123 3 (A.D 119 (h + n))) := h0.1
  have q123 := h0.q3
  have hpq : ¬ (p = 117 ∨ p = 123) := fun y => y.elim hp (h0.p3)
  have v4 : VS0 ((((((((A.sD 117 12 (nI (pc + 1))).sD 123 0 (nI 25)).sD 117 12 (nI (pc + 2))).sD 123 1 (nI e)).sD 117 6 (nI (h + n + 1))).sD 123 2 (A.D 119 (h + n + 1))).sD 117 6 (nI (h + n))).sD 123 3 (A.D 119 (h + n))) p wo inp cs := h0.sm (R := fun a f => a = 117 ∨ a = 123) (by repeat (first | exact same.rf | refine same.sD ?_ (by omega))) hpq
  have n138 : ¬ p + 138 = 117 ∧ ¬ p + 138 = 123 := ⟨fun y => by
    have k2 := rS_117 h0.1
    have k3 := PrA_3 h0.2.1
    rw [y, k2] at k3
    exact absurd (congrArg Prod.fst (Option.some.inj k3)) (by decide), fun y => by
    have k2 := rA_117_10 h0.1
    have k3 := PrA_3 h0.2.1
    rw [y, k2] at k3
    exact absurd (congrArg Prod.fst (Option.some.inj k3)) (by decide)⟩
  have n181 : ¬ p + 181 = 117 ∧ ¬ p + 181 = 123 := ⟨fun y => by
    have k2 := rS_117 h0.1
    have k3 := PeA_2 h0.2.1
    rw [y, k2] at k3
    exact absurd (congrArg Prod.fst (Option.some.inj k3)) (by decide), fun y => by
    have k2 := rA_117_10 h0.1
    have k3 := PeA_2 h0.2.1
    rw [y, k2] at k3
    exact absurd (congrArg Prod.snd (Option.some.inj k3)) (by decide)⟩
  have ea := ev_o1 (N := N) (v := nI 25) h0 (show pc + 1 < cs by omega) hp
  have esz : F_Shapes_sizeOf N (p + 138) (nI e) ((((((((A.sD 117 12 (nI (pc + 1))).sD 123 0 (nI 25)).sD 117 12 (nI (pc + 2))).sD 123 1 (nI e)).sD 117 6 (nI (h + n + 1))).sD 123 2 (A.D 119 (h + n + 1))).sD 117 6 (nI (h + n))).sD 123 3 (A.D 119 (h + n))) = some (nI n, (((((((A.sD 117 12 (nI (pc + 1))).sD 123 0 (nI 25)).sD 117 12 (nI (pc + 2))).sD 123 1 (nI e)).sD 117 6 (nI (h + n + 1))).sD 123 2 (A.D 119 (h + n + 1))).sD 117 6 (nI (h + n))).sD 123 3 (A.D 119 (h + n))) := by
    unfold F_Shapes_sizeOf
    rw [if_neg (show ¬ nI e < (0 : Int32) from nI_nlt (b := 0) (by omega) (by omega)), ck_t (PrA_3 v4.2.1), bnd_t, show ((((((((A.sD 117 12 (nI (pc + 1))).sD 123 0 (nI 25)).sD 117 12 (nI (pc + 2))).sD 123 1 (nI e)).sD 117 6 (nI (h + n + 1))).sD 123 2 (A.D 119 (h + n + 1))).sD 117 6 (nI (h + n))).sD 123 3 (A.D 119 (h + n))).D (p + 138) 3 = A.D (p + 138) 3 from by simp [sD_D, up2, n138.1, n138.2], hC, if_pos (nI_lt he (by omega)), rf_t (PeP_2 v4.2.1), ar_t (PeA_2 v4.2.1), nI_1, rdI (by omega) (by decide), rf_t (PeP_2 v4.2.1), ar_t (PeA_2 v4.2.1), rdI (by omega) (by decide), show ((((((((A.sD 117 12 (nI (pc + 1))).sD 123 0 (nI 25)).sD 117 12 (nI (pc + 2))).sD 123 1 (nI e)).sD 117 6 (nI (h + n + 1))).sD 123 2 (A.D 119 (h + n + 1))).sD 117 6 (nI (h + n))).sD 123 3 (A.D 119 (h + n))).D (p + 181) (e + 1) = A.D (p + 181) (e + 1) from by simp [sD_D, up2, n181.1, n181.2], show ((((((((A.sD 117 12 (nI (pc + 1))).sD 123 0 (nI 25)).sD 117 12 (nI (pc + 2))).sD 123 1 (nI e)).sD 117 6 (nI (h + n + 1))).sD 123 2 (A.D 119 (h + n + 1))).sD 117 6 (nI (h + n))).sD 123 3 (A.D 119 (h + n))).D (p + 181) e = A.D (p + 181) e from by simp [sD_D, up2, n181.1, n181.2], he0, he1, nI_dif (by omega), show x1 + n - x1 = n by omega]
  obtain ⟨H2, b1, b2, b3, b4, b5⟩ := em_49 (N := N) (h := h) n N _ hP4 (by simp [sD_D, up2]) (by omega) hn (by omega)
  rw [show ((((((((A.sD 117 12 (nI (pc + 1))).sD 123 0 (nI 25)).sD 117 12 (nI (pc + 2))).sD 123 1 (nI e)).sD 117 6 (nI (h + n + 1))).sD 123 2 (A.D 119 (h + n + 1))).sD 117 6 (nI (h + n))).sD 123 3 (A.D 119 (h + n))).D 123 2 = A.D 119 (h + n + 1) from by simp [sD_D, up2]] at b1
  have hop : vOp N 25 (A.sD 117 12 (nI (pc + 1))) = bC (if A.D 119 (h + n + 1) < (1 : Int32) then some ((), H2.sD 117 16 8) else if A.D 119 (h + n + 1) ≤ (16 : Int32) then some ((), H2) else some ((), H2.sD 117 16 8)) fun _ H => B_Row_command_138 N 117 (nI 25) H := by
    rw [vOp2 (by decide) (by decide)]
    unfold F_Row_command
    rw [ck_t (rS_117 hG1), rf_t (rP_117_10 hG1), ar_t (rA_117_10 hG1), wrL0, if_neg (show ¬ nI 25 = (20 : Int32) by decide), if_neg (show ¬ nI 25 = (22 : Int32) by decide), if_neg (show ¬ nI 25 = (23 : Int32) by decide), if_neg (show ¬ nI 25 = (24 : Int32) by decide), if_pos (show nI 25 = (25 : Int32) by decide)]
    unfold F_Row_commandEmit
    rw [ck_t (rS_117 hO), rf_t (rP_117_10 hO), bC_t ea, hce, ar_t (rA_117_10 hO1), wrL1, rf_t (rP_117_10 hO2), bC_t (ev_vpop (h := h + n + 1) hO2 (by simp [sD_D, up2]; exact hs.2.1) (by omega)), show ((((A.sD 117 12 (nI (pc + 1))).sD 123 0 (nI 25)).sD 117 12 (nI (pc + 2))).sD 123 1 (nI e)).D 119 (h + n + 1) = A.D 119 (h + n + 1) from by simp [sD_D, up2], ar_t (rA_117_10 hP1), wrL2, rf_t (rP_117_10 hP2), bC_t (ev_vpop (h := h + n) hP2 (by simp [sD_D, up2]) (by omega)), show ((((((A.sD 117 12 (nI (pc + 1))).sD 123 0 (nI 25)).sD 117 12 (nI (pc + 2))).sD 123 1 (nI e)).sD 117 6 (nI (h + n + 1))).sD 123 2 (A.D 119 (h + n + 1))).D 119 (h + n) = A.D 119 (h + n) from by simp [sD_D, up2], ar_t (rA_117_10 hP3), wrL3, rf_t v4.2.2.2.1, ck_t (PrS v4.2.1), rf_t (PrP_3 v4.2.1), rf_t (rP_117_10 hP4), ar_t (rA_117_10 hP4), rdL1, show ((((((((A.sD 117 12 (nI (pc + 1))).sD 123 0 (nI 25)).sD 117 12 (nI (pc + 2))).sD 123 1 (nI e)).sD 117 6 (nI (h + n + 1))).sD 123 2 (A.D 119 (h + n + 1))).sD 117 6 (nI (h + n))).sD 123 3 (A.D 119 (h + n))).D 123 1 = nI e from by simp [sD_D, up2], ck_t (PrA_3 v4.2.1), bC_t esz, bnd_t, b1]
  have hs4 : same EXD (A.sD 117 12 (nI (pc + 1))) ((((((((A.sD 117 12 (nI (pc + 1))).sD 123 0 (nI 25)).sD 117 12 (nI (pc + 2))).sD 123 1 (nI e)).sD 117 6 (nI (h + n + 1))).sD 123 2 (A.D 119 (h + n + 1))).sD 117 6 (nI (h + n))).sD 123 3 (A.D 119 (h + n))) := by repeat (first | exact same.rf | refine same.sD ?_ (by unfold EXD; omega))
  have hsm : same EXD (A.sD 117 12 (nI (pc + 1))) H2 := hs4.tr (b2.mono (fun a f y => by unfold EXD; omega))
  have hsA : same EXD A H2 := (same.sD same.rf (by unfold EXD; omega)).tr hsm
  have lo : ∀ x, x < 4 → H2.D 123 x = ((((((((A.sD 117 12 (nI (pc + 1))).sD 123 0 (nI 25)).sD 117 12 (nI (pc + 2))).sD 123 1 (nI e)).sD 117 6 (nI (h + n + 1))).sD 123 2 (A.D 119 (h + n + 1))).sD 117 6 (nI (h + n))).sD 123 3 (A.D 119 (h + n))).D 123 x := fun x hx => by rw [b2.1 123 x (by omega)]
  have h16 := hs.2.2
  have c16 : H2.D 117 16 = 0 := by
    rw [hsA.1 117 16 (by unfold EXD; omega)]
    exact h16
  have bad : vOp N 25 (A.sD 117 12 (nI (pc + 1))) = B_Row_command_138 N 117 (nI 25) (H2.sD 117 16 8) → ∃ A', VR N s pl 1 A A' ∧ same EXC A A' ∧ A'.D 117 16 = 8 ∧ A'.D 117 1 = nI K ∧ A'.D 117 15 = nI mk := fun y => by
    have hG2' : Gr (H2.sD 117 16 8) := hsA.gr h0.1
    have e : B_Row_command_138 N 117 (nI 25) (H2.sD 117 16 8) = some ((), H2.sD 117 16 8) := by
      unfold B_Row_command_138
      rw [ck_t (rS_117 hG2'), bnd_t, rds, if_neg (by decide)]
    exact ⟨_, VR.one h0 hs.1 (by omega) hp hs.2.2 hc (by decide) (by decide) (y.trans e) hG2', same.sD (hsA.mono (fun a f y => by unfold EXD at y; unfold EXC; omega)) (by unfold EXC; omega), rds, by rw [rdf (by decide), hsA.1 117 1 (by unfold EXD; omega)]; exact h1, by rw [rdf (by decide), hsA.1 117 15 (by unfold EXD; omega)]; exact h15⟩
  by_cases q1 : A.D 119 (h + n + 1) < (1 : Int32)
  · rw [if_pos q1, bC_v] at hop
    exact .inr ⟨fun y => y.1 q1, bad hop⟩
  · rw [if_neg q1] at hop
    by_cases q2 : A.D 119 (h + n + 1) ≤ (16 : Int32)
    · rw [if_pos q2, bC_v] at hop
      refine .inl ⟨⟨q1, q2⟩, _, ev_cmo h0 hs (by omega) hp hc (by decide) (by decide) hop hsA ⟨?_, b3, c16⟩ hL h1 hK hK2 h15 hmk, ?_, ?_, ?_, ?_, fun x hx => ?_⟩
      · rw [b2.1 117 12 (by omega)]
        simp [sD_D, up2]
      · rw [lo 0 (by omega)]
        simp [sD_D, up2]
      · rw [lo 1 (by omega)]
        simp [sD_D, up2]
      · rw [lo 2 (by omega)]
        simp [sD_D, up2]
      · rw [lo 3 (by omega)]
        simp [sD_D, up2]
      · rw [b4 x hx]
        simp [sD_D, up2]
    · rw [if_neg q2, bC_v] at hop
      exact .inr ⟨fun y => q2 y.2, bad hop⟩
end Par
