/-! ===== a row's machine: its code, its stack, its turns ===== -/
/-- what stays while a row runs -/
def VS0 (A : Hp) (p wo inp cs : Nat) : Prop := Gr A ∧ isP A p ∧ isW A wo ∧ A.P 117 2 = .ref p ∧ A.P 117 3 = .ref wo ∧ A.P 117 4 = .ref inp ∧ A.sh[inp]? = some (100, 4) ∧ A.D p 17 = nI cs ∧ cs ≤ 12000
theorem VS0.sm {R : Nat → Nat → Prop} {A A' : Hp} {p wo inp cs : Nat} (h : VS0 A p wo inp cs) (hs : same R A A') (hp : ¬ R p 17) : VS0 A' p wo inp cs := by
  obtain ⟨h1, h2, h3, h4, h5, h6, h7, h8, h9⟩ := h
  obtain ⟨s1, s2, s3, s4, s5⟩ := hs
  refine ⟨same.gr ⟨s1, s2, s3, s4, s5⟩ h1, ?_, ?_, by rw [s2]; exact h4, by rw [s2]; exact h5, by rw [s2]; exact h6, by rw [s4]; exact h7, by rw [s1 _ _ hp]; exact h8, h9⟩
  · unfold isP at h2 ⊢
    rw [s2, s4]; exact h2
  · unfold isW at h3 ⊢
    rw [s2, s4]; exact h3
section Par
variable {N p wo inp cs : Nat} {s pl : Int32}
theorem ev_code {A : Hp} {pc : Nat} (h : VS0 A p wo inp cs) (h12 : A.D 117 12 = nI pc) (hpc : pc < cs) (hp : p ≠ 117) : F_Row_nextCode N 117 A = some (A.D (p + 191) pc, A.sD 117 12 (nI (pc + 1))) := by
  obtain ⟨hG, hP, hW, k1, k2, k3, k4, k5, k6⟩ := h
  have hq : p + 191 ≠ 117 := by omega
  unfold F_Row_nextCode
  rw [ck_t (rS_117 hG), bnd_t, h12, bnd_t, nI_1, bnd_t, if_neg (nI_pos (by omega)), sD_P, rf_t k1, ck_t (show (A.sD 117 12 (nI (pc + 1))).sh[p]? = some (4, 0) from (PrS hP : A.sh[p]? = some (4, 0))), bnd_t, rdw hp, k5, if_neg (show ¬ nI cs ≤ nI pc from nI_ge hpc (by omega)), rf_t k1, ck_t (show (A.sD 117 12 (nI (pc + 1))).sh[p]? = some (4, 0) from (PrS hP : A.sh[p]? = some (4, 0))), rf_t (PrP_16 hP), ar_sD, ar_t (PrA_16 hP), rdI (show pc < 12000 by omega) (by decide), rdw hq]
def psA (A : Hp) (h : Nat) (v : Int32) : Hp := (A.sD 119 h v).sD 117 6 (nI (h + 1))
theorem ev_vpush {A : Hp} {h : Nat} {v : Int32} (hG : Gr A) (h6 : A.D 117 6 = nI h) (hh : h < 160) : F_Row_push N 117 v A = some ((), psA A h v) := by
  unfold F_Row_push
  rw [ck_t (rS_117 hG), bnd_t, h6, rf_t (rP_117_5 hG), ar_t (rA_117_5 hG), show Int32.ofNat 160 = nI 160 from rfl, if_neg (show ¬ nI 160 ≤ nI h from nI_ge hh (by decide)), rf_t (rP_117_5 hG), bnd_t, ar_t (rA_117_5 hG), wrI hh (by decide), bnd_t, rdw (by decide), h6, nI_1, bnd_t]
  rfl
theorem ev_vpop {A : Hp} {h : Nat} (hG : Gr A) (h6 : A.D 117 6 = nI (h + 1)) (hh : h < 160) : F_Row_pop N 117 A = some (A.D 119 h, A.sD 117 6 (nI h)) := by
  unfold F_Row_pop
  rw [ck_t (rS_117 hG), bnd_t, h6, if_neg (show ¬ nI (h + 1) ≤ (0 : Int32) from nI_ge (a := 0) (b := h + 1) (by omega) (by omega)), bnd_t, nI_m, bnd_t, sD_P, rf_t (rP_117_5 hG), bnd_t, rds, ar_sD, ar_t (rA_117_5 hG), rdI hh (by decide), rdw (by decide)]
/-- the machine from a fetch on -/
def Lp (N : Nat) (s pl : Int32) (fu t : Nat) (A : Hp) : Option (Unit × Hp) := bC (F_Row_nextCode N 117 A) fun op H => B_Row_runRow_93 N 117 s pl fu op (nI t) H
/-- what an operation does -/
def vOp (N c : Nat) (H : Hp) : Option (Unit × Hp) := if c < 20 then F_Row_control N 117 (nI c) H else if c < 30 then F_Row_command N 117 (nI c) H else if c < 50 then F_Row_value N 117 (nI c) H else if c < 70 then F_Row_ints N 117 (nI c) H else F_Row_fixes N 117 (nI c) H
theorem vm_turn {A : Hp} {pc c fu t : Nat} (h : VS0 A p wo inp cs) (h12 : A.D 117 12 = nI pc) (hpc : pc < cs) (hp : p ≠ 117) (h16 : A.D 117 16 = 0) (hc : A.D (p + 191) pc = nI c) (h1 : 1 ≤ c) (h2 : c < 100) (ht : t < 4000000) (hop : ∀ v H, vOp N c (A.sD 117 12 (nI (pc + 1))) = some (v, H) → Gr H) : Lp N s pl (fu + 1) t A = bC (vOp N c (A.sD 117 12 (nI (pc + 1)))) fun _ H => Lp N s pl fu (t + 1) H := by
  have hG := h.1
  have hG1 : Gr (A.sD 117 12 (nI (pc + 1))) := hG
  have tail : ∀ H, Gr H → B_Row_runRow_172 N 117 s pl (fun l3 l4 H => B_Row_runRow_93 N 117 s pl fu l3 l4 H) (nI t) H = Lp N s pl fu (t + 1) H := by
    intro H hH
    unfold B_Row_runRow_172 Lp
    rw [ck_t (rS_117 hH), nI_1]
  have fin : ∀ X : Option (Unit × Hp), (∀ v H, X = some (v, H) → Gr H) → (bC X fun v H => B_Row_runRow_172 N 117 s pl (fun l3 l4 H => B_Row_runRow_93 N 117 s pl fu l3 l4 H) (nI t) H) = bC X fun _ H => Lp N s pl fu (t + 1) H := by
    intro X hX
    cases X with
    | none => rfl
    | some q => exact tail q.2 (hX q.1 q.2 rfl)
  have le : ∀ b : Nat, b ≤ 100 → ((nI b ≤ nI c) = (b ≤ c)) := fun b hb => propext ⟨fun z => Decidable.byContradiction fun y => nI_ge (a := c) (b := b) (by omega) (by omega) z, fun z => nI_le z (by omega)⟩
  have e0 : Lp N s pl (fu + 1) t A = B_Row_runRow_93 N 117 s pl (fu + 1) (nI c) (nI t) (A.sD 117 12 (nI (pc + 1))) := by
    unfold Lp
    rw [bC_t (ev_code h h12 hpc hp), hc]
  rw [e0, B_Row_runRow_93, if_neg (show ¬ (4000000 : Int32) ≤ nI t from nI_ge (b := 4000000) ht (by decide)), if_neg (show ¬ nI c = (0 : Int32) from fun z => by have := (nI_eq (b := 0) (by omega) (by decide)).mp z; omega), ck_t (rS_117 hG1), bnd_t, rdf (by decide), h16, if_pos (show (0 : Int32) = 0 from rfl), show (20 : Int32) = nI 20 from rfl, show (30 : Int32) = nI 30 from rfl, show (50 : Int32) = nI 50 from rfl, show (70 : Int32) = nI 70 from rfl]
  simp only [le 20 (by decide), le 30 (by decide), le 50 (by decide), le 70 (by decide)]
  unfold vOp at hop ⊢
  by_cases q20 : c < 20
  · rw [if_pos q20] at hop ⊢
    rw [if_neg (show ¬ 20 ≤ c by omega)]
    exact fin _ hop
  rw [if_neg q20] at hop ⊢
  rw [if_pos (show 20 ≤ c by omega)]
  by_cases q30 : c < 30
  · rw [if_pos q30] at hop ⊢
    rw [if_neg (show ¬ 30 ≤ c by omega)]
    exact fin _ hop
  rw [if_neg q30] at hop ⊢
  rw [if_pos (show 30 ≤ c by omega)]
  by_cases q50 : c < 50
  · rw [if_pos q50] at hop ⊢
    rw [if_neg (show ¬ 50 ≤ c by omega)]
    exact fin _ hop
  rw [if_neg q50] at hop ⊢
  rw [if_pos (show 50 ≤ c by omega)]
  by_cases q70 : c < 70
  · rw [if_pos q70] at hop ⊢
    rw [if_neg (show ¬ 70 ≤ c by omega)]
    exact fin _ hop
  · rw [if_neg q70] at hop ⊢
    rw [if_pos (show 70 ≤ c by omega)]
    exact fin _ hop
/-- k turns lead from A to A2 -/
def VR (N : Nat) (s pl : Int32) (k : Nat) (A A2 : Hp) : Prop := ∀ fu t, t + k ≤ 4000000 → Lp N s pl (fu + k) t A = Lp N s pl fu (t + k) A2
theorem VR.rf {A : Hp} : VR N s pl 0 A A := fun fu t _ => rfl
theorem VR.tr {k m : Nat} {A A2 A3 : Hp} (h : VR N s pl k A A2) (h2 : VR N s pl m A2 A3) : VR N s pl (k + m) A A3 := fun fu t ht => by
  have := h (fu + m) t (by omega)
  rw [show fu + (k + m) = fu + m + k by omega, this, h2 fu (t + k) (by omega), Nat.add_assoc]
theorem VR.one {A A2 : Hp} {pc c : Nat} {v : Unit} (h : VS0 A p wo inp cs) (h12 : A.D 117 12 = nI pc) (hpc : pc < cs) (hp : p ≠ 117) (h16 : A.D 117 16 = 0) (hc : A.D (p + 191) pc = nI c) (h1 : 1 ≤ c) (h2 : c < 100) (hop : vOp N c (A.sD 117 12 (nI (pc + 1))) = some (v, A2)) (hG2 : Gr A2) : VR N s pl 1 A A2 := fun fu t ht => by
  rw [vm_turn h h12 hpc hp h16 hc h1 h2 (by omega) (fun v H z => by rw [hop] at z; have := congrArg Prod.snd (Option.some.inj z); exact (show A2 = H from this) ▸ hG2), hop, bC_v]
end Par
