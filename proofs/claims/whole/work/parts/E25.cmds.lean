/-! ===== the class's commands ===== -/
def EXC (a f : Nat) : Prop := (a = 117 ∧ (f = 1 ∨ f = 6 ∨ f = 12 ∨ f = 15 ∨ f = 16)) ∨ a = 123
def EXD (a f : Nat) : Prop := (a = 117 ∧ (f = 6 ∨ f = 12)) ∨ a = 123
/-- one command more, or too many -/
def CMO (N : Nat) (s pl : Int32) (A : Hp) (la z K mk pc2 h : Nat) (o : Nat → Int32) : Prop := (mk < 8 ∧ ∃ A' la' z', VR N s pl 1 A A' ∧ exS EXC A la z A' la' z' ∧ CS A' pc2 h ∧ A'.D 117 1 = nI (K + 1) ∧ A'.D 117 15 = nI (mk + 1) ∧ 11 * (K + 1) ≤ z' ∧ (∀ x, x < 11 → A'.D la' (11 * K + x) = o x) ∧ (∀ y, y < 11 * K → A'.D la' y = A.D la y)) ∨ (mk = 8 ∧ ∃ A', VR N s pl 1 A A' ∧ same EXC A A' ∧ A'.D 117 16 = 6 ∧ A'.D 117 1 = nI K ∧ A'.D 117 15 = nI mk)
section Par
variable {N p wo inp cs : Nat} {s pl : Int32}
theorem ev_cmo {A H : Hp} {pc h h2 c pc2 la z K mk : Nat} (h0 : VS0 A p wo inp cs) (hs : CS A pc h2) (hpc : pc < cs) (hp : p ≠ 117) (hc : A.D (p + 191) pc = nI c) (c1 : 1 ≤ c) (c2 : c < 100) (hop : vOp N c (A.sD 117 12 (nI (pc + 1))) = B_Row_command_138 N 117 (nI c) H) (hH : same EXD A H) (hcs : CS H pc2 h) (hL : LST A la z) (h1 : A.D 117 1 = nI K) (hK : 11 * K ≤ z) (hK2 : mk < 8 → K < 32768) (h15 : A.D 117 15 = nI mk) (hmk : mk ≤ 8) : CMO N s pl A la z K mk pc2 h (H.D 123) := by
  have hG := hH.gr h0.1
  have e1 : H.D 117 1 = nI K := by rw [hH.1 117 1 (by unfold EXD; omega)]; exact h1
  have e15 : H.D 117 15 = nI mk := by rw [hH.1 117 15 (by unfold EXD; omega)]; exact h15
  have ex := hH.exS hL
  have hla : la ≠ 117 ∧ la ≠ 123 := by have := hL.2.2.1; omega
  have hb : B_Row_command_138 N 117 (nI c) H = F_Row_listCommand N 117 H := by
    unfold B_Row_command_138
    rw [ck_t (rS_117 hG), bnd_t, hcs.2.2, if_pos rfl, bC_eta]
  by_cases q : mk < 8
  · obtain ⟨A', la', z', a1, a2, a3, a4, a5, a6, a7⟩ := ev_list (N := N) hG ex.1 e1 hK (hK2 q) e15 q
    have ex2 : exS EXC A la z A' la' z' := (ex.mono (S := EXC) (fun a f y => by unfold EXD at y; unfold EXC; omega)).tr (a2.mono (fun a f y => by unfold EXC; omega))
    have hl : 626 ≤ H.sh.length := hG.len
    have k : ∀ f, f ≠ 1 → f ≠ 15 → A'.D 117 f = H.D 117 f := fun f f1 f2 => a2.2.2.1 117 f (by omega) (fun y => by omega) (fun y => hla.1 y.symm)
    refine .inl ⟨q, A', la', z', VR.one h0 hs.1 hpc hp hs.2.2 hc c1 c2 (hop.trans (hb.trans a1)) (ex2.gr h0.1), ex2, ⟨by rw [k 12 (by decide) (by decide)]; exact hcs.1, by rw [k 6 (by decide) (by decide)]; exact hcs.2.1, by rw [k 16 (by decide) (by decide)]; exact hcs.2.2⟩, a3, a4, a5, a6, fun y hy => ?_⟩
    rw [a7 y hy, hH.1 la y (by unfold EXD; omega)]
  · have hm : mk = 8 := by omega
    subst hm
    refine .inr ⟨rfl, H.sD 117 16 6, VR.one (v := ()) h0 hs.1 hpc hp hs.2.2 hc c1 c2 (hop.trans (hb.trans ?_)) hG, same.sD (hH.mono (fun a f y => by unfold EXD at y; unfold EXC; omega)) (by unfold EXC; omega), rds, by rw [rdf (by decide)]; exact e1, by rw [rdf (by decide)]; exact e15⟩
    unfold F_Row_listCommand
    rw [ck_t (rS_117 hG), bnd_t, e15, if_neg (by decide), bnd_t]
theorem wrL0 {α : Type} {H : Hp} {a : Nat} {v : Int32} {K : Hp → Option α} : ck (inb (0 : Int32) 11) (bnd (H.sD a ((0 : Int32)).toNatClampNeg v) K) = K (H.sD a 0 v) := wrI (i := 0) (by decide) (by decide)
theorem wrL1 {α : Type} {H : Hp} {a : Nat} {v : Int32} {K : Hp → Option α} : ck (inb (1 : Int32) 11) (bnd (H.sD a ((1 : Int32)).toNatClampNeg v) K) = K (H.sD a 1 v) := wrI (i := 1) (by decide) (by decide)
theorem wrL2 {α : Type} {H : Hp} {a : Nat} {v : Int32} {K : Hp → Option α} : ck (inb (2 : Int32) 11) (bnd (H.sD a ((2 : Int32)).toNatClampNeg v) K) = K (H.sD a 2 v) := wrI (i := 2) (by decide) (by decide)
theorem wrL3 {α : Type} {H : Hp} {a : Nat} {v : Int32} {K : Hp → Option α} : ck (inb (3 : Int32) 11) (bnd (H.sD a ((3 : Int32)).toNatClampNeg v) K) = K (H.sD a 3 v) := wrI (i := 3) (by decide) (by decide)
theorem wrL4 {α : Type} {H : Hp} {a : Nat} {v : Int32} {K : Hp → Option α} : ck (inb (4 : Int32) 11) (bnd (H.sD a ((4 : Int32)).toNatClampNeg v) K) = K (H.sD a 4 v) := wrI (i := 4) (by decide) (by decide)
theorem VS0.q3 {A : Hp} (h : VS0 A p wo inp cs) : p + 191 ≠ 123 := fun z => by
  have h2 := rA_117_10 h.1
  have h3 := PrA_16 h.2.1
  rw [z, h2] at h3
  exact absurd (congrArg Prod.snd (Option.some.inj h3)) (by decide)
theorem VS0.p3 {A : Hp} (h : VS0 A p wo inp cs) : p ≠ 123 := fun z => by
  have h2 := rA_117_10 h.1
  have h3 := PrS h.2.1
  rw [z, h2] at h3
  exact absurd (congrArg Prod.fst (Option.some.inj h3)) (by decide)
theorem ev_nc {A : Hp} {pc : Nat} (h : VS0 A p wo inp cs) (h12 : A.D 117 12 = nI pc) (hpc : pc < cs) (hp : p ≠ 117) : F_Row_nextCode N 117 A = some (A.D (p + 191) pc, A.sD 117 12 (nI (pc + 1))) := ev_code h h12 hpc hp
theorem ev_o1 {A : Hp} {pc : Nat} {v : Int32} (h0 : VS0 A p wo inp cs) (hpc : pc + 1 < cs) (hp : p ≠ 117) : F_Row_nextCode N 117 ((A.sD 117 12 (nI (pc + 1))).sD 123 0 v) = some (A.D (p + 191) (pc + 1), ((A.sD 117 12 (nI (pc + 1))).sD 123 0 v).sD 117 12 (nI (pc + 2))) := by
  have q := h0.q
  have q3 := h0.q3
  have e := ev_nc (N := N) (A := (A.sD 117 12 (nI (pc + 1))).sD 123 0 v) (pc := pc + 1) (h0.sm (R := fun a f => a = 117 ∨ a = 123) (by repeat (first | exact same.rf | refine same.sD ?_ (by omega))) (fun y => y.elim hp h0.p3)) (by simp [sD_D, up2]) hpc hp
  rw [rdw q3, rdw q] at e
  exact e
theorem op_21 {A : Hp} {pc h : Nat}  {la z K mk : Nat} (hL : LST A la z) (h1 : A.D 117 1 = nI K) (hK : 11 * K ≤ z) (hK2 : mk < 8 → K < 32768) (h15 : A.D 117 15 = nI mk) (hmk : mk ≤ 8) (h0 : VS0 A p wo inp cs) (hs : CS A pc (h + 1)) (hpc : pc < cs) (hp : p ≠ 117) (hh : h < 160) (hc : A.D (p + 191) pc = nI 21) : ∃ o, CMO N s pl A la z K mk (pc + 1) h o ∧ o 0 = nI 21 ∧ o 1 = A.D 119 h := by
  have hG1 : Gr (A.sD 117 12 (nI (pc + 1))) := h0.1
  have hG2 : Gr ((A.sD 117 12 (nI (pc + 1))).sD 117 12 (nI (pc + 2))) := h0.1
  have hO : Gr ((A.sD 117 12 (nI (pc + 1))).sD 123 0 (nI 21)) := h0.1
  have hP : Gr (((A.sD 117 12 (nI (pc + 1))).sD 123 0 (nI 21)).sD 117 6 (nI h)) := h0.1
  have hop : vOp N 21 (A.sD 117 12 (nI (pc + 1))) = B_Row_command_138 N 117 (nI 21) ((((A.sD 117 12 (nI (pc + 1))).sD 123 0 (nI 21)).sD 117 6 (nI h)).sD 123 1 (A.D 119 h)) := by
    rw [vOp2 (by decide) (by decide)]
    unfold F_Row_command
    rw [ck_t (rS_117 hG1), rf_t (rP_117_10 hG1), ar_t (rA_117_10 hG1), wrL0]
    rw [if_neg (show ¬ nI 21 = (20 : Int32) by decide), if_neg (show ¬ nI 21 = (22 : Int32) by decide), if_neg (show ¬ nI 21 = (23 : Int32) by decide), if_neg (show ¬ nI 21 = (24 : Int32) by decide), if_neg (show ¬ nI 21 = (25 : Int32) by decide), rf_t (rP_117_10 hO), bC_t (ev_vpop (h := h) hO (by rw [rdw (by decide), rdf (by decide)]; exact hs.2.1) hh), rdw (show (119 : Nat) ≠ 123 by decide), rdw (show (119 : Nat) ≠ 117 by decide), ar_t (rA_117_10 hP), wrL1]
  have h16 := hs.2.2
  have h6 := hs.2.1
  refine ⟨_, ev_cmo h0 hs (by omega) hp hc (by decide) (by decide) hop (by repeat (first | exact same.rf | refine same.sD ?_ (by unfold EXD; omega))) ⟨by simp [sD_D, up2], by simp [sD_D, up2], by simp [sD_D, up2, h16]⟩ hL h1 hK hK2 h15 hmk, by simp [sD_D, up2], by simp [sD_D, up2]⟩
theorem op_26 {A : Hp} {pc h : Nat}  {la z K mk : Nat} (hL : LST A la z) (h1 : A.D 117 1 = nI K) (hK : 11 * K ≤ z) (hK2 : mk < 8 → K < 32768) (h15 : A.D 117 15 = nI mk) (hmk : mk ≤ 8) (h0 : VS0 A p wo inp cs) (hs : CS A pc (h + 1)) (hpc : pc < cs) (hp : p ≠ 117) (hh : h < 160) (hc : A.D (p + 191) pc = nI 26) : ∃ o, CMO N s pl A la z K mk (pc + 1) h o ∧ o 0 = nI 26 ∧ o 1 = A.D 119 h := by
  have hG1 : Gr (A.sD 117 12 (nI (pc + 1))) := h0.1
  have hG2 : Gr ((A.sD 117 12 (nI (pc + 1))).sD 117 12 (nI (pc + 2))) := h0.1
  have hO : Gr ((A.sD 117 12 (nI (pc + 1))).sD 123 0 (nI 26)) := h0.1
  have hP : Gr (((A.sD 117 12 (nI (pc + 1))).sD 123 0 (nI 26)).sD 117 6 (nI h)) := h0.1
  have hop : vOp N 26 (A.sD 117 12 (nI (pc + 1))) = B_Row_command_138 N 117 (nI 26) ((((A.sD 117 12 (nI (pc + 1))).sD 123 0 (nI 26)).sD 117 6 (nI h)).sD 123 1 (A.D 119 h)) := by
    rw [vOp2 (by decide) (by decide)]
    unfold F_Row_command
    rw [ck_t (rS_117 hG1), rf_t (rP_117_10 hG1), ar_t (rA_117_10 hG1), wrL0]
    rw [if_neg (show ¬ nI 26 = (20 : Int32) by decide), if_neg (show ¬ nI 26 = (22 : Int32) by decide), if_neg (show ¬ nI 26 = (23 : Int32) by decide), if_neg (show ¬ nI 26 = (24 : Int32) by decide), if_neg (show ¬ nI 26 = (25 : Int32) by decide), rf_t (rP_117_10 hO), bC_t (ev_vpop (h := h) hO (by rw [rdw (by decide), rdf (by decide)]; exact hs.2.1) hh), rdw (show (119 : Nat) ≠ 123 by decide), rdw (show (119 : Nat) ≠ 117 by decide), ar_t (rA_117_10 hP), wrL1]
  have h16 := hs.2.2
  have h6 := hs.2.1
  refine ⟨_, ev_cmo h0 hs (by omega) hp hc (by decide) (by decide) hop (by repeat (first | exact same.rf | refine same.sD ?_ (by unfold EXD; omega))) ⟨by simp [sD_D, up2], by simp [sD_D, up2], by simp [sD_D, up2, h16]⟩ hL h1 hK hK2 h15 hmk, by simp [sD_D, up2], by simp [sD_D, up2]⟩
theorem op_22 {A : Hp} {pc h : Nat} {cc : Nat} (hcc : A.D (p + 191) (pc + 1) = nI cc) {la z K mk : Nat} (hL : LST A la z) (h1 : A.D 117 1 = nI K) (hK : 11 * K ≤ z) (hK2 : mk < 8 → K < 32768) (h15 : A.D 117 15 = nI mk) (hmk : mk ≤ 8) (h0 : VS0 A p wo inp cs) (hs : CS A pc (h + 1)) (hpc : pc + 1 < cs) (hp : p ≠ 117) (hh : h < 160) (hc : A.D (p + 191) pc = nI 22) : ∃ o, CMO N s pl A la z K mk (pc + 2) h o ∧ o 0 = nI 22 ∧ o 1 = A.D 119 h ∧ o 2 = nI cc := by
  have hG1 : Gr (A.sD 117 12 (nI (pc + 1))) := h0.1
  have hG2 : Gr ((A.sD 117 12 (nI (pc + 1))).sD 117 12 (nI (pc + 2))) := h0.1
  have hO : Gr ((A.sD 117 12 (nI (pc + 1))).sD 123 0 (nI 22)) := h0.1
  have hO2 : Gr (((A.sD 117 12 (nI (pc + 1))).sD 123 0 (nI 22)).sD 117 12 (nI (pc + 2))) := h0.1
  have hO3 : Gr ((((A.sD 117 12 (nI (pc + 1))).sD 123 0 (nI 22)).sD 117 12 (nI (pc + 2))).sD 123 2 (nI cc)) := h0.1
  have hP : Gr (((((A.sD 117 12 (nI (pc + 1))).sD 123 0 (nI 22)).sD 117 12 (nI (pc + 2))).sD 123 2 (nI cc)).sD 117 6 (nI h)) := h0.1
  have ea := ev_o1 (N := N) (v := nI 22) h0 (show pc + 1 < cs by omega) hp
  have hop : vOp N 22 (A.sD 117 12 (nI (pc + 1))) = B_Row_command_138 N 117 (nI 22) ((((((A.sD 117 12 (nI (pc + 1))).sD 123 0 (nI 22)).sD 117 12 (nI (pc + 2))).sD 123 2 (nI cc)).sD 117 6 (nI h)).sD 123 1 (A.D 119 h)) := by
    rw [vOp2 (by decide) (by decide)]
    unfold F_Row_command
    rw [ck_t (rS_117 hG1), rf_t (rP_117_10 hG1), ar_t (rA_117_10 hG1), wrL0]
    rw [if_neg (show ¬ nI 22 = (20 : Int32) by decide), if_pos (show nI 22 = (22 : Int32) by decide), rf_t (rP_117_10 hO), bC_t ea, hcc, ar_t (rA_117_10 hO2), wrL2, rf_t (rP_117_10 hO3), bC_t (ev_vpop (h := h) hO3 (by rw [rdw (by decide), rdf (by decide), rdw (by decide), rdf (by decide)]; exact hs.2.1) hh), rdw (show (119 : Nat) ≠ 123 by decide), rdw (show (119 : Nat) ≠ 117 by decide), rdw (show (119 : Nat) ≠ 123 by decide), rdw (show (119 : Nat) ≠ 117 by decide), ar_t (rA_117_10 hP), wrL1]
  have h16 := hs.2.2
  have h6 := hs.2.1
  refine ⟨_, ev_cmo h0 hs (by omega) hp hc (by decide) (by decide) hop (by repeat (first | exact same.rf | refine same.sD ?_ (by unfold EXD; omega))) ⟨by simp [sD_D, up2], by simp [sD_D, up2], by simp [sD_D, up2, h16]⟩ hL h1 hK hK2 h15 hmk, by simp [sD_D, up2], by simp [sD_D, up2], by simp [sD_D, up2]⟩
theorem op_23 {A : Hp} {pc h : Nat} {cc : Nat} (hcc : A.D (p + 191) (pc + 1) = nI cc) {la z K mk : Nat} (hL : LST A la z) (h1 : A.D 117 1 = nI K) (hK : 11 * K ≤ z) (hK2 : mk < 8 → K < 32768) (h15 : A.D 117 15 = nI mk) (hmk : mk ≤ 8) (h0 : VS0 A p wo inp cs) (hs : CS A pc (h + 1)) (hpc : pc + 1 < cs) (hp : p ≠ 117) (hh : h < 160) (hc : A.D (p + 191) pc = nI 23) : ∃ o, CMO N s pl A la z K mk (pc + 2) h o ∧ o 0 = nI 23 ∧ o 1 = A.D 119 h ∧ o 2 = nI cc := by
  have hG1 : Gr (A.sD 117 12 (nI (pc + 1))) := h0.1
  have hG2 : Gr ((A.sD 117 12 (nI (pc + 1))).sD 117 12 (nI (pc + 2))) := h0.1
  have hO : Gr ((A.sD 117 12 (nI (pc + 1))).sD 123 0 (nI 23)) := h0.1
  have hO2 : Gr (((A.sD 117 12 (nI (pc + 1))).sD 123 0 (nI 23)).sD 117 12 (nI (pc + 2))) := h0.1
  have hO3 : Gr ((((A.sD 117 12 (nI (pc + 1))).sD 123 0 (nI 23)).sD 117 12 (nI (pc + 2))).sD 123 2 (nI cc)) := h0.1
  have hP : Gr (((((A.sD 117 12 (nI (pc + 1))).sD 123 0 (nI 23)).sD 117 12 (nI (pc + 2))).sD 123 2 (nI cc)).sD 117 6 (nI h)) := h0.1
  have ea := ev_o1 (N := N) (v := nI 23) h0 (show pc + 1 < cs by omega) hp
  have hop : vOp N 23 (A.sD 117 12 (nI (pc + 1))) = B_Row_command_138 N 117 (nI 23) ((((((A.sD 117 12 (nI (pc + 1))).sD 123 0 (nI 23)).sD 117 12 (nI (pc + 2))).sD 123 2 (nI cc)).sD 117 6 (nI h)).sD 123 1 (A.D 119 h)) := by
    rw [vOp2 (by decide) (by decide)]
    unfold F_Row_command
    rw [ck_t (rS_117 hG1), rf_t (rP_117_10 hG1), ar_t (rA_117_10 hG1), wrL0]
    rw [if_neg (show ¬ nI 23 = (20 : Int32) by decide), if_neg (show ¬ nI 23 = (22 : Int32) by decide), if_pos (show nI 23 = (23 : Int32) by decide), rf_t (rP_117_10 hO), bC_t ea, hcc, ar_t (rA_117_10 hO2), wrL2, rf_t (rP_117_10 hO3), bC_t (ev_vpop (h := h) hO3 (by rw [rdw (by decide), rdf (by decide), rdw (by decide), rdf (by decide)]; exact hs.2.1) hh), rdw (show (119 : Nat) ≠ 123 by decide), rdw (show (119 : Nat) ≠ 117 by decide), rdw (show (119 : Nat) ≠ 123 by decide), rdw (show (119 : Nat) ≠ 117 by decide), ar_t (rA_117_10 hP), wrL1]
  have h16 := hs.2.2
  have h6 := hs.2.1
  refine ⟨_, ev_cmo h0 hs (by omega) hp hc (by decide) (by decide) hop (by repeat (first | exact same.rf | refine same.sD ?_ (by unfold EXD; omega))) ⟨by simp [sD_D, up2], by simp [sD_D, up2], by simp [sD_D, up2, h16]⟩ hL h1 hK hK2 h15 hmk, by simp [sD_D, up2], by simp [sD_D, up2], by simp [sD_D, up2]⟩
theorem op_24 {A : Hp} {pc h : Nat} {cc m : Nat} (hcc : A.D (p + 191) (pc + 1) = nI cc) (hcm : A.D (p + 191) (pc + 2) = nI m) {la z K mk : Nat} (hL : LST A la z) (h1 : A.D 117 1 = nI K) (hK : 11 * K ≤ z) (hK2 : mk < 8 → K < 32768) (h15 : A.D 117 15 = nI mk) (hmk : mk ≤ 8) (h0 : VS0 A p wo inp cs) (hs : CS A pc (h + 2)) (hpc : pc + 2 < cs) (hp : p ≠ 117) (hh : h + 1 < 160) (hc : A.D (p + 191) pc = nI 24) : ∃ o, CMO N s pl A la z K mk (pc + 3) h o ∧ o 0 = nI 24 ∧ o 1 = A.D 119 h ∧ o 2 = nI cc ∧ o 3 = nI m ∧ o 4 = A.D 119 (h + 1) := by
  have hG1 : Gr (A.sD 117 12 (nI (pc + 1))) := h0.1
  have hG2 : Gr ((A.sD 117 12 (nI (pc + 1))).sD 117 12 (nI (pc + 2))) := h0.1
  have hO : Gr ((A.sD 117 12 (nI (pc + 1))).sD 123 0 (nI 24)) := h0.1
  have hO2 : Gr (((A.sD 117 12 (nI (pc + 1))).sD 123 0 (nI 24)).sD 117 12 (nI (pc + 2))) := h0.1
  have hO3 : Gr ((((A.sD 117 12 (nI (pc + 1))).sD 123 0 (nI 24)).sD 117 12 (nI (pc + 2))).sD 123 2 (nI cc)) := h0.1
  have hO4 : Gr (((((A.sD 117 12 (nI (pc + 1))).sD 123 0 (nI 24)).sD 117 12 (nI (pc + 2))).sD 123 2 (nI cc)).sD 117 12 (nI (pc + 3))) := h0.1
  have hO5 : Gr ((((((A.sD 117 12 (nI (pc + 1))).sD 123 0 (nI 24)).sD 117 12 (nI (pc + 2))).sD 123 2 (nI cc)).sD 117 12 (nI (pc + 3))).sD 123 3 (nI m)) := h0.1
  have hP1 : Gr (((((((A.sD 117 12 (nI (pc + 1))).sD 123 0 (nI 24)).sD 117 12 (nI (pc + 2))).sD 123 2 (nI cc)).sD 117 12 (nI (pc + 3))).sD 123 3 (nI m)).sD 117 6 (nI (h + 1))) := h0.1
  have hP2 : Gr ((((((((A.sD 117 12 (nI (pc + 1))).sD 123 0 (nI 24)).sD 117 12 (nI (pc + 2))).sD 123 2 (nI cc)).sD 117 12 (nI (pc + 3))).sD 123 3 (nI m)).sD 117 6 (nI (h + 1))).sD 123 4 (A.D 119 (h + 1))) := h0.1
  have hP3 : Gr (((((((((A.sD 117 12 (nI (pc + 1))).sD 123 0 (nI 24)).sD 117 12 (nI (pc + 2))).sD 123 2 (nI cc)).sD 117 12 (nI (pc + 3))).sD 123 3 (nI m)).sD 117 6 (nI (h + 1))).sD 123 4 (A.D 119 (h + 1))).sD 117 6 (nI h)) := h0.1
  have q123 := h0.q3
  have hpq : ¬ (p = 117 ∨ p = 123) := fun y => y.elim hp (h0.p3)
  have ea := ev_o1 (N := N) (v := nI 24) h0 (show pc + 1 < cs by omega) hp
  have eb := ev_nc (N := N) (A := (((A.sD 117 12 (nI (pc + 1))).sD 123 0 (nI 24)).sD 117 12 (nI (pc + 2))).sD 123 2 (nI cc)) (pc := pc + 2) (h0.sm (R := fun a f => a = 117 ∨ a = 123) (by repeat (first | exact same.rf | refine same.sD ?_ (by omega))) hpq) (by simp [sD_D, up2]) (by omega) hp
  rw [show ((((A.sD 117 12 (nI (pc + 1))).sD 123 0 (nI 24)).sD 117 12 (nI (pc + 2))).sD 123 2 (nI cc)).D (p + 191) (pc + 2) = A.D (p + 191) (pc + 2) from by simp [sD_D, up2, h0.q, q123]] at eb
  have hop : vOp N 24 (A.sD 117 12 (nI (pc + 1))) = B_Row_command_138 N 117 (nI 24) ((((((((((A.sD 117 12 (nI (pc + 1))).sD 123 0 (nI 24)).sD 117 12 (nI (pc + 2))).sD 123 2 (nI cc)).sD 117 12 (nI (pc + 3))).sD 123 3 (nI m)).sD 117 6 (nI (h + 1))).sD 123 4 (A.D 119 (h + 1))).sD 117 6 (nI h)).sD 123 1 (A.D 119 h)) := by
    rw [vOp2 (by decide) (by decide)]
    unfold F_Row_command
    rw [ck_t (rS_117 hG1), rf_t (rP_117_10 hG1), ar_t (rA_117_10 hG1), wrL0]
    rw [if_neg (show ¬ nI 24 = (20 : Int32) by decide), if_neg (show ¬ nI 24 = (22 : Int32) by decide), if_neg (show ¬ nI 24 = (23 : Int32) by decide), if_pos (show nI 24 = (24 : Int32) by decide), rf_t (rP_117_10 hO), bC_t ea, hcc, ar_t (rA_117_10 hO2), wrL2, rf_t (rP_117_10 hO3), bC_t eb, hcm, ar_t (rA_117_10 hO4), wrL3, rf_t (rP_117_10 hO5), bC_t (ev_vpop (h := h + 1) hO5 (by simp [sD_D, up2]; exact hs.2.1) (by omega)), show ((((((A.sD 117 12 (nI (pc + 1))).sD 123 0 (nI 24)).sD 117 12 (nI (pc + 2))).sD 123 2 (nI cc)).sD 117 12 (nI (pc + 3))).sD 123 3 (nI m)).D 119 (h + 1) = A.D 119 (h + 1) from by simp [sD_D, up2], ar_t (rA_117_10 hP1), wrL4, rf_t (rP_117_10 hP2), bC_t (ev_vpop (h := h) hP2 (by simp [sD_D, up2]) (by omega)), show ((((((((A.sD 117 12 (nI (pc + 1))).sD 123 0 (nI 24)).sD 117 12 (nI (pc + 2))).sD 123 2 (nI cc)).sD 117 12 (nI (pc + 3))).sD 123 3 (nI m)).sD 117 6 (nI (h + 1))).sD 123 4 (A.D 119 (h + 1))).D 119 h = A.D 119 h from by simp [sD_D, up2], ar_t (rA_117_10 hP3), wrL1]
  have h16 := hs.2.2
  have h6 := hs.2.1
  refine ⟨_, ev_cmo h0 hs (by omega) hp hc (by decide) (by decide) hop (by repeat (first | exact same.rf | refine same.sD ?_ (by unfold EXD; omega))) ⟨by simp [sD_D, up2], by simp [sD_D, up2], by simp [sD_D, up2, h16]⟩ hL h1 hK hK2 h15 hmk, by simp [sD_D, up2], by simp [sD_D, up2], by simp [sD_D, up2], by simp [sD_D, up2], by simp [sD_D, up2]⟩
end Par
