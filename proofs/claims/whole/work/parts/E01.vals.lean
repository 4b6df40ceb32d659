/-! ===== a row's operations on values ===== -/
/-- what an expression may change: pc, height, draws, why, and the stack from h on -/
def EXA (h a f : Nat) : Prop := (a = 117 ∧ (f = 6 ∨ f = 12 ∨ f = 14 ∨ f = 16)) ∨ (a = 119 ∧ h ≤ f)
theorem EXA.up {h h2 : Nat} (k : h ≤ h2) : ∀ a f, EXA h2 a f → EXA h a f := fun a f z => by unfold EXA at z ⊢; omega
/-- the row stands at pc with height h, unfailed -/
def CS (A : Hp) (pc h : Nat) : Prop := A.D 117 12 = nI pc ∧ A.D 117 6 = nI h ∧ A.D 117 16 = 0
/-- after one value more at h -/
def VO (A A2 : Hp) (h pc2 : Nat) (v : Int32) : Prop := same (EXA h) A A2 ∧ CS A2 pc2 (h + 1) ∧ A2.D 119 h = v ∧ A2.D 117 14 = A.D 117 14
theorem nI_ma (a b c : Nat) : nI a * nI b + nI c = nI (a * b + c) := by
  show Int32.ofNat a * Int32.ofNat b + Int32.ofNat c = Int32.ofNat (a * b + c)
  rw [← Int32.ofNat_mul, ← Int32.ofNat_add]
/-- a number's place -/
def lo8 (v : Int32) : Nat := v.toUInt32.toNat % 256
theorem lo8_lt {v : Int32} : lo8 v < 256 := Nat.mod_lt _ (by decide)
theorem nI_u (y : Int32) : y = nI y.toUInt32.toNat := by
  show y = (UInt32.ofNat y.toUInt32.toNat).toInt32
  rw [UInt32.ofNat_toNat]
  rfl
theorem lo8_e {v : Int32} : v &&& 255 = nI (lo8 v) := by
  have h := nI_and 255 v.toUInt32.toNat (by decide)
  rw [← nI_u v] at h
  rw [Int32.and_comm]
  show nI 255 &&& v = _
  rw [h, Nat.and_comm]
  show nI (v.toUInt32.toNat &&& (2 ^ 8 - 1)) = _
  rw [Nat.and_two_pow_sub_one_eq_mod]
  rfl
/-- the number v is a living one's; Q 0 generations, Q 1 alive, Q 2 bits -/
abbrev liv (Q : Nat → Nat → Nat) (v : Int32) : Prop := Q 1 (lo8 v) = 1 ∧ v = nI (256 * Q 0 (lo8 v) + lo8 v)
theorem ush8 {v : Int32} {g : Nat} (hg : g < 8388608) : (¬ v < 0 ∧ (v.toUInt32 >>> (((8 : Int32) : Int32).toUInt32 &&& Int32.toUInt32 31)).toInt32 = nI g) ↔ v = nI (256 * g + lo8 v) := by
  have hk : v.toUInt32.toNat < 2 ^ 32 := v.toUInt32.toNat_lt
  have e := nI_u v
  have l8 : lo8 v = v.toUInt32.toNat % 256 := rfl
  generalize v.toUInt32.toNat = k at hk e l8
  rw [l8]
  by_cases q : k < 2 ^ 31
  · have u := nI_ushr (a := k) (k := 8) q (by decide)
    rw [e]
    have z0 : ¬ nI k < 0 := nI_nlt (a := k) (b := 0) (by omega) q
    constructor
    · rintro ⟨_, z⟩
      have : nI (k >>> 8) = nI g := u.symm.trans z
      have := (nI_eq (by rw [Nat.shiftRight_eq_div_pow]; omega) (by omega)).mp this
      rw [Nat.shiftRight_eq_div_pow] at this
      congr 1; omega
    · intro z
      have := (nI_eq q (by omega)).mp z
      refine ⟨z0, u.trans ?_⟩
      rw [Nat.shiftRight_eq_div_pow]
      congr 1; omega
  · constructor
    · rintro ⟨z, _⟩
      exact absurd (show v < 0 by
        rw [e, Int32.lt_iff_toInt_lt]
        have : (nI k).toInt = Int.bmod k (2 ^ 32) := Int32.toInt_ofNat' 
        rw [this, Int.bmod_def]
        show _ < (0 : Int)
        omega) z
    · intro z
      rw [e] at z
      have : (nI k).toUInt32.toNat = (nI (256 * g + k % 256)).toUInt32.toNat := by rw [← z]
      have a1 : ∀ m, (nI m).toUInt32.toNat = m % 2 ^ 32 := fun m => UInt32.toNat_ofNat'
      rw [a1, a1] at this
      omega
section Par
variable {N p wo inp cs : Nat} {s pl : Int32}
theorem VR.op {A A2 : Hp} {pc c h h2 pc2 : Nat} {v : Int32} {z : Unit} (h0 : VS0 A p wo inp cs) (hs : CS A pc h) (hpc : pc < cs) (hp : p ≠ 117) (hc : A.D (p + 191) pc = nI c) (h1 : 1 ≤ c) (h2' : c < 100) (hop : vOp N c (A.sD 117 12 (nI (pc + 1))) = some (z, A2)) (hv : VO A A2 h2 pc2 v) : ∃ A2, VR N s pl 1 A A2 ∧ VO A A2 h2 pc2 v :=
  ⟨A2, VR.one h0 hs.1 hpc hp hs.2.2 hc h1 h2' hop (hv.1.gr h0.1), hv⟩
theorem vOp3 {c : Nat} {H : Hp} (h1 : 30 ≤ c) (h2 : c < 50) : vOp N c H = F_Row_value N 117 (nI c) H := by
  unfold vOp
  rw [if_neg (by omega), if_neg (by omega), if_pos h2]
theorem vOp5 {c : Nat} {H : Hp} (h1 : 50 ≤ c) (h2 : c < 70) : vOp N c H = F_Row_ints N 117 (nI c) H := by
  unfold vOp
  rw [if_neg (by omega), if_neg (by omega), if_neg (by omega), if_pos h2]
theorem vOp7 {c : Nat} {H : Hp} (h1 : 70 ≤ c) : vOp N c H = F_Row_fixes N 117 (nI c) H := by
  unfold vOp
  rw [if_neg (by omega), if_neg (by omega), if_neg (by omega), if_neg (by omega)]
theorem vOp0 {c : Nat} {H : Hp} (h1 : c < 20) : vOp N c H = F_Row_control N 117 (nI c) H := by
  unfold vOp
  rw [if_pos h1]
theorem vOp2 {c : Nat} {H : Hp} (h1 : 20 ≤ c) (h2 : c < 30) : vOp N c H = F_Row_command N 117 (nI c) H := by
  unfold vOp
  rw [if_neg (by omega), if_pos h2]
theorem VS0.pc {A : Hp} {x : Nat} {v : Int32} (h : VS0 A p wo inp cs) (hp : p ≠ 117) : VS0 (A.sD 117 x v) p wo inp cs := h.sm (R := fun a f => a = 117) (same.sD same.rf rfl) hp
theorem VS0.q {A : Hp} (h : VS0 A p wo inp cs) : p + 191 ≠ 117 := fun z => by
  have h2 := rS_117 h.1
  have h3 := PrA_16 h.2.1
  rw [z, h2] at h3
  exact absurd (congrArg Prod.fst (Option.some.inj h3)) (by decide)
theorem VS0.w {A : Hp} (h : VS0 A p wo inp cs) : wo ≠ 117 ∧ wo + 1 ≠ 117 ∧ wo + 2 ≠ 117 ∧ wo + 3 ≠ 117 ∧ wo + 4 ≠ 117 := by
  have h2 := rS_117 h.1
  refine ⟨fun z => ?_, fun z => ?_, fun z => ?_, fun z => ?_, fun z => ?_⟩
  · have h3 := WS h.2.2.1
    rw [z, h2] at h3
    exact absurd (congrArg Prod.fst (Option.some.inj h3)) (by decide)
  · have h3 := WA_7 h.2.2.1
    rw [z, h2] at h3
    exact absurd (congrArg Prod.fst (Option.some.inj h3)) (by decide)
  · have h3 := WA_8 h.2.2.1
    rw [z, h2] at h3
    exact absurd (congrArg Prod.fst (Option.some.inj h3)) (by decide)
  · have h3 := WA_11 h.2.2.1
    rw [z, h2] at h3
    exact absurd (congrArg Prod.fst (Option.some.inj h3)) (by decide)
  · have h3 := WA_12 h.2.2.1
    rw [z, h2] at h3
    exact absurd (congrArg Prod.fst (Option.some.inj h3)) (by decide)
/-- a fetch -/
theorem ev_arg {A : Hp} {pc : Nat} (h : VS0 A p wo inp cs) (hpc : pc < cs) (hp : p ≠ 117) : F_Row_nextCode N 117 (A.sD 117 12 (nI pc)) = some (A.D (p + 191) pc, (A.sD 117 12 (nI pc)).sD 117 12 (nI (pc + 1))) := by
  rw [ev_code (h.pc hp) rds hpc hp, rdw h.q]
/-- the world's functions -/
theorem ev_numAt {A : Hp} {q : Nat} (h : isW A wo) (hq : q < 256) : F_World_numberAt N wo (nI q) A = some ((256 : Int32) * A.D (wo + 1) q + nI q, A) := by
  unfold F_World_numberAt
  rw [ck_t (WS h), rf_t (WP_7 h), ar_t (WA_7 h), rdI hq (by decide)]
/-- the world's people -/
def PPL (Q : Nat → Nat → Nat) (A : Hp) (wo : Nat) : Prop := ∀ q, q < 256 → A.D (wo + 1) q = nI (Q 0 q) ∧ Q 0 q < 8388608 ∧ Q 2 q < 65536 ∧ A.D (wo + 2) q = (if Q 1 q = 1 then nI (Q 2 q) else -1)
theorem ev_placeOf {Q : Nat → Nat → Nat} {A : Hp} {v : Int32} (h : isW A wo) (hP : PPL Q A wo) : F_World_placeOf N wo v A = some (if liv Q v then nI (lo8 v) else -1, A) := by
  obtain ⟨a1, a2, a3, a4⟩ := hP (lo8 v) lo8_lt
  have u := ush8 (v := v) a2
  unfold F_World_placeOf
  rw [bnd_t, lo8_e, ck_t (WS h), rf_t (WP_8 h), ar_t (WA_8 h), rdI lo8_lt (by decide), a4]
  unfold liv
  by_cases q : Q 1 (lo8 v) = 1
  · rw [if_pos q, if_neg (show ¬ nI (Q 2 (lo8 v)) < 0 from nI_nlt (b := 0) (by omega) (by omega))]
    by_cases q2 : v < 0
    · rw [if_pos q2, if_neg (fun z => absurd q2 (u.mpr z.2).1)]
    · rw [if_neg q2, bnd_t, rf_t (WP_7 h), ar_t (WA_7 h), rdI lo8_lt (by decide), a1]
      by_cases q3 : v = nI (256 * Q 0 (lo8 v) + lo8 v)
      · rw [if_pos (u.mpr q3).2, if_pos ⟨q, q3⟩]
      · rw [if_neg (fun z => q3 (u.mp ⟨q2, z⟩)), if_neg (fun z => q3 z.2)]
  · rw [if_neg q, if_pos (by decide), if_neg (fun z => q z.1)]
theorem ev_owns {Q : Nat → Nat → Nat} {A : Hp} {q c : Nat} (h : isW A wo) (hP : PPL Q A wo) (hq : q < 256) (hc : c < 16) (ha : Q 1 q = 1) : F_World_owns N wo (nI q) (nI c) A = some (if Q 2 q / 2 ^ c % 2 = 1 then 1 else 0, A) := by
  obtain ⟨a1, a2, a3, a4⟩ := hP q hq
  rw [if_pos ha] at a4
  unfold F_World_owns
  rw [if_neg (show ¬ nI q < 0 from nI_nlt (b := 0) (by omega) (by omega)), if_neg (show ¬ (256 : Int32) ≤ nI q from nI_ge (b := 256) hq (by decide)), ck_t (WS h), rf_t (WP_8 h), ar_t (WA_8 h), rdI hq (by decide), a4, if_neg (show ¬ nI (Q 2 q) < 0 from nI_nlt (b := 0) (by omega) (by omega)), rf_t (WP_8 h), ar_t (WA_8 h), rdI hq (by decide), a4]
  simp only [nI_bit1 (m := Q 2 q) (c := c) (by omega) (by omega)]
  by_cases z : Q 2 q / 2 ^ c % 2 = 1
  · rw [if_pos z, if_pos z]
  · rw [if_neg z, if_neg z]
theorem ev_owns0 {A : Hp} {c : Int32} : F_World_owns N wo (-1) c A = some (0, A) := by
  unfold F_World_owns
  rw [if_pos (by decide)]
theorem ev_read {A : Hp} {q m wd : Nat} (h : isW A wo) (hw : A.D wo 10 = nI wd) (hd : wd ≤ 48) (hq : q < 256) (hm : m < 48) : F_World_read N wo (nI q) (nI m) A = some (A.D (wo + 3) (q * wd + m), A) := by
  have hb : q * wd + m < 12288 := by
    have : q * wd ≤ 255 * 48 := Nat.mul_le_mul (by omega) hd
    omega
  unfold F_World_read
  rw [ck_t (WS h), bnd_t, hw, bnd_t, show nI q * nI wd + nI m = nI (q * wd + m) from nI_ma q wd m, if_neg (show ¬ nI q < 0 from nI_nlt (b := 0) (by omega) (by omega)), if_neg (show ¬ nI (q * wd + m) < 0 from nI_nlt (b := 0) (by omega) (by omega)), rf_t (WP_11 h), ar_t (WA_11 h), show Int32.ofNat 12288 = nI 12288 from rfl, if_neg (show ¬ nI 12288 ≤ nI (q * wd + m) from nI_ge hb (by decide)), rf_t (WP_11 h), ar_t (WA_11 h), rdI hb (by decide)]
theorem op_30 {A : Hp} {pc h : Nat}  (h0 : VS0 A p wo inp cs) (hs : CS A pc h) (hpc : pc + 1 < cs) (hp : p ≠ 117) (hh : h < 160) (hc : A.D (p + 191) pc = nI 30) : ∃ A2, VR N s pl 1 A A2 ∧ VO A A2 h (pc + 2) (A.D (p + 191) (pc + 1)) := by
  have hG1 : Gr (A.sD 117 12 (nI (pc + 1))) := h0.1
  have hG2 : Gr ((A.sD 117 12 (nI (pc + 1))).sD 117 12 (nI (pc + 2))) := h0.1
  refine VR.op (z := ()) h0 hs (by omega) hp hc (by decide) (by decide) (A2 := psA ((A.sD 117 12 (nI (pc + 1))).sD 117 12 (nI (pc + 2))) h (A.D (p + 191) (pc + 1))) ?_ ?_
  · rw [vOp3 (by decide) (by decide)]
    unfold F_Row_value
    rw [if_pos (show nI 30 = (30 : Int32) by decide), ck_t (rS_117 hG1), bC_t (ev_arg h0 hpc hp), bC_t (ev_vpush (h := h) hG2 (by rw [rdf (by decide), rdf (by decide)]; exact hs.2.1) hh)]
  · have := hs.2.2
    refine ⟨by unfold psA; repeat (first | exact same.rf | refine same.sD ?_ (by unfold EXA; omega)), ⟨?_, ?_, ?_⟩, ?_, ?_⟩ <;> simp [psA, sD_D, up2, this]
theorem op_31 {A : Hp} {pc h : Nat} {q : Nat} (h18 : A.D 117 18 = nI q) (hq : q < 256) (h0 : VS0 A p wo inp cs) (hs : CS A pc h) (hpc : pc < cs) (hp : p ≠ 117) (hh : h < 160) (hc : A.D (p + 191) pc = nI 31) : ∃ A2, VR N s pl 1 A A2 ∧ VO A A2 h (pc + 1) ((256 : Int32) * A.D (wo + 1) q + nI q) := by
  have hG1 : Gr (A.sD 117 12 (nI (pc + 1))) := h0.1
  have hG2 : Gr ((A.sD 117 12 (nI (pc + 1))).sD 117 12 (nI (pc + 2))) := h0.1
  refine VR.op (z := ()) h0 hs (by omega) hp hc (by decide) (by decide) (A2 := psA (A.sD 117 12 (nI (pc + 1))) h ((256 : Int32) * A.D (wo + 1) q + nI q)) ?_ ?_
  · rw [vOp3 (by decide) (by decide)]
    have hW1 : isW (A.sD 117 12 (nI (pc + 1))) wo := h0.2.2.1
    unfold F_Row_value
    rw [if_neg (show ¬ nI 31 = (30 : Int32) by decide), if_pos (show nI 31 = (31 : Int32) by decide), ck_t (rS_117 hG1), sD_P, rf_t h0.2.2.2.2.1, bnd_t, rdf (by decide), h18, ck_t (WS hW1), bC_t (ev_numAt hW1 hq), rdw h0.w.2.1, bC_t (ev_vpush (h := h) hG1 (by rw [rdf (by decide)]; exact hs.2.1) hh)]
  · have := hs.2.2
    refine ⟨by unfold psA; repeat (first | exact same.rf | refine same.sD ?_ (by unfold EXA; omega)), ⟨?_, ?_, ?_⟩, ?_, ?_⟩ <;> simp [psA, sD_D, up2, this]
theorem op_32 {A : Hp} {pc h : Nat}  (h0 : VS0 A p wo inp cs) (hs : CS A pc h) (hpc : pc < cs) (hp : p ≠ 117) (hh : h < 160) (hc : A.D (p + 191) pc = nI 32) : ∃ A2, VR N s pl 1 A A2 ∧ VO A A2 h (pc + 1) (A.D wo 0) := by
  have hG1 : Gr (A.sD 117 12 (nI (pc + 1))) := h0.1
  have hG2 : Gr ((A.sD 117 12 (nI (pc + 1))).sD 117 12 (nI (pc + 2))) := h0.1
  refine VR.op (z := ()) h0 hs (by omega) hp hc (by decide) (by decide) (A2 := psA (A.sD 117 12 (nI (pc + 1))) h (A.D wo 0)) ?_ ?_
  · rw [vOp3 (by decide) (by decide)]
    have hW1 : isW (A.sD 117 12 (nI (pc + 1))) wo := h0.2.2.1
    unfold F_Row_value
    rw [if_neg (show ¬ nI 32 = (30 : Int32) by decide), if_neg (show ¬ nI 32 = (31 : Int32) by decide), if_pos (show nI 32 = (32 : Int32) by decide), ck_t (rS_117 hG1), sD_P, rf_t h0.2.2.2.2.1, ck_t (WS hW1), bnd_t, rdw h0.w.1, bC_t (ev_vpush (h := h) hG1 (by rw [rdf (by decide)]; exact hs.2.1) hh)]
  · have := hs.2.2
    refine ⟨by unfold psA; repeat (first | exact same.rf | refine same.sD ?_ (by unfold EXA; omega)), ⟨?_, ?_, ?_⟩, ?_, ?_⟩ <;> simp [psA, sD_D, up2, this]
theorem op_33 {A : Hp} {pc h : Nat} {n : Nat} (hn : n < 12) (hcn : A.D (p + 191) (pc + 1) = nI n) (h0 : VS0 A p wo inp cs) (hs : CS A pc h) (hpc : pc + 1 < cs) (hp : p ≠ 117) (hh : h < 160) (hc : A.D (p + 191) pc = nI 33) : ∃ A2, VR N s pl 1 A A2 ∧ VO A A2 h (pc + 2) (A.D 120 n) := by
  have hG1 : Gr (A.sD 117 12 (nI (pc + 1))) := h0.1
  have hG2 : Gr ((A.sD 117 12 (nI (pc + 1))).sD 117 12 (nI (pc + 2))) := h0.1
  refine VR.op (z := ()) h0 hs (by omega) hp hc (by decide) (by decide) (A2 := psA ((A.sD 117 12 (nI (pc + 1))).sD 117 12 (nI (pc + 2))) h (A.D 120 n)) ?_ ?_
  · rw [vOp3 (by decide) (by decide)]
    unfold F_Row_value
    rw [if_neg (show ¬ nI 33 = (30 : Int32) by decide), if_neg (show ¬ nI 33 = (31 : Int32) by decide), if_neg (show ¬ nI 33 = (32 : Int32) by decide), if_pos (show nI 33 = (33 : Int32) by decide), ck_t (rS_117 hG1), sD_P, rf_t (rP_117_7 h0.1), bC_t (ev_arg h0 hpc hp), hcn, ar_sD, ar_sD, ar_t (rA_117_7 h0.1), rdI hn (by decide), rdw (by decide), rdw (by decide), bC_t (ev_vpush (h := h) hG2 (by rw [rdf (by decide), rdf (by decide)]; exact hs.2.1) hh)]
  · have := hs.2.2
    refine ⟨by unfold psA; repeat (first | exact same.rf | refine same.sD ?_ (by unfold EXA; omega)), ⟨?_, ?_, ?_⟩, ?_, ?_⟩ <;> simp [psA, sD_D, up2, this]
theorem op_35 {A : Hp} {pc h : Nat} {q m wd : Nat} (h18 : A.D 117 18 = nI q) (hq : q < 256) (hw : A.D wo 10 = nI wd) (hd : wd ≤ 48) (hm : m < 48) (hcn : A.D (p + 191) (pc + 1) = nI m) (h0 : VS0 A p wo inp cs) (hs : CS A pc h) (hpc : pc + 1 < cs) (hp : p ≠ 117) (hh : h < 160) (hc : A.D (p + 191) pc = nI 35) : ∃ A2, VR N s pl 1 A A2 ∧ VO A A2 h (pc + 2) (A.D (wo + 3) (q * wd + m)) := by
  have hG1 : Gr (A.sD 117 12 (nI (pc + 1))) := h0.1
  have hG2 : Gr ((A.sD 117 12 (nI (pc + 1))).sD 117 12 (nI (pc + 2))) := h0.1
  refine VR.op (z := ()) h0 hs (by omega) hp hc (by decide) (by decide) (A2 := psA ((A.sD 117 12 (nI (pc + 1))).sD 117 12 (nI (pc + 2))) h (A.D (wo + 3) (q * wd + m))) ?_ ?_
  · rw [vOp3 (by decide) (by decide)]
    have hW1 : isW ((A.sD 117 12 (nI (pc + 1))).sD 117 12 (nI (pc + 2))) wo := h0.2.2.1
    unfold F_Row_value
    rw [if_neg (show ¬ nI 35 = (30 : Int32) by decide), if_neg (show ¬ nI 35 = (31 : Int32) by decide), if_neg (show ¬ nI 35 = (32 : Int32) by decide), if_neg (show ¬ nI 35 = (33 : Int32) by decide), if_neg (show ¬ nI 35 = (34 : Int32) by decide), if_pos (show nI 35 = (35 : Int32) by decide), ck_t (rS_117 hG1), sD_P, rf_t h0.2.2.2.2.1, bnd_t, rdf (by decide), h18, bC_t (ev_arg h0 hpc hp), hcn, ck_t (WS hW1), bC_t (ev_read hW1 (by rw [rdw h0.w.1, rdw h0.w.1]; exact hw) hd hq hm), rdw h0.w.2.2.2.1, rdw h0.w.2.2.2.1, bC_t (ev_vpush (h := h) hG2 (by rw [rdf (by decide), rdf (by decide)]; exact hs.2.1) hh)]
  · have := hs.2.2
    refine ⟨by unfold psA; repeat (first | exact same.rf | refine same.sD ?_ (by unfold EXA; omega)), ⟨?_, ?_, ?_⟩, ?_, ?_⟩ <;> simp [psA, sD_D, up2, this]
end Par
