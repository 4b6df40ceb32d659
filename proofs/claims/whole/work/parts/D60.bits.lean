/-! ===== how many bits ===== -/
def pcn : Nat → Nat → Nat
  | 0, _ => 0
  | n + 1, x => x % 2 + pcn n (x / 2)
theorem pcn_or : ∀ n c x, c < n → x / 2 ^ c % 2 = 0 → pcn n (x ||| 2 ^ c) = pcn n x + 1 := by
  intro n
  induction n with
  | zero => intro c x h; omega
  | succ n ih =>
    intro c x hc hx
    have hd : (x ||| 2 ^ c) / 2 = x / 2 ||| 2 ^ c / 2 := Nat.or_div_two
    have hm : (x ||| 2 ^ c) % 2 = x % 2 ||| 2 ^ c % 2 := by
      have := Nat.or_mod_two_pow (a := x) (b := 2 ^ c) (n := 1)
      exact this
    show (x ||| 2 ^ c) % 2 + pcn n ((x ||| 2 ^ c) / 2) = x % 2 + pcn n (x / 2) + 1
    rw [hd, hm]
    cases c with
    | zero =>
      rw [Nat.pow_zero, Nat.div_one] at hx
      rw [Nat.pow_zero, hx, show (1 : Nat) / 2 = 0 by decide, Nat.or_zero, show (0 ||| 1 % 2 : Nat) = 1 by decide]
      omega
    | succ c =>
      rw [Nat.pow_succ, Nat.mul_mod_left, Nat.or_zero, Nat.mul_div_left _ (by decide)]
      have : x / 2 / 2 ^ c % 2 = 0 := by
        rw [Nat.div_div_eq_div_mul, Nat.mul_comm, ← Nat.pow_succ]; exact hx
      rw [ih c (x / 2) (by omega) this]
      omega
/-- the sum in halves, in quarters, in bytes -/
def bcN (x : Nat) : Nat :=
  let y := x - ((x >>> 1) &&& 1431655765)
  let z := (y &&& 858993459) + ((y >>> 2) &&& 858993459)
  let u := (z + (z >>> 4)) &&& 252645135
  ((u + (u >>> 8)) + ((u + (u >>> 8)) >>> 16)) &&& 63
theorem and_split {a b m n : Nat} (hb : b < 256) (hn : n < 256) : (256 * a + b) &&& (256 * m + n) = 256 * (a &&& m) + (b &&& n) := by
  apply Nat.eq_of_testBit_eq
  intro j
  have h1 := Nat.testBit_two_pow_mul_add a (b := b) (i := 8) (by omega) j
  have h2 := Nat.testBit_two_pow_mul_add m (b := n) (i := 8) (by omega) j
  have h3 := Nat.testBit_two_pow_mul_add (a &&& m) (b := b &&& n) (i := 8) (Nat.and_lt_two_pow _ (by omega)) j
  have e : (2 : Nat) ^ 8 = 256 := by decide
  rw [e] at h1 h2 h3
  rw [Nat.testBit_and, h1, h2, h3]
  split
  · rw [Nat.testBit_and]
  · rw [Nat.testBit_and]
def by1 (t : Nat) : Nat := t - ((t / 2) &&& 85)
def by2 (t : Nat) : Nat := (by1 t &&& 51) + ((by1 t / 4) &&& 51)
theorem by_f : ∀ t : Fin 256, (t.val / 2 &&& 85) ≤ t.val ∧ by1 t.val < 256 ∧ by2 t.val ≤ 68 ∧ by2 t.val % 16 ≤ 4 ∧ (by2 t.val + by2 t.val / 16) % 16 = pcn 8 t.val ∧ pcn 8 t.val ≤ 8 ∧ (t.val / 2 &&& 5592405) = (t.val / 2 &&& 85) ∧ (by1 t.val &&& 3355443) = (by1 t.val &&& 51) ∧ (by1 t.val / 4 &&& 3355443) = (by1 t.val / 4 &&& 51) := by decide +kernel
theorem by_g : ∀ t : Fin 256, ∀ r : Fin 4, (128 * (r.val % 2) + t.val / 2 &&& 85) = (t.val / 2 &&& 85) ∧ (64 * r.val + t.val / 4 &&& 51) = (t.val / 4 &&& 51) := by decide +kernel
theorem pcn_mod : ∀ n a b, pcn n (2 ^ n * a + b) = pcn n b := by
  intro n
  induction n with
  | zero => intro a b; rfl
  | succ n ih =>
    intro a b
    show (2 ^ (n + 1) * a + b) % 2 + pcn n ((2 ^ (n + 1) * a + b) / 2) = b % 2 + pcn n (b / 2)
    have e : 2 ^ (n + 1) * a = 2 * (2 ^ n * a) := by rw [Nat.pow_succ, Nat.mul_assoc, Nat.mul_left_comm]
    rw [e, show (2 * (2 ^ n * a) + b) % 2 = b % 2 by omega, show (2 * (2 ^ n * a) + b) / 2 = 2 ^ n * a + b / 2 by omega, ih]
theorem pcn_add : ∀ m n x, pcn (m + n) x = pcn m x + pcn n (x / 2 ^ m) := by
  intro m
  induction m with
  | zero => intro n x; rw [Nat.pow_zero, Nat.div_one, Nat.zero_add]; show _ = 0 + _; omega
  | succ m ih =>
    intro n x
    rw [show m + 1 + n = (m + n) + 1 by omega]
    show x % 2 + pcn (m + n) (x / 2) = x % 2 + pcn m (x / 2) + pcn n (x / 2 ^ (m + 1))
    rw [ih, Nat.div_div_eq_div_mul, Nat.pow_succ, Nat.mul_comm 2]
    omega
theorem bc_end {P Q : Nat} (hP : P ≤ 8) (hQ : Q ≤ 8) : (256 * P + Q + (256 * P + Q) / 256 + (256 * P + Q + (256 * P + Q) / 256) / 65536) % 2 ^ 6 = Q + P := by
  rw [show (256 * P + Q) / 256 = P by omega, show (256 * P + Q + P) / 65536 = 0 by omega, show (2 : Nat) ^ 6 = 64 by decide]
  omega
theorem bc_pc {x : Nat} (h : x < 65536) : bcN x = pcn 16 x := by
  obtain ⟨a, b, ha, hb, rfl⟩ : ∃ a b, a < 256 ∧ b < 256 ∧ x = 256 * a + b := ⟨x / 256, x % 256, by omega, by omega, by omega⟩
  obtain ⟨a1, a2, a3, a4, a5, a6, a7, a8, a9⟩ := by_f ⟨a, ha⟩
  obtain ⟨b1, b2, b3, b4, b5, b6, b7, b8, b9⟩ := by_f ⟨b, hb⟩
  simp only at a1 a2 a3 a4 a5 a6 a7 a8 a9 b1 b2 b3 b4 b5 b6 b7 b8 b9
  have g1 := (by_g ⟨b, hb⟩ ⟨a % 2, by omega⟩).1
  simp only at g1
  rw [show a % 2 % 2 = a % 2 by omega] at g1
  have y1 : 256 * a + b - ((256 * a + b) / 2 &&& 1431655765) = 256 * by1 a + by1 b := by
    rw [show (256 * a + b) / 2 = 256 * (a / 2) + (128 * (a % 2) + b / 2) by omega, show (1431655765 : Nat) = 256 * 5592405 + 85 by decide, and_split (by omega) (by decide), g1, a7]
    unfold by1
    omega
  have g2 := (by_g ⟨by1 b, b2⟩ ⟨by1 a % 4, by omega⟩).2
  simp only at g2
  have z1 : (256 * by1 a + by1 b &&& 858993459) + ((256 * by1 a + by1 b) / 4 &&& 858993459) = 256 * by2 a + by2 b := by
    rw [show (256 * by1 a + by1 b) / 4 = 256 * (by1 a / 4) + (64 * (by1 a % 4) + by1 b / 4) by omega, show (858993459 : Nat) = 256 * 3355443 + 51 by decide, and_split b2 (by decide), and_split (by omega) (by decide), g2, a8, a9]
    unfold by2
    omega
  have u1 : (256 * by2 a + by2 b + (256 * by2 a + by2 b) / 16 &&& 252645135) = 256 * pcn 8 a + pcn 8 b := by
    have q : (256 * by2 a + by2 b) + (256 * by2 a + by2 b) / 16 = 256 * (by2 a + by2 a / 16) + (by2 b + 16 * (by2 a % 16) + by2 b / 16) := by omega
    have q2 : (by2 b + 16 * (by2 a % 16) + by2 b / 16 &&& 15) = pcn 8 b := by
      have := Nat.and_two_pow_sub_one_eq_mod (by2 b + 16 * (by2 a % 16) + by2 b / 16) 4
      rw [show 2 ^ 4 - 1 = 15 by decide] at this
      rw [this, ← b5]; omega
    have q3 : (by2 a + by2 a / 16 &&& 986895) = pcn 8 a := by
      have := and_split (a := 0) (b := by2 a + by2 a / 16) (m := 3855) (n := 15) (by omega) (by decide)
      rw [Nat.mul_zero, Nat.zero_add, show 256 * 3855 + 15 = 986895 by decide, Nat.zero_and, Nat.mul_zero, Nat.zero_add] at this
      rw [this]
      have t := Nat.and_two_pow_sub_one_eq_mod (by2 a + by2 a / 16) 4
      rw [show 2 ^ 4 - 1 = 15 by decide] at t
      rw [t, a5]
    rw [q, show (252645135 : Nat) = 256 * 986895 + 15 by decide, and_split (by omega) (by decide), q2, q3]
  have hp : pcn 16 (256 * a + b) = pcn 8 b + pcn 8 a := by
    rw [pcn_add 8 8, show (256 * a + b) / 2 ^ 8 = a by omega]
    have := pcn_mod 8 a b
    rw [show (2 : Nat) ^ 8 = 256 by decide] at this
    rw [this]
  unfold bcN
  simp only [Nat.shiftRight_eq_div_pow]
  rw [show (2 : Nat) ^ 1 = 2 by decide, show (2 : Nat) ^ 2 = 4 by decide, show (2 : Nat) ^ 4 = 16 by decide, show (2 : Nat) ^ 8 = 256 by decide, show (2 : Nat) ^ 16 = 65536 by decide, y1, z1, u1, hp]
  have t := Nat.and_two_pow_sub_one_eq_mod (256 * pcn 8 a + pcn 8 b + (256 * pcn 8 a + pcn 8 b) / 256 + (256 * pcn 8 a + pcn 8 b + (256 * pcn 8 a + pcn 8 b) / 256) / 65536) 6
  rw [show 2 ^ 6 - 1 = 63 by decide] at t
  rw [t, bc_end a6 b6]
theorem pcn_le : ∀ n x, pcn n x ≤ n := by
  intro n
  induction n with
  | zero => intro x; exact Nat.le_refl _
  | succ n ih =>
    intro x
    have := ih (x / 2)
    show x % 2 + pcn n (x / 2) ≤ n + 1
    omega
/-- a shift that brings in nothing -/
theorem nI_ushr {a k : Nat} (ha : a < 2 ^ 31) (hk : k < 31) : ((nI a).toUInt32 >>> ((nI k).toUInt32 &&& Int32.toUInt32 31)).toInt32 = nI (a >>> k) := by
  have e1 : (nI a).toUInt32 = UInt32.ofNat a := rfl
  have e2 : (nI k).toUInt32 = UInt32.ofNat k := rfl
  have e3 : UInt32.ofNat k &&& Int32.toUInt32 31 = UInt32.ofNat k := by
    have h0 : ∀ x : Fin 31, UInt32.ofNat x.val &&& Int32.toUInt32 31 = UInt32.ofNat x.val := by decide
    exact h0 ⟨k, hk⟩
  rw [e1, e2, e3]
  show (UInt32.ofNat a >>> UInt32.ofNat k).toInt32 = (UInt32.ofNat (a >>> k)).toInt32
  congr 1
  apply UInt32.toNat_inj.mp
  rw [UInt32.toNat_shiftRight, UInt32.toNat_ofNat', UInt32.toNat_ofNat', UInt32.toNat_ofNat', Nat.mod_eq_of_lt (show a < 2 ^ 32 by omega), Nat.mod_eq_of_lt (show k < 2 ^ 32 by omega), Nat.mod_eq_of_lt (show k < 32 by omega), Nat.mod_eq_of_lt]
  rw [Nat.shiftRight_eq_div_pow]
  exact Nat.lt_of_le_of_lt (Nat.div_le_self _ _) (by omega)
theorem ev_bitCount {N x : Nat} {H : Hp} (h : x < 65536) : F_Integer_bitCount N (nI x) H = some (nI (pcn 16 x), H) := by
  have an : ∀ a b : Nat, a < 2 ^ 31 → nI a &&& nI b = nI (a &&& b) := fun a b ha => nI_and a b ha
  have dv : ∀ a k : Nat, a >>> k ≤ a := fun a k => by rw [Nat.shiftRight_eq_div_pow]; exact Nat.div_le_self _ _
  have l1 : ∀ a m : Nat, a &&& m ≤ a := fun a m => Nat.and_le_left
  have l2 : ∀ a m : Nat, a &&& m ≤ m := fun a m => Nat.and_le_right
  generalize hy : x - ((x >>> 1) &&& 1431655765) = y
  generalize hz : (y &&& 858993459) + ((y >>> 2) &&& 858993459) = z
  generalize hu : (z + (z >>> 4)) &&& 252645135 = u
  have y1 : y ≤ x := by omega
  have z1 : z ≤ 2 * x := by have := l1 y 858993459; have := l1 (y >>> 2) 858993459; have := dv y 2; omega
  have u1 : u ≤ 4 * x := by have := l1 (z + (z >>> 4)) 252645135; have := dv z 4; omega
  have v1 := dv u 8
  have v2 := dv (u + u >>> 8) 16
  have a1 := dv x 1
  have a2 := dv y 2
  have a3 := dv z 4
  have s1 : (x >>> 1) &&& 1431655765 ≤ x := Nat.le_trans (l1 _ _) (dv _ _)
  unfold F_Integer_bitCount
  rw [show (1 : Int32) = nI 1 from rfl, show (2 : Int32) = nI 2 from rfl, show (4 : Int32) = nI 4 from rfl, show (8 : Int32) = nI 8 from rfl, show (16 : Int32) = nI 16 from rfl, show (1431655765 : Int32) = nI 1431655765 from rfl, show (858993459 : Int32) = nI 858993459 from rfl, show (252645135 : Int32) = nI 252645135 from rfl, show (63 : Int32) = nI 63 from rfl, bnd_t, nI_ushr (by omega) (by decide), bnd_t, an _ _ (by omega), nI_dif s1, hy, bnd_t, nI_ushr (by omega) (by decide), bnd_t, an _ _ (by omega), an _ _ (by omega), nI_add, hz, bnd_t, nI_ushr (by omega) (by decide), bnd_t, nI_add, an _ _ (by omega), hu, bnd_t, nI_ushr (by omega) (by decide), bnd_t, nI_add, nI_ushr (by omega) (by decide), bnd_t, nI_add, an _ _ (by omega), ← bc_pc h]
  unfold bcN
  simp only
  rw [hy, hz, hu]
