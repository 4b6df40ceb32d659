/-! ===== bits ===== -/
theorem nI_and (a b : Nat) (ha : a < 2 ^ 31) : nI a &&& nI b = nI (a &&& b) := by
  apply Int32.toBitVec_inj.mp
  rw [Int32.toBitVec_and]
  show BitVec.ofNat 32 a &&& BitVec.ofNat 32 b = BitVec.ofNat 32 (a &&& b)
  rw [BitVec.ofNat_and]
theorem nI_or (a b : Nat) : nI a ||| nI b = nI (a ||| b) := by
  apply Int32.toBitVec_inj.mp
  rw [Int32.toBitVec_or]
  show BitVec.ofNat 32 a ||| BitVec.ofNat 32 b = BitVec.ofNat 32 (a ||| b)
  rw [BitVec.ofNat_or]
theorem sh_c0 : ∀ c : Fin 31, (nI c.val &&& 31) = nI c.val ∧ (nI c.val).toBitVec.smod 32 = BitVec.ofNat 32 c.val ∧ (1 : Int32) <<< (nI c.val &&& 31) = nI (2 ^ c.val) := by decide +kernel
theorem nI_shl {c : Nat} (h : c < 31) : (1 : Int32) <<< (nI c &&& 31) = nI (2 ^ c) := (sh_c0 ⟨c, h⟩).2.2
theorem nI_shr {m c : Nat} (hm : m < 2 ^ 31) (h : c < 31) : nI m >>> (nI c &&& 31) = nI (m / 2 ^ c) := by
  obtain ⟨e1, e2, -⟩ := sh_c0 ⟨c, h⟩
  simp only at e1 e2
  rw [e1]
  apply Int32.toBitVec_inj.mp
  rw [Int32.toBitVec_shiftRight, e2]
  apply BitVec.eq_of_toNat_eq
  have hmsb : (nI m).toBitVec.msb = false := by
    show (BitVec.ofNat 32 m).msb = false
    rw [BitVec.msb_eq_decide]
    simp only [BitVec.toNat_ofNat, decide_eq_false_iff_not, Nat.not_le]
    omega
  rw [BitVec.sshiftRight', BitVec.sshiftRight_eq_of_msb_false hmsb, BitVec.toNat_ushiftRight]
  show (BitVec.ofNat 32 m).toNat >>> (BitVec.ofNat 32 c).toNat = (BitVec.ofNat 32 (m / 2 ^ c)).toNat
  have hd : m / 2 ^ c ≤ m := Nat.div_le_self _ _
  rw [BitVec.toNat_ofNat, BitVec.toNat_ofNat, BitVec.toNat_ofNat, Nat.mod_eq_of_lt (by omega), Nat.mod_eq_of_lt (by omega), Nat.shiftRight_eq_div_pow, Nat.mod_eq_of_lt (by omega)]
theorem nI_and1 {m : Nat} (hm : m < 2 ^ 31) : nI m &&& 1 = nI (m % 2) := by
  rw [show (1 : Int32) = nI 1 from rfl, nI_and _ _ hm, Nat.and_one_is_mod]
/-- bit c of m -/
theorem nI_bit {m c : Nat} (hm : m < 2 ^ 31) (h : c < 31) : (nI m >>> (nI c &&& 31)) &&& 1 = nI (m / 2 ^ c % 2) := by
  have hd : m / 2 ^ c ≤ m := Nat.div_le_self _ _
  rw [nI_shr hm h, nI_and1 (by omega)]
theorem nI_bit1 {m c : Nat} (hm : m < 2 ^ 31) (h : c < 31) : ((nI m >>> (nI c &&& 31)) &&& 1 = 1) ↔ m / 2 ^ c % 2 = 1 := by
  rw [nI_bit hm h]
  exact nI_eq (b := 1) (by omega) (by decide)
theorem nI_bit0 {m c : Nat} (hm : m < 2 ^ 31) (h : c < 31) : ((nI m >>> (nI c &&& 31)) &&& 1 = 0) ↔ ¬ m / 2 ^ c % 2 = 1 := by
  rw [nI_bit hm h]
  refine (nI_eq (b := 0) (by omega) (by decide)).trans ?_
  omega
theorem bit_tb {m c : Nat} : (m / 2 ^ c % 2 = 1) ↔ m.testBit c = true := by
  rw [Nat.testBit_eq_decide_div_mod_eq, decide_eq_true_iff]
/-! ===== the state of a body that is read ===== -/
def BoA (A : Hp) (p : Nat) (E : Nat → Nat → Nat) (nL lc dp : Nat) (ln : Nat → List Nat) (lk lf : Nat → Nat) (hd : Nat → Int32) (cs : Nat) : Prop :=
  A.P 9 1 = .ref p ∧ A.D 9 2 = nI (E 17 0 - 1) ∧ A.D 9 3 = nI nL ∧ A.D 9 5 = nI lc ∧ A.D 9 6 = nI dp ∧ A.D p 1 = nI (E 0 0 + nL) ∧ A.D p 17 = nI cs ∧
  (∀ k, k < nL → nmd A (p + 2 + (E 0 0 + k)) (ln k) ∧ A.D (p + 2 + (E 0 0 + k)) 1 = nI (5 + lf k) ∧ A.D (p + 2 + (E 0 0 + k)) 2 = nI k ∧ A.D (p + 2 + (E 0 0 + k)) 3 = nI (lk k)) ∧ ∀ l, l < lc → A.D 10 l = hd l
def BoB (B : Hp) (w : Nat) (nL lc dp : Nat) (ln : Nat → List Nat) (lk lf : Nat → Nat) (hd : Nat → Int32) : Prop :=
  B.D w 37 = nI nL ∧ B.D w 41 = nI dp ∧ (∃ hm, hm < 256 ∧ B.D w 42 = nI hm ∧ ∀ e, e < 8 → (hm / 2 ^ e % 2 = 1 ↔ ∃ l, l < lc ∧ hd l = nI e)) ∧
  ∀ k, k < nL → (∃ u, B.D (w + 28) k = nI u ∧ tokN B w u (ln k)) ∧ B.D (w + 29) k = nI (lk k) ∧ B.D (w + 30) k = nI (lf k)
def CX (p : Nat) (E : Nat → Nat → Nat) (Nm : Nat → Nat → List Nat) (nL lc dp : Nat) (ln : Nat → List Nat) (lk lf : Nat → Nat) (hd : Nat → Int32) : Prop :=
  WE E ∧ (p = 133 ∨ p = 325) ∧ 1 ≤ E 17 0 ∧ nL ≤ 12 ∧ lc ≤ dp ∧ dp ≤ 20 ∧ (∀ k, k < nL → lk k ≤ 4 ∧ lk k ≠ 1 ∧ lf k ≤ 1 ∧ (lf k = 1 → lk k = 4)) ∧ (∀ k l, k < E 0 0 → l < nL → Nm 1 k ≠ ln l) ∧ ∀ l, l < lc → hd l = -1 ∨ ∃ e, e < E 9 0 ∧ hd l = nI e
def JA (p T : Nat) (L : List (Nat × Nat × Int32 × Bool × Nat)) (g : Nat → Nat) (E : Nat → Nat → Nat) (Nm : Nat → Nat → List Nat) (Pv : Nat → Nat → Int32) (nL lc dp : Nat) (ln : Nat → List Nat) (lk lf : Nat → Nat) (hd : Nat → Int32) (i cs : Nat) (A : Hp) : Prop := LA A L T g i ∧ ENA A p E Nm Pv ∧ BoA A p E nL lc dp ln lk lf hd cs
def JB (w T : Nat) (L : List (Nat × Nat × Int32 × Bool × Nat)) (g : Nat → Nat) (E : Nat → Nat → Nat) (Nm : Nat → Nat → List Nat) (Pv : Nat → Nat → Int32) (nL lc dp : Nat) (ln : Nat → List Nat) (lk lf : Nat → Nat) (hd : Nat → Int32) (i : Nat) (B : Hp) : Prop := LB B w L T g i ∧ ENB B w E Nm Pv ∧ BoB B w nL lc dp ln lk lf hd
/-- both fail alike, or both go on -/
def Out {α β : Type} (S : Nat → Nat → Bool) (R : Nat → Nat → Prop) (w : Nat) (L : List (Nat × Nat × Int32 × Bool × Nat)) (i : Nat) (A B : Hp) (fA : Option (Ot α × Hp)) (fB : Option (β × Hp)) (Post : Nat → α → Hp → β → Hp → Prop) : Prop :=
  (∃ x A' y B' k p0, fA = some (.inr x, A') ∧ fB = some (y, B') ∧ (A'.sh[x]? = some (17, 0) ∧ A'.D 1 4 = nI k) ∧ A'.D 1 5 = nI p0 ∧ Zf B' w k p0 ∧ exA S (2 * (L.length - i) + 2) A A' ∧ same R B B') ∨
  ∃ v A' y B' j, fA = some (.inl v, A') ∧ fB = some (y, B') ∧ i ≤ j ∧ j < L.length ∧ exA S (2 * (j - i)) A A' ∧ same R B B' ∧ Post j v A' y B'
theorem Out.bind {α β γ δ : Type} {S : Nat → Nat → Bool} {R : Nat → Nat → Prop} {w : Nat} {L : List (Nat × Nat × Int32 × Bool × Nat)} {i : Nat} {A B : Hp} {fA : Option (Ot α × Hp)} {fB : Option (β × Hp)} {Post : Nat → α → Hp → β → Hp → Prop} {K : α → Hp → Option (Ot γ × Hp)} {K' : β → Hp → Option (δ × Hp)} {Post' : Nat → γ → Hp → δ → Hp → Prop}
    (h : Out S R w L i A B fA fB Post) (hs : ∀ j v A' y B', i ≤ j → exA S (2 * (j - i)) A A' → same R B B' → Post j v A' y B' → Out S R w L j A' B' (K v A') (K' y B') Post')
    (hz : ∀ y B' k p0, Zf B' w k p0 → ∃ y2 B2, K' y B' = some (y2, B2) ∧ Zf B2 w k p0 ∧ same R B' B2) : Out S R w L i A B (bT fA K) (bC fB K') Post' := by
  rcases h with ⟨x, A', y, B', k, p0, e1, e2, e3, e4, e5, e6, e7⟩ | ⟨v, A', y, B', j, e1, e2, e3, e4, e5, e6, e7⟩
  · obtain ⟨y2, B2, z1, z2, z3⟩ := hz y B' k p0 e5
    exact Or.inl ⟨x, A', y2, B2, k, p0, by rw [e1]; rfl, by rw [e2]; exact z1, e3, e4, z2, e6, e7.tr z3⟩
  · rw [e1, e2]
    rcases hs j v A' y B' e3 e5 e6 e7 with ⟨x, A2, y2, B2, k, p0, f1, f2, f3, f4, f5, f6, f7⟩ | ⟨v2, A2, y2, B2, j2, f1, f2, f3, f4, f5, f6, f7⟩
    · exact Or.inl ⟨x, A2, y2, B2, k, p0, f1, f2, f3, f4, f5, (e5.tr f6).mono (fun _ _ h => h) (by omega), e6.tr f7⟩
    · exact Or.inr ⟨v2, A2, y2, B2, j2, f1, f2, by omega, f4, (e5.tr f5).mono (fun _ _ h => h) (by omega), e6.tr f6, f7⟩
theorem Out.pre {γ δ : Type} {S : Nat → Nat → Bool} {R : Nat → Nat → Prop} {w : Nat} {L : List (Nat × Nat × Int32 × Bool × Nat)} {i j k : Nat} {A B A1 B1 : Hp} {fA : Option (Ot γ × Hp)} {fB : Option (δ × Hp)} {Post : Nat → γ → Hp → δ → Hp → Prop} (h : Out S R w L j A1 B1 fA fB Post) (ha : exA S k A A1) (hb : same R B B1) (hij : i ≤ j) (hj : j < L.length) (hk : k ≤ 2 * (j - i)) : Out S R w L i A B fA fB Post := by
  rcases h with ⟨x, A2, y2, B2, k2, p0, f1, f2, f3, f4, f5, f6, f7⟩ | ⟨v2, A2, y2, B2, j2, f1, f2, f3, f4, f5, f6, f7⟩
  · exact Or.inl ⟨x, A2, y2, B2, k2, p0, f1, f2, f3, f4, f5, (ha.tr f6).mono (fun _ _ h => h) (by omega), hb.tr f7⟩
  · exact Or.inr ⟨v2, A2, y2, B2, j2, f1, f2, by omega, f4, (ha.tr f5).mono (fun _ _ h => h) (by omega), hb.tr f6, f7⟩
theorem Out.wk {γ δ : Type} {S : Nat → Nat → Bool} {R : Nat → Nat → Prop} {w : Nat} {L : List (Nat × Nat × Int32 × Bool × Nat)} {i : Nat} {A B : Hp} {fA : Option (Ot γ × Hp)} {fB : Option (δ × Hp)} {Post Post' : Nat → γ → Hp → δ → Hp → Prop} (h : Out S R w L i A B fA fB Post) (hp : ∀ j v A' y B', i ≤ j → exA S (2 * (j - i)) A A' → same R B B' → Post j v A' y B' → Post' j v A' y B') : Out S R w L i A B fA fB Post' := by
  rcases h with h | ⟨v2, A2, y2, B2, j2, f1, f2, f3, f4, f5, f6, f7⟩
  · exact Or.inl h
  · exact Or.inr ⟨v2, A2, y2, B2, j2, f1, f2, f3, f4, f5, f6, hp _ _ _ _ _ f3 f5 f6 f7⟩
/-- both go on -/
theorem Out.ok {γ δ : Type} {S : Nat → Nat → Bool} {R : Nat → Nat → Prop} {w : Nat} {L : List (Nat × Nat × Int32 × Bool × Nat)} {i : Nat} {A B : Hp} {v : γ} {y : δ} {Post : Nat → γ → Hp → δ → Hp → Prop} (hi : i < L.length) (h : Post i v A y B) : Out S R w L i A B (some (.inl v, A)) (some (y, B)) Post := Or.inr ⟨v, A, y, B, i, rfl, rfl, Nat.le_refl _, hi, by rw [Nat.sub_self]; exact exA.rf, same.rf, h⟩
theorem SRo_fail {w : Nat} {B : Hp} {k p : Nat} : same (SRo w) B (failB B w k p) := (same.rf.sD (by unfold SRo; omega)).sD (by unfold SRo; omega)
/-- both fail here -/
theorem ref_sh {A : Hp} {k p : Int32} : (refA A k p).sh[A.sh.length]? = some (17, 0) := by
  show (A.sh ++ [(17, 0)])[A.sh.length]? = _
  simp
theorem Out.no {γ δ : Type} {w p n T i k t j : Nat} {L : List (Nat × Nat × Int32 × Bool × Nat)} {g : Nat → Nat} {A B B1 : Hp} {y : δ} {Post : Nat → γ → Hp → δ → Hp → Prop} (hB : LB B w L T g j) (h0 : 0 < k) (hk : k < 100) (hi : i < L.length) (hz : Zf B1 w k t) (hs : same (SRo w) B B1) : Out (SBo p n) (SRo w) w L i A B (some (.inr A.sh.length, refA A (nI k) (nI t)) : Option (Ot γ × Hp)) (some (y, B1)) Post := by
  refine Or.inl ⟨A.sh.length, _, y, B1, k, t, rfl, rfl, ⟨ref_sh, ref_f.1⟩, ref_f.2, hz, ?_, hs⟩
  exact (ref_ex (k := nI k) (p := nI t)).mono SL_SBo (by omega)
