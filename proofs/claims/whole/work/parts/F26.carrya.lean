/-! ===== swap: the class carries its world ===== -/
/-- the old component that a new one's name names -/
def cmO (E : Nat → Nat → Nat) (Nm Nm' : Nat → Nat → List Nat) (d : Nat) : Option Nat := fnm (Nm 8) (Nm' 8 d) (E 4 0) 0
/-- the old member that a new one's name names, in an old component -/
def mmO (E : Nat → Nat → Nat) (Nm Nm' : Nat → Nat → List Nat) (r : Option Nat) (m : Nat) : Option Nat :=
  match r with
  | none => none
  | some c => fnm (Nm 7) (Nm' 7 m) (E 5 (c + 1) - E 5 c) (E 5 c)
/-- the value that a new member has -/
def cvl (E E' : Nat → Nat → Nat) (V : Nat → Int32) (m : Nat) (mo : Option Nat) : Int32 :=
  match mo with
  | none => fstV (E' 6 m)
  | some m0 => trn (E 6 m0) (E' 6 m) (V m0)
def CYA (A : Hp) (wo w2 p p2 : Nat) (E E' : Nat → Nat → Nat) (Nm Nm' : Nat → Nat → List Nat) (Pv Pv' : Nat → Nat → Int32) (Q : Nat → Nat → Nat) (top wd : Nat) : Prop :=
  (isW A wo ∧ isW A w2 ∧ isP A p ∧ isP A p2) ∧ (ENA A p E Nm Pv ∧ ENA A p2 E' Nm' Pv') ∧ (PPL Q A w2 ∧ A.D w2 10 = nI (Q 5 0) ∧ A.D wo 9 = nI top ∧ A.D wo 10 = nI wd) ∧ 626 ≤ A.sh.length
/-- fixed numbers -/
def CYF (wo w2 p p2 : Nat) (E E' Q : Nat → Nat → Nat) (top wd : Nat) : Prop := (WE E ∧ WE E') ∧ (p = 133 ∨ p = 325) ∧ (p2 = 133 ∨ p2 = 325) ∧ wo + 5 < w2 ∧ w2 + 5 < 133 ∧ top ≤ 256 ∧ wd ≤ 48 ∧ Q 5 0 ≤ 48 ∧ (∀ q, q < 256 → Q 1 q = 1 → q < top) ∧ wd = E' 5 (E' 4 0)
section Par
variable {N p wo inp cs w u ir M K0 : Nat} {s pl : Int32} {ty mn nu cd : Nat → Int32} {E Q : Nat → Nat → Nat} {V : Nat → Nat → Int32} {nL lc : Nat} {lk : Nat → Nat} {hd : Nat → Int32}
variable {w2 p2 top wd : Nat} {E' : Nat → Nat → Nat} {Nm Nm' : Nat → Nat → List Nat} {Pv Pv' : Nat → Nat → Int32}
theorem CYA.fr {A A2 : Hp} {R : Nat → Nat → Prop} (h : CYA A wo w2 p p2 E E' Nm Nm' Pv Pv' Q top wd) (hF : CYF wo w2 p p2 E E' Q top wd) (hs : same R A A2) (hR : ∀ a f, R a f → (a = wo ∧ f ≠ 9 ∧ f ≠ 10) ∨ a = wo + 2 ∨ a = wo + 3 ∨ a = wo + 4) : CYA A2 wo w2 p p2 E E' Nm Nm' Pv Pv' Q top wd := by
  obtain ⟨⟨a1, a2, a3, a4⟩, ⟨b1, b2⟩, ⟨c1, c2, c3, c4⟩, hl⟩ := h
  obtain ⟨⟨e1, e2⟩, f1, f2, f3, f4, -⟩ := hF
  have d : ∀ a f, ¬ ((a = wo ∧ f ≠ 9 ∧ f ≠ 10) ∨ a = wo + 2 ∨ a = wo + 3 ∨ a = wo + 4) → A2.D a f = A.D a f := fun a f y => hs.1 _ _ (fun z => y (hR a f z))
  have nm : ∀ a n, 133 ≤ a → a ≤ 325 + 191 → nmd A a n → nmd A2 a n := fun a n y1 y2 y => y.gw hs.gw (WA_7 a1) (fun x f z => by have := hR x f z; omega) (fun f z => by have := hR a f z; omega) (by omega) hl
  obtain ⟨s1, s2, s3, s4, s5⟩ := hs
  refine ⟨⟨?_, ?_, ?_, ?_⟩, ⟨b1.fw e1 (fun a f y1 y2 => d a f (by omega)) (fun a n y1 y2 => nm a n (by omega) (by omega)), b2.fw e2 (fun a f y1 y2 => d a f (by omega)) (fun a n y1 y2 => nm a n (by omega) (by omega))⟩, ⟨fun q hq => ?_, by rw [d _ _ (by omega)]; exact c2, by rw [d _ _ (by omega)]; exact c3, by rw [d _ _ (by omega)]; exact c4⟩, by rw [s4]; exact hl⟩
  · unfold isW at a1 ⊢; rw [s2, s4]; exact a1
  · unfold isW at a2 ⊢; rw [s2, s4]; exact a2
  · unfold isP at a3 ⊢; rw [s2, s4]; exact a3
  · unfold isP at a4 ⊢; rw [s2, s4]; exact a4
  · rw [d _ _ (by omega), d _ _ (by omega)]
    exact c1 q hq
theorem cf_23 (hF : CYF wo w2 p p2 E E' Q top wd) : ∀ j i n A, i + j = top → j < n → CYA A wo w2 p p2 E E' Nm Nm' Pv Pv' Q top wd → ∃ A2, B_World_carryFrom_23 N wo w2 p p2 n (p2 + 70) (nI i) A = B_World_carryFrom_59 N wo w2 p p2 N (p2 + 70) 0 A2 ∧ same (fun a f => a = wo + 2) A A2 ∧ ∀ q, A2.D (wo + 2) q = if i ≤ q ∧ q < top ∧ Q 1 q = 1 then 0 else A.D (wo + 2) q := by
  have hF' := hF
  obtain ⟨-, f1, f2, f3, f4, f5, f6, f7, f8, f9⟩ := hF
  intro j
  induction j with
  | zero =>
    intro i n A hi hn hC
    obtain ⟨n, rfl⟩ : ∃ y, n = y + 1 := ⟨n - 1, by omega⟩
    obtain ⟨⟨a1, a2, a3, a4⟩, b, ⟨c1, c2, c3, c4⟩, hl⟩ := hC
    refine ⟨A, ?_, same.rf, fun q => by rw [if_neg (by omega)]⟩
    rw [B_World_carryFrom_23, ck_t (WS a1), bnd_t, c3, if_pos (nI_le (by omega) (by omega))]
  | succ j ih =>
    intro i n A hi hn hC
    obtain ⟨n, rfl⟩ : ∃ y, n = y + 1 := ⟨n - 1, by omega⟩
    have hC' := hC
    obtain ⟨⟨a1, a2, a3, a4⟩, b, ⟨c1, c2, c3, c4⟩, hl⟩ := hC
    obtain ⟨q1, q2, q3, q4⟩ := c1 i (by omega)
    have hd : B_World_carryFrom_23 N wo w2 p p2 (n + 1) (p2 + 70) (nI i) A = if Q 1 i = 1 then B_World_carryFrom_23 N wo w2 p p2 n (p2 + 70) (nI (i + 1)) (A.sD (wo + 2) i 0) else B_World_carryFrom_23 N wo w2 p p2 n (p2 + 70) (nI (i + 1)) A := by
      rw [B_World_carryFrom_23, ck_t (WS a1), bnd_t, c3, if_neg (nI_ge (by omega) (by omega)), ck_t (WS a2), rf_t (WP_8 a2), ar_t (WA_8 a2), rdI (show i < 256 by omega) (by decide), q4, rf_t (WP_8 a1), ar_t (WA_8 a1), wrI (show i < 256 by omega) (by decide)]
      unfold B_World_carryFrom_50
      rw [nI_1]
      by_cases y : Q 1 i = 1
      · rw [if_pos y, if_pos y, if_neg (show ¬ nI (Q 2 i) < (0 : Int32) from nI_nlt (b := 0) (by omega) (by omega))]
      · rw [if_neg y, if_neg y, if_pos (by decide)]
    by_cases y : Q 1 i = 1
    · have s1 : same (fun a f => a = wo + 2) A (A.sD (wo + 2) i 0) := same.rf.sD rfl
      obtain ⟨A2, r1, r2, r3⟩ := ih (i + 1) n (A.sD (wo + 2) i 0) (by omega) (by omega) (hC'.fr hF' s1 (fun a f z => .inr (.inl z)))
      refine ⟨A2, by rw [hd, if_pos y]; exact r1, s1.tr r2, fun q => ?_⟩
      rw [r3 q]
      by_cases z : q = i
      · subst z
        rw [if_neg (by omega), rds, if_pos ⟨Nat.le_refl _, by omega, y⟩]
      · rw [rdf z]
        by_cases z2 : i + 1 ≤ q ∧ q < top ∧ Q 1 q = 1
        · rw [if_pos z2, if_pos (by omega)]
        · rw [if_neg z2, if_neg (fun k => z2 ⟨by omega, k.2⟩)]
    · obtain ⟨A2, r1, r2, r3⟩ := ih (i + 1) n A (by omega) (by omega) hC'
      refine ⟨A2, by rw [hd, if_neg y]; exact r1, r2, fun q => ?_⟩
      rw [r3 q]
      by_cases z : q = i
      · subst z
        rw [if_neg (by omega), if_neg (fun k => y k.2.2)]
      · by_cases z2 : i + 1 ≤ q ∧ q < top ∧ Q 1 q = 1
        · rw [if_pos z2, if_pos (by omega)]
        · rw [if_neg z2, if_neg (fun k => z2 ⟨by omega, k.2⟩)]
theorem cf_92 {d c : Nat} {kq : Nat → Int32 → Hp → Option (Unit × Hp)} (hF : CYF wo w2 p p2 E E' Q top wd) (hd : d < 16) (hc : c < 16) : ∀ j i n A, i + j = top → j < n → CYA A wo w2 p p2 E E' Nm Nm' Pv Pv' Q top wd → ∃ A2, B_World_carryFrom_92 N wo w2 p p2 kq n (p2 + 70) (nI d) (nI c) (nI i) A = B_World_carryFrom_137 N wo w2 p p2 kq (p2 + 70) (nI d) (nI c) A2 ∧ same (fun a f => a = wo + 2) A A2 ∧ ∀ q, A2.D (wo + 2) q = if i ≤ q ∧ q < top ∧ Q 1 q = 1 ∧ Q 2 q / 2 ^ c % 2 = 1 then A.D (wo + 2) q ||| nI (2 ^ d) else A.D (wo + 2) q := by
  have hF' := hF
  obtain ⟨-, f1, f2, f3, f4, f5, f6, f7, f8, f9⟩ := hF
  intro j
  induction j with
  | zero =>
    intro i n A hi hn hC
    obtain ⟨n, rfl⟩ : ∃ y, n = y + 1 := ⟨n - 1, by omega⟩
    obtain ⟨⟨a1, a2, a3, a4⟩, b, ⟨c1, c2, c3, c4⟩, hl⟩ := hC
    refine ⟨A, ?_, same.rf, fun q => by rw [if_neg (by omega)]⟩
    rw [B_World_carryFrom_92, ck_t (WS a1), bnd_t, c3, if_pos (nI_le (by omega) (by omega))]
  | succ j ih =>
    intro i n A hi hn hC
    obtain ⟨n, rfl⟩ : ∃ y, n = y + 1 := ⟨n - 1, by omega⟩
    have hC' := hC
    obtain ⟨⟨a1, a2, a3, a4⟩, b, ⟨c1, c2, c3, c4⟩, hl⟩ := hC
    have hh : B_World_carryFrom_92 N wo w2 p p2 kq (n + 1) (p2 + 70) (nI d) (nI c) (nI i) A = if Q 1 i = 1 ∧ Q 2 i / 2 ^ c % 2 = 1 then B_World_carryFrom_92 N wo w2 p p2 kq n (p2 + 70) (nI d) (nI c) (nI (i + 1)) (A.sD (wo + 2) i (A.D (wo + 2) i ||| nI (2 ^ d))) else B_World_carryFrom_92 N wo w2 p p2 kq n (p2 + 70) (nI d) (nI c) (nI (i + 1)) A := by
      rw [B_World_carryFrom_92, ck_t (WS a1), bnd_t, c3, if_neg (nI_ge (by omega) (by omega)), if_neg (show ¬ nI c < (0 : Int32) from nI_nlt (b := 0) (by omega) (by omega)), ck_t (WS a2), bC_t (ev_ownsA a2 c1 (show i < 256 by omega) hc), rf_t (WP_8 a1), ar_t (WA_8 a1), rdI (show i < 256 by omega) (by decide), nI_shl (by omega), wrI (show i < 256 by omega) (by decide)]
      unfold B_World_carryFrom_131
      rw [nI_1]
      by_cases y : Q 1 i = 1 ∧ Q 2 i / 2 ^ c % 2 = 1
      · rw [if_pos y, if_pos y, if_neg (by decide)]
      · rw [if_neg y, if_neg y, if_pos rfl]
    by_cases y : Q 1 i = 1 ∧ Q 2 i / 2 ^ c % 2 = 1
    · have s1 : same (fun a f => a = wo + 2) A (A.sD (wo + 2) i (A.D (wo + 2) i ||| nI (2 ^ d))) := same.rf.sD rfl
      obtain ⟨A2, r1, r2, r3⟩ := ih (i + 1) n _ (by omega) (by omega) (hC'.fr hF' s1 (fun a f z => .inr (.inl z)))
      refine ⟨A2, by rw [hh, if_pos y]; exact r1, s1.tr r2, fun q => ?_⟩
      rw [r3 q]
      by_cases z : q = i
      · subst z
        rw [if_neg (by omega), rds, if_pos ⟨Nat.le_refl _, by omega, y⟩]
      · rw [rdf z]
        by_cases z2 : i + 1 ≤ q ∧ q < top ∧ Q 1 q = 1 ∧ Q 2 q / 2 ^ c % 2 = 1
        · rw [if_pos z2, if_pos ⟨by omega, z2.2⟩]
        · rw [if_neg z2, if_neg (fun k => z2 ⟨by omega, k.2⟩)]
    · obtain ⟨A2, r1, r2, r3⟩ := ih (i + 1) n A (by omega) (by omega) hC'
      refine ⟨A2, by rw [hh, if_neg y]; exact r1, r2, fun q => ?_⟩
      rw [r3 q]
      by_cases z : q = i
      · subst z
        rw [if_neg (by omega), if_neg (fun k => y k.2.2)]
      · by_cases z2 : i + 1 ≤ q ∧ q < top ∧ Q 1 q = 1 ∧ Q 2 q / 2 ^ c % 2 = 1
        · rw [if_pos z2, if_pos ⟨by omega, z2.2⟩]
        · rw [if_neg z2, if_neg (fun k => z2 ⟨by omega, k.2⟩)]
/-- the bits of one more component -/
theorem cf_bits {d : Nat} {r : Option Nat} {X : Nat → Nat} {kq : Nat → Int32 → Hp → Option (Unit × Hp)} {A : Hp} (hF : CYF wo w2 p p2 E E' Q top wd) (hd : d < 16) (hr : ∀ c, r = some c → c < 16) (hN : 300 ≤ N) (hC : CYA A wo w2 p p2 E E' Nm Nm' Pv Pv' Q top wd) (hX : ∀ q, q < 256 → A.D (wo + 2) q = if Q 1 q = 1 then nI (X q) else -1) : ∃ A2, ∃ X2 : Nat → Nat, B_World_carryFrom_92 N wo w2 p p2 kq N (p2 + 70) (nI d) (oNI r) 0 A = B_World_carryFrom_137 N wo w2 p p2 kq (p2 + 70) (nI d) (oNI r) A2 ∧ same (fun a f => a = wo + 2) A A2 ∧ (∀ q, q < 256 → A2.D (wo + 2) q = if Q 1 q = 1 then nI (X2 q) else -1) ∧ ∀ q, (X q < 2 ^ d → X2 q < 2 ^ (d + 1)) ∧ (q < 256 → Q 1 q = 1 → ∀ e, X2 q / 2 ^ e % 2 = 1 ↔ X q / 2 ^ e % 2 = 1 ∨ (e = d ∧ ∃ c, r = some c ∧ Q 2 q / 2 ^ c % 2 = 1)) := by
  have p2d : 2 ^ d < 2 ^ (d + 1) := Nat.pow_lt_pow_right (by decide) (by omega)
  cases r with
  | none =>
    obtain ⟨N, rfl⟩ : ∃ y, N = y + 1 := ⟨N - 1, by omega⟩
    obtain ⟨⟨a1, a2, a3, a4⟩, b, ⟨c1, c2, c3, c4⟩, hl⟩ := hC
    refine ⟨A, X, ?_, same.rf, hX, fun q => ⟨fun y => by omega, fun y1 y2 e => ⟨fun y => .inl y, fun y => ?_⟩⟩⟩
    · rw [B_World_carryFrom_92, ck_t (WS a1), bnd_t, if_pos (show oNI none < (0 : Int32) by decide)]
      split <;> rfl
    · rcases y with y | ⟨-, c, y, -⟩
      · exact y
      · cases y
  | some c =>
    have hc := hr c rfl
    have f8 := hF.2.2.2.2.2.2.2.2.1
    obtain ⟨A2, r1, r2, r3⟩ := cf_92 (N := N) (kq := kq) hF hd hc top 0 N A (by omega) (by have := hF.2.2.2.2.2.1; omega) hC
    refine ⟨A2, fun q => if Q 1 q = 1 ∧ Q 2 q / 2 ^ c % 2 = 1 then X q ||| 2 ^ d else X q, r1, r2, fun q hq => ?_, fun q => ⟨fun y => ?_, fun y1 y2 e => ?_⟩⟩
    · show A2.D (wo + 2) q = if Q 1 q = 1 then nI (if Q 1 q = 1 ∧ Q 2 q / 2 ^ c % 2 = 1 then X q ||| 2 ^ d else X q) else -1
      rw [r3 q, hX q hq]
      by_cases y : Q 1 q = 1
      · have := f8 q hq y
        rw [if_pos y, if_pos y]
        by_cases z : Q 2 q / 2 ^ c % 2 = 1
        · rw [if_pos ⟨Nat.zero_le _, this, y, z⟩, if_pos (show Q 1 q = 1 ∧ Q 2 q / 2 ^ c % 2 = 1 from ⟨y, z⟩), nI_or]
        · rw [if_neg (fun k => z k.2.2.2), if_neg (show ¬ (Q 1 q = 1 ∧ Q 2 q / 2 ^ c % 2 = 1) from fun k => z k.2)]
      · rw [if_neg (fun k => y k.2.2.1), if_neg y, if_neg y]
    · show (if Q 1 q = 1 ∧ Q 2 q / 2 ^ c % 2 = 1 then X q ||| 2 ^ d else X q) < 2 ^ (d + 1)
      split
      · exact Nat.or_lt_two_pow (by omega) p2d
      · omega
    · show (if Q 1 q = 1 ∧ Q 2 q / 2 ^ c % 2 = 1 then X q ||| 2 ^ d else X q) / 2 ^ e % 2 = 1 ↔ _
      by_cases z : Q 2 q / 2 ^ c % 2 = 1
      · rw [if_pos ⟨y2, z⟩, bit_or]
        exact ⟨fun y => y.imp id (fun k => ⟨k, c, rfl, z⟩), fun y => y.imp id (fun k => k.1)⟩
      · rw [if_neg (fun k => z k.2)]
        refine ⟨fun y => .inl y, fun y => ?_⟩
        rcases y with y | ⟨-, x, y, k⟩
        · exact y
        · rw [← Option.some.inj y] at k
          exact absurd k z
/-- a member over all places -/
theorem cm_19 {m : Nat} {mo : Option Nat} (hF : CYF wo w2 p p2 E E' Q top wd) (hm : m < wd) (hmo : ∀ m0, mo = some m0 → m0 < E 5 (E 4 0)) : ∀ j i n A, i + j = top → j < n → CYA A wo w2 p p2 E E' Nm Nm' Pv Pv' Q top wd → ∃ A2, B_World_carryMember_19 N wo w2 p (oNI mo) p2 (nI m) n (nI (E' 6 m)) (nI i) A = some ((), A2) ∧ same (fun a f => a = wo + 3 ∧ f % wd = m ∧ i ≤ f / wd) A A2 ∧ ∀ q, i ≤ q → q < top → A2.D (wo + 3) (q * wd + m) = cvl E E' (fun m0 => A.D (w2 + 3) (q * Q 5 0 + m0)) m mo := by
  have hF' := hF
  obtain ⟨⟨e1, e2⟩, f1, f2, f3, f4, f5, f6, f7, f8, f9⟩ := hF
  have g4 : E 5 (E 4 0) ≤ 48 := e1.2.2.2.1
  have g6 : ∀ m, m < E 5 (E 4 0) → E 6 m ≤ 4 := e1.2.2.2.2.1
  have g6' : ∀ m, m < E' 5 (E' 4 0) → E' 6 m ≤ 4 := e2.2.2.2.2.1
  have md : ∀ q, (q * wd + m) % wd = m := fun q => by rw [Nat.mul_comm, Nat.mul_add_mod, Nat.mod_eq_of_lt hm]
  have dv : ∀ q, (q * wd + m) / wd = q := fun q => by rw [Nat.mul_comm, Nat.mul_add_div (by omega), Nat.div_eq_of_lt hm, Nat.add_zero]
  intro j
  induction j with
  | zero =>
    intro i n A hi hn hC
    obtain ⟨n, rfl⟩ : ∃ y, n = y + 1 := ⟨n - 1, by omega⟩
    obtain ⟨⟨a1, a2, a3, a4⟩, b, ⟨c1, c2, c3, c4⟩, hl⟩ := hC
    refine ⟨A, ?_, same.rf, fun q y1 y2 => by omega⟩
    rw [B_World_carryMember_19, ck_t (WS a1), bnd_t, c3, if_pos (nI_le (by omega) (by omega))]
  | succ j ih =>
    intro i n A hi hn hC
    obtain ⟨n, rfl⟩ : ∃ y, n = y + 1 := ⟨n - 1, by omega⟩
    have hC' := hC
    obtain ⟨⟨a1, a2, a3, a4⟩, ⟨b1, b2⟩, ⟨c1, c2, c3, c4⟩, hl⟩ := hC
    have hM := PcM a4 m (by omega)
    have k6 : A.D (p2 + 89 + m) 3 = nI (E' 6 m) := (b2.2.1.2.2.1 m (by omega)).2
    have e4' : (nI (E' 6 m) = (4 : Int32)) = (E' 6 m = 4) := propext (nI_eq (b := 4) (by have := g6' m (by omega); omega) (by decide))
    have eF : F_Program_firstValue N p2 (nI m) A = some (fstV (E' 6 m), A) := by
      unfold F_Program_firstValue fstV
      rw [ck_t (PrS a4), rf_t (PrP_2 a4), ck_t (PrA_2 a4), rf_t (PcP_1 a4), ar_t (PcA_1 a4), rdP (show m < 48 by omega) (by decide), rf_t hM.1, ck_t hM.2, bnd_t, k6]
      simp only [e4']
      split <;> rfl
    generalize hv0 : cvl E E' (fun m0 => A.D (w2 + 3) (i * Q 5 0 + m0)) m mo = v0
    have hh : B_World_carryMember_19 N wo w2 p (oNI mo) p2 (nI m) (n + 1) (nI (E' 6 m)) (nI i) A = B_World_carryMember_19 N wo w2 p (oNI mo) p2 (nI m) n (nI (E' 6 m)) (nI (i + 1)) (A.sD (wo + 3) (i * wd + m) v0) := by
      rw [B_World_carryMember_19, ck_t (WS a1), bnd_t, c3, if_neg (nI_ge (by omega) (by omega)), ck_t (PrS a4), bC_t eF]
      have h67 : ∀ v, B_World_carryMember_67 N wo w2 p (oNI mo) p2 (nI m) (fun l6 l7 H => B_World_carryMember_19 N wo w2 p (oNI mo) p2 (nI m) n l6 l7 H) (nI (E' 6 m)) (nI i) v A = B_World_carryMember_19 N wo w2 p (oNI mo) p2 (nI m) n (nI (E' 6 m)) (nI (i + 1)) (A.sD (wo + 3) (i * wd + m) v) := fun v => by
        unfold B_World_carryMember_67
        rw [ck_t (WS a1), bC_t (ev_write a1 c4 f6 (by omega) (by omega)), nI_1]
      cases mo with
      | none =>
        rw [if_pos (show oNI none < (0 : Int32) by decide), h67, ← hv0]
        rfl
      | some m0 =>
        have hm0 := hmo m0 rfl
        have hM0 := PcM a3 m0 (by omega)
        rw [show oNI (some m0) = nI m0 from rfl] at h67 ⊢
        rw [if_neg (show ¬ nI m0 < (0 : Int32) from nI_nlt (b := 0) (by omega) (by omega)), ck_t (WS a2), bC_t (ev_read a2 c2 f7 (by omega) (by omega)), ck_t (PrS a3), rf_t (PrP_2 a3), ck_t (PrA_2 a3), rf_t (PcP_1 a3), ar_t (PcA_1 a3), rdP (show m0 < 48 by omega) (by decide), rf_t hM0.1, ck_t hM0.2, bnd_t, (b1.2.1.2.2.1 m0 hm0).2, bC_t (ev_trnA (g6 m0 hm0) (g6' m (by omega))), h67, ← hv0]
        rfl
    have s1 : same (fun a f => a = wo + 3 ∧ f % wd = m ∧ i ≤ f / wd) A (A.sD (wo + 3) (i * wd + m) v0) := same.rf.sD ⟨rfl, md i, by rw [dv]; exact Nat.le_refl _⟩
    obtain ⟨A2, r1, r2, r3⟩ := ih (i + 1) n _ (by omega) (by omega) (hC'.fr hF' s1 (fun a f z => .inr (.inr (.inl z.1))))
    refine ⟨A2, by rw [hh]; exact r1, s1.tr (r2.mono fun a f y => ⟨y.1, y.2.1, by omega⟩), fun q y1 y2 => ?_⟩
    by_cases z : q = i
    · subst z
      rw [hv0, r2.1 _ _ (fun y => by have := y.2.2; rw [dv] at this; omega), rds]
    · rw [r3 q (by omega) y2]
      unfold cvl
      cases mo with
      | none => rfl
      | some m0 =>
        show trn _ _ ((A.sD (wo + 3) (i * wd + m) v0).D (w2 + 3) (q * Q 5 0 + m0)) = _
        rw [rdw (by omega)]
/-- the members of a component -/
theorem cf_147 {d : Nat} {r : Option Nat} {kq : Nat → Int32 → Hp → Option (Unit × Hp)} (hF : CYF wo w2 p p2 E E' Q top wd) (hd : d < E' 4 0) (hr : ∀ c, r = some c → c < E 4 0) (hN : 300 ≤ N) : ∀ j i n A, i + j = E' 5 (d + 1) → j < n → E' 5 d ≤ i → CYA A wo w2 p p2 E E' Nm Nm' Pv Pv' Q top wd → ∃ A2, B_World_carryFrom_147 N wo w2 p p2 kq n (p2 + 70) (nI d) (oNI r) (nI i) A = kq (p2 + 70) (nI (d + 1)) A2 ∧ same (fun a f => a = wo + 3 ∧ i ≤ f % wd ∧ f % wd < E' 5 (d + 1)) A A2 ∧ ∀ m q, i ≤ m → m < E' 5 (d + 1) → q < top → A2.D (wo + 3) (q * wd + m) = cvl E E' (fun m0 => A.D (w2 + 3) (q * Q 5 0 + m0)) m (mmO E Nm Nm' r m) := by
  have hF' := hF
  obtain ⟨⟨e1, e2⟩, f1, f2, f3, f4, f5, f6, f7, f8, f9⟩ := hF
  have g4' := e2.2.2.1 d hd
  have g16' := e2.1
  have g4 : E 5 (E 4 0) ≤ 48 := e1.2.2.2.1
  have md : ∀ q m, m < wd → (q * wd + m) % wd = m := fun q m hm => by rw [Nat.mul_comm, Nat.mul_add_mod, Nat.mod_eq_of_lt hm]
  intro j
  induction j with
  | zero =>
    intro i n A hi hn hi2 hC
    obtain ⟨n, rfl⟩ : ∃ y, n = y + 1 := ⟨n - 1, by omega⟩
    obtain ⟨⟨a1, a2, a3, a4⟩, ⟨b1, b2⟩, ⟨c1, c2, c3, c4⟩, hl⟩ := hC
    refine ⟨A, ?_, same.rf, fun m q y1 y2 => by omega⟩
    rw [B_World_carryFrom_147, ck_t (PrA_2 a4), rf_t (PcP_2 a4), ar_t (PcA_2 a4), nI_1, rdI (show d + 1 < 17 by omega) (by decide), b2.2.1.2.1 (d + 1) (by omega), if_pos (nI_le (by omega) (by omega))]
  | succ j ih =>
    intro i n A hi hn hi2 hC
    obtain ⟨n, rfl⟩ : ∃ y, n = y + 1 := ⟨n - 1, by omega⟩
    have hC' := hC
    obtain ⟨⟨a1, a2, a3, a4⟩, ⟨b1, b2⟩, ⟨c1, c2, c3, c4⟩, hl⟩ := hC
    have hiw : i < wd := by omega
    have hM := PcM a4 i (by omega)
    obtain ⟨⟨sx, sx1, sx2, -, -⟩, k6⟩ := b2.2.1.2.2.1 i (by omega)
    have hmo : ∀ m0, mmO E Nm Nm' r i = some m0 → m0 < E 5 (E 4 0) := fun m0 y => by
      cases r with
      | none => cases y
      | some c =>
        have hc := hr c rfl
        have := fnm_bd _ _ _ (show fnm (Nm 7) (Nm' 7 i) (E 5 (c + 1) - E 5 c) (E 5 c) = some m0 from y)
        have := e1.2.2.1 c hc
        omega
    have eM : F_Shapes_memberNamed N (p + 70) (oNI r) sx A = some (oNI (mmO E Nm Nm' r i), A) := by
      cases r with
      | none =>
        unfold F_Shapes_memberNamed
        rw [if_pos (show oNI none < (0 : Int32) by decide)]
        rfl
      | some c =>
        have hc := hr c rfl
        have h3 := e1.2.2.1 c hc
        have h16 := e1.1
        exact ev_mnamed (f := Nm 7) (PrA_2 a3) (PcP_1 a3) (PcA_1 a3) (PcM a3) (PcP_2 a3) (PcA_2 a3) (by decide) (by decide) b1.2.1.1 (by omega) hc (b1.2.1.2.1 c (by omega)) (b1.2.1.2.1 (c + 1) (by omega)) h3.1 (by omega) sx2 (fun x y1 y2 => (b1.2.1.2.2.1 x (by omega)).1) (by omega)
    obtain ⟨A1, r1, r2, r3⟩ := cm_19 (N := N) (m := i) (mo := mmO E Nm Nm' r i) hF' hiw hmo top 0 N A (by omega) (by omega) hC'
    have hC1 := hC'.fr hF' r2 (fun a f z => .inr (.inr (.inl z.1)))
    have hh : B_World_carryFrom_147 N wo w2 p p2 kq (n + 1) (p2 + 70) (nI d) (oNI r) (nI i) A = B_World_carryFrom_147 N wo w2 p p2 kq n (p2 + 70) (nI d) (oNI r) (nI (i + 1)) A1 := by
      have eC : F_World_carryMember N wo w2 p (oNI (mmO E Nm Nm' r i)) p2 (nI i) A = some ((), A1) := by
        unfold F_World_carryMember
        rw [ck_t (PrS a4), rf_t (PrP_2 a4), ck_t (PrA_2 a4), rf_t (PcP_1 a4), ar_t (PcA_1 a4), rdP (show i < 48 by omega) (by decide), rf_t hM.1, ck_t hM.2, bnd_t, k6]
        exact r1
      rw [B_World_carryFrom_147, ck_t (PrA_2 a4), rf_t (PcP_2 a4), ar_t (PcA_2 a4), nI_1, rdI (show d + 1 < 17 by omega) (by decide), b2.2.1.2.1 (d + 1) (by omega), if_neg (nI_ge (by omega) (by omega)), ck_t (PrS a3), rf_t (PrP_2 a3), rf_t (PcP_1 a4), ar_t (PcA_1 a4), rdP (show i < 48 by omega) (by decide), rf_t hM.1, ck_t hM.2, rf_t sx1, ck_t (PrA_2 a3), bC_t eM, ck_t (WS a1), bC_t eC, nI_1]
    obtain ⟨A2, t1, t2, t3⟩ := ih (i + 1) n A1 (by omega) (by omega) (by omega) hC1
    refine ⟨A2, by rw [hh]; exact t1, (r2.mono fun a f y => ⟨y.1, by omega, by omega⟩).tr (t2.mono fun a f y => ⟨y.1, by omega, y.2.2⟩), fun m q y1 y2 y3 => ?_⟩
    by_cases z : m = i
    · subst z
      rw [t2.1 _ _ (fun y => by have := y.2.1; rw [md _ _ hiw] at this; omega)]
      exact r3 q (Nat.zero_le _) y3
    · rw [t3 m q (by omega) y2 y3]
      have : (fun m0 => A1.D (w2 + 3) (q * Q 5 0 + m0)) = fun m0 => A.D (w2 + 3) (q * Q 5 0 + m0) := by
        funext m0
        exact r2.1 _ _ (fun y => by have := y.1; omega)
      rw [this]
/-- all components -/
theorem cf_59 (hF : CYF wo w2 p p2 E E' Q top wd) (hN : 300 ≤ N) : ∀ j i n A (X : Nat → Nat), i + j = E' 4 0 → j < n → CYA A wo w2 p p2 E E' Nm Nm' Pv Pv' Q top wd → (∀ q, q < 256 → A.D (wo + 2) q = if Q 1 q = 1 then nI (X q) else -1) → (∀ q, X q < 2 ^ i) → ∃ A2, ∃ X2 : Nat → Nat, B_World_carryFrom_59 N wo w2 p p2 n (p2 + 70) (nI i) A = (bC (F_World_carryEvents N wo p p2 A2) fun _ H20 => some ((), H20)) ∧ same (fun a f => a = wo + 2 ∨ (a = wo + 3 ∧ E' 5 i ≤ f % wd)) A A2 ∧ (∀ q, q < 256 → A2.D (wo + 2) q = if Q 1 q = 1 then nI (X2 q) else -1) ∧ (∀ q, X2 q < 65536) ∧ (∀ q, q < 256 → Q 1 q = 1 → ∀ e, X2 q / 2 ^ e % 2 = 1 ↔ X q / 2 ^ e % 2 = 1 ∨ (i ≤ e ∧ e < E' 4 0 ∧ ∃ c, cmO E Nm Nm' e = some c ∧ Q 2 q / 2 ^ c % 2 = 1)) ∧ ∀ d m q, i ≤ d → mOf E' d m → q < top → A2.D (wo + 3) (q * wd + m) = cvl E E' (fun m0 => A.D (w2 + 3) (q * Q 5 0 + m0)) m (mmO E Nm Nm' (cmO E Nm Nm' d) m) := by
  have hF' := hF
  obtain ⟨⟨e1, e2⟩, f1, f2, f3, f4, f5, f6, f7, f8, f9⟩ := hF
  have g16' := e2.1
  have g16 := e1.1
  have md : ∀ q m, m < wd → (q * wd + m) % wd = m := fun q m hm => by rw [Nat.mul_comm, Nat.mul_add_mod, Nat.mod_eq_of_lt hm]
  intro j
  induction j with
  | zero =>
    intro i n A X hi hn hC hX hX2
    obtain ⟨n, rfl⟩ : ∃ y, n = y + 1 := ⟨n - 1, by omega⟩
    obtain ⟨⟨a1, a2, a3, a4⟩, ⟨b1, b2⟩, ⟨c1, c2, c3, c4⟩, hl⟩ := hC
    refine ⟨A, X, ?_, same.rf, hX, fun q => ?_, fun q y1 y2 e => ⟨fun y => .inl y, fun y => ?_⟩, fun d m q y1 y2 => ?_⟩
    · rw [B_World_carryFrom_59, ck_t (PrA_2 a4), bnd_t, b2.2.1.1, if_pos (nI_le (by omega) (by omega)), ck_t (WS a1)]
    · have := hX2 q
      have := Nat.pow_le_pow_right (show 0 < 2 by decide) (show i ≤ 16 by omega)
      omega
    · rcases y with y | y
      · exact y
      · omega
    · have := y2.1
      omega
  | succ j ih =>
    intro i n A X hi hn hC hX hX2
    obtain ⟨n, rfl⟩ : ∃ y, n = y + 1 := ⟨n - 1, by omega⟩
    have hC' := hC
    obtain ⟨⟨a1, a2, a3, a4⟩, ⟨b1, b2⟩, ⟨c1, c2, c3, c4⟩, hl⟩ := hC
    have hH := PcH a4 i (by omega)
    obtain ⟨sx, sx1, sx2, -, -⟩ := b2.2.1.2.2.2 i (by omega)
    have eH : F_Shapes_headNamed N (p + 70) sx A = some (oNI (cmO E Nm Nm' i), A) := ev_hnamed (f := Nm 8) (PrA_2 a3) (PcP_0 a3) (PcA_0 a3) (PcH a3) (by decide) b1.2.1.1 g16 sx2 (fun x y => b1.2.1.2.2.2 x y) (by omega)
    have hr : ∀ c, cmO E Nm Nm' i = some c → c < E 4 0 := fun c y => by have := fnm_bd _ _ _ y; omega
    have hh : B_World_carryFrom_59 N wo w2 p p2 (n + 1) (p2 + 70) (nI i) A = B_World_carryFrom_92 N wo w2 p p2 (fun l4 l5 H => B_World_carryFrom_59 N wo w2 p p2 n l4 l5 H) N (p2 + 70) (nI i) (oNI (cmO E Nm Nm' i)) 0 A := by
      rw [B_World_carryFrom_59, ck_t (PrA_2 a4), bnd_t, b2.2.1.1, if_neg (nI_ge (by omega) (by omega)), ck_t (PrS a3), rf_t (PrP_2 a3), rf_t (PcP_0 a4), ar_t (PcA_0 a4), rdP (show i < 16 by omega) (by decide), rf_t hH.1, ck_t hH.2, rf_t sx1, ck_t (PrA_2 a3), bC_t eH]
    obtain ⟨A1, X1, r1, r2, r3, r4⟩ := cf_bits (N := N) (d := i) (r := cmO E Nm Nm' i) (kq := fun l4 l5 H => B_World_carryFrom_59 N wo w2 p p2 n l4 l5 H) hF' (by omega) (fun c y => by have := hr c y; omega) hN hC' hX
    have hC1 := hC'.fr hF' r2 (fun a f z => .inr (.inl z))
    have g5 := e2.2.2.1 i (by omega)
    obtain ⟨A2, s1, s2, s3⟩ := cf_147 (N := N) (d := i) (r := cmO E Nm Nm' i) (kq := fun l4 l5 H => B_World_carryFrom_59 N wo w2 p p2 n l4 l5 H) hF' (by omega) hr hN (E' 5 (i + 1) - E' 5 i) (E' 5 i) N A1 (by omega) (by omega) (Nat.le_refl _) hC1
    have hC2 := hC1.fr hF' s2 (fun a f z => .inr (.inr (.inl z.1)))
    obtain ⟨A3, X3, t1, t2, t3, t4, t5, t6⟩ := ih (i + 1) n A2 X1 (by omega) (by omega) hC2 (fun q hq => by rw [s2.1 _ _ (by omega)]; exact r3 q hq) (fun q => (r4 q).1 (hX2 q))
    have v1 : ∀ q, (fun m0 => A1.D (w2 + 3) (q * Q 5 0 + m0)) = fun m0 => A.D (w2 + 3) (q * Q 5 0 + m0) := fun q => by
      funext m0
      exact r2.1 _ _ (by omega)
    have v2 : ∀ q, (fun m0 => A2.D (w2 + 3) (q * Q 5 0 + m0)) = fun m0 => A.D (w2 + 3) (q * Q 5 0 + m0) := fun q => by
      funext m0
      rw [s2.1 _ _ (by omega)]
      exact r2.1 _ _ (by omega)
    refine ⟨A3, X3, ?_, ((r2.mono fun a f y => .inl y).tr (s2.mono fun a f y => .inr ⟨y.1, y.2.1⟩)).tr (t2.mono fun a f y => y.imp id fun z => ⟨z.1, by omega⟩), t3, t4, fun q y1 y2 e => ?_, fun d m q y1 y2 y3 => ?_⟩
    · obtain ⟨⟨x1, x2, x3, x4⟩, ⟨z1, z2⟩, -⟩ := hC1
      rw [hh, r1]
      unfold B_World_carryFrom_137
      rw [ck_t (PrA_2 x4), rf_t (PcP_2 x4), ar_t (PcA_2 x4), rdI (show i < 17 by omega) (by decide), z2.2.1.2.1 i (by omega), s1]
      exact t1
    · rw [t5 q y1 y2 e, (r4 q).2 y1 y2 e]
      constructor
      · rintro ((y | ⟨y, z⟩) | ⟨k1, k2, k3⟩)
        · exact .inl y
        · exact .inr ⟨by omega, by omega, by rw [y]; exact z⟩
        · exact .inr ⟨by omega, k2, k3⟩
      · rintro (y | ⟨k1, k2, k3⟩)
        · exact .inl (.inl y)
        · by_cases z : e = i
          · exact .inl (.inr ⟨z, by rw [← z]; exact k3⟩)
          · exact .inr ⟨by omega, k2, k3⟩
    · by_cases z : d = i
      · subst z
        have hm := (mOf_lt e2 y2).1
        rw [t2.1 _ _ (fun y => by
          rcases y with y | ⟨-, y⟩
          · omega
          · rw [md _ _ (by omega)] at y
            have := y2.2.2
            omega), s3 m q y2.2.1 y2.2.2 y3, v1]
      · rw [t6 d m q (by omega) y2 y3, v2]
end Par
