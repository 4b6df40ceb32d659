/-! ===== changes over a tick, with its links ===== -/
def lnkA (a f : Nat) : Prop := (a = 116 ∧ (f = 1 ∨ f = 2)) ∨ (a = 117 ∧ (f = 0 ∨ f = 2 ∨ f = 3 ∨ f = 4))
def lnkB (a f : Nat) : Prop := a = 611 ∧ (f = 0 ∨ f = 1 ∨ f = 2)
/-- as exS, and the links of ticker and row may change -/
def exT (R : Nat → Nat → Prop) (A : Hp) (la z : Nat) (A' : Hp) (la' z' : Nat) : Prop :=
  LST A' la' z' ∧ (∃ l, A'.sh = A.sh ++ l) ∧ (∀ a f, a < A.sh.length → ¬ R a f → a ≠ la → A'.D a f = A.D a f) ∧ (∀ a f, a < A.sh.length → ¬ lnkA a f → A'.P a f = A.P a f) ∧ (∀ a f, a < A.sh.length → A'.L a f = A.L a f) ∧ (la' = la ∨ A.sh.length ≤ la') ∧ z ≤ z' ∧ A'.sl + 2 * z ≤ A.sl + 2 * z' ∧ 704 * A'.sh.length + z ≤ 704 * A.sh.length + z'
/-- as same, and the links of the runner may change -/
def smT (R : Nat → Nat → Prop) (B B' : Hp) : Prop := (∀ a f, ¬ R a f → B'.D a f = B.D a f) ∧ (∀ a f, ¬ lnkB a f → B'.P a f = B.P a f) ∧ B'.L = B.L ∧ B'.sh = B.sh ∧ B'.sl = B.sl
theorem exS.exT {R : Nat → Nat → Prop} {A B : Hp} {la za lb zb : Nat} (h : exS R A la za B lb zb) : exT R A la za B lb zb := by
  obtain ⟨h1, h2, h3, h4, h5⟩ := h
  exact ⟨h1, h2, h3, fun a f a1 a2 => h4 a f a1 (fun y => a2 (.inr ⟨y.1, .inl y.2⟩)), h5⟩
theorem same.smT {R : Nat → Nat → Prop} {A B : Hp} (h : same R A B) : smT R A B := by
  obtain ⟨h1, h2, h3⟩ := h
  exact ⟨h1, fun a f _ => by rw [h2], h3⟩
theorem exT.tr {R : Nat → Nat → Prop} {A B C : Hp} {la za lb zb lc zc : Nat} (h : exT R A la za B lb zb) (k : exT R B lb zb C lc zc) : exT R A la za C lc zc := by
  obtain ⟨h1, ⟨l, h2⟩, h3, h4, h5, h6, h7, h8, h9⟩ := h
  obtain ⟨k1, ⟨m, k2⟩, k3, k4, k5, k6, k7, k8, k9⟩ := k
  have hlen : B.sh.length = A.sh.length + l.length := by rw [h2, List.length_append]
  refine ⟨k1, ⟨l ++ m, by rw [k2, h2, List.append_assoc]⟩, fun a f a1 a2 a3 => ?_, fun a f a1 a2 => by rw [k4 a f (by omega) a2, h4 a f a1 a2], fun a f a1 => by rw [k5 a f (by omega), h5 a f a1], by omega, by omega, by omega, by omega⟩
  rw [k3 a f (by omega) a2 (by omega), h3 a f a1 a2 a3]
theorem exT.mono {R S : Nat → Nat → Prop} {A B : Hp} {la za lb zb : Nat} (h : exT R A la za B lb zb) (hs : ∀ a f, R a f → S a f) : exT S A la za B lb zb :=
  ⟨h.1, h.2.1, fun a f a1 a2 a3 => h.2.2.1 a f a1 (fun z => a2 (hs a f z)) a3, h.2.2.2⟩
theorem smT.tr {R : Nat → Nat → Prop} {A B C : Hp} (h : smT R A B) (k : smT R B C) : smT R A C := by
  obtain ⟨h1, h2, h3, h4, h5⟩ := h
  obtain ⟨k1, k2, k3, k4, k5⟩ := k
  exact ⟨fun a f y => by rw [k1 a f y, h1 a f y], fun a f y => by rw [k2 a f y, h2 a f y], by rw [k3, h3], by rw [k4, h4], by rw [k5, h5]⟩
theorem smT.mono {R S : Nat → Nat → Prop} {A B : Hp} (h : smT R A B) (hs : ∀ a f, R a f → S a f) : smT S A B := ⟨fun a f y => h.1 a f (fun z => y (hs a f z)), h.2⟩
theorem exT.lk {R : Nat → Nat → Prop} {A : Hp} {p wo inp la z : Nat} (h : LST A la z) : exT R A la z (lkA p wo inp A) la z := by
  refine ⟨h, ⟨[], by rw [List.append_nil]; rfl⟩, fun _ _ _ _ _ => rfl, fun a f _ y => ?_, fun _ _ _ => rfl, .inl rfl, Nat.le_refl _, Nat.le_refl _, Nat.le_refl _⟩
  unfold lnkA at y
  unfold lkA
  rw [sP_o (by omega), sP_o (by omega), sP_o (by omega), sP_o (by omega), sP_o (by omega)]
theorem smT.lk {R : Nat → Nat → Prop} {B : Hp} {w u ir : Nat} : smT R B (lkB w u ir B) := by
  refine ⟨fun _ _ _ => rfl, fun a f y => ?_, rfl, rfl, rfl⟩
  unfold lnkB at y
  unfold lkB
  rw [sP_o (by omega), sP_o (by omega), sP_o (by omega)]
theorem rf0_ln : rf0.all (fun q => decide (¬ ((q.1 = 116 ∧ (q.2.1 = 1 ∨ q.2.1 = 2)) ∨ (q.1 = 117 ∧ (q.2.1 = 0 ∨ q.2.1 = 2 ∨ q.2.1 = 3 ∨ q.2.1 = 4)) ∨ (q.1 = 611 ∧ (q.2.1 = 0 ∨ q.2.1 = 1 ∨ q.2.1 = 2))))) = true := by decide +kernel
theorem exT.gr {R : Nat → Nat → Prop} {A B : Hp} {la za lb zb : Nat} (h : exT R A la za B lb zb) (g : Gr A) : Gr B := by
  obtain ⟨h1, ⟨m, h2⟩, h3, h4, -⟩ := h
  have hg := g
  obtain ⟨⟨l, e⟩, g2⟩ := g
  refine ⟨⟨l ++ m, by rw [h2, e, List.append_assoc]⟩, fun q hq => ?_⟩
  have k3 := List.all_eq_true.mp rf0_fin q hq
  have k4 := of_decide_eq_true (List.all_eq_true.mp rf0_ln q hq)
  have hb : q.1 < A.sh.length := by
    cases hs : sh0[q.1]? with
    | none => rw [hs] at k3; cases k3
    | some s =>
      have := (List.getElem?_eq_some_iff.mp hs).1
      rw [e, List.length_append]
      omega
  rw [h4 q.1 q.2.1 hb (fun z => k4 (by unfold lnkA at z; omega))]
  exact g2 q hq
theorem smT.gr {R : Nat → Nat → Prop} {A B : Hp} (h : smT R A B) (g : Gr A) : Gr B := by
  obtain ⟨⟨l, e⟩, g2⟩ := g
  refine ⟨⟨l, by rw [h.2.2.2.1]; exact e⟩, fun q hq => ?_⟩
  have k4 := of_decide_eq_true (List.all_eq_true.mp rf0_ln q hq)
  rw [h.2.1 q.1 q.2.1 (fun z => k4 (by unfold lnkB at z; omega))]
  exact g2 q hq
theorem exT.get {R : Nat → Nat → Prop} {A B : Hp} {la za lb zb a : Nat} {s : Nat × Nat} (h : exT R A la za B lb zb) (hs : A.sh[a]? = some s) : B.sh[a]? = some s := by
  obtain ⟨-, ⟨m, h2⟩, -⟩ := h
  rw [h2, List.getElem?_append_left (List.getElem?_eq_some_iff.mp hs).1]
  exact hs
/-- names stay -/
theorem nmd.exT {R : Nat → Nat → Prop} {A B : Hp} {la za lb zb x : Nat} {n : List Nat} (h : nmd A x n) (hx : exT R A la za B lb zb) (hL : LST A la za) (hR : ∀ a f, R a f → a < 626) (hx6 : x < 626) (hx7 : x ≠ 117 ∧ x ≠ 116) (hG : Gr A) : nmd B x n := by
  obtain ⟨s, s1, ⟨t1, t2, t3, t4, b, b1, b2, b3⟩, s3, s4⟩ := h
  have hlen := hG.len
  have ls := (List.getElem?_eq_some_iff.mp t1).1
  have lb' := (List.getElem?_eq_some_iff.mp b2).1
  have ns : s ≠ la := fun y => by rw [y, hL.2.1] at t1; exact absurd (show (100 : Nat) = 16 from congrArg Prod.fst (Option.some.inj t1)) (by decide)
  have nb : b ≠ la := fun y => by rw [y, hL.2.1] at b2; exact absurd (show (100 : Nat) = 101 from congrArg Prod.fst (Option.some.inj b2)) (by decide)
  have s6 : @LE.le Nat _ 626 s := s3
  have b6 : @LE.le Nat _ 626 b := s4 b b1
  have pP : ∀ a f, a < A.sh.length → ¬ lnkA a f → B.P a f = A.P a f := hx.2.2.2.1
  have pD : ∀ a f, a < A.sh.length → ¬ R a f → a ≠ la → B.D a f = A.D a f := hx.2.2.1
  have nl : ¬ lnkA s 0 := by
    clear hx7 hR pP pD hx
    unfold lnkA
    omega
  refine ⟨s, by rw [pP x 0 (by omega) (by unfold lnkA; omega)]; exact s1, ⟨hx.get t1, by rw [pD s 1 ls (fun y => absurd (hR _ _ y) (Nat.not_lt.mpr s6)) ns]; exact t2, t3, t4, b, by rw [pP s 0 ls nl]; exact b1, hx.get b2, fun i hi => by rw [pD b i lb' (fun y => absurd (hR _ _ y) (Nat.not_lt.mpr b6)) nb]; exact b3 i hi⟩, s3, fun b' y => s4 b' (by rw [← pP s 0 ls nl]; exact y)⟩
theorem ENA.fw {A A' : Hp} {p : Nat} {E : Nat → Nat → Nat} {Nm : Nat → Nat → List Nat} {Pv : Nat → Nat → Int32} (h : ENA A p E Nm Pv) (hE : WE E) (hd : ∀ a f, p ≤ a → a ≤ p + 191 → A'.D a f = A.D a f) (hn : ∀ a n, p ≤ a → a ≤ p + 191 → nmd A a n → nmd A' a n) : ENA A' p E Nm Pv := by
  have e56 : E 0 0 ≤ 56 := hE.2.2.2.2.2.2.2.2.2.2.2.2.2.1
  obtain ⟨a1, a2, a3, a4, a5, a6⟩ := h
  exact ⟨EA1.fr a1 (fun a f z1 z2 => hd a f (by omega) (by omega)) (fun a n z1 z2 z3 => hn a n (by omega) (by omega) z3), EA2.fr a2 hE (fun a f z => hd a f (by omega) (by omega)) (fun a n z1 z2 z3 => hn a n (by omega) (by omega) z3), EA3.fr a3 hE (fun a f z => hd a f (by omega) (by omega)) (fun a n z1 z2 z3 => hn a n (by omega) (by omega) z3), EA4.fr a4 (fun a f z => hd a f (by omega) (by omega)), EA5.fr a5 (fun a f z => hd a f (by omega) (by omega)), by rw [hd _ _ (by omega) (by omega)]; exact a6⟩
theorem ENB.fw {B B' : Hp} {w : Nat} {E : Nat → Nat → Nat} {Nm : Nat → Nat → List Nat} {Pv : Nat → Nat → Int32} (h : ENB B w E Nm Pv) (hd : ∀ a f, w ≤ a → a ≤ w + 30 → B'.D a f = B.D a f) : ENB B' w E Nm Pv := by
  obtain ⟨a1, a2, a3, a4, a5⟩ := h
  have hl : ltr w B B' := ⟨funext fun f => hd _ f (by omega) (by omega), funext fun f => hd _ f (by omega) (by omega), funext fun f => hd _ f (by omega) (by omega)⟩
  exact ⟨EB1.fr a1 hl (fun a f z => hd a f (by omega) (by omega)), EB2.fr a2 hl (fun a f z => hd a f (by omega) (by omega)), EB3.fr a3 hl (fun a f z => hd a f (by omega) (by omega)), EB4.fr a4 (fun a f z => hd a f (by omega) (by omega)), EB5.fr a5 (fun a f z => hd a f (by omega) (by omega))⟩
section Par
variable {N p wo inp cs w u ir M K0 : Nat} {s pl : Int32} {ty mn nu cd : Nat → Int32} {E Q : Nat → Nat → Nat} {V : Nat → Nat → Int32} {nL lc : Nat} {lk : Nat → Nat} {hd : Nat → Int32}
/-- the text over changes elsewhere -/
theorem TXF.fw {R S : Nat → Nat → Prop} {A B A' B' : Hp} {la z la' z' : Nat} {Nm : Nat → Nat → List Nat} {Pv : Nat → Nat → Int32} (h : TXF A p B w cs M ty mn nu cd E Nm Pv) (hE : WE E) (hG : Gr A) (hL : LST A la z) (hA : exT R A la z A' la' z') (hB : smT S B B') (hR : ∀ a f, R a f → a < 133) (hS : ∀ a f, S a f → a < 519 ∨ 581 ≤ a) : TXF A' p B' w cs M ty mn nu cd E Nm Pv := by
  obtain ⟨h1, h2, hp, hw, ⟨c1, c2⟩, ⟨t1, t2⟩, cd1, g27⟩ := h
  have hw' := lT_le hw
  have hlen := hG.len
  have hla := hL.2.2.1
  have dA : ∀ a f, p ≤ a → a ≤ p + 191 → A'.D a f = A.D a f := fun a f y1 y2 => hA.2.2.1 a f (by omega) (fun y => by have := hR _ _ y; omega) (by omega)
  have dB : ∀ a f, w ≤ a → a ≤ w + 30 → B'.D a f = B.D a f := fun a f y1 y2 => hB.1 a f (fun y => by have := hS _ _ y; omega)
  exact ⟨h1.fw hE dA (fun a n y1 y2 y3 => y3.exT hA hL (fun a f y => by have := hR _ _ y; omega) (by omega) (by omega) hG), h2.fw dB, hp, hw, ⟨by rw [dA _ _ (by omega) (by omega)]; exact c1, c2⟩, ⟨t1, fun i hi => by rw [dB _ _ (by omega) (by omega), dB _ _ (by omega) (by omega), dB _ _ (by omega) (by omega)]; exact t2 i hi⟩, fun x hx => by rw [dA _ _ (by omega) (by omega)]; exact cd1 x hx, fun s hs => by rw [dB _ _ (by omega) (by omega)]; exact g27 s hs⟩
end Par
