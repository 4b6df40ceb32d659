/-! ===== general frames ===== -/
/-- nothing outside R has changed; there may be more -/
def gw (R : Nat → Nat → Prop) (A A' : Hp) : Prop := (∃ l, A'.sh = A.sh ++ l) ∧ ∀ a f, a < A.sh.length → ¬ R a f → A'.D a f = A.D a f ∧ A'.P a f = A.P a f
theorem gw.rf {R : Nat → Nat → Prop} {A : Hp} : gw R A A := ⟨⟨[], by rw [List.append_nil]⟩, fun _ _ _ _ => ⟨rfl, rfl⟩⟩
theorem gw.tr {R : Nat → Nat → Prop} {A B C : Hp} (h : gw R A B) (k : gw R B C) : gw R A C := by
  obtain ⟨⟨l, h1⟩, h2⟩ := h
  obtain ⟨⟨m, k1⟩, k2⟩ := k
  have hlen : B.sh.length = A.sh.length + l.length := by rw [h1, List.length_append]
  refine ⟨⟨l ++ m, by rw [k1, h1, List.append_assoc]⟩, fun a f y1 y2 => ?_⟩
  obtain ⟨p1, p2⟩ := h2 a f y1 y2
  obtain ⟨q1, q2⟩ := k2 a f (by omega) y2
  exact ⟨by rw [q1, p1], by rw [q2, p2]⟩
theorem gw.mono {R S : Nat → Nat → Prop} {A B : Hp} (h : gw R A B) (hs : ∀ a f, R a f → S a f) : gw S A B := ⟨h.1, fun a f y1 y2 => h.2 a f y1 (fun z => y2 (hs a f z))⟩
theorem same.gw {R : Nat → Nat → Prop} {A B : Hp} (h : same R A B) : gw R A B := ⟨⟨[], by rw [List.append_nil]; exact h.2.2.2.1⟩, fun a f _ y => ⟨h.1 a f y, by rw [h.2.1]⟩⟩
theorem smT.gw {R : Nat → Nat → Prop} {A B : Hp} (h : smT R A B) : gw (fun a f => R a f ∨ lnkB a f) A B := ⟨⟨[], by rw [List.append_nil]; exact h.2.2.2.1⟩, fun a f _ y => ⟨h.1 a f (fun z => y (.inl z)), h.2.1 a f (fun z => y (.inr z))⟩⟩
theorem exT.gw {R : Nat → Nat → Prop} {A B : Hp} {la z lb zb : Nat} (h : exT R A la z B lb zb) : gw (fun a f => R a f ∨ lnkA a f ∨ a = la) A B := ⟨h.2.1, fun a f y1 y => ⟨h.2.2.1 a f y1 (fun z => y (.inl z)) (fun z => y (.inr (.inr z))), h.2.2.2.1 a f y1 (fun z => y (.inr (.inl z)))⟩⟩
theorem exA.gw {S : Nat → Nat → Bool} {k : Nat} {A B : Hp} (h : exA S k A B) : gw (fun a f => S a f = true) A B := by
  obtain ⟨⟨l, h1, -⟩, -, -, h2⟩ := h
  refine ⟨⟨l, h1⟩, fun a f y1 y2 => h2 a f y1 ?_⟩
  cases hs : S a f with
  | true => exact absurd hs y2
  | false => rfl
theorem gw.get {R : Nat → Nat → Prop} {A B : Hp} {a : Nat} {s : Nat × Nat} (h : gw R A B) (hs : A.sh[a]? = some s) : B.sh[a]? = some s := by
  obtain ⟨⟨m, h2⟩, -⟩ := h
  rw [h2, List.getElem?_append_left (List.getElem?_eq_some_iff.mp hs).1]
  exact hs
/-- what the class's part of the play reads -/
def nA (p la a f : Nat) : Prop := (a = 11 ∧ f = 1) ∨ (12 ≤ a ∧ a ≤ 114) ∨ (125 ≤ a ∧ a ≤ 129) ∨ (p ≤ a ∧ a ≤ p + 191) ∨ (626 ≤ a ∧ a ≠ la) ∨ (a = 117 ∧ f = 0)
def nB (w us un a f : Nat) : Prop := (w ≤ a ∧ a ≤ w + 30) ∨ cU us a f ∨ cU un a f ∨ (616 ≤ a ∧ a ≤ 619) ∨ (a = 517 ∧ (f = 3 ∨ f = 8 ∨ f = 9))
theorem nmd.gw {R : Nat → Nat → Prop} {A B : Hp} {la za x : Nat} {n : List Nat} (h : nmd A x n) (hx : gw R A B) (hL : A.sh[la]? = some (100, za)) (hR : ∀ a f, R a f → ¬ (626 ≤ a ∧ a ≠ la)) (hRx : ∀ f, ¬ R x f) (hx6 : x < 626) (hlen : 626 ≤ A.sh.length) : nmd B x n := by
  obtain ⟨s, s1, ⟨t1, t2, t3, t4, b, b1, b2, b3⟩, s3, s4⟩ := h
  have ls := (List.getElem?_eq_some_iff.mp t1).1
  have lb' := (List.getElem?_eq_some_iff.mp b2).1
  have ns : s ≠ la := fun y => by rw [y, hL] at t1; exact absurd (show (100 : Nat) = 16 from congrArg Prod.fst (Option.some.inj t1)) (by decide)
  have nb : b ≠ la := fun y => by rw [y, hL] at b2; exact absurd (show (100 : Nat) = 101 from congrArg Prod.fst (Option.some.inj b2)) (by decide)
  have s6 : @LE.le Nat _ 626 s := s3
  have b6 : @LE.le Nat _ 626 b := s4 b b1
  have rs : ∀ f, ¬ R s f := fun f y => hR s f y ⟨s6, ns⟩
  have rb : ∀ f, ¬ R b f := fun f y => hR b f y ⟨b6, nb⟩
  refine ⟨s, by rw [(hx.2 x 0 (by omega) (hRx 0)).2]; exact s1, ⟨hx.get t1, by rw [(hx.2 s 1 ls (rs 1)).1]; exact t2, t3, t4, b, by rw [(hx.2 s 0 ls (rs 0)).2]; exact b1, hx.get b2, fun i hi => by rw [(hx.2 b i lb' (rb i)).1]; exact b3 i hi⟩, s3, fun b' y => s4 b' (by rw [← (hx.2 s 0 ls (rs 0)).2]; exact y)⟩
section Par
variable {N p wo inp cs w u ir M K0 : Nat} {s pl : Int32} {ty mn nu cd : Nat → Int32} {E Q : Nat → Nat → Nat} {V : Nat → Nat → Int32} {nL lc : Nat} {lk : Nat → Nat} {hd : Nat → Int32}
theorem TXF.gw {R S : Nat → Nat → Prop} {A B A' B' : Hp} {la z : Nat} {Nm : Nat → Nat → List Nat} {Pv : Nat → Nat → Int32} (h : TXF A p B w cs M ty mn nu cd E Nm Pv) (hE : WE E) (hG : Gr A) (hGB : Gr B) (hL : A.sh[la]? = some (100, z)) (hA : gw R A A') (hB : gw S B B') (hR : ∀ a f, R a f → ¬ (p ≤ a ∧ a ≤ p + 191) ∧ ¬ (626 ≤ a ∧ a ≠ la)) (hS : ∀ a f, S a f → ¬ (w ≤ a ∧ a ≤ w + 30)) : TXF A' p B' w cs M ty mn nu cd E Nm Pv := by
  obtain ⟨h1, h2, hp, hw, ⟨c1, c2⟩, ⟨t1, t2⟩, cd1, g27⟩ := h
  have hw' := lT_le hw
  have hlen := hG.len
  have hlenB := hGB.len
  have dA : ∀ a f, p ≤ a → a ≤ p + 191 → A'.D a f = A.D a f := fun a f y1 y2 => (hA.2 a f (by omega) (fun y => (hR _ _ y).1 ⟨y1, y2⟩)).1
  have dB : ∀ a f, w ≤ a → a ≤ w + 30 → B'.D a f = B.D a f := fun a f y1 y2 => (hB.2 a f (by omega) (fun y => hS _ _ y ⟨y1, y2⟩)).1
  exact ⟨h1.fw hE dA (fun a n y1 y2 y3 => y3.gw hA hL (fun a f y => (hR a f y).2) (fun f y => (hR a f y).1 ⟨y1, y2⟩) (by omega) hlen), h2.fw dB, hp, hw, ⟨by rw [dA _ _ (by omega) (by omega)]; exact c1, c2⟩, ⟨t1, fun i hi => by rw [dB _ _ (by omega) (by omega), dB _ _ (by omega) (by omega), dB _ _ (by omega) (by omega)]; exact t2 i hi⟩, fun x hx => by rw [dA _ _ (by omega) (by omega)]; exact cd1 x hx, fun s hs => by rw [dB _ _ (by omega) (by omega)]; exact g27 s hs⟩
theorem LST.gw {R : Nat → Nat → Prop} {A A' : Hp} {la z : Nat} (h : LST A la z) (hA : gw R A A') (hlen : 626 ≤ A.sh.length) (hR : ¬ R 117 0) : LST A' la z := by
  obtain ⟨h1, h2, h3⟩ := h
  exact ⟨by rw [(hA.2 117 0 (by omega) hR).2]; exact h1, hA.get h2, h3⟩
theorem PLI.gw {RA RB : Nat → Nat → Prop} {S : Nat → Nat} {b t0 la z us un c n : Nat} {Nm : Nat → Nat → List Nat} {Pv : Nat → Nat → Int32} {A B A' B' : Hp} (h : PLI N p cs w M ty mn nu cd E Nm Pv S b t0 A la z B us un c n) (hE : WE E) (hGA' : Gr A') (hGB' : Gr B') (hA : gw RA A A') (hB : gw RB B B') (cA : ∀ a f, RA a f → ¬ nA p la a f) (cB : ∀ a f, RB a f → ¬ nB w us un a f) : PLI N p cs w M ty mn nu cd E Nm Pv S b t0 A' la z B' us un c n := by
  obtain ⟨⟨hGA, hGB, hT, hL⟩, ⟨hus, hun, hne, b8, b9, b3⟩, ⟨n0, n1, n2, n3, n4, n5, n6⟩, ⟨Qn, x1, x2, x3⟩, ⟨Qs, y1, y2, y3⟩, hLk, hRw, hCm⟩ := h
  have hu1 := lU_le hus
  have hu2 := lU_le hun
  have hlen := hGA.len
  have hlenB := hGB.len
  have dA : ∀ a f, a < 626 → nA p la a f → A'.D a f = A.D a f := fun a f y1 y2 => (hA.2 a f (by omega) (fun y => cA a f y y2)).1
  have dB : ∀ a f, a < 626 → nB w us un a f → B'.D a f = B.D a f := fun a f y1 y2 => (hB.2 a f (by omega) (fun y => cB a f y y2)).1
  have pB : ∀ f, f = 3 ∨ f = 8 ∨ f = 9 → B'.P 517 f = B.P 517 f := fun f y => (hB.2 517 f (by omega) (fun z => cB _ _ z (.inr (.inr (.inr (.inr ⟨rfl, y⟩)))))).2
  have eA : ∀ a, 125 ≤ a → a ≤ 129 → A'.D a = A.D a := fun a y1 y2 => funext fun f => dA a f (by omega) (.inr (.inr (.inl ⟨y1, y2⟩)))
  have wA : ∀ m t a f, wt m t ≤ a → a ≤ wt m t + 5 → A'.D a f = A.D a f := fun m t a f y1 y2 => by
    have := lW_md (wt_m (n := m) (t := t))
    exact dA a f (by omega) (.inr (.inl (by omega)))
  have uB : ∀ a f, us ≤ a → a ≤ us + 9 → B'.D a f = B.D a f := fun a f y1 y2 => dB a f (by omega) (.inr (.inl ⟨y1, y2⟩))
  have vB : ∀ a f, un ≤ a → a ≤ un + 9 → B'.D a f = B.D a f := fun a f y1 y2 => dB a f (by omega) (.inr (.inr (.inl ⟨y1, y2⟩)))
  have iB : ∀ a f, 616 ≤ a → a ≤ 619 → B'.D a f = B.D a f := fun a f y1 y2 => dB a f (by omega) (.inr (.inr (.inr (.inl ⟨y1, y2⟩))))
  have a12 : ∀ a f, 12 ≤ a → a ≤ 17 → A'.D a f = A.D a f := fun a f y1 y2 => dA a f (by omega) (.inr (.inl (by omega)))
  refine ⟨⟨hGA', hGB', hT.gw hE hGA hGB hL.2.1 hA hB (fun a f y => ⟨fun z => cA a f y (.inr (.inr (.inr (.inl z)))), fun z => cA a f y (.inr (.inr (.inr (.inr (.inl z)))))⟩) (fun a f y z => cB a f y (.inl z)), hL.gw hA hlen (fun y => cA _ _ y (.inr (.inr (.inr (.inr (.inr ⟨rfl, rfl⟩))))))⟩, ⟨hus, hun, hne, by rw [pB 8 (by omega)]; exact b8, by rw [pB 9 (by omega)]; exact b9, by rw [pB 3 (by omega)]; exact b3⟩, ⟨n0, n1, n2, n3, by rw [dA _ _ (by omega) (.inl ⟨rfl, rfl⟩)]; exact n4, by rw [uB _ _ (by omega) (by omega)]; exact n5, by rw [a12 _ _ (by omega) (by omega)]; exact n6⟩, ⟨Qn, x1.fr (fun a f z1 z2 => a12 a f (by omega) (by omega)) vB, x2.fr vB, x3⟩, ⟨Qs, y1.fr (fun a f z1 z2 => wA _ _ a f z1 z2) uB, y2.fr uB, y3⟩, fun t z1 z2 => ?_, fun t z1 z2 => ?_, ?_⟩
  · rw [eA 129 (by decide) (by decide)]
    exact (hLk t z1 z2).fr (CEQ.fr fun a f k1 k2 => wA _ _ a f k1 k2) (CEQ.fr fun a f k1 k2 => wA _ _ a f k1 k2).symm
  · rw [eA 129 (by decide) (by decide), eA 128 (by decide) (by decide), eA 125 (by decide) (by decide), eA 126 (by decide) (by decide), eA 127 (by decide) (by decide), iB 618 _ (by omega) (by omega)]
    exact hRw t z1 z2
  · unfold CAM
    rw [eA 125 (by decide) (by decide), eA 126 (by decide) (by decide), eA 127 (by decide) (by decide)]
    refine ⟨fun x hx => ?_, fun x hx => ?_⟩
    · rw [iB 617 _ (by omega) (by omega), iB 616 _ (by omega) (by omega)]
      exact hCm.1 x hx
    · rw [iB 619 _ (by omega) (by omega)]
      exact hCm.2 x hx
end Par
