/-! regions: a set Q of addresses that is closed under references; a function called inside it leaves all else as it is, and the final references everywhere -/
def fin : Nat → List Bool
  | 0 => [true, true, true, true, false, false, false, false, false]
  | 1 => [true, false, false, false, false, false, true, true, true, true, false, false, true]
  | 2 => [false, false, false, false]
  | 3 => [true, true, true, false]
  | 4 => [true, false, true, true, false, true, true, false, true, true, true, true, true, true, true, false, true, false]
  | 5 => [true, true, false]
  | 6 => [true, false, false, false, true, false, false]
  | 7 => [false, false, false, false, false, false, false, true, true, false, false, true, true, false, true, false]
  | 8 => [false, false, false, false, false, true, false, true, true, true, true, true, false, false, false, false, false, false, false]
  | 9 => [true, false, false]
  | 10 => [true, false, false, false, true, false, true, true, true, true, true, true, true, true]
  | 11 => [true, false, false, false, false, false]
  | 12 => [false, true, false, false, false, false, false, false, false, false, false, true, false, false, true, true, true, true, true, true, false, true, false, false, false, true, true, false, false]
  | 13 => [false, false, false, false, true, true, true, true, false, true, true, true, true, false, false, false, false, true]
  | 14 => [true, false, false, true, true, true, true, true, true, false, false, false, false, true, true, true, false, true, true, true, true, false, true, true, true, true, false, true, true, false, true, true, true, true, true, true, true, false, true, true, true, false, false]
  | 15 => [false, false, false, true, false, false, false, false, false, false, false, false, false, true, true, true]
  | _ => []
/-- what may not be written: final references, elements of arrays of references -/
def isFin (k f : Nat) : Bool := if 104 < k then true else (fin k).getD f false
def Cl (Q : Nat → Prop) (H : Hp) : Prop := ∀ a f b, Q a → H.P a f = .ref b → Q b
def Fr (Q : Nat → Prop) (H K : Hp) : Prop := ∀ a, ¬ Q a → K.D a = H.D a ∧ K.P a = H.P a ∧ K.L a = H.L a
def Fn (H K : Hp) : Prop := ∀ (a f : Nat) (s : Nat × Nat), H.sh[a]? = some s → isFin s.1 f = true → K.P a f = H.P a f
def Rg (Q : Nat → Prop) (H K : Hp) : Prop := Cl Q K ∧ Fr Q H K ∧ Fn H K ∧ Mo H K
theorem Rg.rf {Q : Nat → Prop} {H : Hp} (h : Cl Q H) : Rg Q H H := ⟨h, fun _ _ => ⟨rfl, rfl, rfl⟩, fun _ _ _ _ _ => rfl, Mo.rf H⟩
theorem Rg.tr {Q : Nat → Prop} {H K M : Hp} (h1 : Rg Q H K) (h2 : Rg Q K M) : Rg Q H M := by
  obtain ⟨-, f1, n1, m1⟩ := h1
  obtain ⟨c2, f2, n2, m2⟩ := h2
  refine ⟨c2, fun a ha => ?_, fun a f s hs hf => (n2 a f s (m1.get hs) hf).trans (n1 a f s hs hf), m1.tr m2⟩
  obtain ⟨x1, x2, x3⟩ := f1 a ha
  obtain ⟨y1, y2, y3⟩ := f2 a ha
  exact ⟨y1.trans x1, y2.trans x2, y3.trans x3⟩
theorem Rg.sD {Q : Nat → Prop} {H : Hp} {a f : Nat} {v : Int32} (hc : Cl Q H) (ha : Q a) : Rg Q H (H.sD a f v) := by
  refine ⟨hc, fun x hx => ⟨?_, rfl, rfl⟩, fun _ _ _ _ _ => rfl, Mo.rf H⟩
  show up2 H.D a f v x = H.D x
  exact up2_o (fun e => hx (e ▸ ha))
theorem Rg.sL {Q : Nat → Prop} {H : Hp} {a f : Nat} {v : Int64} (hc : Cl Q H) (ha : Q a) : Rg Q H (H.sL a f v) := by
  refine ⟨hc, fun x hx => ⟨rfl, rfl, ?_⟩, fun _ _ _ _ _ => rfl, Mo.rf H⟩
  show up2 H.L a f v x = H.L x
  exact up2_o (fun e => hx (e ▸ ha))
theorem Rg.cpy {Q : Nat → Prop} {H : Hp} {a b sp dp n : Nat} (hc : Cl Q H) (hb : Q b) : Rg Q H (H.cpy a b sp dp n) := by
  refine ⟨hc, fun x hx => ⟨?_, rfl, rfl⟩, fun _ _ _ _ _ => rfl, Mo.rf H⟩
  show (if x = b then _ else H.D x) = H.D x
  exact if_neg (fun e => hx (by rw [e]; exact hb))
theorem Rg.sP {Q : Nat → Prop} {H : Hp} {a f k z : Nat} {v : Value} (hc : Cl Q H) (ha : Q a) (hv : ∀ x, v = .ref x → Q x) (hs : H.sh[a]? = some (k, z)) (hf : isFin k f = false) : Rg Q H (H.sP a f v) := by
  refine ⟨fun x g b hx hb => ?_, fun x hx => ⟨rfl, ?_, rfl⟩, fun x g s hx hg => ?_, Mo.rf H⟩
  · have e : up2 H.P a f v x g = .ref b := hb
    unfold up2 at e
    split at e
    · split at e
      · exact hv b e
      · exact hc x g b hx e
    · exact hc x g b hx e
  · show up2 H.P a f v x = H.P x
    exact up2_o (fun e => hx (e ▸ ha))
  · show up2 H.P a f v x g = H.P x g
    unfold up2
    split
    · next e =>
      split
      · next e2 =>
        subst e e2
        cases hs.symm.trans hx
        rw [hf] at hg
        cases hg
      · rfl
    · rfl
theorem Rg.nw {Q : Nat → Prop} {H : Hp} {s : Nat × Nat} {k : Nat} (hc : Cl Q H) (hn : Q H.sh.length) : Rg Q H (H.nw s k) := by
  refine ⟨fun x g b hx hb => ?_, fun x hx => ?_, fun x g t hx _ => ?_, Mo.nw H s k⟩
  · have e : (if x = H.sh.length then Value.null else H.P x g) = .ref b := hb
    split at e
    · cases e
    · exact hc x g b hx e
  · have hne : ¬ x = H.sh.length := fun e => hx (by rw [e]; exact hn)
    refine ⟨?_, ?_, ?_⟩
    · funext y; show (if x = H.sh.length then 0 else H.D x y) = _; exact if_neg hne
    · funext y; show (if x = H.sh.length then Value.null else H.P x y) = _; exact if_neg hne
    · funext y; show (if x = H.sh.length then 0 else H.L x y) = _; exact if_neg hne
  · have hne : ¬ x = H.sh.length := fun e => by
      have := (List.getElem?_eq_some_iff.mp hx).1
      omega
    show (if x = H.sh.length then Value.null else H.P x g) = _
    exact if_neg hne
theorem Rg.nx {Q : Nat → Prop} {H : Hp} {s : Nat × Nat} {k : Nat} (hc : Cl Q H) : Rg Q H (H.nx s k) := ⟨hc, fun _ _ => ⟨rfl, rfl, rfl⟩, fun _ _ _ _ _ => rfl, Mo.nx H s k⟩
theorem no_rf {Q : Nat → Prop} : ∀ x, Value.null = .ref x → Q x := fun _ h => by cases h
theorem no_fl {Q : Nat → Prop} {k : UInt32} : ∀ x, Value.float k = .ref x → Q x := fun _ h => by cases h
theorem is_rf {Q : Nat → Prop} {a : Nat} (h : Q a) : ∀ x, Value.ref a = .ref x → Q x := fun _ e => by cases e; exact h
