/-! ===== the heap as functions: fields and elements by address and number ===== -/
def Hp : Type := (Nat → Nat → Int32) × (Nat → Nat → Value) × (Nat → Nat → Int64) × List (Nat × Nat) × Nat
def mkH (D : Nat → Nat → Int32) (P : Nat → Nat → Value) (L : Nat → Nat → Int64) (sh : List (Nat × Nat)) (sl : Nat) : Hp := (D, P, L, sh, sl)
def Hp.D (H : Hp) : Nat → Nat → Int32 := Prod.fst H
def Hp.P (H : Hp) : Nat → Nat → Value := Prod.fst (Prod.snd H)
def Hp.L (H : Hp) : Nat → Nat → Int64 := Prod.fst (Prod.snd (Prod.snd H))
def Hp.sh (H : Hp) : List (Nat × Nat) := Prod.fst (Prod.snd (Prod.snd (Prod.snd H)))
def Hp.sl (H : Hp) : Nat := Prod.snd (Prod.snd (Prod.snd (Prod.snd H)))
theorem mkH_D {D : Nat → Nat → Int32} {P : Nat → Nat → Value} {L : Nat → Nat → Int64} {s : List (Nat × Nat)} {n : Nat} : (mkH D P L s n).D = D := rfl
theorem mkH_P {D : Nat → Nat → Int32} {P : Nat → Nat → Value} {L : Nat → Nat → Int64} {s : List (Nat × Nat)} {n : Nat} : (mkH D P L s n).P = P := rfl
theorem mkH_L {D : Nat → Nat → Int32} {P : Nat → Nat → Value} {L : Nat → Nat → Int64} {s : List (Nat × Nat)} {n : Nat} : (mkH D P L s n).L = L := rfl
theorem mkH_sh {D : Nat → Nat → Int32} {P : Nat → Nat → Value} {L : Nat → Nat → Int64} {s : List (Nat × Nat)} {n : Nat} : (mkH D P L s n).sh = s := rfl
theorem mkH_sl {D : Nat → Nat → Int32} {P : Nat → Nat → Value} {L : Nat → Nat → Int64} {s : List (Nat × Nat)} {n : Nat} : (mkH D P L s n).sl = n := rfl
/-- which fields of a class are references -/
def kd : Nat → List Bool
  | 0 => [true, true, true, true, true, true, false, false, false]
  | 1 => [true, false, false, false, false, false, true, true, true, true, false, false, true]
  | 2 => [true, false, false, false]
  | 3 => [true, true, true, false]
  | 4 => [true, false, true, true, false, true, true, false, true, true, true, true, true, true, true, false, true, false]
  | 5 => [true, true, true]
  | 6 => [true, true, false, false, true, false, false]
  | 7 => [false, false, false, false, false, false, false, true, true, false, false, true, true, false, true, false]
  | 8 => [true, false, true, true, true, true, false, true, true, true, true, true, false, false, false, false, false, false, false]
  | 9 => [true, true, true]
  | 10 => [true, false, false, false, true, false, true, true, true, true, true, true, true, true]
  | 11 => [true, false, false, false, false, false]
  | 12 => [false, true, false, true, true, false, false, false, true, true, true, true, false, false, true, true, true, true, true, true, false, true, false, false, false, true, true, false, false]
  | 13 => [false, false, false, false, true, true, true, true, false, true, true, true, true, false, false, false, false, true]
  | 14 => [true, false, false, true, true, true, true, true, true, false, false, false, false, true, true, true, false, true, true, true, true, false, true, true, true, true, false, true, true, false, true, true, true, true, true, true, true, false, true, true, true, false, false]
  | 15 => [true, true, true, true, false, false, false, false, false, false, false, false, false, true, true, true]
  | 16 => [true, false, false, false]
  | _ => []
def kt : Nat → FieldType
  | 100 => .int
  | 101 => .byte
  | 102 => .boolean
  | _ => .char
def kc : Nat → String
  | 105 => "WorldEngine$World"
  | _ => "WorldEngine$Named"
def vo : Value → Option Nat
  | .ref a => some a
  | _ => none
def hp_cell (H : Hp) (a : Nat) (s : Nat × Nat) : ab_E :=
  if s.1 < 100 then .inr (s.1, (kd s.1).mapIdx (fun f r => if r then H.P a f else .int (H.D a f)))
  else if s.1 < 104 then .inl (kt s.1, s.2, .inl (H.D a))
  else if s.1 = 104 then .inl (.long, s.2, .inr (.inl (H.L a)))
  else .inl (.object (kc s.1), s.2, .inr (.inr (.inr (.inr (fun i => vo (H.P a i))))))
def hpw (H : Hp) : List ab_E := H.sh.mapIdx (fun a s => hp_cell H a s)
def up2 {α : Type} (D : Nat → Nat → α) (a f : Nat) (v : α) : Nat → Nat → α := fun x y => if x = a then (if y = f then v else D x y) else D x y
def Hp.sD (H : Hp) (a f : Nat) (v : Int32) : Hp := mkH (up2 H.D a f v) H.P H.L H.sh H.sl
def Hp.sP (H : Hp) (a f : Nat) (v : Value) : Hp := mkH H.D (up2 H.P a f v) H.L H.sh H.sl
def Hp.sL (H : Hp) (a f : Nat) (v : Int64) : Hp := mkH H.D H.P (up2 H.L a f v) H.sh H.sl
def Hp.cpy (H : Hp) (a b sp dp n : Nat) : Hp := mkH (fun x => if x = b then va_cpy (H.D a) (H.D b) sp dp n else H.D x) H.P H.L H.sh H.sl
def Hp.nw (H : Hp) (s : Nat × Nat) (k : Nat) : Hp :=
  mkH (fun x y => if x = H.sh.length then 0 else H.D x y) (fun x y => if x = H.sh.length then .null else H.P x y) (fun x y => if x = H.sh.length then 0 else H.L x y) (H.sh ++ [s]) (H.sl + k)
/-- a thrown exception's object -/
def Hp.nx (H : Hp) (s : Nat × Nat) (k : Nat) : Hp := mkH H.D H.P H.L (H.sh ++ [s]) (H.sl + k)
theorem hpw_len (H : Hp) : (hpw H).length = H.sh.length := by simp [hpw]
theorem hpw_get {H : Hp} {a : Nat} {s : Nat × Nat} (h : H.sh[a]? = some s) : (hpw H)[a]? = some (hp_cell H a s) := by simp [hpw, List.getElem?_mapIdx, h]
theorem hp_cell_obj {H : Hp} {a ci z : Nat} (hci : ci < 100) : hp_cell H a (ci, z) = .inr (ci, (kd ci).mapIdx (fun f r => if r then H.P a f else .int (H.D a f))) := by simp [hp_cell, hci]
theorem hp_cell_arr {H : Hp} {a k n : Nat} (h1 : ¬ k < 100) (h2 : k < 104) : hp_cell H a (k, n) = .inl (kt k, n, .inl (H.D a)) := by simp [hp_cell, h1, h2]
theorem hp_cell_lar {H : Hp} {a n : Nat} : hp_cell H a (104, n) = .inl (.long, n, .inr (.inl (H.L a))) := by simp [hp_cell]
theorem hp_cell_rar {H : Hp} {a k n : Nat} (h : 104 < k) : hp_cell H a (k, n) = .inl (.object (kc k), n, .inr (.inr (.inr (.inr (fun i => vo (H.P a i)))))) := by
  unfold hp_cell
  rw [if_neg (by show ¬ k < 100; omega), if_neg (by show ¬ k < 104; omega), if_neg (by show ¬ k = 104; omega)]
theorem hpw_ext {H K : Hp} {a : Nat} {c : ab_E} (hs : K.sh = H.sh) (ho : ∀ x s, x ≠ a → hp_cell K x s = hp_cell H x s) (ha : ∀ s, H.sh[a]? = some s → hp_cell K a s = c) : (hpw H).set a c = hpw K := by
  apply List.ext_getElem?
  intro j
  rw [List.getElem?_set, hpw_len]
  by_cases h : a = j
  · subst h
    rw [if_pos rfl]
    by_cases hl : a < H.sh.length
    · rw [if_pos hl, hpw_get (H := K) (s := H.sh[a]) (by rw [hs]; exact List.getElem?_eq_getElem hl), ha _ (List.getElem?_eq_getElem hl)]
    · rw [if_neg hl]
      symm
      rw [List.getElem?_eq_none_iff, hpw_len, hs]
      omega
  · rw [if_neg h]
    simp only [hpw, List.getElem?_mapIdx, hs]
    cases hj : H.sh[j]? with
    | none => rfl
    | some s => simp only [Option.map_some]; rw [ho j s (fun z => h z.symm)]
theorem up2_o {α : Type} {D : Nat → Nat → α} {a f : Nat} {v : α} {x : Nat} (h : x ≠ a) : up2 D a f v x = D x := by funext y; simp [up2, h]
theorem up2_s {α : Type} {D : Nat → Nat → α} {a f : Nat} {v : α} : up2 D a f v a = fun y => if y = f then v else D a y := by funext y; simp [up2]
theorem hp_cell_D {H : Hp} {a f : Nat} {v : Int32} {x : Nat} {s : Nat × Nat} (h : x ≠ a) : hp_cell (H.sD a f v) x s = hp_cell H x s := by
  unfold hp_cell Hp.sD
  simp only [mkH_D, mkH_P, mkH_L, up2_o h]
theorem hp_cell_P {H : Hp} {a f : Nat} {v : Value} {x : Nat} {s : Nat × Nat} (h : x ≠ a) : hp_cell (H.sP a f v) x s = hp_cell H x s := by
  unfold hp_cell Hp.sP
  simp only [mkH_D, mkH_P, mkH_L, up2_o h]
theorem hp_cell_L {H : Hp} {a f : Nat} {v : Int64} {x : Nat} {s : Nat × Nat} (h : x ≠ a) : hp_cell (H.sL a f v) x s = hp_cell H x s := by
  unfold hp_cell Hp.sL
  simp only [mkH_D, mkH_P, mkH_L, up2_o h]
theorem mapIdx_set1 {l : List Bool} {g g' : Nat → Bool → Value} {f : Nat} {v : Value} (h1 : ∀ r, l[f]? = some r → g' f r = v) (h2 : ∀ j r, j ≠ f → g' j r = g j r) : l.mapIdx g' = (l.mapIdx g).set f v := by
  apply List.ext_getElem?
  intro j
  rw [List.getElem?_set, List.length_mapIdx]
  simp only [List.getElem?_mapIdx]
  by_cases h : f = j
  · subst h
    rw [if_pos rfl]
    cases hj : l[f]? with
    | none =>
      rw [if_neg (by have := List.getElem?_eq_none_iff.mp hj; omega)]; rfl
    | some r =>
      rw [if_pos (List.getElem?_eq_some_iff.mp hj).1]
      simp only [Option.map_some]
      rw [h1 r hj]
  · rw [if_neg h]
    cases hj : l[j]? with
    | none => rfl
    | some r => simp only [Option.map_some]; rw [h2 j r (fun z => h z.symm)]
theorem hpw_putI {H : Hp} {a ci z f : Nat} {v : Int32} (hs : H.sh[a]? = some (ci, z)) (hci : ci < 100) (hk : (kd ci)[f]? = some false) :
    (hpw H).set a (.inr (ci, ((kd ci).mapIdx (fun f r => if r then H.P a f else .int (H.D a f))).set f (.int v))) = hpw (H.sD a f v) := by
  refine hpw_ext rfl (fun x s h => hp_cell_D h) (fun s h => ?_)
  cases hs.symm.trans h
  rw [hp_cell_obj hci]
  congr 2
  refine mapIdx_set1 (fun r hr => ?_) (fun j r hj => ?_)
  · cases hk.symm.trans hr; simp [Hp.sD, mkH_D, mkH_P, mkH_L, up2]
  · simp [Hp.sD, mkH_D, mkH_P, mkH_L, up2, hj]
theorem hpw_putP {H : Hp} {a ci z f : Nat} {v : Value} (hs : H.sh[a]? = some (ci, z)) (hci : ci < 100) (hk : (kd ci)[f]? = some true) :
    (hpw H).set a (.inr (ci, ((kd ci).mapIdx (fun f r => if r then H.P a f else .int (H.D a f))).set f v)) = hpw (H.sP a f v) := by
  refine hpw_ext rfl (fun x s h => hp_cell_P h) (fun s h => ?_)
  cases hs.symm.trans h
  rw [hp_cell_obj hci]
  congr 2
  refine mapIdx_set1 (fun r hr => ?_) (fun j r hj => ?_)
  · cases hk.symm.trans hr; simp [Hp.sP, mkH_D, mkH_P, mkH_L, up2]
  · simp [Hp.sP, mkH_D, mkH_P, mkH_L, up2, hj]
theorem hpw_arr {H : Hp} {a k n f : Nat} {v : Int32} (hs : H.sh[a]? = some (k, n)) (h1 : ¬ k < 100) (h2 : k < 104) : (hpw H).set a (.inl (kt k, n, .inl (upd (H.D a) f v))) = hpw (H.sD a f v) := by
  refine hpw_ext rfl (fun x s h => hp_cell_D h) (fun s h => ?_)
  cases hs.symm.trans h
  rw [hp_cell_arr h1 h2]
  congr 4
  funext y
  simp [Hp.sD, mkH_D, mkH_P, mkH_L, up2, upd]
theorem hpw_lar {H : Hp} {a n f : Nat} {v : Int64} (hs : H.sh[a]? = some (104, n)) : (hpw H).set a (.inl (.long, n, .inr (.inl (vp_updL (H.L a) f v)))) = hpw (H.sL a f v) := by
  refine hpw_ext rfl (fun x s h => hp_cell_L h) (fun s h => ?_)
  cases hs.symm.trans h
  rw [hp_cell_lar]
  congr 5
  funext y
  simp [Hp.sL, mkH_D, mkH_P, mkH_L, up2, vp_updL]
theorem hpw_rar {H : Hp} {a k n f v : Nat} (hs : H.sh[a]? = some (k, n)) (h1 : 104 < k) : (hpw H).set a (.inl (.object (kc k), n, .inr (.inr (.inr (.inr (va_up (fun i => vo (H.P a i)) f (some v))))))) = hpw (H.sP a f (.ref v)) := by
  refine hpw_ext rfl (fun x s h => hp_cell_P h) (fun s h => ?_)
  cases hs.symm.trans h
  rw [hp_cell_rar h1]
  congr 7
  funext y
  by_cases hy : y = f <;> simp [Hp.sP, mkH_D, mkH_P, mkH_L, up2, va_up, hy, vo]
theorem hpw_cpy {H : Hp} {a b n1 sp dp n : Nat} (hs : H.sh[b]? = some (100, n1)) : (hpw H).set b (.inl (.int, n1, .inl (va_cpy (H.D a) (H.D b) sp dp n))) = hpw (H.cpy a b sp dp n) := by
  refine hpw_ext rfl (fun x s h => ?_) (fun s h => ?_)
  · unfold hp_cell Hp.cpy
    simp only [mkH_D, mkH_P, mkH_L, if_neg h]
  · cases hs.symm.trans h
    rw [hp_cell_arr (by decide) (by decide)]
    simp [Hp.cpy, mkH_D, kt]
theorem hpw_app {H K : Hp} {s : Nat × Nat} {c : ab_E} (hs : K.sh = H.sh ++ [s]) (ho : ∀ x t, x < H.sh.length → hp_cell K x t = hp_cell H x t) (ha : hp_cell K H.sh.length s = c) : hpw K = hpw H ++ [c] := by
  apply List.ext_getElem?
  intro j
  rw [List.getElem?_append, hpw_len]
  simp only [hpw, List.getElem?_mapIdx, hs]
  by_cases h : j < H.sh.length
  · rw [if_pos h, List.getElem?_append_left h]
    cases hj : H.sh[j]? with
    | none => rfl
    | some t => simp only [Option.map_some]; rw [ho j t h]
  · rw [if_neg h, List.getElem?_append_right (by omega)]
    by_cases h2 : j = H.sh.length
    · subst h2; simp [ha]
    · have h3 : j - H.sh.length ≠ 0 := by omega
      obtain ⟨q, hq⟩ := Nat.exists_eq_succ_of_ne_zero h3
      simp [hq]
theorem hp_nw_o {H : Hp} {s : Nat × Nat} {k x : Nat} {t : Nat × Nat} (h : x < H.sh.length) : hp_cell (H.nw s k) x t = hp_cell H x t := by
  have h' : ¬ x = H.sh.length := by omega
  unfold hp_cell Hp.nw
  simp only [mkH_D, mkH_P, mkH_L, if_neg h']
theorem hp_nx_o {H : Hp} {s : Nat × Nat} {k x : Nat} {t : Nat × Nat} : hp_cell (H.nx s k) x t = hp_cell H x t := rfl
/-! checks -/
def ck {α : Type} (c : Prop) [Decidable c] (x : Option α) : Option α := if c then x else none
def bnd {α β : Type} (e : α) (k : α → β) : β := k e
def ar {α : Type} (H : Hp) (k a : Nat) (K : Nat → Option α) : Option α := match H.sh[a]? with
  | some q => if q.1 = k then K q.2 else none
  | none => none
def rf {α : Type} (v : Value) (K : Nat → Option α) : Option α := match v with
  | .ref a => K a
  | _ => none
abbrev Ot (α : Type) : Type := α ⊕ Nat
def bC {α β : Type} (m : Option (α × Hp)) (K : α → Hp → Option β) : Option β := match m with
  | some q => K q.1 q.2
  | none => none
def bT {α β : Type} (m : Option (Ot α × Hp)) (K : α → Hp → Option (Ot β × Hp)) : Option (Ot β × Hp) := match m with
  | some (.inl v, H) => K v H
  | some (.inr x, H) => some (.inr x, H)
  | none => none
abbrev inb (i : Int32) (n : Nat) : Prop := ¬ (i < 0 ∨ n ≤ i.toNatClampNeg)
theorem ck_s {α : Type} {c : Prop} [Decidable c] {x : Option α} {r : α} (h : ck c x = some r) : c ∧ x = some r := by
  unfold ck at h
  split at h
  · exact ⟨by assumption, h⟩
  · cases h
theorem bnd_s {α β : Type} {e : α} {k : α → Option β} {x : α} {r : β} (ex : x = e) (h : bnd e k = some r) : k x = some r := by subst ex; exact h
theorem ar_s {α : Type} {H : Hp} {k a : Nat} {K : Nat → Option α} {r : α} (h : ar H k a K = some r) : ∃ n, H.sh[a]? = some (k, n) ∧ K n = some r := by
  unfold ar at h
  split at h
  · next q hq =>
    split at h
    · next e => exact ⟨q.2, by rw [hq, ← e], h⟩
    · cases h
  · cases h
theorem rf_s {α : Type} {v : Value} {K : Nat → Option α} {r : α} (h : rf v K = some r) : ∃ a, v = .ref a ∧ K a = some r := by
  unfold rf at h
  split at h
  · exact ⟨_, rfl, h⟩
  · cases h
theorem bC_s {α β : Type} {m : Option (α × Hp)} {K : α → Hp → Option β} {r : β} (h : bC m K = some r) : ∃ v H1, m = some (v, H1) ∧ K v H1 = some r := by
  unfold bC at h
  split at h
  · next q => exact ⟨q.1, q.2, rfl, h⟩
  · cases h
theorem bT_s {α β : Type} {m : Option (Ot α × Hp)} {K : α → Hp → Option (Ot β × Hp)} {r : Ot β × Hp} (h : bT m K = some r) : (∃ v H1, m = some (.inl v, H1) ∧ K v H1 = some r) ∨ ∃ x H1, m = some (.inr x, H1) ∧ r = (.inr x, H1) := by
  unfold bT at h
  split at h
  · next v H1 => exact Or.inl ⟨v, H1, rfl, h⟩
  · next x H1 => exact Or.inr ⟨x, H1, rfl, (Option.some.inj h).symm⟩
  · cases h
def po (o : Outcome) (H : Hp) : Outcome → List ab_E → Prop := fun o' h' => o' = o ∧ h' = hpw H
section HpRules
variable {y z : ab_Y} {R R1 : Room} {Po : Outcome → List ab_E → Prop} {mc ms cells slots pc : Nat} {lv : List (Option Value)} {st : List Value} {H : Hp}
theorem hp_fI {a ci f : Nat} (hk : (kd ci)[f]? = some false) : ((kd ci).mapIdx (fun f r => if r then H.P a f else .int (H.D a f)))[f]? = some (.int (H.D a f)) := by simp [List.getElem?_mapIdx, hk]
theorem hp_fP {a ci f : Nat} (hk : (kd ci)[f]? = some true) : ((kd ci).mapIdx (fun f r => if r then H.P a f else .int (H.D a f)))[f]? = some (H.P a f) := by simp [List.getElem?_mapIdx, hk]
theorem hp_ob {a ci z : Nat} (hs : H.sh[a]? = some (ci, z)) (hci : ci < 100) : (hpw H)[a]? = some (.inr (ci, (kd ci).mapIdx (fun f r => if r then H.P a f else .int (H.D a f)))) := by rw [hpw_get hs, hp_cell_obj hci]
theorem hp_getI {i a ci z f : Nat} {r : vw_C} (hd : decode y.2.1 pc = .ok (.getfield i, 3)) (hs : H.sh[a]? = some (ci, z)) (hci : ci < 100) (hc : ab_cl[ci]? = some r) (hf : f < r.2.2) (hw : Cond.fieldLink y.1.cls i (r.2.1 f).1 (r.2.1 f).2.1 (r.2.1 f).2.2.1 ∈ ab_T) (hk : (kd ci)[f]? = some false) (k : ab_V y R Po mc ms cells slots (pc + 3) lv (.int (H.D a f) :: st) (hpw H)) : ab_V y R Po mc ms cells slots pc lv (.ref a :: st) (hpw H) :=
  ab_get hd (hp_ob hs hci) hc hf hw (hp_fI hk) k
theorem hp_getP {i a ci z f : Nat} {r : vw_C} (hd : decode y.2.1 pc = .ok (.getfield i, 3)) (hs : H.sh[a]? = some (ci, z)) (hci : ci < 100) (hc : ab_cl[ci]? = some r) (hf : f < r.2.2) (hw : Cond.fieldLink y.1.cls i (r.2.1 f).1 (r.2.1 f).2.1 (r.2.1 f).2.2.1 ∈ ab_T) (hk : (kd ci)[f]? = some true) (k : ab_V y R Po mc ms cells slots (pc + 3) lv (H.P a f :: st) (hpw H)) : ab_V y R Po mc ms cells slots pc lv (.ref a :: st) (hpw H) :=
  ab_get hd (hp_ob hs hci) hc hf hw (hp_fP hk) k
theorem hp_putI {i a ci z f : Nat} {r : vw_C} {v : Int32} {ty : FieldType} (hd : decode y.2.1 pc = .ok (.putfield i, 3)) (hs : H.sh[a]? = some (ci, z)) (hci : ci < 100) (hc : ab_cl[ci]? = some r) (hf : f < r.2.2) (hw : Cond.fieldLink y.1.cls i (r.2.1 f).1 (r.2.1 f).2.1 (r.2.1 f).2.2.1 ∈ ab_T) (hfin : (r.2.1 f).2.2.2 = false) (hty : parseFieldDescriptor (r.2.1 f).2.2.1 = some ty) (hn : ∀ G : ab_G, narrow ty (ab_v G (.int v)) = ab_v G (.int v)) (hi : ∀ G : ab_G, fits ty (ab_v G (.int v)) = true) (hk : (kd ci)[f]? = some false) (k : ab_V y R Po mc ms cells slots (pc + 3) lv st (hpw (H.sD a f v))) : ab_V y R Po mc ms cells slots pc lv (.int v :: .ref a :: st) (hpw H) := by
  refine ab_put hd (hp_ob hs hci) hc hf hw hfin hty hn hi ?_ ?_
  · rw [List.length_mapIdx]; exact (List.getElem?_eq_some_iff.mp hk).1
  · rw [hpw_putI hs hci hk]; exact k
theorem hp_putP {i a ci z f : Nat} {r : vw_C} {v : Value} {ty : FieldType} (hd : decode y.2.1 pc = .ok (.putfield i, 3)) (hs : H.sh[a]? = some (ci, z)) (hci : ci < 100) (hc : ab_cl[ci]? = some r) (hf : f < r.2.2) (hw : Cond.fieldLink y.1.cls i (r.2.1 f).1 (r.2.1 f).2.1 (r.2.1 f).2.2.1 ∈ ab_T) (hfin : (r.2.1 f).2.2.2 = false) (hty : parseFieldDescriptor (r.2.1 f).2.2.1 = some ty) (hn : ∀ G : ab_G, narrow ty (ab_v G (v)) = ab_v G (v)) (hi : ∀ G : ab_G, fits ty (ab_v G (v)) = true) (hk : (kd ci)[f]? = some true) (k : ab_V y R Po mc ms cells slots (pc + 3) lv st (hpw (H.sP a f v))) : ab_V y R Po mc ms cells slots pc lv (v :: .ref a :: st) (hpw H) := by
  refine ab_put hd (hp_ob hs hci) hc hf hw hfin hty hn hi ?_ ?_
  · rw [List.length_mapIdx]; exact (List.getElem?_eq_some_iff.mp hk).1
  · rw [hpw_putP hs hci hk]; exact k
theorem hp_getIN {i a ci z f : Nat} {host : String} {r : vw_C} (hd : decode y.2.1 pc = .ok (.getfield i, 3)) (hs : H.sh[a]? = some (ci, z)) (hci : ci < 100) (hc : ab_cl[ci]? = some r) (hf : f < r.2.2) (hw : Cond.fieldLinkNest y.1.cls i (r.2.1 f).1 (r.2.1 f).2.1 (r.2.1 f).2.2.1 host ∈ ab_T) (hk : (kd ci)[f]? = some false) (k : ab_V y R Po mc ms cells slots (pc + 3) lv (.int (H.D a f) :: st) (hpw H)) : ab_V y R Po mc ms cells slots pc lv (.ref a :: st) (hpw H) :=
  ab_getN hd (hp_ob hs hci) hc hf hw (hp_fI hk) k
theorem hp_getPN {i a ci z f : Nat} {host : String} {r : vw_C} (hd : decode y.2.1 pc = .ok (.getfield i, 3)) (hs : H.sh[a]? = some (ci, z)) (hci : ci < 100) (hc : ab_cl[ci]? = some r) (hf : f < r.2.2) (hw : Cond.fieldLinkNest y.1.cls i (r.2.1 f).1 (r.2.1 f).2.1 (r.2.1 f).2.2.1 host ∈ ab_T) (hk : (kd ci)[f]? = some true) (k : ab_V y R Po mc ms cells slots (pc + 3) lv (H.P a f :: st) (hpw H)) : ab_V y R Po mc ms cells slots pc lv (.ref a :: st) (hpw H) :=
  ab_getN hd (hp_ob hs hci) hc hf hw (hp_fP hk) k
theorem hp_putIN {i a ci z f : Nat} {host : String} {r : vw_C} {v : Int32} {ty : FieldType} (hd : decode y.2.1 pc = .ok (.putfield i, 3)) (hs : H.sh[a]? = some (ci, z)) (hci : ci < 100) (hc : ab_cl[ci]? = some r) (hf : f < r.2.2) (hw : Cond.fieldLinkNest y.1.cls i (r.2.1 f).1 (r.2.1 f).2.1 (r.2.1 f).2.2.1 host ∈ ab_T) (hfin : (r.2.1 f).2.2.2 = false) (hty : parseFieldDescriptor (r.2.1 f).2.2.1 = some ty) (hn : ∀ G : ab_G, narrow ty (ab_v G (.int v)) = ab_v G (.int v)) (hi : ∀ G : ab_G, fits ty (ab_v G (.int v)) = true) (hk : (kd ci)[f]? = some false) (k : ab_V y R Po mc ms cells slots (pc + 3) lv st (hpw (H.sD a f v))) : ab_V y R Po mc ms cells slots pc lv (.int v :: .ref a :: st) (hpw H) := by
  refine ab_putN hd (hp_ob hs hci) hc hf hw hfin hty hn hi ?_ ?_
  · rw [List.length_mapIdx]; exact (List.getElem?_eq_some_iff.mp hk).1
  · rw [hpw_putI hs hci hk]; exact k
theorem hp_putPN {i a ci z f : Nat} {host : String} {r : vw_C} {v : Value} {ty : FieldType} (hd : decode y.2.1 pc = .ok (.putfield i, 3)) (hs : H.sh[a]? = some (ci, z)) (hci : ci < 100) (hc : ab_cl[ci]? = some r) (hf : f < r.2.2) (hw : Cond.fieldLinkNest y.1.cls i (r.2.1 f).1 (r.2.1 f).2.1 (r.2.1 f).2.2.1 host ∈ ab_T) (hfin : (r.2.1 f).2.2.2 = false) (hty : parseFieldDescriptor (r.2.1 f).2.2.1 = some ty) (hn : ∀ G : ab_G, narrow ty (ab_v G (v)) = ab_v G (v)) (hi : ∀ G : ab_G, fits ty (ab_v G (v)) = true) (hk : (kd ci)[f]? = some true) (k : ab_V y R Po mc ms cells slots (pc + 3) lv st (hpw (H.sP a f v))) : ab_V y R Po mc ms cells slots pc lv (v :: .ref a :: st) (hpw H) := by
  refine ab_putN hd (hp_ob hs hci) hc hf hw hfin hty hn hi ?_ ?_
  · rw [List.length_mapIdx]; exact (List.getElem?_eq_some_iff.mp hk).1
  · rw [hpw_putP hs hci hk]; exact k
theorem hp_iald {a n : Nat} {i : Int32} (hd : decode y.2.1 pc = .ok (.iaload, 1)) (ht : FieldType.int ∈ ab_tyl) (hs : H.sh[a]? = some (100, n)) (hin : vp_in i n) (k : ab_V y R Po mc ms cells slots (pc + 1) lv (.int (H.D a i.toNatClampNeg) :: st) (hpw H)) : ab_V y R Po mc ms cells slots pc lv (.int i :: .ref a :: st) (hpw H) :=
  ab_iald hd ht (by rw [hpw_get hs, hp_cell_arr (by decide) (by decide)]; rfl) hin k
theorem hp_bald {a n : Nat} {i : Int32} (hd : decode y.2.1 pc = .ok (.baload, 1)) (ht : FieldType.byte ∈ ab_tyl) (hs : H.sh[a]? = some (101, n)) (hin : vp_in i n) (k : ab_V y R Po mc ms cells slots (pc + 1) lv (.int (H.D a i.toNatClampNeg) :: st) (hpw H)) : ab_V y R Po mc ms cells slots pc lv (.int i :: .ref a :: st) (hpw H) :=
  ab_bald hd ht (by rw [hpw_get hs, hp_cell_arr (by decide) (by decide)]; rfl) hin k
theorem hp_zald {a n : Nat} {i : Int32} (hd : decode y.2.1 pc = .ok (.baload, 1)) (ht : FieldType.boolean ∈ ab_tyl) (hs : H.sh[a]? = some (102, n)) (hin : vp_in i n) (k : ab_V y R Po mc ms cells slots (pc + 1) lv (.int (H.D a i.toNatClampNeg) :: st) (hpw H)) : ab_V y R Po mc ms cells slots pc lv (.int i :: .ref a :: st) (hpw H) :=
  ab_zald hd ht (by rw [hpw_get hs, hp_cell_arr (by decide) (by decide)]; rfl) hin k
theorem hp_cald {a n : Nat} {i : Int32} (hd : decode y.2.1 pc = .ok (.caload, 1)) (ht : FieldType.char ∈ ab_tyl) (hs : H.sh[a]? = some (103, n)) (hin : vp_in i n) (k : ab_V y R Po mc ms cells slots (pc + 1) lv (.int (H.D a i.toNatClampNeg) :: st) (hpw H)) : ab_V y R Po mc ms cells slots pc lv (.int i :: .ref a :: st) (hpw H) :=
  ab_cald hd ht (by rw [hpw_get hs, hp_cell_arr (by decide) (by decide)]; rfl) hin k
theorem hp_iast {a n : Nat} {i x : Int32} (hd : decode y.2.1 pc = .ok (.iastore, 1)) (ht : FieldType.int ∈ ab_tyl) (hs : H.sh[a]? = some (100, n)) (hin : vp_in i n) (k : ab_V y R Po mc ms cells slots (pc + 1) lv st (hpw (H.sD a i.toNatClampNeg x))) : ab_V y R Po mc ms cells slots pc lv (.int x :: .int i :: .ref a :: st) (hpw H) := by
  refine ab_iast hd ht (n := n) (f := H.D a) (by rw [hpw_get hs, hp_cell_arr (by decide) (by decide)]; rfl) hin ?_
  have e := hpw_arr (f := i.toNatClampNeg) (v := x) hs (by decide) (by decide)
  rw [show kt 100 = .int from rfl] at e
  rw [e]; exact k
theorem hp_bast {a n : Nat} {i x : Int32} (hd : decode y.2.1 pc = .ok (.bastore, 1)) (ht : FieldType.byte ∈ ab_tyl) (hs : H.sh[a]? = some (101, n)) (hin : vp_in i n) (k : ab_V y R Po mc ms cells slots (pc + 1) lv st (hpw (H.sD a i.toNatClampNeg (vp_nar .byte x)))) : ab_V y R Po mc ms cells slots pc lv (.int x :: .int i :: .ref a :: st) (hpw H) := by
  refine ab_bast hd ht (n := n) (f := H.D a) (by rw [hpw_get hs, hp_cell_arr (by decide) (by decide)]; rfl) hin ?_
  have e := hpw_arr (f := i.toNatClampNeg) (v := (vp_nar .byte x)) hs (by decide) (by decide)
  rw [show kt 101 = .byte from rfl] at e
  rw [e]; exact k
theorem hp_zast {a n : Nat} {i x : Int32} (hd : decode y.2.1 pc = .ok (.bastore, 1)) (ht : FieldType.boolean ∈ ab_tyl) (hs : H.sh[a]? = some (102, n)) (hin : vp_in i n) (k : ab_V y R Po mc ms cells slots (pc + 1) lv st (hpw (H.sD a i.toNatClampNeg (vp_nar .boolean x)))) : ab_V y R Po mc ms cells slots pc lv (.int x :: .int i :: .ref a :: st) (hpw H) := by
  refine ab_zast hd ht (n := n) (f := H.D a) (by rw [hpw_get hs, hp_cell_arr (by decide) (by decide)]; rfl) hin ?_
  have e := hpw_arr (f := i.toNatClampNeg) (v := (vp_nar .boolean x)) hs (by decide) (by decide)
  rw [show kt 102 = .boolean from rfl] at e
  rw [e]; exact k
theorem hp_cast {a n : Nat} {i x : Int32} (hd : decode y.2.1 pc = .ok (.castore, 1)) (ht : FieldType.char ∈ ab_tyl) (hs : H.sh[a]? = some (103, n)) (hin : vp_in i n) (k : ab_V y R Po mc ms cells slots (pc + 1) lv st (hpw (H.sD a i.toNatClampNeg (vp_nar .char x)))) : ab_V y R Po mc ms cells slots pc lv (.int x :: .int i :: .ref a :: st) (hpw H) := by
  refine ab_cast hd ht (n := n) (f := H.D a) (by rw [hpw_get hs, hp_cell_arr (by decide) (by decide)]; rfl) hin ?_
  have e := hpw_arr (f := i.toNatClampNeg) (v := (vp_nar .char x)) hs (by decide) (by decide)
  rw [show kt 103 = .char from rfl] at e
  rw [e]; exact k
theorem hp_last {a n : Nat} {i : Int32} {x : Int64} (hd : decode y.2.1 pc = .ok (.lastore, 1)) (ht : FieldType.long ∈ ab_tyl) (hs : H.sh[a]? = some (104, n)) (hin : vp_in i n) (k : ab_V y R Po mc ms cells slots (pc + 1) lv st (hpw (H.sL a i.toNatClampNeg x))) : ab_V y R Po mc ms cells slots pc lv (.long x :: .int i :: .ref a :: st) (hpw H) := by
  refine ab_last hd ht (n := n) (f := H.L a) (by rw [hpw_get hs, hp_cell_lar]) hin ?_
  rw [hpw_lar hs]; exact k
theorem hp_lald {a n : Nat} {i : Int32} (hd : decode y.2.1 pc = .ok (.laload, 1)) (ht : FieldType.long ∈ ab_tyl) (hs : H.sh[a]? = some (104, n)) (hin : vp_in i n) (k : ab_V y R Po mc ms cells slots (pc + 1) lv (.long (H.L a i.toNatClampNeg) :: st) (hpw H)) : ab_V y R Po mc ms cells slots pc lv (.int i :: .ref a :: st) (hpw H) :=
  ab_lald hd ht (by rw [hpw_get hs, hp_cell_lar]) hin k
theorem vo_rf {v : Value} {b : Nat} (h : v = .ref b) : ab_rf (vo v) = .ref b := by subst h; rfl
theorem hp_aald {a n q b : Nat} {i : Int32} (hd : decode y.2.1 pc = .ok (.aaload, 1)) (hq : 104 < q) (ht : FieldType.object (kc q) ∈ ab_tyl) (hs : H.sh[a]? = some (q, n)) (hin : vp_in i n) (hv : H.P a i.toNatClampNeg = .ref b) (k : ab_V y R Po mc ms cells slots (pc + 1) lv (.ref b :: st) (hpw H)) : ab_V y R Po mc ms cells slots pc lv (.int i :: .ref a :: st) (hpw H) := by
  refine ab_aald hd ht (C := kc q) (n := n) (f := fun i => vo (H.P a i)) (by rw [hpw_get hs, hp_cell_rar hq]) hin ?_
  rw [vo_rf hv]; exact k
theorem hp_aast {a n q v ci z : Nat} {r : vw_C} {i : Int32} (hd : decode y.2.1 pc = .ok (.aastore, 1)) (hq : 104 < q) (hr : kc q = r.1) (ht : FieldType.object r.1 ∈ ab_tyl) (hs : H.sh[a]? = some (q, n)) (hv : H.sh[v]? = some (ci, z)) (hci : ci < 100) (hc : ab_cl[ci]? = some r) (hin : vp_in i n) (k : ab_V y R Po mc ms cells slots (pc + 1) lv st (hpw (H.sP a i.toNatClampNeg (.ref v)))) : ab_V y R Po mc ms cells slots pc lv (.ref v :: .int i :: .ref a :: st) (hpw H) := by
  refine ab_aast hd ht (n := n) (f := fun i => vo (H.P a i)) (by rw [hpw_get hs, hp_cell_rar hq, hr]) (hp_ob hv hci) hc hin ?_
  rw [← hr, hpw_rar hs hq]; exact k
theorem hp_alen {a n q : Nat} {ty : FieldType} (hd : decode y.2.1 pc = .ok (.arraylength, 1)) (hs : H.sh[a]? = some (q, n)) (hq : q < 104 ∧ ¬ q < 100 ∧ kt q = ty ∨ 104 < q ∧ .object (kc q) = ty) (ht : ty ∈ ab_tyl) (k : ab_V y R Po mc ms cells slots (pc + 1) lv (.int (Int32.ofNat n) :: st) (hpw H)) : ab_V y R Po mc ms cells slots pc lv (.ref a :: st) (hpw H) := by
  rcases hq with ⟨h1, h2, h3⟩ | ⟨h1, h3⟩
  · refine ab_alen hd ht (ty := ty) (x := (n, .inl (H.D a))) ?_ rfl k
    rw [hpw_get hs, hp_cell_arr h2 h1, h3]
  · refine ab_alen hd ht (ty := ty) (x := (n, .inr (.inr (.inr (.inr (fun i => vo (H.P a i))))))) ?_ rfl k
    rw [hpw_get hs, hp_cell_rar h1, h3]
theorem hp_acopy {i a b n0 n1 : Nat} {sp dp n : Int32} (hd : decode y.2.1 pc = .ok (.invokestatic i, 3)) (hlk : Cond.methodLink y.1.cls i arraycopyName ∈ ab_T) (hnat : Cond.native arraycopyName ∈ ab_T) (hsta : Cond.static arraycopyName ∈ ab_T) (hini : Cond.initialized "java/lang/System" ∈ ab_T)
    (ha : H.sh[a]? = some (100, n0)) (hb : H.sh[b]? = some (100, n1)) (h1 : ¬ sp < 0) (h2 : ¬ dp < 0) (h3 : ¬ n < 0) (h4 : sp.toNatClampNeg + n.toNatClampNeg ≤ n0) (h5 : dp.toNatClampNeg + n.toNatClampNeg ≤ n1) (hfr : 1 ≤ R.frames) (hlo : (st.map fun v => v.category).sum + (nativeFrameWords "java/lang/System" "arraycopy" 5 + 11) ≤ R.locals)
    (k : ab_V y R Po mc ms cells slots (pc + 3) lv st (hpw (H.cpy a b sp.toNatClampNeg dp.toNatClampNeg n.toNatClampNeg))) : ab_V y R Po mc ms cells slots pc lv (.int n :: .int dp :: .ref b :: .int sp :: .ref a :: st) (hpw H) := by
  refine ab_acopy hd hlk hnat hsta hini (n0 := n0) (n1 := n1) (f := H.D a) (g := H.D b) (by rw [hpw_get ha, hp_cell_arr (by decide) (by decide)]; rfl) (by rw [hpw_get hb, hp_cell_arr (by decide) (by decide)]; rfl) h1 h2 h3 h4 h5 hfr hlo ?_
  rw [hpw_cpy hb]; exact k
theorem hp_gen (k : ∀ K : Hp, K = H → ab_V y R Po mc ms cells slots pc lv st (hpw K)) : ab_V y R Po mc ms cells slots pc lv st (hpw H) := k H rfl
end HpRules
def lvle : List (Option Value) → List (Option Value) → Prop
  | [], _ => True
  | none :: t, _ :: u => lvle t u
  | _ :: _, [] => False
  | some _ :: _, none :: _ => False
  | some v :: t, some w :: u => w = v ∧ lvle t u
theorem lvle_ok : ∀ (l m : List (Option Value)), lvle l m → ∀ (i : Nat) (v : Value), l[i]? = some (some v) → m[i]? = some (some v) := by
  intro l
  induction l with
  | nil => intro m _ i v hv; simp at hv
  | cons a t ih =>
    intro m hl i v hv
    cases m with
    | nil =>
      cases a <;> exact hl.elim
    | cons c u =>
      cases a with
      | none =>
        cases i with
        | zero => simp at hv
        | succ j => exact ih u hl j v (by simpa using hv)
      | some w =>
        cases c with
        | none => exact hl.elim
        | some w2 =>
          obtain ⟨e, hl⟩ := hl
          subst e
          cases i with
          | zero => exact hv
          | succ j => exact ih u hl j v (by simpa using hv)
def on {α : Type} (v : Option Nat) (K : Nat → Option α) : Option α := match v with
  | some a => K a
  | none => none
theorem on_s {α : Type} {v : Option Nat} {K : Nat → Option α} {r : α} (h : on v K = some r) : ∃ a, v = some a ∧ K a = some r := by
  cases v with
  | none => cases h
  | some a => exact ⟨a, rfl, h⟩
section HpRules2
variable {y z : ab_Y} {R R1 : Room} {Po : Outcome → List ab_E → Prop} {mc ms cells slots pc : Nat} {lv : List (Option Value)} {st : List Value} {H H1 : Hp}
theorem ab_le {h : List ab_E} {lv' : List (Option Value)} (hl : lvle lv' lv) (k : ab_V y R Po mc ms cells slots pc lv' st h) : ab_V y R Po mc ms cells slots pc lv st h := ab_sub (lvle_ok _ _ hl) k
theorem hp_getR {i a ci z f b : Nat} {r : vw_C} (hd : decode y.2.1 pc = .ok (.getfield i, 3)) (hs : H.sh[a]? = some (ci, z)) (hci : ci < 100) (hc : ab_cl[ci]? = some r) (hf : f < r.2.2) (hw : Cond.fieldLink y.1.cls i (r.2.1 f).1 (r.2.1 f).2.1 (r.2.1 f).2.2.1 ∈ ab_T) (hk : (kd ci)[f]? = some true) (hv : H.P a f = .ref b) (k : ab_V y R Po mc ms cells slots (pc + 3) lv (.ref b :: st) (hpw H)) : ab_V y R Po mc ms cells slots pc lv (.ref a :: st) (hpw H) :=
  hp_getP hd hs hci hc hf hw hk (by rw [hv]; exact k)
theorem hp_getRN {i a ci z f b : Nat} {host : String} {r : vw_C} (hd : decode y.2.1 pc = .ok (.getfield i, 3)) (hs : H.sh[a]? = some (ci, z)) (hci : ci < 100) (hc : ab_cl[ci]? = some r) (hf : f < r.2.2) (hw : Cond.fieldLinkNest y.1.cls i (r.2.1 f).1 (r.2.1 f).2.1 (r.2.1 f).2.2.1 host ∈ ab_T) (hk : (kd ci)[f]? = some true) (hv : H.P a f = .ref b) (k : ab_V y R Po mc ms cells slots (pc + 3) lv (.ref b :: st) (hpw H)) : ab_V y R Po mc ms cells slots pc lv (.ref a :: st) (hpw H) :=
  hp_getPN hd hs hci hc hf hw hk (by rw [hv]; exact k)
theorem hp_callV_a {i b ci z0 : Nat} {r : vw_C} {As rest : List Value} {v : Value} (hd : decode y.2.1 pc = .ok (.invokevirtual i, 3)) (hM : ab_M z R1 (.ref b :: As) (hpw H) (po (.returned (some v)) H1)) (hC : ab_Call z R R1 cells slots As.length) (hlk : Cond.methodLink y.1.cls i z.1 ∈ ab_T) (hin : Cond.instanceMethod z.1 ∈ ab_T) (hse : Cond.selects r.1 z.1 z.1 ∈ ab_T) (hs : H.sh[b]? = some (ci, z0)) (hci : ci < 100) (hc : ab_cl[ci]? = some r) (hst : st = As.reverse ++ .ref b :: rest) (hw : (rest.map fun v => v.category).sum ≤ 8) (k : ab_V y R Po mc ms (cells + R1.cells) (slots + R1.slots) (pc + 3) lv (v :: rest) (hpw H1)) : ab_V y R Po mc ms cells slots pc lv st (hpw H) :=
  ab_callV hd hM hC hlk hin hse (hp_ob hs hci) hc hst hw (fun v1 h1 q => by obtain ⟨e, rfl⟩ := q; cases e; exact k) (fun x h1 q => by cases q.1)
theorem hp_callS_a {i : Nat} {As rest : List Value} {v : Value} (hd : decode y.2.1 pc = .ok (.invokestatic i, 3)) (hM : ab_M z R1 As (hpw H) (po (.returned (some v)) H1)) (hC : ab_Call z R R1 cells slots As.length) (hlk : Cond.methodLink y.1.cls i z.1 ∈ ab_T) (hin : Cond.static z.1 ∈ ab_T) (hst : st = As.reverse ++ rest) (hw : (rest.map fun v => v.category).sum ≤ 8) (k : ab_V y R Po mc ms (cells + R1.cells) (slots + R1.slots) (pc + 3) lv (v :: rest) (hpw H1)) : ab_V y R Po mc ms cells slots pc lv st (hpw H) :=
  ab_callS hd hM hC hlk hin hst hw (fun v1 h1 q => by obtain ⟨e, rfl⟩ := q; cases e; exact k) (fun x h1 q => by cases q.1)
theorem hp_callI_a {i b : Nat} {bb : ByteArray} {nl : Nat} {As rest : List Value} {v : Value} (hd : decode y.2.1 pc = .ok (.invokespecial i, 3)) (hM : ab_M z R1 (.ref b :: As) (hpw H) (po (.returned (some v)) H1)) (hC : ab_Call z R R1 cells slots As.length) (hlk : Cond.methodLink y.1.cls i z.1 ∈ ab_T) (hin : Cond.instanceMethod z.1 ∈ ab_T) (hnm : z.1.name = "<init>") (hcw : Cond.code z.1 bb nl none ∈ ab_T) (hst : st = As.reverse ++ .ref b :: rest) (hw : (rest.map fun v => v.category).sum ≤ 8) (k : ab_V y R Po mc ms (cells + R1.cells) (slots + R1.slots) (pc + 3) lv (v :: rest) (hpw H1)) : ab_V y R Po mc ms cells slots pc lv st (hpw H) :=
  ab_callI hd hM hC hlk hin hnm hcw hst hw (fun v1 h1 q => by obtain ⟨e, rfl⟩ := q; cases e; exact k) (fun x h1 q => by cases q.1)
theorem hp_callV_v {i b ci z0 : Nat} {r : vw_C} {As rest : List Value} (hd : decode y.2.1 pc = .ok (.invokevirtual i, 3)) (hM : ab_M z R1 (.ref b :: As) (hpw H) (po (.returned (none)) H1)) (hC : ab_Call z R R1 cells slots As.length) (hlk : Cond.methodLink y.1.cls i z.1 ∈ ab_T) (hin : Cond.instanceMethod z.1 ∈ ab_T) (hse : Cond.selects r.1 z.1 z.1 ∈ ab_T) (hs : H.sh[b]? = some (ci, z0)) (hci : ci < 100) (hc : ab_cl[ci]? = some r) (hst : st = As.reverse ++ .ref b :: rest) (hw : (rest.map fun v => v.category).sum ≤ 8) (k : ab_V y R Po mc ms (cells + R1.cells) (slots + R1.slots) (pc + 3) lv (rest) (hpw H1)) : ab_V y R Po mc ms cells slots pc lv st (hpw H) :=
  ab_callV hd hM hC hlk hin hse (hp_ob hs hci) hc hst hw (fun v1 h1 q => by obtain ⟨e, rfl⟩ := q; cases e; exact k) (fun x h1 q => by cases q.1)
theorem hp_callS_v {i : Nat} {As rest : List Value} (hd : decode y.2.1 pc = .ok (.invokestatic i, 3)) (hM : ab_M z R1 As (hpw H) (po (.returned (none)) H1)) (hC : ab_Call z R R1 cells slots As.length) (hlk : Cond.methodLink y.1.cls i z.1 ∈ ab_T) (hin : Cond.static z.1 ∈ ab_T) (hst : st = As.reverse ++ rest) (hw : (rest.map fun v => v.category).sum ≤ 8) (k : ab_V y R Po mc ms (cells + R1.cells) (slots + R1.slots) (pc + 3) lv (rest) (hpw H1)) : ab_V y R Po mc ms cells slots pc lv st (hpw H) :=
  ab_callS hd hM hC hlk hin hst hw (fun v1 h1 q => by obtain ⟨e, rfl⟩ := q; cases e; exact k) (fun x h1 q => by cases q.1)
theorem hp_callI_v {i b : Nat} {bb : ByteArray} {nl : Nat} {As rest : List Value} (hd : decode y.2.1 pc = .ok (.invokespecial i, 3)) (hM : ab_M z R1 (.ref b :: As) (hpw H) (po (.returned (none)) H1)) (hC : ab_Call z R R1 cells slots As.length) (hlk : Cond.methodLink y.1.cls i z.1 ∈ ab_T) (hin : Cond.instanceMethod z.1 ∈ ab_T) (hnm : z.1.name = "<init>") (hcw : Cond.code z.1 bb nl none ∈ ab_T) (hst : st = As.reverse ++ .ref b :: rest) (hw : (rest.map fun v => v.category).sum ≤ 8) (k : ab_V y R Po mc ms (cells + R1.cells) (slots + R1.slots) (pc + 3) lv (rest) (hpw H1)) : ab_V y R Po mc ms cells slots pc lv st (hpw H) :=
  ab_callI hd hM hC hlk hin hnm hcw hst hw (fun v1 h1 q => by obtain ⟨e, rfl⟩ := q; cases e; exact k) (fun x h1 q => by cases q.1)
theorem hp_callVN_a {i b ci z0 : Nat} {host : String} {r : vw_C} {As rest : List Value} {v : Value} (hd : decode y.2.1 pc = .ok (.invokevirtual i, 3)) (hM : ab_M z R1 (.ref b :: As) (hpw H) (po (.returned (some v)) H1)) (hC : ab_Call z R R1 cells slots As.length) (hlk : Cond.methodLinkNest y.1.cls i z.1 host ∈ ab_T) (hin : Cond.instanceMethod z.1 ∈ ab_T) (hse : Cond.selects r.1 z.1 z.1 ∈ ab_T) (hs : H.sh[b]? = some (ci, z0)) (hci : ci < 100) (hc : ab_cl[ci]? = some r) (hst : st = As.reverse ++ .ref b :: rest) (hw : (rest.map fun v => v.category).sum ≤ 8) (k : ab_V y R Po mc ms (cells + R1.cells) (slots + R1.slots) (pc + 3) lv (v :: rest) (hpw H1)) : ab_V y R Po mc ms cells slots pc lv st (hpw H) :=
  ab_callVN hd hM hC hlk hin hse (hp_ob hs hci) hc hst hw (fun v1 h1 q => by obtain ⟨e, rfl⟩ := q; cases e; exact k) (fun x h1 q => by cases q.1)
theorem hp_callSN_a {i : Nat} {host : String} {As rest : List Value} {v : Value} (hd : decode y.2.1 pc = .ok (.invokestatic i, 3)) (hM : ab_M z R1 As (hpw H) (po (.returned (some v)) H1)) (hC : ab_Call z R R1 cells slots As.length) (hlk : Cond.methodLinkNest y.1.cls i z.1 host ∈ ab_T) (hin : Cond.static z.1 ∈ ab_T) (hst : st = As.reverse ++ rest) (hw : (rest.map fun v => v.category).sum ≤ 8) (k : ab_V y R Po mc ms (cells + R1.cells) (slots + R1.slots) (pc + 3) lv (v :: rest) (hpw H1)) : ab_V y R Po mc ms cells slots pc lv st (hpw H) :=
  ab_callSN hd hM hC hlk hin hst hw (fun v1 h1 q => by obtain ⟨e, rfl⟩ := q; cases e; exact k) (fun x h1 q => by cases q.1)
theorem hp_callIN_a {i b : Nat} {host : String} {bb : ByteArray} {nl : Nat} {As rest : List Value} {v : Value} (hd : decode y.2.1 pc = .ok (.invokespecial i, 3)) (hM : ab_M z R1 (.ref b :: As) (hpw H) (po (.returned (some v)) H1)) (hC : ab_Call z R R1 cells slots As.length) (hlk : Cond.methodLinkNest y.1.cls i z.1 host ∈ ab_T) (hin : Cond.instanceMethod z.1 ∈ ab_T) (hnm : z.1.name = "<init>") (hcw : Cond.code z.1 bb nl none ∈ ab_T) (hst : st = As.reverse ++ .ref b :: rest) (hw : (rest.map fun v => v.category).sum ≤ 8) (k : ab_V y R Po mc ms (cells + R1.cells) (slots + R1.slots) (pc + 3) lv (v :: rest) (hpw H1)) : ab_V y R Po mc ms cells slots pc lv st (hpw H) :=
  ab_callIN hd hM hC hlk hin hnm hcw hst hw (fun v1 h1 q => by obtain ⟨e, rfl⟩ := q; cases e; exact k) (fun x h1 q => by cases q.1)
theorem hp_callVN_v {i b ci z0 : Nat} {host : String} {r : vw_C} {As rest : List Value} (hd : decode y.2.1 pc = .ok (.invokevirtual i, 3)) (hM : ab_M z R1 (.ref b :: As) (hpw H) (po (.returned (none)) H1)) (hC : ab_Call z R R1 cells slots As.length) (hlk : Cond.methodLinkNest y.1.cls i z.1 host ∈ ab_T) (hin : Cond.instanceMethod z.1 ∈ ab_T) (hse : Cond.selects r.1 z.1 z.1 ∈ ab_T) (hs : H.sh[b]? = some (ci, z0)) (hci : ci < 100) (hc : ab_cl[ci]? = some r) (hst : st = As.reverse ++ .ref b :: rest) (hw : (rest.map fun v => v.category).sum ≤ 8) (k : ab_V y R Po mc ms (cells + R1.cells) (slots + R1.slots) (pc + 3) lv (rest) (hpw H1)) : ab_V y R Po mc ms cells slots pc lv st (hpw H) :=
  ab_callVN hd hM hC hlk hin hse (hp_ob hs hci) hc hst hw (fun v1 h1 q => by obtain ⟨e, rfl⟩ := q; cases e; exact k) (fun x h1 q => by cases q.1)
theorem hp_callSN_v {i : Nat} {host : String} {As rest : List Value} (hd : decode y.2.1 pc = .ok (.invokestatic i, 3)) (hM : ab_M z R1 As (hpw H) (po (.returned (none)) H1)) (hC : ab_Call z R R1 cells slots As.length) (hlk : Cond.methodLinkNest y.1.cls i z.1 host ∈ ab_T) (hin : Cond.static z.1 ∈ ab_T) (hst : st = As.reverse ++ rest) (hw : (rest.map fun v => v.category).sum ≤ 8) (k : ab_V y R Po mc ms (cells + R1.cells) (slots + R1.slots) (pc + 3) lv (rest) (hpw H1)) : ab_V y R Po mc ms cells slots pc lv st (hpw H) :=
  ab_callSN hd hM hC hlk hin hst hw (fun v1 h1 q => by obtain ⟨e, rfl⟩ := q; cases e; exact k) (fun x h1 q => by cases q.1)
theorem hp_callIN_v {i b : Nat} {host : String} {bb : ByteArray} {nl : Nat} {As rest : List Value} (hd : decode y.2.1 pc = .ok (.invokespecial i, 3)) (hM : ab_M z R1 (.ref b :: As) (hpw H) (po (.returned (none)) H1)) (hC : ab_Call z R R1 cells slots As.length) (hlk : Cond.methodLinkNest y.1.cls i z.1 host ∈ ab_T) (hin : Cond.instanceMethod z.1 ∈ ab_T) (hnm : z.1.name = "<init>") (hcw : Cond.code z.1 bb nl none ∈ ab_T) (hst : st = As.reverse ++ .ref b :: rest) (hw : (rest.map fun v => v.category).sum ≤ 8) (k : ab_V y R Po mc ms (cells + R1.cells) (slots + R1.slots) (pc + 3) lv (rest) (hpw H1)) : ab_V y R Po mc ms cells slots pc lv st (hpw H) :=
  ab_callIN hd hM hC hlk hin hnm hcw hst hw (fun v1 h1 q => by obtain ⟨e, rfl⟩ := q; cases e; exact k) (fun x h1 q => by cases q.1)
end HpRules2
theorem bnd_g {α β : Type} {e : α} {k : α → Option β} {r : β} (h : bnd e k = some r) : ∃ x, x = e ∧ k x = some r := ⟨e, rfl, h⟩
theorem bT_c {α β : Type} {P : Prop} {m : Option (Ot α × Hp)} {K : α → Hp → Option (Ot β × Hp)} {r : Ot β × Hp} (h : bT m K = some r) (k1 : ∀ x H1, m = some (.inr x, H1) → r = (.inr x, H1) → P) (k2 : ∀ v H1, m = some (.inl v, H1) → K v H1 = some r → P) : P := by
  rcases bT_s h with ⟨v, H1, h1, h2⟩ | ⟨x, H1, h1, h2⟩
  · exact k2 v H1 h1 h2
  · exact k1 x H1 h1 h2
def bH {α β : Type} (m : Option (Ot α × Hp)) (K : α → Hp → Option β) (K' : Nat → Hp → Option β) : Option β := match m with
  | some (.inl v, H) => K v H
  | some (.inr x, H) => K' x H
  | none => none
theorem bH_c {α β : Type} {P : Prop} {m : Option (Ot α × Hp)} {K : α → Hp → Option β} {K' : Nat → Hp → Option β} {r : β} (h : bH m K K' = some r) (k1 : ∀ x H1, m = some (.inr x, H1) → K' x H1 = some r → P) (k2 : ∀ v H1, m = some (.inl v, H1) → K v H1 = some r → P) : P := by
  unfold bH at h
  split at h
  · next v H1 => exact k2 v H1 rfl h
  · next x H1 => exact k1 x H1 rfl h
  · cases h
/-- shapes as they were -/
def Sa (H K : Hp) : Prop := K.sh = H.sh ∧ K.sl = H.sl
theorem Sa.rf (H : Hp) : Sa H H := ⟨rfl, rfl⟩
theorem Sa.tr {H K M : Hp} (h1 : Sa H K) (h2 : Sa K M) : Sa H M := ⟨h2.1.trans h1.1, h2.2.trans h1.2⟩
/-- shapes may have grown -/
def Mo (H K : Hp) : Prop := (∃ l, K.sh = H.sh ++ l) ∧ H.sl ≤ K.sl
theorem Mo.rf (H : Hp) : Mo H H := ⟨⟨[], by simp⟩, Nat.le_refl _⟩
theorem Mo.tr {H K M : Hp} (h1 : Mo H K) (h2 : Mo K M) : Mo H M := by
  obtain ⟨⟨l, e⟩, h⟩ := h1
  obtain ⟨⟨l', e'⟩, h'⟩ := h2
  exact ⟨⟨l ++ l', by rw [e', e, List.append_assoc]⟩, Nat.le_trans h h'⟩
theorem Sa.mo {H K : Hp} (h : Sa H K) : Mo H K := ⟨⟨[], by rw [h.1]; simp⟩, Nat.le_of_eq h.2.symm⟩
theorem Mo.len {H K : Hp} (h : Mo H K) : H.sh.length ≤ K.sh.length := by
  obtain ⟨⟨l, e⟩, -⟩ := h
  rw [e, List.length_append]
  omega
theorem Mo.get {H K : Hp} (h : Mo H K) {a : Nat} {s : Nat × Nat} (hs : H.sh[a]? = some s) : K.sh[a]? = some s := by
  obtain ⟨⟨l, e⟩, -⟩ := h
  rw [e, List.getElem?_append_left (List.getElem?_eq_some_iff.mp hs).1]
  exact hs
theorem Mo.nw (H : Hp) (s : Nat × Nat) (k : Nat) : Mo H (H.nw s k) := ⟨⟨[s], rfl⟩, Nat.le_add_right _ _⟩
theorem Mo.nx (H : Hp) (s : Nat × Nat) (k : Nat) : Mo H (H.nx s k) := ⟨⟨[s], rfl⟩, Nat.le_add_right _ _⟩
def oI : Ot Int32 → Outcome
  | .inl v => .returned (some (.int v))
  | .inr x => .threw x
def oJ : Ot Int64 → Outcome
  | .inl v => .returned (some (.long v))
  | .inr x => .threw x
def oV : Ot Unit → Outcome
  | .inl _ => .returned none
  | .inr x => .threw x
def oA : Ot (Option Nat) → Outcome
  | .inl v => .returned (some (ab_rf v))
  | .inr x => .threw x
section HpRules3
variable {y z : ab_Y} {R R1 : Room} {Po : Outcome → List ab_E → Prop} {mc ms cells slots pc : Nat} {lv : List (Option Value)} {st : List Value} {H H1 : Hp}
theorem hp_new {i ci : Nat} {r : vw_C} {fs : List Value} (hd : decode y.2.1 pc = .ok (.new i, 3)) (hc : ab_cl[ci]? = some r) (hcl : Cond.classLink y.1.cls i r.1 ∈ ab_T) (hinst : Cond.instantiable r.1 r.2.2 ∈ ab_T) (hini : Cond.initialized r.1 ∈ ab_T) (hfs : (List.range r.2.2).map (fun j => defaultValue (ab_tyof r j)) = fs) (hpl : fs.all ab_plain = true) (hci : ci < 100) (hk : (kd ci).mapIdx (fun _ b => if b then Value.null else .int 0) = fs) (hcells : cells + 1 ≤ R.cells) (hslots : slots + r.2.2 ≤ R.slots)
    (k : ab_V y R Po mc ms (cells + 1) (slots + r.2.2) (pc + 3) lv (.ref H.sh.length :: st) (hpw (H.nw (ci, 0) r.2.2))) : ab_V y R Po mc ms cells slots pc lv st (hpw H) := by
  refine ab_new hd hc hcl hinst hini hfs hpl hcells hslots ?_
  rw [hpw_len]
  have e : hpw (H.nw (ci, 0) r.2.2) = hpw H ++ [.inr (ci, fs)] := by
    refine hpw_app rfl (fun x t hx => hp_nw_o hx) ?_
    rw [hp_cell_obj hci, ← hk]
    simp [Hp.nw, mkH_D, mkH_P, mkH_L]
  rw [← e]
  exact k
theorem hp_newa {aty : ArrayType} {ty : FieldType} {x : Int32} {q : Nat} (hd : decode y.2.1 pc = .ok (.newarray aty, 2)) (hty : newarray.typeOf aty = ty) (hw : Cond.arrayClass ty ∈ ab_T) (ht : ty ∈ ab_tyl) (hk : ty = .int ∨ ty = .byte ∨ ty = .boolean ∨ ty = .char ∨ ty = .long) (hq : ¬ q < 100 ∧ q < 104 ∧ kt q = ty) (hz : ab_zero ty = .inl (fun _ => 0)) (hx : ¬ x < 0) (hby : x.toNatClampNeg * componentBytes ty ≤ 536870912) (hcells : cells + 1 ≤ R.cells) (hslots : slots + x.toNatClampNeg ≤ R.slots)
    (k : ab_V y R Po mc ms (cells + 1) (slots + x.toNatClampNeg) (pc + 2) lv (.ref H.sh.length :: st) (hpw (H.nw (q, x.toNatClampNeg) x.toNatClampNeg))) : ab_V y R Po mc ms cells slots pc lv (.int x :: st) (hpw H) := by
  refine ab_newa hd hty hw ht hk hx rfl hby hcells hslots ?_
  rw [hpw_len]
  have e : hpw (H.nw (q, x.toNatClampNeg) x.toNatClampNeg) = hpw H ++ [.inl (ty, x.toNatClampNeg, ab_zero ty)] := by
    refine hpw_app rfl (fun x t hx => hp_nw_o hx) ?_
    rw [hp_cell_arr hq.1 hq.2.1, hq.2.2, hz]
    simp [Hp.nw, mkH_D, mkH_P, mkH_L]
  rw [← e]
  exact k
theorem hp_throw {i j ic ci : Nat} {EX : String} {T0 : u_T} {names : List String} {q : String × Nat × String × Nat} {k0 : UInt32}
    (hd0 : decode y.2.1 pc = .ok (.new i, 3)) (hd1 : decode y.2.1 (pc + 3) = .ok (.dup, 1)) (hd2 : decode y.2.1 (pc + 3 + 1) = .ok (.ldc j, 2)) (hd3 : decode y.2.1 (pc + 3 + 1 + 2) = .ok (.invokespecial ic, 3)) (hd4 : decode y.2.1 (pc + 3 + 1 + 2 + 3) = .ok (.athrow, 1))
    (hc : ab_cl[ci]? = some (EX, T0, 0)) (hcl : Cond.classLink y.1.cls i EX ∈ ab_T) (hin : Cond.instantiable EX 6 ∈ ab_T) (hini : Cond.initialized EX ∈ ab_T) (hfx : Bundle.fit EX = true) (hnm : ∀ n ∈ names, Bundle.fit n = true)
    (hat : ∀ a ∈ Bundle.ownAtoms y.1.cls ic EX names, a ∈ ab_T ∨ a = .laysStatic Bundle.tN "UNASSIGNED_STACK" Bundle.steD ∨ a = .laysStatic Bundle.tN "SUPPRESSED_SENTINEL" Bundle.listD ∨ a = .isRef (.static Bundle.tN "UNASSIGNED_STACK" Bundle.steD) ∨ a = .isRef (.static Bundle.tN "SUPPRESSED_SENTINEL" Bundle.listD))
    (hq : q ∈ ab_cs) (h1 : q.1 = y.1.cls) (h2 : q.2.1 = j) (h3 : q.2.2.2 = k0.toNat)
    (hh : y.2.2.2.2.all (fun q => !(decide (q.1 ≤ pc + 3 + 1 + 2 + 3) && decide (pc + 3 + 1 + 2 + 3 < q.2.1))) = true) (hcs : cells + 1 ≤ R.cells) (hss : slots + 6 ≤ R.slots) (hmc : cells + 1 ≤ mc) (hms : slots + 6 ≤ ms) (hfr : names.length + 3 < R.frames) (hlo : (st.map fun v => v.category).sum + 1 + (13 * (names.length + 1) + 42) ≤ R.locals)
    (hci : ci < 100) (hk : kd ci = []) (hp : Po (.threw H.sh.length) (hpw (H.nx (ci, 0) 6))) : ab_V y R Po mc ms cells slots pc lv st (hpw H) := by
  refine ab_throw hd0 hd1 hd2 hd3 hd4 hc hcl hin hini hfx hnm hat hq h1 h2 h3 hh hcs hss hmc hms hfr hlo ?_
  rw [hpw_len]
  have e : hpw (H.nx (ci, 0) 6) = hpw H ++ [.inr (ci, [])] := by
    refine hpw_app rfl (fun x t hx => hp_nx_o) ?_
    rw [hp_cell_obj hci, hk]
    rfl
  rw [← e]
  exact hp
theorem hp_putFI {i a ci z f : Nat} {r : vw_C} {v : Int32} {ty : FieldType} (hd : decode y.2.1 pc = .ok (.putfield i, 3)) (hs : H.sh[a]? = some (ci, z)) (hci : ci < 100) (hc : ab_cl[ci]? = some r) (hf : f < r.2.2) (hw : Cond.fieldLink y.1.cls i (r.2.1 f).1 (r.2.1 f).2.1 (r.2.1 f).2.2.1 ∈ ab_T) (hfin : (r.2.1 f).2.2.2 = true) (hin2 : y.1.name = "<init>") (hdecl : (r.2.1 f).1 = y.1.cls) (hty : parseFieldDescriptor (r.2.1 f).2.2.1 = some ty) (hn : ∀ G : ab_G, narrow ty (ab_v G (.int v)) = ab_v G (.int v)) (hi : ∀ G : ab_G, fits ty (ab_v G (.int v)) = true) (hk : (kd ci)[f]? = some false) (k : ab_V y R Po mc ms cells slots (pc + 3) lv st (hpw (H.sD a f v))) : ab_V y R Po mc ms cells slots pc lv (.int v :: .ref a :: st) (hpw H) := by
  refine ab_putF hd (hp_ob hs hci) hc hf hw hfin hin2 hdecl hty hn hi ?_ ?_
  · rw [List.length_mapIdx]; exact (List.getElem?_eq_some_iff.mp hk).1
  · rw [hpw_putI hs hci hk]; exact k
theorem hp_putFP {i a ci z f : Nat} {r : vw_C} {v : Value} {ty : FieldType} (hd : decode y.2.1 pc = .ok (.putfield i, 3)) (hs : H.sh[a]? = some (ci, z)) (hci : ci < 100) (hc : ab_cl[ci]? = some r) (hf : f < r.2.2) (hw : Cond.fieldLink y.1.cls i (r.2.1 f).1 (r.2.1 f).2.1 (r.2.1 f).2.2.1 ∈ ab_T) (hfin : (r.2.1 f).2.2.2 = true) (hin2 : y.1.name = "<init>") (hdecl : (r.2.1 f).1 = y.1.cls) (hty : parseFieldDescriptor (r.2.1 f).2.2.1 = some ty) (hn : ∀ G : ab_G, narrow ty (ab_v G (v)) = ab_v G (v)) (hi : ∀ G : ab_G, fits ty (ab_v G (v)) = true) (hk : (kd ci)[f]? = some true) (k : ab_V y R Po mc ms cells slots (pc + 3) lv st (hpw (H.sP a f v))) : ab_V y R Po mc ms cells slots pc lv (v :: .ref a :: st) (hpw H) := by
  refine ab_putF hd (hp_ob hs hci) hc hf hw hfin hin2 hdecl hty hn hi ?_ ?_
  · rw [List.length_mapIdx]; exact (List.getElem?_eq_some_iff.mp hk).1
  · rw [hpw_putP hs hci hk]; exact k
theorem hp_callV_t {i b ci z0 x : Nat} {r : vw_C} {As rest : List Value} (hd : decode y.2.1 pc = .ok (.invokevirtual i, 3)) (hM : ab_M z R1 (.ref b :: As) (hpw H) (po (.threw x) H1)) (hC : ab_Call z R R1 cells slots As.length) (hlk : Cond.methodLink y.1.cls i z.1 ∈ ab_T) (hin : Cond.instanceMethod z.1 ∈ ab_T) (hse : Cond.selects r.1 z.1 z.1 ∈ ab_T) (hs : H.sh[b]? = some (ci, z0)) (hci : ci < 100) (hc : ab_cl[ci]? = some r) (hst : st = As.reverse ++ .ref b :: rest) (hw : (rest.map fun v => v.category).sum ≤ 8) (k : ab_U y R Po mc ms (cells + R1.cells) (slots + R1.slots) pc lv (hpw H1) x) : ab_V y R Po mc ms cells slots pc lv st (hpw H) :=
  ab_callV hd hM hC hlk hin hse (hp_ob hs hci) hc hst hw (fun v1 h1 q => by cases q.1) (fun x1 h1 q => by obtain ⟨e, rfl⟩ := q; cases e; exact k)
theorem hp_callVN_t {i b ci z0 x : Nat} {host : String} {r : vw_C} {As rest : List Value} (hd : decode y.2.1 pc = .ok (.invokevirtual i, 3)) (hM : ab_M z R1 (.ref b :: As) (hpw H) (po (.threw x) H1)) (hC : ab_Call z R R1 cells slots As.length) (hlk : Cond.methodLinkNest y.1.cls i z.1 host ∈ ab_T) (hin : Cond.instanceMethod z.1 ∈ ab_T) (hse : Cond.selects r.1 z.1 z.1 ∈ ab_T) (hs : H.sh[b]? = some (ci, z0)) (hci : ci < 100) (hc : ab_cl[ci]? = some r) (hst : st = As.reverse ++ .ref b :: rest) (hw : (rest.map fun v => v.category).sum ≤ 8) (k : ab_U y R Po mc ms (cells + R1.cells) (slots + R1.slots) pc lv (hpw H1) x) : ab_V y R Po mc ms cells slots pc lv st (hpw H) :=
  ab_callVN hd hM hC hlk hin hse (hp_ob hs hci) hc hst hw (fun v1 h1 q => by cases q.1) (fun x1 h1 q => by obtain ⟨e, rfl⟩ := q; cases e; exact k)
end HpRules3
section HpRules4
variable {y z : ab_Y} {R R1 : Room} {Po : Outcome → List ab_E → Prop} {mc ms cells slots pc : Nat} {lv : List (Option Value)} {st : List Value} {h : List ab_E} {H H1 : Hp}
theorem ab_acmp_ne {a b : Nat} {off : Int} {tgt : Nat} (hd : decode y.2.1 pc = .ok (.if_acmp .ne off, 3)) (ht : (pc : Int) + off = (tgt : Int)) (kt : ¬ a = b → ab_V y R Po mc ms cells slots tgt lv st h) (kf : a = b → ab_V y R Po mc ms cells slots (pc + 3) lv st h) : ab_V y R Po mc ms cells slots pc lv (.ref b :: .ref a :: st) h := by
  intro p l e s m args below meth c G H locs ls hX hI hl
  exact lv_acmp_ne (rx := some (G.1 + a)) (ry := some (G.1 + b)) hX.1 hX.2.1 hd ht (fun q => kt (fun z => q (by rw [z])) p l e s m args below meth c G H locs ls hX hI hl) (fun q => kf (by have := Option.some.inj q; omega) p l e s m args below meth c G H locs ls hX hI hl)
theorem ab_inst {i a ci : Nat} {r : vw_C} {fs : List Value} (hd : decode y.2.1 pc = .ok (.instanceof i, 3)) (hcl : Cond.classLink y.1.cls i r.1 ∈ ab_T) (ha : h[a]? = some (.inr (ci, fs))) (hc : ab_cl[ci]? = some r) (k : ab_V y R Po mc ms cells slots (pc + 3) lv (.int 1 :: st) h) : ab_V y R Po mc ms cells slots pc lv (.ref a :: st) h := by
  intro p l e s m args below meth c G H locs ls hX hI hl T hT X
  have hKn := hI.2.2.1.1 ci _ hc
  obtain ⟨r1, h1, cell, q1, q2, q3, q4⟩ := hI.2.2.2.1 a _ (ab_w_get ha)
  have hr : r1 = r := Option.some.inj (h1.symm.trans hc)
  subst hr
  have hCA : ClassAt s r1.1 (G.2.2.2.1 ci) := hKn.2
  obtain ⟨vm', X', hst⟩ := X.instanceofYes hX.1 hX.2.2.2.1 (hX.2.2.2.2.1 _ hcl) (a := G.1 + a) (cell := cell) (cT := G.2.2.2.1 ci) (by rw [hT]; exact q1) (by rw [q3]; rfl) hCA.1 (by rw [q2]; exact va_assign (s := s) hCA) (g := F0 m pc ls ((.ref a :: st).map (ab_v G))) rfl (rest := st.map (ab_v G)) rfl (by rw [hX.2.1]; exact hd)
  obtain ⟨t, a1, a2⟩ := k p l e s m args below meth c G H locs ls hX hI hl (T.setVm vm') hT X'
  exact ⟨t, hst t a1, a2⟩
theorem ab_ccast {i a ci : Nat} {r : vw_C} {fs : List Value} (hd : decode y.2.1 pc = .ok (.checkcast i, 3)) (hcl : Cond.classLink y.1.cls i r.1 ∈ ab_T) (ha : h[a]? = some (.inr (ci, fs))) (hc : ab_cl[ci]? = some r) (k : ab_V y R Po mc ms cells slots (pc + 3) lv (.ref a :: st) h) : ab_V y R Po mc ms cells slots pc lv (.ref a :: st) h := by
  intro p l e s m args below meth c G H locs ls hX hI hl T hT X
  have hKn := hI.2.2.1.1 ci _ hc
  obtain ⟨r1, h1, cell, q1, q2, q3, q4⟩ := hI.2.2.2.1 a _ (ab_w_get ha)
  have hr : r1 = r := Option.some.inj (h1.symm.trans hc)
  subst hr
  have hCA : ClassAt s r1.1 (G.2.2.2.1 ci) := hKn.2
  obtain ⟨vm', X', hst⟩ := X.checkcastYes hX.1 hX.2.2.2.1 (hX.2.2.2.2.1 _ hcl) (a := G.1 + a) (cell := cell) (cT := G.2.2.2.1 ci) (by rw [hT]; exact q1) (by rw [q3]; rfl) hCA.1 (by rw [q2]; exact va_assign (s := s) hCA) (g := F0 m pc ls ((.ref a :: st).map (ab_v G))) rfl (rest := st.map (ab_v G)) rfl (by rw [hX.2.1]; exact hd)
  obtain ⟨t, a1, a2⟩ := k p l e s m args below meth c G H locs ls hX hI hl (T.setVm vm') hT X'
  exact ⟨t, hst t a1, a2⟩
end HpRules4
def nl {α : Type} (v : Option Nat) (x : Option α) (K : Nat → Option α) : Option α := match v with
  | none => x
  | some a => K a
theorem nl_c {α : Type} {P : Prop} {v : Option Nat} {x : Option α} {K : Nat → Option α} {r : α} (h : nl v x K = some r) (k1 : v = none → x = some r → P) (k2 : ∀ a, v = some a → K a = some r → P) : P := by
  cases v with
  | none => exact k1 rfl h
  | some a => exact k2 a rfl h
section HpRules5
variable {y z : ab_Y} {R R1 : Room} {Po : Outcome → List ab_E → Prop} {mc ms cells slots pc : Nat} {lv : List (Option Value)} {st : List Value} {H H1 : Hp}
theorem hp_callVK_a {i : Nat} {k0 : UInt32} {As rest : List Value} {v : Value} (hd : decode y.2.1 pc = .ok (.invokevirtual i, 3)) (hk : k0.toNat < 10) (hM : ab_M z R1 (.float k0 :: As) (hpw H) (po (.returned (some v)) H1)) (hC : ab_Call z R R1 cells slots As.length) (hlk : Cond.methodLink y.1.cls i z.1 ∈ ab_T) (hin : Cond.instanceMethod z.1 ∈ ab_T) (hse : Cond.selects "java/lang/String" z.1 z.1 ∈ ab_T) (hst : st = As.reverse ++ .float k0 :: rest) (hw : (rest.map fun v => v.category).sum ≤ 8)
    (k : ab_V y R Po mc ms (cells + R1.cells) (slots + R1.slots) (pc + 3) lv (v :: rest) (hpw H1)) : ab_V y R Po mc ms cells slots pc lv st (hpw H) :=
  ab_callVK hd hk hM hC hlk hin hse hst hw (fun v1 h1 q => by obtain ⟨e, rfl⟩ := q; cases e; exact k) (fun x h1 q => by cases q.1)
end HpRules5
section HpRules6
variable {y z : ab_Y} {R R1 : Room} {Po : Outcome → List ab_E → Prop} {mc ms cells slots pc : Nat} {lv : List (Option Value)} {st : List Value} {H H1 : Hp}
theorem ab_topxi {h : List ab_E} {x e : Int32} (ex : x = e) (k : ab_V y R Po mc ms cells slots pc lv (.int x :: st) h) : ab_V y R Po mc ms cells slots pc lv (.int e :: st) h := ex ▸ k
theorem ab_topxl {h : List ab_E} {x e : Int64} (ex : x = e) (k : ab_V y R Po mc ms cells slots pc lv (.long x :: st) h) : ab_V y R Po mc ms cells slots pc lv (.long e :: st) h := ex ▸ k
theorem hp_genx {K : Hp} (e : K = H) (k : ab_V y R Po mc ms cells slots pc lv st (hpw K)) : ab_V y R Po mc ms cells slots pc lv st (hpw H) := e ▸ k
theorem hp_anew {i q : Nat} {C : String} {x : Int32} (hd : decode y.2.1 pc = .ok (.anewarray i, 3)) (hw : Cond.classLink y.1.cls i C ∈ ab_T) (ho : Cond.arrayOver (.object C) ∈ ab_T) (ht : FieldType.object C ∈ ab_tyl) (hq : 104 < q ∧ kc q = C) (hx : ¬ x < 0) (hby : x.toNatClampNeg * 4 ≤ 536870912) (hcells : cells + 1 ≤ R.cells) (hslots : slots + x.toNatClampNeg ≤ R.slots)
    (k : ab_V y R Po mc ms (cells + 1) (slots + x.toNatClampNeg) (pc + 3) lv (.ref H.sh.length :: st) (hpw (H.nw (q, x.toNatClampNeg) x.toNatClampNeg))) : ab_V y R Po mc ms cells slots pc lv (.int x :: st) (hpw H) := by
  refine ab_anewL (hpw_len H) hd hw ho ht hx rfl hby hcells hslots (fun h1 e1 e2 e3 => ?_)
  have e : hpw (H.nw (q, x.toNatClampNeg) x.toNatClampNeg) = hpw H ++ [.inl (.object C, x.toNatClampNeg, .inr (.inr (.inr (.inr fun _ => none))))] := by
    refine hpw_app rfl (fun x t hx => hp_nw_o hx) ?_
    rw [hp_cell_rar hq.1, hq.2]
    simp [Hp.nw, mkH_D, mkH_P, mkH_L, vo]
  have eh : h1 = hpw (H.nw (q, x.toNatClampNeg) x.toNatClampNeg) := by
    rw [e]
    apply List.ext_getElem?
    intro j
    rw [List.getElem?_append, hpw_len]
    by_cases hj : j < H.sh.length
    · rw [if_pos hj]; exact e3 j hj
    · rw [if_neg hj]
      by_cases h2 : j = H.sh.length
      · subst h2; simpa using e2
      · rw [List.getElem?_eq_none_iff.mpr (by omega)]
        symm
        rw [List.getElem?_eq_none_iff]
        simp
        omega
  rw [eh]
  exact k
end HpRules6
theorem ite_s {α : Type} {c : Prop} [Decidable c] {a b : Option α} {r : α} (h : (if c then a else b) = some r) : (c ∧ a = some r) ∨ (¬ c ∧ b = some r) := by
  by_cases hc : c
  · rw [if_pos hc] at h; exact Or.inl ⟨hc, h⟩
  · rw [if_neg hc] at h; exact Or.inr ⟨hc, h⟩
theorem zn {v : Int32} (h : v = 0 ∨ v = 1) : narrow .boolean (.int v) = .int v := by rcases h with h | h <;> subst h <;> rfl
theorem zf {v : Int32} (h : v = 0 ∨ v = 1) : fits .boolean (.int v) = true := by rcases h with h | h <;> subst h <;> rfl
theorem bn_ {v : Int32} (h : v = 0 ∨ v = 1) : narrow .byte (.int v) = .int v := by rcases h with h | h <;> subst h <;> rfl
theorem bf_ {v : Int32} (h : v = 0 ∨ v = 1) : fits .byte (.int v) = true := by rcases h with h | h <;> subst h <;> rfl
