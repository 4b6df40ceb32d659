section ABundle2
variable {y : ab_Y} {R : Room} {Po : Outcome → List ab_E → Prop} {mc ms cells slots pc : Nat} {lv : List (Option Value)} {st : List Value} {h : List ab_E}
def ab_rf : Option Nat → Value
  | none => .null
  | some a => .ref a
theorem ab_rf_v (G : ab_G) (q : Option Nat) : ab_v G (ab_rf q) = va_rf (q.map (fun i => G.1 + i)) := by cases q <;> rfl
theorem ab_iald {a n : Nat} {f : Nat → Int32} {i : Int32} (hd : decode y.2.1 pc = .ok (.iaload, 1)) (ht : FieldType.int ∈ ab_tyl) (ha : h[a]? = some (.inl (.int, n, .inl f))) (hin : vp_in i n) (k : ab_V y R Po mc ms cells slots (pc + 1) lv (.int (f i.toNatClampNeg) :: st) h) : ab_V y R Po mc ms cells slots pc lv (.int i :: .ref a :: st) h := by
  intro p l e s m args below meth c G H locs ls hX hI hl
  obtain ⟨t0, ht0⟩ := ab_ty_get (G := G) ht
  exact va_iald hX.1 hX.2.1 hI.2.2.1 hI.2.2.2.1 a t0 (ab_w_get ha) ht0 hin hd (k p l e s m args below meth c G H locs ls hX hI hl)
theorem ab_bald {a n : Nat} {f : Nat → Int32} {i : Int32} (hd : decode y.2.1 pc = .ok (.baload, 1)) (ht : FieldType.byte ∈ ab_tyl) (ha : h[a]? = some (.inl (.byte, n, .inl f))) (hin : vp_in i n) (k : ab_V y R Po mc ms cells slots (pc + 1) lv (.int (f i.toNatClampNeg) :: st) h) : ab_V y R Po mc ms cells slots pc lv (.int i :: .ref a :: st) h := by
  intro p l e s m args below meth c G H locs ls hX hI hl
  obtain ⟨t0, ht0⟩ := ab_ty_get (G := G) ht
  exact va_bald hX.1 hX.2.1 hI.2.2.1 hI.2.2.2.1 a t0 (ab_w_get ha) ht0 hin hd (k p l e s m args below meth c G H locs ls hX hI hl)
theorem ab_zald {a n : Nat} {f : Nat → Int32} {i : Int32} (hd : decode y.2.1 pc = .ok (.baload, 1)) (ht : FieldType.boolean ∈ ab_tyl) (ha : h[a]? = some (.inl (.boolean, n, .inl f))) (hin : vp_in i n) (k : ab_V y R Po mc ms cells slots (pc + 1) lv (.int (f i.toNatClampNeg) :: st) h) : ab_V y R Po mc ms cells slots pc lv (.int i :: .ref a :: st) h := by
  intro p l e s m args below meth c G H locs ls hX hI hl
  obtain ⟨t0, ht0⟩ := ab_ty_get (G := G) ht
  exact va_zald hX.1 hX.2.1 hI.2.2.1 hI.2.2.2.1 a t0 (ab_w_get ha) ht0 hin hd (k p l e s m args below meth c G H locs ls hX hI hl)
theorem ab_cald {a n : Nat} {f : Nat → Int32} {i : Int32} (hd : decode y.2.1 pc = .ok (.caload, 1)) (ht : FieldType.char ∈ ab_tyl) (ha : h[a]? = some (.inl (.char, n, .inl f))) (hin : vp_in i n) (k : ab_V y R Po mc ms cells slots (pc + 1) lv (.int (f i.toNatClampNeg) :: st) h) : ab_V y R Po mc ms cells slots pc lv (.int i :: .ref a :: st) h := by
  intro p l e s m args below meth c G H locs ls hX hI hl
  obtain ⟨t0, ht0⟩ := ab_ty_get (G := G) ht
  exact va_cald hX.1 hX.2.1 hI.2.2.1 hI.2.2.2.1 a t0 (ab_w_get ha) ht0 hin hd (k p l e s m args below meth c G H locs ls hX hI hl)
theorem ab_sald {a n : Nat} {f : Nat → Int32} {i : Int32} (hd : decode y.2.1 pc = .ok (.saload, 1)) (ht : FieldType.short ∈ ab_tyl) (ha : h[a]? = some (.inl (.short, n, .inl f))) (hin : vp_in i n) (k : ab_V y R Po mc ms cells slots (pc + 1) lv (.int (f i.toNatClampNeg) :: st) h) : ab_V y R Po mc ms cells slots pc lv (.int i :: .ref a :: st) h := by
  intro p l e s m args below meth c G H locs ls hX hI hl
  obtain ⟨t0, ht0⟩ := ab_ty_get (G := G) ht
  exact va_sald hX.1 hX.2.1 hI.2.2.1 hI.2.2.2.1 a t0 (ab_w_get ha) ht0 hin hd (k p l e s m args below meth c G H locs ls hX hI hl)
theorem ab_lald {a n : Nat} {f : Nat → Int64} {i : Int32} (hd : decode y.2.1 pc = .ok (.laload, 1)) (ht : FieldType.long ∈ ab_tyl) (ha : h[a]? = some (.inl (.long, n, .inr (.inl f)))) (hin : vp_in i n) (k : ab_V y R Po mc ms cells slots (pc + 1) lv (.long (f i.toNatClampNeg) :: st) h) : ab_V y R Po mc ms cells slots pc lv (.int i :: .ref a :: st) h := by
  intro p l e s m args below meth c G H locs ls hX hI hl
  obtain ⟨t0, ht0⟩ := ab_ty_get (G := G) ht
  exact va_lald hX.1 hX.2.1 hI.2.2.1 hI.2.2.2.1 a t0 (ab_w_get ha) ht0 hin hd (k p l e s m args below meth c G H locs ls hX hI hl)
theorem ab_aald {a n : Nat} {C : String} {f : Nat → Option Nat} {i : Int32} (hd : decode y.2.1 pc = .ok (.aaload, 1)) (ht : FieldType.object C ∈ ab_tyl) (ha : h[a]? = some (.inl (.object C, n, .inr (.inr (.inr (.inr f)))))) (hin : vp_in i n) (k : ab_V y R Po mc ms cells slots (pc + 1) lv (ab_rf (f i.toNatClampNeg) :: st) h) : ab_V y R Po mc ms cells slots pc lv (.int i :: .ref a :: st) h := by
  intro p l e s m args below meth c G H locs ls hX hI hl
  obtain ⟨t0, ht0⟩ := ab_ty_get (G := G) ht
  have k1 := k p l e s m args below meth c G H locs ls hX hI hl
  rw [List.map_cons, ab_rf_v] at k1
  exact va_aldq hX.1 hX.2.1 hI.2.2.1 hI.2.2.2.1 a t0 (ab_w_get ha) ht0 hin hd k1
theorem ab_alen {a : Nat} {ty : FieldType} {x : vp_A} {v : Int32} (hd : decode y.2.1 pc = .ok (.arraylength, 1)) (ht : ty ∈ ab_tyl) (ha : h[a]? = some (.inl (ty, x))) (hv : Int32.ofNat x.1 = v) (k : ab_V y R Po mc ms cells slots (pc + 1) lv (.int v :: st) h) : ab_V y R Po mc ms cells slots pc lv (.ref a :: st) h := by
  intro p l e s m args below meth c G H locs ls hX hI hl
  obtain ⟨t0, ht0⟩ := ab_ty_get (G := G) ht
  exact va_alen (x := ab_a G x) hX.1 hX.2.1 hI.2.2.1 hI.2.2.2.1 a t0 (ab_w_get ha) ht0 hv hd (k p l e s m args below meth c G H locs ls hX hI hl)
theorem ab_iast {a n : Nat} {f : Nat → Int32} {i x : Int32} (hd : decode y.2.1 pc = .ok (.iastore, 1)) (ht : FieldType.int ∈ ab_tyl) (ha : h[a]? = some (.inl (.int, n, .inl f))) (hin : vp_in i n) (k : ab_V y R Po mc ms cells slots (pc + 1) lv st (h.set a (.inl (.int, n, .inl (upd f i.toNatClampNeg (x)))))) : ab_V y R Po mc ms cells slots pc lv (.int x :: .int i :: .ref a :: st) h := by
  intro p l e s m args below meth c G H locs ls hX hI hl
  have hA : H[G.1 + a]? = some (vp_cell (G.2.2.1 .int) (n, .inl f)) := hI.2.2.2.1 a _ (ab_w_get ha)
  refine W.iast hX.1 hX.2.1 hA ((ab_arr hI.2.2.1 ht).1 n (fun j => .int (f j))) (fun q => by cases q) (by show ¬ (i < 0 ∨ (arrV _ _ _).slots.size ≤ _); rw [arrV_size]; exact hin) rfl rfl hd fun H1 e1 z oq => ?_
  refine k p l e s m args below meth c G H1 _ ls hX (ab_upd_In hI ha ?_ z oq) hl
  show H1[G.1 + a]? = some (vp_cell _ _)
  rw [e1]
  rw [vp_cell_i]
  show _ = some (vp_cell _ (n, .inl _))
  rw [vp_cell_i, arrV_store]
  congr 2
  funext q
  by_cases hq : q = i.toNatClampNeg
  · subst hq
    simp [updV, upd, vp_nar, narrow]
  · simp [updV, upd, hq]
theorem ab_bast {a n : Nat} {f : Nat → Int32} {i x : Int32} (hd : decode y.2.1 pc = .ok (.bastore, 1)) (ht : FieldType.byte ∈ ab_tyl) (ha : h[a]? = some (.inl (.byte, n, .inl f))) (hin : vp_in i n) (k : ab_V y R Po mc ms cells slots (pc + 1) lv st (h.set a (.inl (.byte, n, .inl (upd f i.toNatClampNeg (vp_nar .byte x)))))) : ab_V y R Po mc ms cells slots pc lv (.int x :: .int i :: .ref a :: st) h := by
  intro p l e s m args below meth c G H locs ls hX hI hl
  have hA : H[G.1 + a]? = some (vp_cell (G.2.2.1 .byte) (n, .inl f)) := hI.2.2.2.1 a _ (ab_w_get ha)
  refine W.bast hX.1 hX.2.1 hA ((ab_arr hI.2.2.1 ht).1 n (fun j => .int (f j))) (fun q => by cases q) (by show ¬ (i < 0 ∨ (arrV _ _ _).slots.size ≤ _); rw [arrV_size]; exact hin) rfl rfl hd fun H1 e1 z oq => ?_
  refine k p l e s m args below meth c G H1 _ ls hX (ab_upd_In hI ha ?_ z oq) hl
  show H1[G.1 + a]? = some (vp_cell _ _)
  rw [e1]
  rw [vp_cell_i]
  show _ = some (vp_cell _ (n, .inl _))
  rw [vp_cell_i, arrV_store]
  congr 2
  funext q
  by_cases hq : q = i.toNatClampNeg
  · subst hq
    simp [updV, upd, vp_nar, narrow]
  · simp [updV, upd, hq]
theorem ab_zast {a n : Nat} {f : Nat → Int32} {i x : Int32} (hd : decode y.2.1 pc = .ok (.bastore, 1)) (ht : FieldType.boolean ∈ ab_tyl) (ha : h[a]? = some (.inl (.boolean, n, .inl f))) (hin : vp_in i n) (k : ab_V y R Po mc ms cells slots (pc + 1) lv st (h.set a (.inl (.boolean, n, .inl (upd f i.toNatClampNeg (vp_nar .boolean x)))))) : ab_V y R Po mc ms cells slots pc lv (.int x :: .int i :: .ref a :: st) h := by
  intro p l e s m args below meth c G H locs ls hX hI hl
  have hA : H[G.1 + a]? = some (vp_cell (G.2.2.1 .boolean) (n, .inl f)) := hI.2.2.2.1 a _ (ab_w_get ha)
  refine W.zast hX.1 hX.2.1 hA ((ab_arr hI.2.2.1 ht).1 n (fun j => .int (f j))) (fun q => by cases q) (by show ¬ (i < 0 ∨ (arrV _ _ _).slots.size ≤ _); rw [arrV_size]; exact hin) rfl rfl hd fun H1 e1 z oq => ?_
  refine k p l e s m args below meth c G H1 _ ls hX (ab_upd_In hI ha ?_ z oq) hl
  show H1[G.1 + a]? = some (vp_cell _ _)
  rw [e1]
  rw [vp_cell_i]
  show _ = some (vp_cell _ (n, .inl _))
  rw [vp_cell_i, arrV_store]
  congr 2
  funext q
  by_cases hq : q = i.toNatClampNeg
  · subst hq
    simp [updV, upd, vp_nar, narrow]
  · simp [updV, upd, hq]
theorem ab_cast {a n : Nat} {f : Nat → Int32} {i x : Int32} (hd : decode y.2.1 pc = .ok (.castore, 1)) (ht : FieldType.char ∈ ab_tyl) (ha : h[a]? = some (.inl (.char, n, .inl f))) (hin : vp_in i n) (k : ab_V y R Po mc ms cells slots (pc + 1) lv st (h.set a (.inl (.char, n, .inl (upd f i.toNatClampNeg (vp_nar .char x)))))) : ab_V y R Po mc ms cells slots pc lv (.int x :: .int i :: .ref a :: st) h := by
  intro p l e s m args below meth c G H locs ls hX hI hl
  have hA : H[G.1 + a]? = some (vp_cell (G.2.2.1 .char) (n, .inl f)) := hI.2.2.2.1 a _ (ab_w_get ha)
  refine W.cast hX.1 hX.2.1 hA ((ab_arr hI.2.2.1 ht).1 n (fun j => .int (f j))) (fun q => by cases q) (by show ¬ (i < 0 ∨ (arrV _ _ _).slots.size ≤ _); rw [arrV_size]; exact hin) rfl rfl hd fun H1 e1 z oq => ?_
  refine k p l e s m args below meth c G H1 _ ls hX (ab_upd_In hI ha ?_ z oq) hl
  show H1[G.1 + a]? = some (vp_cell _ _)
  rw [e1]
  rw [vp_cell_i]
  show _ = some (vp_cell _ (n, .inl _))
  rw [vp_cell_i, arrV_store]
  congr 2
  funext q
  by_cases hq : q = i.toNatClampNeg
  · subst hq
    simp [updV, upd, vp_nar, narrow]
  · simp [updV, upd, hq]
theorem ab_last {a n : Nat} {f : Nat → Int64} {i : Int32} {x : Int64} (hd : decode y.2.1 pc = .ok (.lastore, 1)) (ht : FieldType.long ∈ ab_tyl) (ha : h[a]? = some (.inl (.long, n, .inr (.inl f)))) (hin : vp_in i n) (k : ab_V y R Po mc ms cells slots (pc + 1) lv st (h.set a (.inl (.long, n, .inr (.inl (vp_updL f i.toNatClampNeg x)))))) : ab_V y R Po mc ms cells slots pc lv (.long x :: .int i :: .ref a :: st) h := by
  intro p l e s m args below meth c G H locs ls hX hI hl
  have hA : H[G.1 + a]? = some (vp_cell (G.2.2.1 .long) (n, .inr (.inl f))) := hI.2.2.2.1 a _ (ab_w_get ha)
  refine W.last hX.1 hX.2.1 hA ((ab_arr hI.2.2.1 ht).1 n (fun j => .long (f j))) (fun q => by cases q) (by show ¬ (i < 0 ∨ (arrV _ _ _).slots.size ≤ _); rw [arrV_size]; exact hin) rfl rfl hd fun H1 e1 z oq => ?_
  refine k p l e s m args below meth c G H1 _ ls hX (ab_upd_In hI ha ?_ z oq) hl
  show H1[G.1 + a]? = some (vp_cell _ _)
  rw [e1]
  rw [vp_cell_l]
  show _ = some (vp_cell _ (n, .inr (.inl _)))
  rw [vp_cell_l, arrV_store]
  congr 2
  funext q
  by_cases hq : q = i.toNatClampNeg
  · subst hq
    simp [updV, vp_updL]
  · simp [updV, vp_updL, hq]
theorem ab_aast {a n v ci : Nat} {r : vw_C} {vs : List Value} {f : Nat → Option Nat} {i : Int32} (hd : decode y.2.1 pc = .ok (.aastore, 1)) (ht : FieldType.object r.1 ∈ ab_tyl) (ha : h[a]? = some (.inl (.object r.1, n, .inr (.inr (.inr (.inr f)))))) (hv : h[v]? = some (.inr (ci, vs))) (hc : ab_cl[ci]? = some r) (hin : vp_in i n) (k : ab_V y R Po mc ms cells slots (pc + 1) lv st (h.set a (.inl (.object r.1, n, .inr (.inr (.inr (.inr (va_up f i.toNatClampNeg (some v))))))))) : ab_V y R Po mc ms cells slots pc lv (.ref v :: .int i :: .ref a :: st) h := by
  intro p l e s m args below meth c G H locs ls hX hI hl
  obtain ⟨C, T, N⟩ := r
  have hA : H[G.1 + a]? = some (vp_cell (G.2.2.1 (.object C)) (n, .inr (.inr (.inr (.inr (fun j => (f j).map (fun i => G.1 + i))))))) := hI.2.2.2.1 a _ (ab_w_get ha)
  obtain ⟨r1, h1, cell, q1, q2, q3, q4⟩ := hI.2.2.2.1 v _ (ab_w_get hv)
  have hr : r1 = (C, T, N) := Option.some.inj (h1.symm.trans hc)
  subst hr
  obtain ⟨hS, hfc, kC, hkC, hkind⟩ := hI.2.2.1.1 ci _ hc
  obtain ⟨hAr, kA, comp, f1, f2, f3, f4⟩ := ab_arr hI.2.2.1 ht
  have hcomp : comp = G.2.2.2.1 ci := Option.some.inj (f3.symm.trans hfc)
  subst hcomp
  rw [vp_cell_q] at hA
  refine W.aast hX.1 hX.2.1 (v := G.1 + v) hA (fun q h => by cases h) (fun h => by cases h) f1 f2 rfl hkC (by
    show ¬ i < 0 ∧ i.toNatClampNeg < (arrV _ _ _).slots.size
    rw [arrV_size]
    exact ⟨fun q => hin (Or.inl q), Nat.lt_of_not_le (fun q => hin (Or.inr q))⟩) q1 (fun q h => by rw [q3] at h; cases h) (by rw [q2]; exact hkC) (by rw [q2]; exact va_assign (hI.2.2.1.1 ci _ hc).2) rfl rfl hd fun H1 e1 z oq => ?_
  refine k p l e s m args below meth c G H1 _ ls hX (ab_upd_In hI ha ?_ z oq) hl
  show H1[G.1 + a]? = some (vp_cell _ (n, .inr (.inr (.inr (.inr _)))))
  rw [e1, vp_cell_q, arrV_store]
  congr 2
  funext q
  by_cases hq : q = i.toNatClampNeg
  · subst hq
    simp [updV, va_up, va_rf]
  · simp [updV, va_up, hq]
/-- behind a new cell -/
theorem ab_new_In {G : ab_G} {s : State} {H H1 : Heap} {locs : List Loc} {c : ab_E} (hI : ab_In G s h H locs) (he : va_at G.2.2.2 ab_cl (G.1 + h.length, ab_e G c) H1) (z : H1.size = H.size + 1) (oq : ∀ q : Nat, q < H.size → H1[q]? = H[q]?) : ab_In G s (h ++ [c]) H1 locs := by
  obtain ⟨h1, h2, h3, h4, h5, h6⟩ := hI
  refine ⟨h1, by rw [z, h2, List.length_append]; rfl, h3, ?_, ⟨by rw [z]; exact Nat.le_trans h5.1 (Nat.le_succ _), fun q hq hn => ?_, h5.2.2⟩, h6⟩
  · rw [ab_w_push]
    refine (h4.kept (fun k q hq => oq q.1 ((h4 k q hq).lt))).app (fun k q hq => ?_)
    have hz : k < 1 := (List.getElem?_eq_some_iff.mp hq).1
    rw [show k = 0 by omega] at hq
    cases hq
    exact he
  · rw [oq q (Nat.lt_of_lt_of_le hq h5.1)]
    exact h5.2.1 q hq hn
def ab_plain : Value → Bool
  | .ref _ => false
  | .float _ => false
  | _ => true
theorem ab_plain_v {G : ab_G} {v : Value} (hv : ab_plain v = true) : ab_v G v = v := by cases v <;> first | rfl | cases hv
theorem ab_new {i ci : Nat} {r : vw_C} {fs : List Value} (hd : decode y.2.1 pc = .ok (.new i, 3)) (hc : ab_cl[ci]? = some r) (hcl : Cond.classLink y.1.cls i r.1 ∈ ab_T) (hinst : Cond.instantiable r.1 r.2.2 ∈ ab_T) (hini : Cond.initialized r.1 ∈ ab_T)
    (hfs : (List.range r.2.2).map (fun j => defaultValue (ab_tyof r j)) = fs) (hpl : fs.all ab_plain = true) (hcells : cells + 1 ≤ R.cells) (hslots : slots + r.2.2 ≤ R.slots)
    (k : ab_V y R Po mc ms (cells + 1) (slots + r.2.2) (pc + 3) lv (.ref h.length :: st) (h ++ [.inr (ci, fs)])) : ab_V y R Po mc ms cells slots pc lv st h := by
  intro p l e s m args below meth c G H locs ls hX hI hl
  have hts := hX.2.2.2.2.1
  have hKn := hI.2.2.1.1 ci _ hc
  refine W.newcK hX.1 hX.2.1 hX.2.2.2.1 (hts _ hcl) (hts _ hinst) (hts _ hini) rfl hd hcells hslots hKn.2.1 hI.2.1 fun H1 kC hkC e1 z1 o1 => ?_
  refine k p l e s m args below meth c G H1 locs ls hX (ab_new_In hI ?_ (by rw [z1, hI.2.1]) (fun q hq => o1 q (by rw [← hI.2.1]; exact hq))) hl
  refine ⟨_, hc, (u_born (ab_tyof r) hts (ab_clin ci r hc) hKn hkC e1 (ab_clty ci r hc)).to (fun j hj => ?_)⟩
  subst hfs
  have hj' : defaultValue (ab_tyof r j) ∈ (List.range r.2.2).map (fun j => defaultValue (ab_tyof r j)) := List.mem_map.mpr ⟨j, List.mem_range.mpr hj, rfl⟩
  have hp := List.all_eq_true.mp hpl _ hj'
  simp [vp_V, hj, ab_plain_v hp]
def ab_zero : FieldType → (Nat → Int32) ⊕ (Nat → Int64) ⊕ (Nat → UInt32) ⊕ (Nat → UInt64) ⊕ (Nat → Option Nat)
  | .long => .inr (.inl (fun _ => 0))
  | _ => .inl (fun _ => 0)
theorem ab_newa {aty : ArrayType} {ty : FieldType} {n : Int32} {N : Nat} (hd : decode y.2.1 pc = .ok (.newarray aty, 2)) (hty : newarray.typeOf aty = ty) (hw : Cond.arrayClass ty ∈ ab_T) (ht : ty ∈ ab_tyl) (hk : ty = .int ∨ ty = .byte ∨ ty = .boolean ∨ ty = .char ∨ ty = .long) (hn : ¬ n < 0) (hN : n.toNatClampNeg = N) (hby : N * componentBytes ty ≤ 536870912) (hcells : cells + 1 ≤ R.cells) (hslots : slots + N ≤ R.slots)
    (k : ab_V y R Po mc ms (cells + 1) (slots + N) (pc + 2) lv (.ref h.length :: st) (h ++ [.inl (ty, N, ab_zero ty)])) : ab_V y R Po mc ms cells slots pc lv (.int n :: st) h := by
  subst hty
  intro p l e s m args below meth c G H locs ls hX hI hl
  refine va_newaK hX.1 hX.2.1 (hX.2.2.2.2.1 _ hw) rfl hd rfl hn hN hby hcells hslots hI.2.1 fun H1 cA e1 z1 o1 hA hf => ?_
  have hcA : cA = G.2.2.1 (newarray.typeOf aty) := by
    have h2 := (ab_arr hI.2.2.1 ht).2
    have h3 : s.vm.findClass ("[" ++ (newarray.typeOf aty).toString) = some (G.2.2.1 (newarray.typeOf aty)) := by
      rcases hk with q | q | q | q | q <;> (rw [q] at h2 ⊢; exact h2)
    exact Option.some.inj (hf.symm.trans h3)
  subst hcA
  refine k p l e s m args below meth c G H1 locs ls hX (ab_new_In hI ?_ (by rw [z1, hI.2.1]) (fun q hq => o1 q (by rw [← hI.2.1]; exact hq))) hl
  show H1[G.1 + h.length]? = some (vp_cell _ _)
  rw [e1]
  rcases hk with q | q | q | q | q <;> rw [q] <;> rfl
theorem ab_anew {i : Nat} {C : String} {n : Int32} {N : Nat} (hd : decode y.2.1 pc = .ok (.anewarray i, 3)) (hw : Cond.classLink y.1.cls i C ∈ ab_T) (ho : Cond.arrayOver (.object C) ∈ ab_T) (ht : FieldType.object C ∈ ab_tyl) (hn : ¬ n < 0) (hN : n.toNatClampNeg = N) (hby : N * 4 ≤ 536870912) (hcells : cells + 1 ≤ R.cells) (hslots : slots + N ≤ R.slots)
    (k : ab_V y R Po mc ms (cells + 1) (slots + N) (pc + 3) lv (.ref h.length :: st) (h ++ [.inl (.object C, N, .inr (.inr (.inr (.inr (fun _ => none)))))])) : ab_V y R Po mc ms cells slots pc lv (.int n :: st) h := by
  subst hN
  intro p l e s m args below meth c G H locs ls hX hI hl
  refine W.anew hX.1 hX.2.1 hX.2.2.2.1 (hX.2.2.2.2.1 _ hw) (hX.2.2.2.2.1 _ ho) rfl hd rfl hn hby hcells hslots fun cA kA comp f1 f2 f3 f4 => ?_
  obtain ⟨-, kA', comp', g1, g2, g3, g4⟩ := ab_arr hI.2.2.1 ht
  have hcA : cA = G.2.2.1 (.object C) := Option.some.inj (f1.symm.trans g4)
  subst hcA
  rw [hI.2.1]
  refine k p l e s m args below meth c G _ locs ls hX (ab_new_In hI ?_ (by rw [Array.size_push]) (fun q hq => by rw [Array.getElem?_push, if_neg (Nat.ne_of_lt hq)])) hl
  show (H.push _)[G.1 + h.length]? = some (vp_cell _ (_, .inr (.inr (.inr (.inr _)))))
  rw [← hI.2.1, Array.getElem?_push_size, vp_cell_q, arrV_new]
  rfl
theorem ab_iret {v : Int32} (hd : decode y.2.1 pc = .ok (.ireturn, 1)) (hr : y.2.2.2.1 = some .int) (hc : cells ≤ mc) (hs : slots ≤ ms) (hp : Po (.returned (some (.int v))) h) : ab_V y R Po mc ms cells slots pc lv [.int v] h := by
  intro p l e s m args below meth c G H locs ls hX hI hl
  exact ab_ofMQ (W.widen hc hs (W.iret (v := v) hX.1 hX.2.1 (hX.2.2.2.2.2.1.trans hr) (fun t ht _ => ab_end (o := .returned (some (.int v))) hI ht rfl hp) hI.2.2.2.2.1.2.2 hd hX.2.2.2.2.2.2.1))
theorem ab_zret {v : Int32} {ty : FieldType} (hd : decode y.2.1 pc = .ok (.ireturn, 1)) (hr : y.2.2.2.1 = some ty) (hn : narrow ty (.int v) = .int v) (hc : cells ≤ mc) (hs : slots ≤ ms) (hp : Po (.returned (some (.int v))) h) : ab_V y R Po mc ms cells slots pc lv [.int v] h := by
  intro p l e s m args below meth c G H locs ls hX hI hl
  exact ab_ofMQ (W.widen hc hs (W.zret (v := v) hX.1 hX.2.1 (hX.2.2.2.2.2.1.trans hr) hn (fun t ht _ => ab_end (o := .returned (some (.int v))) hI ht rfl hp) hI.2.2.2.2.1.2.2 hd hX.2.2.2.2.2.2.1))
theorem ab_lret {v : Int64} (hd : decode y.2.1 pc = .ok (.lreturn, 1)) (hr : y.2.2.2.1 = some .long) (hc : cells ≤ mc) (hs : slots ≤ ms) (hp : Po (.returned (some (.long v))) h) : ab_V y R Po mc ms cells slots pc lv [.long v] h := by
  intro p l e s m args below meth c G H locs ls hX hI hl
  exact ab_ofMQ (W.widen hc hs (W.lret (v := v) hX.1 hX.2.1 (hX.2.2.2.2.2.1.trans hr) (fun t ht _ => ab_end (o := .returned (some (.long v))) hI ht rfl hp) hI.2.2.2.2.1.2.2 hd hX.2.2.2.2.2.2.1))
theorem ab_vret (hd : decode y.2.1 pc = .ok (.return_, 1)) (hr : y.2.2.2.1 = none) (hc : cells ≤ mc) (hs : slots ≤ ms) (hp : Po (.returned none) h) : ab_V y R Po mc ms cells slots pc lv [] h := by
  intro p l e s m args below meth c G H locs ls hX hI hl
  exact ab_ofMQ (W.widen hc hs (W.vret hX.1 hX.2.1 (hX.2.2.2.2.2.1.trans hr) (fun t ht _ => ab_end (o := .returned none) hI ht rfl hp) hI.2.2.2.2.1.2.2 hd hX.2.2.2.2.2.2.1))
theorem ab_aret {v : Value} {rt : FieldType} (hd : decode y.2.1 pc = .ok (.areturn, 1)) (hr : y.2.2.2.1 = some rt) (hrt : (∃ n, rt = .object n) ∨ ∃ t, rt = .array t) (hv : ab_ir v = true) (hc : cells ≤ mc) (hs : slots ≤ ms) (hp : Po (.returned (some v)) h) : ab_V y R Po mc ms cells slots pc lv [v] h := by
  intro p l e s m args below meth c G H locs ls hX hI hl
  exact ab_ofMQ (W.widen hc hs (W.aret (v := ab_v G v) hX.1 hX.2.1 (hX.2.2.2.2.2.1.trans hr) hrt (by cases v <;> first | exact Or.inl rfl | exact Or.inr ⟨_, rfl⟩ | cases hv) (fun t ht _ => ab_end (o := .returned (some v)) hI ht rfl hp) hI.2.2.2.2.1.2.2 hd hX.2.2.2.2.2.2.1))
theorem ab_lcmp {x z : Int64} (hd : decode y.2.1 pc = .ok (.lcmp, 1)) (k : ab_V y R Po mc ms cells slots (pc + 1) lv (.int (lg_cmp x z) :: st) h) : ab_V y R Po mc ms cells slots pc lv (.long z :: .long x :: st) h := ab_lift (fun _ _ _ _ _ _ _ _ _ _ _ _ _ _ hx hb k => W.lcmp hx hb hd k) k
end ABundle2
