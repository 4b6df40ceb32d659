section ABundle5
variable {y z : ab_Y} {R R1 : Room} {Po Pz : Outcome → List ab_E → Prop} {mc ms cells slots pc n : Nat} {lv : List (Option Value)} {st : List Value} {h : List ab_E}
theorem ab_app {c : ab_E} (hn : h.length = n) : (h ++ [c]).length = n + 1 ∧ (h ++ [c])[n]? = some c ∧ ∀ i : Nat, i < n → (h ++ [c])[i]? = h[i]? := by
  subst hn
  refine ⟨by simp, by simp, fun i hi => List.getElem?_append_left hi⟩
theorem ab_newL {i ci : Nat} {r : vw_C} {fs : List Value} (hn : h.length = n) (hd : decode y.2.1 pc = .ok (.new i, 3)) (hc : ab_cl[ci]? = some r) (hcl : Cond.classLink y.1.cls i r.1 ∈ ab_T) (hinst : Cond.instantiable r.1 r.2.2 ∈ ab_T) (hini : Cond.initialized r.1 ∈ ab_T)
    (hfs : (List.range r.2.2).map (fun j => defaultValue (ab_tyof r j)) = fs) (hpl : fs.all ab_plain = true) (hcells : cells + 1 ≤ R.cells) (hslots : slots + r.2.2 ≤ R.slots) (k : ∀ h1 : List ab_E, h1.length = n + 1 → h1[n]? = some (.inr (ci, fs)) → (∀ i : Nat, i < n → h1[i]? = h[i]?) → ab_V y R Po mc ms (cells + 1) (slots + r.2.2) (pc + 3) lv (.ref n :: st) h1) : ab_V y R Po mc ms cells slots pc lv st h := by
  refine ab_new hd hc hcl hinst hini hfs hpl hcells hslots ?_
  obtain ⟨h1, h2, h3⟩ := ab_app (c := .inr (ci, fs)) hn
  rw [hn]
  exact k _ h1 h2 h3
theorem ab_newaL {aty : ArrayType} {ty : FieldType} {x : Int32} {N : Nat} (hn : h.length = n) (hd : decode y.2.1 pc = .ok (.newarray aty, 2)) (hty : newarray.typeOf aty = ty) (hw : Cond.arrayClass ty ∈ ab_T) (ht : ty ∈ ab_tyl) (hk : ty = .int ∨ ty = .byte ∨ ty = .boolean ∨ ty = .char ∨ ty = .long) (hx : ¬ x < 0) (hN : x.toNatClampNeg = N) (hby : N * componentBytes ty ≤ 536870912) (hcells : cells + 1 ≤ R.cells) (hslots : slots + N ≤ R.slots)
    (k : ∀ h1 : List ab_E, h1.length = n + 1 → h1[n]? = some (.inl (ty, N, ab_zero ty)) → (∀ i : Nat, i < n → h1[i]? = h[i]?) → ab_V y R Po mc ms (cells + 1) (slots + N) (pc + 2) lv (.ref n :: st) h1) : ab_V y R Po mc ms cells slots pc lv (.int x :: st) h := by
  refine ab_newa hd hty hw ht hk hx hN hby hcells hslots ?_
  obtain ⟨h1, h2, h3⟩ := ab_app (c := .inl (ty, N, ab_zero ty)) hn
  rw [hn]
  exact k _ h1 h2 h3
theorem ab_anewL {i : Nat} {C : String} {x : Int32} {N : Nat} (hn : h.length = n) (hd : decode y.2.1 pc = .ok (.anewarray i, 3)) (hw : Cond.classLink y.1.cls i C ∈ ab_T) (ho : Cond.arrayOver (.object C) ∈ ab_T) (ht : FieldType.object C ∈ ab_tyl) (hx : ¬ x < 0) (hN : x.toNatClampNeg = N) (hby : N * 4 ≤ 536870912) (hcells : cells + 1 ≤ R.cells) (hslots : slots + N ≤ R.slots)
    (k : ∀ h1 : List ab_E, h1.length = n + 1 → h1[n]? = some (.inl (.object C, N, .inr (.inr (.inr (.inr (fun _ => none)))))) → (∀ i : Nat, i < n → h1[i]? = h[i]?) → ab_V y R Po mc ms (cells + 1) (slots + N) (pc + 3) lv (.ref n :: st) h1) : ab_V y R Po mc ms cells slots pc lv (.int x :: st) h := by
  refine ab_anew hd hw ho ht hx hN hby hcells hslots ?_
  obtain ⟨h1, h2, h3⟩ := ab_app (c := .inl (.object C, N, .inr (.inr (.inr (.inr (fun _ => none)))))) hn
  rw [hn]
  exact k _ h1 h2 h3
/-- a String constant comes -/
theorem ab_ldcS {i : Nat} {q : String × Nat × String × Nat} {k0 : UInt32} (hd : decode y.2.1 pc = .ok (.ldc i, 2)) (hq : q ∈ ab_cs) (h1 : q.1 = y.1.cls) (h2 : q.2.1 = i) (h3 : q.2.2.2 = k0.toNat) (k : ab_V y R Po mc ms cells slots (pc + 2) lv (.float k0 :: st) h) : ab_V y R Po mc ms cells slots pc lv st h := by
  intro p l e s m args below meth c G H locs ls hX hI hl
  have hr := hI.2.2.2.2.2.2.1 q hq
  rw [h1, h2, h3] at hr
  exact va_ldcS hX.1 hX.2.1 hX.2.2.2.1 hr hd (k p l e s m args below meth c G H locs ls hX hI hl)
theorem ab_ldcwS {i : Nat} {q : String × Nat × String × Nat} {k0 : UInt32} (hd : decode y.2.1 pc = .ok (.ldc i, 2)) (hq : q ∈ ab_cs) (h1 : q.1 = y.1.cls) (h2 : q.2.1 = i) (h3 : q.2.2.2 = k0.toNat) (k : ab_V y R Po mc ms cells slots (pc + 2) lv (.float k0 :: st) h) : ab_V y R Po mc ms cells slots pc lv st h := ab_ldcS hd hq h1 h2 h3 k
/-- fields of a String constant: its bytes are the array .float (100 + k0) -/
theorem ab_getKv {i : Nat} {k0 k1 : UInt32} (hd : decode y.2.1 pc = .ok (.getfield i, 3)) (hk : k0.toNat < 10) (hk1 : k1.toNat = 100 + k0.toNat) (hw : Cond.fieldLink y.1.cls i "java/lang/String" "value" "[B" ∈ ab_T) (k : ab_V y R Po mc ms cells slots (pc + 3) lv (.float k1 :: st) h) : ab_V y R Po mc ms cells slots pc lv (.float k0 :: st) h := by
  intro p l e s m args below meth c G H locs ls hX hI hl
  obtain ⟨-, -, f2, -⟩ := hI.2.2.2.2.2.1.1 k0.toNat hk
  have k1' := k p l e s m args below meth c G H locs ls hX hI hl
  have e1 : ab_v G (.float k1) = .ref (G.2.1 (100 + k0.toNat)) := by rw [← hk1]; rfl
  rw [List.map_cons, e1] at k1'
  exact vk_getf hX.1 hX.2.1 f2 hI.2.2.2.2.1 hX.2.2.2.1 (hX.2.2.2.2.1 _ hw) (fun _ h => h) hd k1'
theorem ab_getKc {i : Nat} {k0 : UInt32} (hd : decode y.2.1 pc = .ok (.getfield i, 3)) (hk : k0.toNat < 10) (hw : Cond.fieldLink y.1.cls i "java/lang/String" "coder" "B" ∈ ab_T) (k : ab_V y R Po mc ms cells slots (pc + 3) lv (.int 0 :: st) h) : ab_V y R Po mc ms cells slots pc lv (.float k0 :: st) h := by
  intro p l e s m args below meth c G H locs ls hX hI hl
  obtain ⟨-, f1, -, -⟩ := hI.2.2.2.2.2.1.1 k0.toNat hk
  exact vk_getf hX.1 hX.2.1 f1 hI.2.2.2.2.1 hX.2.2.2.1 (hX.2.2.2.2.1 _ hw) (fun _ h => h) hd (k p l e s m args below meth c G H locs ls hX hI hl)
theorem ab_baldK {k0 k1 : UInt32} {i v : Int32} (hd : decode y.2.1 pc = .ok (.baload, 1)) (hk : k0.toNat < 10) (hk1 : k1.toNat = 100 + k0.toNat) (hin : vp_in i (ab_len.getD k0.toNat 0)) (hv : (ab_byt.getD k0.toNat []).getD i.toNatClampNeg 0 = v) (k : ab_V y R Po mc ms cells slots (pc + 1) lv (.int v :: st) h) : ab_V y R Po mc ms cells slots pc lv (.int i :: .float k1 :: st) h := by
  intro p l e s m args below meth c G H locs ls hX hI hl
  obtain ⟨-, -, -, f3⟩ := hI.2.2.2.2.2.1.1 k0.toNat hk
  have e1 : ab_v G (.float k1) = .ref (G.2.1 (100 + k0.toNat)) := by rw [← hk1]; rfl
  rw [List.map_cons, List.map_cons, e1]
  exact va_tb hX.1 hX.2.1 f3 hI.2.2.2.2.1 hin (by rw [hv]; rfl) hd (k p l e s m args below meth c G H locs ls hX hI hl)
theorem ab_alenK {k0 k1 : UInt32} {v : Int32} (hd : decode y.2.1 pc = .ok (.arraylength, 1)) (hk : k0.toNat < 10) (hk1 : k1.toNat = 100 + k0.toNat) (hv : Int32.ofNat (ab_len.getD k0.toNat 0) = v) (k : ab_V y R Po mc ms cells slots (pc + 1) lv (.int v :: st) h) : ab_V y R Po mc ms cells slots pc lv (.float k1 :: st) h := by
  intro p l e s m args below meth c G H locs ls hX hI hl
  obtain ⟨-, -, -, f3⟩ := hI.2.2.2.2.2.1.1 k0.toNat hk
  have e1 : ab_v G (.float k1) = .ref (G.2.1 (100 + k0.toNat)) := by rw [← hk1]; rfl
  rw [List.map_cons, e1]
  exact va_tlen hX.1 hX.2.1 f3 hI.2.2.2.2.1 hv hd (k p l e s m args below meth c G H locs ls hX hI hl)
/-- String.COMPACT_STRINGS -/
theorem ab_getsC {i : Nat} (hd : decode y.2.1 pc = .ok (.getstatic i, 3)) (hw : Cond.fieldLink y.1.cls i "java/lang/String" "COMPACT_STRINGS" "Z" ∈ ab_T) (k : ab_V y R Po mc ms cells slots (pc + 3) lv (.int 1 :: st) h) : ab_V y R Po mc ms cells slots pc lv st h := by
  intro p l e s m args below meth c G H locs ls hX hI hl
  exact va_gets hX.1 hX.2.1 hI.2.2.2.2.2.2.2.1 hI.2.2.2.2.1 hX.2.2.2.1 (hX.2.2.2.2.1 _ hw) (fun _ h => h) hd (k p l e s m args below meth c G H locs ls hX hI hl)
/-- Preconditions.SIOOBE_FORMATTER: null, or the object .float 200 -/
theorem ab_getsF {i : Nat} (hd : decode y.2.1 pc = .ok (.getstatic i, 3)) (hw : Cond.fieldLink y.1.cls i "jdk/internal/util/Preconditions" "SIOOBE_FORMATTER" "Ljava/util/function/BiFunction;" ∈ ab_T) (k : ∀ v : Value, ab_ir v = true → ab_V y R Po mc ms cells slots (pc + 3) lv (v :: st) h) : ab_V y R Po mc ms cells slots pc lv st h := by
  intro p l e s m args below meth c G H locs ls hX hI hl
  rcases hI.2.2.2.2.2.2.2.2.1 with q | q
  · exact va_gets hX.1 hX.2.1 q hI.2.2.2.2.1 hX.2.2.2.1 (hX.2.2.2.2.1 _ hw) (fun _ h => h) hd (k .null rfl p l e s m args below meth c G H locs ls hX hI hl)
  · exact va_gets hX.1 hX.2.1 q hI.2.2.2.2.1 hX.2.2.2.1 (hX.2.2.2.2.1 _ hw) (fun _ h => h) hd (k (.float 200) rfl p l e s m args below meth c G H locs ls hX hI hl)
theorem ab_fr_new {S : Nat → Prop} {h h1 h2 : List ab_E} {n : Nat} (hf : ab_fr S h h1) (h3 : ∀ i : Nat, i < n → h2[i]? = h1[i]?) (h4 : h2.length = n + 1) (hn : h1.length = n := by assumption) : ab_fr S h h2 :=
  ⟨by have := hf.1; omega, fun i hi hs => (h3 i (by have := hf.1; omega)).trans (hf.2 i hi hs)⟩
end ABundle5
