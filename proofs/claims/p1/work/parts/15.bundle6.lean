section ABundle6
variable {y z : ab_Y} {R R1 : Room} {Po Pz : Outcome → List ab_E → Prop} {mc ms cells slots pc : Nat} {lv : List (Option Value)} {st : List Value} {h : List ab_E}
theorem ab_nn {z : Int32} (hz : ¬ z < 0) : z.toInt = (z.toNatClampNeg : Int) := by
  have hz0 : (0 : Int) ≤ z.toInt := by
    have := Int32.not_lt.mp hz
    simpa using Int32.le_iff_toInt_le.mp this
  show z.toInt = ((z.toInt.toNat : Nat) : Int)
  omega
set_option maxHeartbeats 1000000 in
theorem ab_acopy {i a b n0 n1 : Nat} {f g : Nat → Int32} {sp dp n : Int32} (hd : decode y.2.1 pc = .ok (.invokestatic i, 3)) (hlk : Cond.methodLink y.1.cls i arraycopyName ∈ ab_T) (hnat : Cond.native arraycopyName ∈ ab_T) (hsta : Cond.static arraycopyName ∈ ab_T) (hini : Cond.initialized "java/lang/System" ∈ ab_T)
    (ha : h[a]? = some (.inl (.int, n0, .inl f))) (hb : h[b]? = some (.inl (.int, n1, .inl g))) (h1 : ¬ sp < 0) (h2 : ¬ dp < 0) (h3 : ¬ n < 0) (h4 : sp.toNatClampNeg + n.toNatClampNeg ≤ n0) (h5 : dp.toNatClampNeg + n.toNatClampNeg ≤ n1) (hfr : 1 ≤ R.frames) (hlo : (st.map fun v => v.category).sum + (nativeFrameWords "java/lang/System" "arraycopy" 5 + 11) ≤ R.locals)
    (k : ab_V y R Po mc ms cells slots (pc + 3) lv st (h.set b (.inl (.int, n1, .inl (va_cpy f g sp.toNatClampNeg dp.toNatClampNeg n.toNatClampNeg))))) : ab_V y R Po mc ms cells slots pc lv (.int n :: .int dp :: .ref b :: .int sp :: .ref a :: st) h := by
  intro p l e s m args below meth c G H locs ls hX hI hl
  have hts := hX.2.2.2.2.1
  have hcat : ((st.map (ab_v G)).map (fun v => v.category)).sum = (st.map (fun v => v.category)).sum := by
    rw [List.map_map]
    exact congrArg List.sum (List.map_congr_left (fun v _ => ab_cat G v))
  intro T hT X
  have hc0 : H[G.1 + a]? = some (vp_cell (G.2.2.1 .int) (n0, .inl f)) := hI.2.2.2.1 a _ (ab_w_get ha)
  have hc1 : H[G.1 + b]? = some (vp_cell (G.2.2.1 .int) (n1, .inl g)) := hI.2.2.2.1 b _ (ab_w_get hb)
  obtain ⟨-, k0, hk0, cm0, hkk0⟩ := (ab_arr hI.2.2.1 tI).1 n0 (fun j => .int (f j))
  obtain ⟨-, k1, hk1, cm1, hkk1⟩ := (ab_arr hI.2.2.1 tI).1 n1 (fun j => .int (g j))
  obtain ⟨vm', X', step⟩ := X.arraycopy hX.1 hX.2.2.2.1 (hts _ hlk) (hts _ hnat) (hts _ hsta) (hts _ hini) (src := G.1 + a) (dst := G.1 + b) (cs := vp_cell (G.2.2.1 .int) (n0, .inl f)) (cd := vp_cell (G.2.2.1 .int) (n1, .inl g)) (srcPos := sp) (destPos := dp) (n := n) (by rw [hT]; exact hc0) (by rw [hT]; exact hc1)
    (fun _ h => by cases h) (fun _ h => by cases h) (fun h => by cases h) (fun h => by cases h) hk0 hk1 hkk0 hkk1 (by simp [refKind]) h1 h2 h3
    (by rw [ab_nn h1, ab_nn h3]; show ¬ _ > ((arrV _ n0 (fun j => .int (f j))).slots.size : Int); rw [arrV_size]; omega)
    (by rw [ab_nn h2, ab_nn h3]; show ¬ _ > ((arrV _ n1 (fun j => .int (g j))).slots.size : Int); rw [arrV_size]; omega)
    (fun vm₁ _ i hi => by
      have e : (vp_cell (G.2.2.1 .int) (n0, .inl f)).slots.getD (sp.toNatClampNeg + i) .null = .int (f (sp.toNatClampNeg + i)) := by
        show (arrV _ n0 (fun j => .int (f j))).slots.getD _ _ = _
        rw [Array.getD_eq_getD_getElem?, arrV_read _ _ (by omega)]
        rfl
      refine ⟨?_, ?_⟩
      · rw [e]
        rfl
      · rw [e]
        exact trivial)
    (g := F0 m pc ls ((.int n :: .int dp :: .ref b :: .int sp :: .ref a :: st).map (ab_v G))) rfl (by rw [hX.2.2.1]; exact hl.1) (rest := st.map (ab_v G)) rfl (by rw [hX.2.1]; exact hd) hfr (by show 2 * 0 + _ + _ ≤ _; rw [hcat]; omega)
  have e1 : copied (vp_cell (G.2.2.1 .int) (n0, .inl f)) (vp_cell (G.2.2.1 .int) (n1, .inl g)) sp dp n = vp_cell (G.2.2.1 .int) (n1, .inl (va_cpy f g sp.toNatClampNeg dp.toNatClampNeg n.toNatClampNeg)) := va_copied (fun z => .int z) _ _ f g h4
  rw [e1] at X' step
  have hlt : G.1 + b < H.size := (Array.getElem?_eq_some_iff.mp hc1).1
  have hheap : ((T.setVm vm').setCell (G.1 + b) (vp_cell (G.2.2.1 .int) (n1, .inl (va_cpy f g sp.toNatClampNeg dp.toNatClampNeg n.toNatClampNeg)))).heap = H.setIfInBounds (G.1 + b) (vp_cell (G.2.2.1 .int) (n1, .inl (va_cpy f g sp.toNatClampNeg dp.toNatClampNeg n.toNatClampNeg))) := by rw [← hT]; rfl
  have oq : ∀ q : Nat, q ≠ G.1 + b → (H.setIfInBounds (G.1 + b) (vp_cell (G.2.2.1 .int) (n1, .inl (va_cpy f g sp.toNatClampNeg dp.toNatClampNeg n.toNatClampNeg))))[q]? = H[q]? := fun q hq => by simp [Array.getElem?_setIfInBounds, Ne.symm hq]
  obtain ⟨t, a1, b1⟩ := k p l e s m args below meth c G _ _ ls hX
    ⟨hI.1, by rw [List.length_set]; simp; exact hI.2.1, hI.2.2.1, by
        rw [ab_w_set]
        exact hI.2.2.2.1.set (ab_w_D G h) (ab_w_get hb) (show (H.setIfInBounds (G.1 + b) _)[G.1 + b]? = some _ by simp [Array.getElem?_setIfInBounds, hlt]; rfl) oq,
      ⟨by simp; exact hI.2.2.2.2.1.1, fun q g1 g2 => by
        rw [oq q (fun e => g2 (by rw [e]; exact Nat.le_add_right _ _))]
        exact hI.2.2.2.2.1.2.1 q g1 g2, fun q hq => by
        rcases List.mem_append.mp hq with h | h
        · exact hI.2.2.2.2.1.2.2 q h
        · obtain ⟨z, -, hz⟩ := List.mem_map.mp h
          rw [← hz]
          exact Nat.le_add_right _ _⟩, hI.2.2.2.2.2⟩ hl _ hheap X'
  exact ⟨t, step t a1, b1⟩
set_option maxHeartbeats 1000000 in
/-- a call of a String constant's method -/
theorem ab_callVK {i : Nat} {k0 : UInt32} {As rest : List Value} (hd : decode y.2.1 pc = .ok (.invokevirtual i, 3)) (hk : k0.toNat < 10) (hM : ab_M z R1 (.float k0 :: As) h Pz) (hC : ab_Call z R R1 cells slots As.length) (hlk : Cond.methodLink y.1.cls i z.1 ∈ ab_T) (hin : Cond.instanceMethod z.1 ∈ ab_T) (hse : Cond.selects "java/lang/String" z.1 z.1 ∈ ab_T) (hst : st = As.reverse ++ .float k0 :: rest) (hw : (rest.map fun v => v.category).sum ≤ 8)
    (kr : ∀ (v : Option Value) (h1 : List ab_E), Pz (.returned v) h1 → ab_V y R Po mc ms (cells + R1.cells) (slots + R1.slots) (pc + 3) lv (v.toList ++ rest) h1) (kt : ∀ (x : Nat) (h1 : List ab_E), Pz (.threw x) h1 → ab_U y R Po mc ms (cells + R1.cells) (slots + R1.slots) pc lv h1 x) : ab_V y R Po mc ms cells slots pc lv st h := by
  intro p l e s m args below meth c G H locs ls hX hI hl
  subst hst
  intro T hT X
  have hts := hX.2.2.2.2.1
  obtain ⟨cellB, hcB, hoB, hclB⟩ := vk_recv hI.2.2.2.2.2.1 hk hI.2.2.2.2.1
  obtain ⟨mk, methM, hnamed, hmethM, hstM, habM⟩ := Cond.instanceMethod_spec (hts _ hin)
  obtain ⟨methM', cM, hmethM', -, -, -, -, -, -, hsigM⟩ := ab_cw_spec hnamed (hts _ hC.1)
  cases hmethM.symm.trans hmethM'
  obtain ⟨c2, r2, m2, q1, q2, q3, q4, kP, hkP, hkPi⟩ := Cond.selects_spec (hts _ hse)
  cases hclB.symm.trans q1
  cases (State.methodFound?_of_named hnamed hC.2.2.1).symm.trans q2
  cases hnamed.symm.trans q3
  have hselP : selectMethod e.platform s.vm cellB.cls mk = .method mk := by rw [Launch.admits_selectMethod X.admits]; exact q4
  obtain ⟨vm₁, X₁, hstep₁⟩ := X.invokevirtual hX.1 hX.2.2.2.1 (hts _ hlk) hnamed hmethM hstM hkP hkPi hC.2.2.1 (a := G.2.1 k0.toNat) (cell := cellB) (by rw [hT]; exact hcB)
    (fun z h => by rw [h] at hoB; cases hoB) hselP hmethM habM hkP hkPi (g := F0 m pc ls ((As.reverse ++ .float k0 :: rest).map (ab_v G))) rfl (argsL := As.map (ab_v G)) (rest := rest.map (ab_v G)) (by rw [List.length_map]; exact ab_psz hC.2.2.2.1 _ hsigM) (by simp [ab_v]) (by rw [hX.2.1]; exact hd)
  exact ab_tail (av := .float k0 :: As) hX hI hl hM hC hd hw hT X₁ hnamed hstep₁ kr kt
theorem ab_callVK_a {i : Nat} {k0 : UInt32} {As rest : List Value} {v : Value} {Q : List ab_E → Prop} (hd : decode y.2.1 pc = .ok (.invokevirtual i, 3)) (hk : k0.toNat < 10) (hM : ab_M z R1 (.float k0 :: As) h (ab_A (some v) Q)) (hC : ab_Call z R R1 cells slots As.length) (hlk : Cond.methodLink y.1.cls i z.1 ∈ ab_T) (hin : Cond.instanceMethod z.1 ∈ ab_T) (hse : Cond.selects "java/lang/String" z.1 z.1 ∈ ab_T) (hst : st = As.reverse ++ .float k0 :: rest) (hw : (rest.map fun v => v.category).sum ≤ 8)
    (k : ∀ h1 : List ab_E, Q h1 → ab_V y R Po mc ms (cells + R1.cells) (slots + R1.slots) (pc + 3) lv (v :: rest) h1) : ab_V y R Po mc ms cells slots pc lv st h :=
  ab_callVK hd hk hM hC hlk hin hse hst hw (fun v1 h1 q => by obtain ⟨e, q⟩ := q; cases e; exact k h1 q) (fun x h1 q => by cases q.1)
end ABundle6
