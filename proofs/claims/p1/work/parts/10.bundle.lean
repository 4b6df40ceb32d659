/-! ===== the bundle: a method's walk over an ABSTRACT heap: cells by number, the address of cell i is base + i ===== -/
/-- an abstract cell: an array (kind of its elements, contents), or an object (number of its class, its fields) -/
abbrev ab_E : Type := (FieldType × vp_A) ⊕ (Nat × List Value)
/-- base, addresses of the constants, classes of the arrays, the tables' numbers -/
abbrev ab_G : Type := Nat × (Nat → Nat) × (FieldType → ClassId) × va_G
/-- a method: name, code, locals, kind of its answer, handlers -/
abbrev ab_Y : Type := MethodName × ByteArray × Nat × Option FieldType × List (Nat × Nat × Nat × Nat)
def ab_cw (y : ab_Y) : Cond := match y.2.2.2.2 with
  | [] => .code y.1 y.2.1 y.2.2.1 y.2.2.2.1
  | q :: hs => .codeWith y.1 y.2.1 y.2.2.1 y.2.2.2.1 (q :: hs)
theorem ab_cw_named {y : ab_Y} {args : Array Value} {s : State} (h : (ab_cw y).before args s = true) : ∃ m, s.methodNamed? y.1 = some m := by
  obtain ⟨nm, b, n, r, hs⟩ := y
  cases hs with
  | nil => exact Cond.code_named h
  | cons q hs =>
    obtain ⟨m, -, -, h1, -⟩ := Cond.codeWith_spec h
    exact ⟨m, h1⟩
theorem ab_cw_spec {y : ab_Y} {args : Array Value} {s : State} {m : MethodId} (hn : s.methodNamed? y.1 = some m) (h : (ab_cw y).before args s = true) :
    ∃ meth c, s.vm.method? m = some meth ∧ meth.code = some c ∧ c.code = y.2.1 ∧ c.maxLocals = y.2.2.1 ∧ meth.sig.returnType = y.2.2.2.1 ∧ meth.locks = false ∧ c.exceptionTable.toList.map (fun h => (h.startPc, h.endPc, h.handlerPc, h.catchType)) = y.2.2.2.2 ∧ parseMethodDescriptor y.1.desc = some meth.sig := by
  obtain ⟨nm, b, n, r, hs⟩ := y
  cases hs with
  | nil =>
    obtain ⟨meth, c, h1, h2, h3, h4, h5, h6, h7, h8⟩ := Cond.code_spec hn h
    refine ⟨meth, c, h1, h2, h3, h4, h5, h6, ?_, h8⟩
    rw [Array.isEmpty_iff] at h7
    rw [h7]
    rfl
  | cons q hs =>
    obtain ⟨m', meth, c, h0, h1, h2, h3, h4, h5, h6, h7, h8⟩ := Cond.codeWith_spec h
    cases hn.symm.trans h0
    exact ⟨meth, c, h1, h2, h3, h4, h6, h7, h5, h8⟩
/-- an abstract value: .ref i is cell i, .float k is the k-th constant object -/
def ab_v (G : ab_G) : Value → Value
  | .ref a => .ref (G.1 + a)
  | .float k => .ref (G.2.1 k.toNat)
  | v => v
def ab_a (G : ab_G) (x : vp_A) : vp_A := (x.1, match x.2 with
  | .inr (.inr (.inr (.inr f))) => .inr (.inr (.inr (.inr (fun j => (f j).map (fun i => G.1 + i)))))
  | z => z)
def ab_e (G : ab_G) : ab_E → va_E
  | .inl (ty, x) => .inl (G.2.2.1 ty, ab_a G x)
  | .inr (ci, fs) => .inr (ci, fs.map (ab_v G))
def ab_w (G : ab_G) (h : List ab_E) : va_W := h.mapIdx (fun i c => (G.1 + i, ab_e G c))
def ab_ty (G : ab_G) : List (ClassId × FieldType) := ab_tyl.map (fun t => (G.2.2.1 t, t))
def ab_l (G : ab_G) (lv : List (Option Value)) : List (Nat × Value) := (List.range lv.length).filterMap (fun i => (lv.getD i none).map (fun v => (i, ab_v G v)))
def ab_o (G : ab_G) : Outcome → Outcome
  | .returned v => .returned (v.map (ab_v G))
  | .threw a => .threw (G.1 + a)
theorem ab_cat (G : ab_G) (v : Value) : (ab_v G v).category = v.category := by cases v <;> rfl
theorem ab_w_len (G : ab_G) (h : List ab_E) : (ab_w G h).length = h.length := by simp [ab_w]
theorem ab_w_get {G : ab_G} {h : List ab_E} {i : Nat} {c : ab_E} (hi : h[i]? = some c) : (ab_w G h)[i]? = some (G.1 + i, ab_e G c) := by simp [ab_w, List.getElem?_mapIdx, hi]
theorem ab_w_set (G : ab_G) (h : List ab_E) (i : Nat) (c : ab_E) : ab_w G (h.set i c) = (ab_w G h).set i (G.1 + i, ab_e G c) := by
  apply List.ext_getElem?
  intro j
  simp only [ab_w, List.getElem?_mapIdx, List.getElem?_set, List.length_mapIdx]
  by_cases hij : i = j
  · subst hij
    by_cases hl : i < h.length <;> simp [hl]
  · simp [hij]
theorem ab_w_push (G : ab_G) (h : List ab_E) (c : ab_E) : ab_w G (h ++ [c]) = ab_w G h ++ [(G.1 + h.length, ab_e G c)] := by simp [ab_w, List.mapIdx_append]
theorem ab_w_D (G : ab_G) (h : List ab_E) : va_D (fun q => G.1 ≤ q) (ab_w G h) := by
  have key : ∀ (i : Nat) (q : Nat × va_E), (ab_w G h)[i]? = some q → q.1 = G.1 + i := by
    intro i q hq
    simp only [ab_w, List.getElem?_mapIdx] at hq
    cases hc : h[i]? with
    | none => simp [hc] at hq
    | some c => simp [hc] at hq; rw [← hq]
  refine ⟨fun i j a b hi hj hab => ?_, fun k q hk => ?_⟩
  · have h1 := key i a hi
    have h2 := key j b hj
    omega
  · have h1 := key k q hk
    show G.1 ≤ q.1
    omega
theorem ab_l_mem {G : ab_G} {lv : List (Option Value)} {q : Nat × Value} : q ∈ ab_l G lv ↔ ∃ v, lv[q.1]? = some (some v) ∧ q.2 = ab_v G v := by
  obtain ⟨i, u⟩ := q
  simp only [ab_l, List.mem_filterMap, List.mem_range]
  constructor
  · rintro ⟨j, hj, he⟩
    cases hv : lv.getD j none with
    | none => rw [hv] at he; cases he
    | some v =>
      simp only [hv, Option.map_some, Option.some.injEq, Prod.mk.injEq] at he
      obtain ⟨rfl, rfl⟩ := he
      refine ⟨v, ?_, rfl⟩
      rw [List.getD_eq_getElem?_getD] at hv
      rw [List.getElem?_eq_getElem hj] at hv ⊢
      simpa using hv
  · rintro ⟨v, hv, rfl⟩
    have hj : i < lv.length := (List.getElem?_eq_some_iff.mp hv).1
    refine ⟨i, hj, ?_⟩
    rw [List.getD_eq_getElem?_getD, hv]
    rfl
theorem ab_l_at {G : ab_G} {ls : Array Slot} {nL : Nat} {lv : List (Option Value)} (hl : lv_has ls nL (ab_l G lv)) {i : Nat} {v : Value} (hi : lv[i]? = some (some v)) : ls[i]? = some (.val (ab_v G v)) :=
  hl.2.2 (i, ab_v G v) (ab_l_mem.mpr ⟨v, hi, rfl⟩)
theorem ab_l_mono {ls : Array Slot} {nL : Nat} {l l' : List (Nat × Value)} (hl : lv_has ls nL l) (hs : ∀ q ∈ l', q ∈ l) : lv_has ls nL l' := ⟨hl.1, hl.2.1, fun q hq => hl.2.2 q (hs q hq)⟩
/-- locals behind a store of one slot, of two -/
def ab_c1 (i : Nat) (lv : List (Option Value)) : List (Option Value) := match i with
  | 0 => lv
  | j + 1 => match lv[j]? with
    | some (some u) => if u.category = 2 then lv.set j none else lv
    | _ => lv
def ab_s1 (i : Nat) (v : Value) (lv : List (Option Value)) : List (Option Value) := (ab_c1 i lv).set i (some v)
def ab_s2 (i : Nat) (v : Value) (lv : List (Option Value)) : List (Option Value) := ((ab_c1 i lv).set (i + 1) none).set i (some v)
theorem ab_c1_ok {i : Nat} {lv : List (Option Value)} {j : Nat} {u : Value} (h : (ab_c1 i lv)[j]? = some (some u)) : lv[j]? = some (some u) ∧ ¬ (j + 1 = i ∧ u.category = 2) := by
  unfold ab_c1 at h
  cases i with
  | zero => exact ⟨h, fun q => by omega⟩
  | succ k =>
    dsimp only at h
    cases hk : lv[k]? with
    | none =>
      rw [hk] at h
      refine ⟨h, fun q => ?_⟩
      have : j = k := by omega
      subst this
      have h' : lv[j]? = some (some u) := h
      rw [hk] at h'
      cases h'
    | some z =>
      rw [hk] at h
      cases z with
      | none =>
        refine ⟨h, fun q => ?_⟩
        have : j = k := by omega
        subst this
        have h' : lv[j]? = some (some u) := h
        rw [hk] at h'
        cases h'
      | some w =>
        dsimp only at h
        by_cases hc : w.category = 2
        · rw [if_pos hc, List.getElem?_set] at h
          by_cases hjk : k = j
          · rw [if_pos hjk] at h
            split at h <;> cases h
          · rw [if_neg hjk] at h
            exact ⟨h, fun q => hjk (by omega)⟩
        · rw [if_neg hc] at h
          refine ⟨h, fun q => ?_⟩
          have : j = k := by omega
          subst this
          rw [hk] at h
          cases h
          exact hc q.2
theorem ab_s1_ok {G : ab_G} {i : Nat} {v : Value} {lv : List (Option Value)} {q : Nat × Value} (h : q ∈ ab_l G (ab_s1 i v lv)) : q ∈ (i, ab_v G v) :: (ab_l G lv).filter (fun q => !(q.1 == i) && !(q.1 + 1 == i && q.2.category == 2)) := by
  obtain ⟨u, h1, h2⟩ := ab_l_mem.mp h
  obtain ⟨j, z⟩ := q
  dsimp only at h1 h2
  subst h2
  unfold ab_s1 at h1
  rw [List.getElem?_set] at h1
  by_cases hij : i = j
  · rw [if_pos hij] at h1
    split at h1
    · cases h1; subst hij; exact List.mem_cons_self
    · cases h1
  · rw [if_neg hij] at h1
    obtain ⟨h3, h4⟩ := ab_c1_ok h1
    refine List.mem_cons_of_mem _ (List.mem_filter.mpr ⟨ab_l_mem.mpr ⟨u, h3, rfl⟩, ?_⟩)
    simp only [Bool.and_eq_true, Bool.not_eq_true', beq_eq_false_iff_ne, ne_eq, Bool.and_eq_false_iff, ab_cat]
    refine ⟨fun q => hij q.symm, ?_⟩
    by_cases hj : j + 1 = i
    · exact Or.inr (fun q => h4 ⟨hj, q⟩)
    · exact Or.inl hj
theorem ab_s2_ok {G : ab_G} {i : Nat} {v : Value} {lv : List (Option Value)} {q : Nat × Value} (h : q ∈ ab_l G (ab_s2 i v lv)) : q ∈ (i, ab_v G v) :: (ab_l G lv).filter (fun q => !(q.1 == i) && (!(q.1 == i + 1) && !(q.1 + 1 == i && q.2.category == 2))) := by
  obtain ⟨u, h1, h2⟩ := ab_l_mem.mp h
  obtain ⟨j, z⟩ := q
  dsimp only at h1 h2
  subst h2
  unfold ab_s2 at h1
  rw [List.getElem?_set] at h1
  by_cases hij : i = j
  · rw [if_pos hij] at h1
    split at h1
    · cases h1; subst hij; exact List.mem_cons_self
    · cases h1
  · rw [if_neg hij, List.getElem?_set] at h1
    by_cases hij2 : i + 1 = j
    · rw [if_pos hij2] at h1
      split at h1 <;> cases h1
    · rw [if_neg hij2] at h1
      obtain ⟨h3, h4⟩ := ab_c1_ok h1
      refine List.mem_cons_of_mem _ (List.mem_filter.mpr ⟨ab_l_mem.mpr ⟨u, h3, rfl⟩, ?_⟩)
      simp only [Bool.and_eq_true, Bool.not_eq_true', beq_eq_false_iff_ne, ne_eq, Bool.and_eq_false_iff, ab_cat]
      refine ⟨fun q => hij q.symm, fun q => hij2 q.symm, ?_⟩
      by_cases hj : j + 1 = i
      · exact Or.inr (fun q => h4 ⟨hj, q⟩)
      · exact Or.inl hj
/-- a method's frame stands: the machine, its code, the tables' words -/
def ab_X (y : ab_Y) (p : Program) (l : Launch) (s : State) (m : MethodId) (args : Array Value) (meth : Method) (c : Code) : Prop :=
  p.tables.exec = Jvm.exec ∧ c.code = y.2.1 ∧ c.maxLocals = y.2.2.1 ∧ s.vm.findClass y.1.cls = some m.cls ∧ (∀ w ∈ ab_T, w.before args s = true) ∧ meth.sig.returnType = y.2.2.2.1 ∧ meth.locks = false ∧ meth.name = y.1.name ∧ c.exceptionTable.toList.map (fun h => (h.startPc, h.endPc, h.handlerPc, h.catchType)) = y.2.2.2.2 ∧ l.stackTraces = false
/-- the heap holds the abstract one; below the base nothing has changed -/
def ab_In (G : ab_G) (s : State) (h : List ab_E) (H : Heap) (locs : List Loc) : Prop :=
  G.1 ≤ s.heap.size ∧ H.size = G.1 + h.length ∧ va_K G.2.2.2 ab_cl (ab_ty G) s ∧ va_P G.2.2.2 ab_cl (ab_w G h) H ∧ va_S (fun q => G.1 ≤ q) s.heap H locs ∧ ab_Cs G s
def ab_Q (G : ab_G) (Po : Outcome → List ab_E → Prop) : Array Value → State → Outcome → State → Prop := fun _ st oc t =>
  ∃ (o : Outcome) (h : List ab_E), oc = ab_o G o ∧ Po o h ∧ t.heap.size = G.1 + h.length ∧ va_P G.2.2.2 ab_cl (ab_w G h) t.heap ∧ st.heap.size ≤ t.heap.size ∧ ∀ q : Nat, q < G.1 → t.heap[q]? = st.heap[q]?
/-- the method has ended as Po says -/
def ab_Z (below : List Frame) (G : ab_G) (Po : Outcome → List ab_E → Prop) (args : Array Value) (s : State) (mc ms : Nat) : State → Prop := fun t =>
  ∃ o, t.status = .running ∧ Ended t below o ∧ ab_Q G Po args s o t ∧ s.WarmedH t.vm ∧ ∃ L, s.sameButNew ({ t with vm := s.vm } : State) L mc ms ∧ ∀ q ∈ L, G.1 ≤ q.base
/-- THE JUDGEMENT: from here, with these locals, this stack, this heap, so many cells and slots made, the method ends as Po says, with at most mc cells and ms slots made -/
def ab_V (y : ab_Y) (R : Room) (Po : Outcome → List ab_E → Prop) (mc ms cells slots pc : Nat) (lv : List (Option Value)) (st : List Value) (h : List ab_E) : Prop :=
  ∀ (p : Program) (l : Launch) (e : Env) (s : State) (m : MethodId) (args : Array Value) (below : List Frame) (meth : Method) (c : Code) (G : ab_G) (H : Heap) (locs : List Loc) (ls : Array Slot),
    ab_X y p l s m args meth c → ab_In G s h H locs → lv_has ls y.2.2.1 (ab_l G lv) →
    W p l e R s m args below meth c H locs cells slots (ab_Z below G Po args s mc ms) (F0 m pc ls (st.map (ab_v G)))
/-- what a method finds -/
def ab_B (G : ab_G) (h : List ab_E) (U : State) : Prop := U.heap.size = G.1 + h.length ∧ va_K G.2.2.2 ab_cl (ab_ty G) U ∧ va_P G.2.2.2 ab_cl (ab_w G h) U.heap ∧ ab_Cs G U
/-- A CONTRACT: from these arguments and this heap the method ends as Po says, within the room R -/
def ab_M (y : ab_Y) (R : Room) (av : List Value) (h : List ab_E) (Po : Outcome → List ab_E → Prop) : Prop :=
  ∀ (l : Launch) (G : ab_G), l.stackTraces = false → MetFree l y.1 (headSpec (ab_cw y :: ab_T) R) (va_Pc (av.map (ab_v G)) (ab_B G h)) (fun _ _ _ _ _ => True)
    (fun a st o t => ab_Q G Po a st o t ∧ st.WarmedH t.vm ∧ ∃ L, st.sameButNew ({ t with vm := st.vm } : State) L R.cells R.slots ∧ ∀ q ∈ L, G.1 ≤ q.base)
/-- locals at a method's entry -/
def ab_in : List Value → List (Option Value)
  | [] => []
  | v :: vs => if v.category = 2 then some v :: none :: ab_in vs else some v :: ab_in vs
section ABundle
variable {y : ab_Y} {R : Room} {Po : Outcome → List ab_E → Prop} {mc ms cells slots pc : Nat} {lv : List (Option Value)} {st : List Value} {h : List ab_E}
theorem ab_in_ok (G : ab_G) : ∀ (vs : List Value) (n : Nat) (k : Nat) (u : Value), (ab_in vs)[k]? = some (some u) → (n + k, ab_v G u) ∈ lv_args n (vs.map (ab_v G)) := by
  intro vs
  induction vs with
  | nil => intro n k u h; simp [ab_in] at h
  | cons v vs ih =>
    intro n k u h
    rw [List.map_cons, lv_args, ab_cat]
    unfold ab_in at h
    by_cases hc : v.category = 2
    · rw [if_pos hc] at h ⊢
      match k, h with
      | 0, h => simp at h; subst h; exact List.mem_cons_self
      | 1, h => simp at h
      | k + 2, h =>
        have h2 : (ab_in vs)[k]? = some (some u) := by simpa using h
        have := ih (n + 2) k u h2
        rw [show n + (k + 2) = n + 2 + k by omega]
        exact List.mem_cons_of_mem _ this
    · rw [if_neg hc] at h ⊢
      match k, h with
      | 0, h => simp at h; subst h; exact List.mem_cons_self
      | k + 1, h =>
        have h2 : (ab_in vs)[k]? = some (some u) := by simpa using h
        have := ih (n + 1) k u h2
        rw [show n + (k + 1) = n + 1 + k by omega]
        exact List.mem_cons_of_mem _ this
theorem ab_sl_len (G : ab_G) : ∀ vs : List Value, (lg_sl (vs.map (ab_v G))).length = (ab_in vs).length := by
  intro vs
  induction vs with
  | nil => rfl
  | cons v vs ih =>
    cases v <;> simp [lg_sl, ab_in, ab_v, Value.category] at ih ⊢ <;> exact ih
set_option maxHeartbeats 1000000 in
theorem ab_of {av : List Value} (hy : plainFor y.1 = true) (hn : (ab_in av).length ≤ y.2.2.1) (k : ab_V y R Po R.cells R.slots 0 0 0 (ab_in av) [] h) : ab_M y R av h Po := by
  intro l G hfl
  refine MetFree.of_bodySF (code := y.2.1) (maxLocals := y.2.2.1) (ret := y.2.2.2.1) hy ?_ ?_
  · intro args s m hp hm
    obtain ⟨meth, c, h1, h2, h3, h4, h5, h6, -, -⟩ := ab_cw_spec hm (atoms_spec (ws := ab_cw y :: ab_T) hp _ List.mem_cons_self)
    exact ⟨meth, c, h1, h2, h3, h4, h5, h6⟩
  · intro p e s m args below meth c s₁ B hml hv _
    obtain ⟨rfl, hsz, hK, hP, hC⟩ := hv
    have hts := atoms_spec (ws := ab_cw y :: ab_T) B.pre
    have X₀ := Stand.of_body B
    have hh0 : s₁.heap = s.heap := by rw [B.state]; rfl
    obtain ⟨meth', c', h1, h2, -, -, -, -, h7, -⟩ := ab_cw_spec B.named (hts _ List.mem_cons_self)
    cases B.method.symm.trans h1
    cases X₀.code.symm.trans h2
    have hl := lv_entry (av.map (ab_v G)) (n := y.2.2.1) (by rw [ab_sl_len]; exact hn)
    rw [lg_entry_eq]
    generalize (lg_sl (av.map (ab_v G)) ++ List.replicate (y.2.2.1 - (lg_sl (av.map (ab_v G))).length) Slot.unset).toArray = ls at hl ⊢
    have hl2 : lv_has ls y.2.2.1 (ab_l G (ab_in av)) := ab_l_mono hl (fun q hq => by
      obtain ⟨u, h1, h2⟩ := ab_l_mem.mp hq
      have := ab_in_ok G av 0 q.1 u h1
      rw [Nat.zero_add, ← h2] at this
      exact this)
    obtain ⟨t, a1, o, b1, b2, b3, b4, b5⟩ := k p l e s m _ below meth c G s.heap [] ls ⟨B.exec, B.bytes, hml, findClass_of_methodNamed B.named, fun w hw => hts w (List.mem_cons_of_mem _ hw), B.returns, B.notSynchronized, (name_of_methodNamed B.named B.method).1, h7, hfl⟩
      ⟨by omega, hsz, hK, hP, va_S.rf, hC⟩ hl2 s₁ hh0 X₀
    exact ⟨t, o, a1, b1, b2, b3, b4, b5⟩
/-- the kit's ends are ours -/
theorem ab_ofMQ {p : Program} {l : Launch} {e : Env} {s : State} {m : MethodId} {args : Array Value} {below : List Frame} {meth : Method} {c : Code} {G : ab_G} {H : Heap} {locs : List Loc} {g : JFrame}
    (k : W p l e R s m args below meth c H locs cells slots (MQ below (ab_Q G Po) args s mc ms (fun q => G.1 ≤ q)) g) : W p l e R s m args below meth c H locs cells slots (ab_Z below G Po args s mc ms) g := by
  intro T hT X
  obtain ⟨t, a, o, b1, b2, b3, L, ⟨-, b4, b5⟩, b6⟩ := k T hT X
  exact ⟨t, a, o, b1, b2, b3, b4, L, b5, b6⟩
theorem ab_end {G : ab_G} {args : Array Value} {s t : State} {H : Heap} {locs : List Loc} {o oc : Outcome} (hI : ab_In G s h H locs) (ht : t.heap = H) (ho : oc = ab_o G o) (hp : Po o h) : ab_Q G Po args s oc t := by
  obtain ⟨h1, h2, h3, h4, h5, h6⟩ := hI
  refine ⟨o, h, ho, hp, by rw [ht]; exact h2, by rw [ht]; exact h4, by rw [ht]; exact h5.1, fun q hq => ?_⟩
  rw [ht]
  exact h5.2.1 q (by omega) (fun z => absurd z (by show ¬ G.1 ≤ q; omega))
/-- fewer locals -/
theorem ab_sub {lv' : List (Option Value)} (hs : ∀ (i : Nat) (v : Value), lv'[i]? = some (some v) → lv[i]? = some (some v)) (k : ab_V y R Po mc ms cells slots pc lv' st h) : ab_V y R Po mc ms cells slots pc lv st h := by
  intro p l e s m args below meth c G H locs ls hX hI hl
  exact k p l e s m args below meth c G H locs ls hX hI (ab_l_mono hl (fun q hq => by
    obtain ⟨u, h1, h2⟩ := ab_l_mem.mp hq
    exact ab_l_mem.mpr ⟨u, hs q.1 u h1, h2⟩))
theorem ab_widen {cells' slots' : Nat} (h1 : cells ≤ cells') (h2 : slots ≤ slots') (k : ab_V y R Po mc ms cells' slots' pc lv st h) : ab_V y R Po mc ms cells slots pc lv st h := by
  intro p l e s m args below meth c G H locs ls hX hI hl
  exact W.widen h1 h2 (k p l e s m args below meth c G H locs ls hX hI hl)
theorem ab_lift {pc' : Nat} {st' : List Value}
    (f : ∀ (G : ab_G) {p : Program} {l : Launch} {e : Env} {s : State} {m : MethodId} {args : Array Value} {below : List Frame} {meth : Method} {c : Code} {H : Heap} {locs : List Loc} {Q : State → Prop} {ls : Array Slot}, p.tables.exec = Jvm.exec → c.code = y.2.1 → W p l e R s m args below meth c H locs cells slots Q (F0 m pc' ls (st'.map (ab_v G))) → W p l e R s m args below meth c H locs cells slots Q (F0 m pc ls (st.map (ab_v G))))
    (k : ab_V y R Po mc ms cells slots pc' lv st' h) : ab_V y R Po mc ms cells slots pc lv st h := by
  intro p l e s m args below meth c G H locs ls hX hI hl
  exact f G hX.1 hX.2.1 (k p l e s m args below meth c G H locs ls hX hI hl)

theorem ab_iadd {x z : Int32} (hd : decode y.2.1 pc = .ok (.iadd, 1)) (k : ab_V y R Po mc ms cells slots (pc + 1) lv (.int (x + z) :: st) h) : ab_V y R Po mc ms cells slots pc lv (.int z :: .int x :: st) h := ab_lift (fun _ _ _ _ _ _ _ _ _ _ _ _ _ _ hx hb k => lv_iadd hx hb hd k) k
theorem ab_isub {x z : Int32} (hd : decode y.2.1 pc = .ok (.isub, 1)) (k : ab_V y R Po mc ms cells slots (pc + 1) lv (.int (x - z) :: st) h) : ab_V y R Po mc ms cells slots pc lv (.int z :: .int x :: st) h := ab_lift (fun _ _ _ _ _ _ _ _ _ _ _ _ _ _ hx hb k => lv_isub hx hb hd k) k
theorem ab_imul {x z : Int32} (hd : decode y.2.1 pc = .ok (.imul, 1)) (k : ab_V y R Po mc ms cells slots (pc + 1) lv (.int (x * z) :: st) h) : ab_V y R Po mc ms cells slots pc lv (.int z :: .int x :: st) h := ab_lift (fun _ _ _ _ _ _ _ _ _ _ _ _ _ _ hx hb k => lv_imul hx hb hd k) k
theorem ab_iand {x z : Int32} (hd : decode y.2.1 pc = .ok (.iand, 1)) (k : ab_V y R Po mc ms cells slots (pc + 1) lv (.int (x &&& z) :: st) h) : ab_V y R Po mc ms cells slots pc lv (.int z :: .int x :: st) h := ab_lift (fun _ _ _ _ _ _ _ _ _ _ _ _ _ _ hx hb k => lv_iand hx hb hd k) k
theorem ab_ior {x z : Int32} (hd : decode y.2.1 pc = .ok (.ior, 1)) (k : ab_V y R Po mc ms cells slots (pc + 1) lv (.int (x ||| z) :: st) h) : ab_V y R Po mc ms cells slots pc lv (.int z :: .int x :: st) h := ab_lift (fun _ _ _ _ _ _ _ _ _ _ _ _ _ _ hx hb k => lv_ior hx hb hd k) k
theorem ab_ixor {x z : Int32} (hd : decode y.2.1 pc = .ok (.ixor, 1)) (k : ab_V y R Po mc ms cells slots (pc + 1) lv (.int (x ^^^ z) :: st) h) : ab_V y R Po mc ms cells slots pc lv (.int z :: .int x :: st) h := ab_lift (fun _ _ _ _ _ _ _ _ _ _ _ _ _ _ hx hb k => lv_ixor hx hb hd k) k
theorem ab_ladd {x z : Int64} (hd : decode y.2.1 pc = .ok (.ladd, 1)) (k : ab_V y R Po mc ms cells slots (pc + 1) lv (.long (x + z) :: st) h) : ab_V y R Po mc ms cells slots pc lv (.long z :: .long x :: st) h := ab_lift (fun _ _ _ _ _ _ _ _ _ _ _ _ _ _ hx hb k => lv_ladd hx hb hd k) k
theorem ab_lsub {x z : Int64} (hd : decode y.2.1 pc = .ok (.lsub, 1)) (k : ab_V y R Po mc ms cells slots (pc + 1) lv (.long (x - z) :: st) h) : ab_V y R Po mc ms cells slots pc lv (.long z :: .long x :: st) h := ab_lift (fun _ _ _ _ _ _ _ _ _ _ _ _ _ _ hx hb k => lv_lsub hx hb hd k) k
theorem ab_lmul {x z : Int64} (hd : decode y.2.1 pc = .ok (.lmul, 1)) (k : ab_V y R Po mc ms cells slots (pc + 1) lv (.long (x * z) :: st) h) : ab_V y R Po mc ms cells slots pc lv (.long z :: .long x :: st) h := ab_lift (fun _ _ _ _ _ _ _ _ _ _ _ _ _ _ hx hb k => lv_lmul hx hb hd k) k
theorem ab_land {x z : Int64} (hd : decode y.2.1 pc = .ok (.land, 1)) (k : ab_V y R Po mc ms cells slots (pc + 1) lv (.long (x &&& z) :: st) h) : ab_V y R Po mc ms cells slots pc lv (.long z :: .long x :: st) h := ab_lift (fun _ _ _ _ _ _ _ _ _ _ _ _ _ _ hx hb k => lv_land hx hb hd k) k
theorem ab_lor {x z : Int64} (hd : decode y.2.1 pc = .ok (.lor, 1)) (k : ab_V y R Po mc ms cells slots (pc + 1) lv (.long (x ||| z) :: st) h) : ab_V y R Po mc ms cells slots pc lv (.long z :: .long x :: st) h := ab_lift (fun _ _ _ _ _ _ _ _ _ _ _ _ _ _ hx hb k => lv_lor hx hb hd k) k
theorem ab_lxor {x z : Int64} (hd : decode y.2.1 pc = .ok (.lxor, 1)) (k : ab_V y R Po mc ms cells slots (pc + 1) lv (.long (x ^^^ z) :: st) h) : ab_V y R Po mc ms cells slots pc lv (.long z :: .long x :: st) h := ab_lift (fun _ _ _ _ _ _ _ _ _ _ _ _ _ _ hx hb k => lv_lxor hx hb hd k) k
theorem ab_idiv {x z : Int32} (hd : decode y.2.1 pc = .ok (.idiv, 1)) (hne : ¬ z = 0) (k : ab_V y R Po mc ms cells slots (pc + 1) lv (.int (x / z) :: st) h) : ab_V y R Po mc ms cells slots pc lv (.int z :: .int x :: st) h := ab_lift (fun _ _ _ _ _ _ _ _ _ _ _ _ _ _ hx hb k => lv_idiv hx hb hd hne k) k
theorem ab_ldiv {x z : Int64} (hd : decode y.2.1 pc = .ok (.ldiv, 1)) (hne : ¬ z = 0) (k : ab_V y R Po mc ms cells slots (pc + 1) lv (.long (x / z) :: st) h) : ab_V y R Po mc ms cells slots pc lv (.long z :: .long x :: st) h := ab_lift (fun _ _ _ _ _ _ _ _ _ _ _ _ _ _ hx hb k => lv_ldiv hx hb hd hne k) k
theorem ab_irem {x z : Int32} (hd : decode y.2.1 pc = .ok (.irem, 1)) (hne : ¬ z = 0) (k : ab_V y R Po mc ms cells slots (pc + 1) lv (.int (x - x / z * z) :: st) h) : ab_V y R Po mc ms cells slots pc lv (.int z :: .int x :: st) h := ab_lift (fun _ _ _ _ _ _ _ _ _ _ _ _ _ _ hx hb k => lv_irem hx hb hd hne k) k
theorem ab_lrem {x z : Int64} (hd : decode y.2.1 pc = .ok (.lrem, 1)) (hne : ¬ z = 0) (k : ab_V y R Po mc ms cells slots (pc + 1) lv (.long (x - x / z * z) :: st) h) : ab_V y R Po mc ms cells slots pc lv (.long z :: .long x :: st) h := ab_lift (fun _ _ _ _ _ _ _ _ _ _ _ _ _ _ hx hb k => lv_lrem hx hb hd hne k) k
theorem ab_ineg {x : Int32} (hd : decode y.2.1 pc = .ok (.ineg, 1)) (k : ab_V y R Po mc ms cells slots (pc + 1) lv (.int (-x) :: st) h) : ab_V y R Po mc ms cells slots pc lv (.int x :: st) h := ab_lift (fun _ _ _ _ _ _ _ _ _ _ _ _ _ _ hx hb k => lv_ineg hx hb hd k) k
theorem ab_lneg {x : Int64} (hd : decode y.2.1 pc = .ok (.lneg, 1)) (k : ab_V y R Po mc ms cells slots (pc + 1) lv (.long (-x) :: st) h) : ab_V y R Po mc ms cells slots pc lv (.long x :: st) h := ab_lift (fun _ _ _ _ _ _ _ _ _ _ _ _ _ _ hx hb k => lv_lneg hx hb hd k) k
theorem ab_ishl {x z : Int32} (hd : decode y.2.1 pc = .ok (.ishl, 1)) (k : ab_V y R Po mc ms cells slots (pc + 1) lv (.int (x <<< (z &&& 31)) :: st) h) : ab_V y R Po mc ms cells slots pc lv (.int z :: .int x :: st) h := ab_lift (fun _ _ _ _ _ _ _ _ _ _ _ _ _ _ hx hb k => lv_ishl hx hb hd k) k
theorem ab_ishr {x z : Int32} (hd : decode y.2.1 pc = .ok (.ishr, 1)) (k : ab_V y R Po mc ms cells slots (pc + 1) lv (.int (x >>> (z &&& 31)) :: st) h) : ab_V y R Po mc ms cells slots pc lv (.int z :: .int x :: st) h := ab_lift (fun _ _ _ _ _ _ _ _ _ _ _ _ _ _ hx hb k => lv_ishr hx hb hd k) k
theorem ab_iushr {x z : Int32} (hd : decode y.2.1 pc = .ok (.iushr, 1)) (k : ab_V y R Po mc ms cells slots (pc + 1) lv (.int ((x.toUInt32 >>> (z.toUInt32 &&& Int32.toUInt32 31)).toInt32) :: st) h) : ab_V y R Po mc ms cells slots pc lv (.int z :: .int x :: st) h := ab_lift (fun _ _ _ _ _ _ _ _ _ _ _ _ _ _ hx hb k => lv_iushr hx hb hd rfl k) k
theorem ab_lushr {x : Int64} {z : Int32} (hd : decode y.2.1 pc = .ok (.lushr, 1)) (k : ab_V y R Po mc ms cells slots (pc + 1) lv (.long ((x.toUInt64 >>> (z.toInt64.toUInt64 &&& Int64.toUInt64 63)).toInt64) :: st) h) : ab_V y R Po mc ms cells slots pc lv (.int z :: .long x :: st) h := ab_lift (fun _ _ _ _ _ _ _ _ _ _ _ _ _ _ hx hb k => lv_lushr hx hb hd rfl k) k
theorem ab_lshl {x : Int64} {z : Int32} (hd : decode y.2.1 pc = .ok (.lshl, 1)) (k : ab_V y R Po mc ms cells slots (pc + 1) lv (.long (x <<< (z.toInt64 &&& 63)) :: st) h) : ab_V y R Po mc ms cells slots pc lv (.int z :: .long x :: st) h := ab_lift (fun _ _ _ _ _ _ _ _ _ _ _ _ _ _ hx hb k => lv_lshl hx hb hd rfl k) k
theorem ab_lshr {x : Int64} {z : Int32} (hd : decode y.2.1 pc = .ok (.lshr, 1)) (k : ab_V y R Po mc ms cells slots (pc + 1) lv (.long (x >>> (z.toInt64 &&& 63)) :: st) h) : ab_V y R Po mc ms cells slots pc lv (.int z :: .long x :: st) h := ab_lift (fun _ _ _ _ _ _ _ _ _ _ _ _ _ _ hx hb k => lv_lshr hx hb hd rfl k) k
theorem ab_i2l {x : Int32} (hd : decode y.2.1 pc = .ok (.i2l, 1)) (k : ab_V y R Po mc ms cells slots (pc + 1) lv (.long (x.toInt64) :: st) h) : ab_V y R Po mc ms cells slots pc lv (.int x :: st) h := ab_lift (fun _ _ _ _ _ _ _ _ _ _ _ _ _ _ hx hb k => lv_i2l hx hb hd rfl k) k
theorem ab_l2i {x : Int64} (hd : decode y.2.1 pc = .ok (.l2i, 1)) (k : ab_V y R Po mc ms cells slots (pc + 1) lv (.int (x.toInt32) :: st) h) : ab_V y R Po mc ms cells slots pc lv (.long x :: st) h := ab_lift (fun _ _ _ _ _ _ _ _ _ _ _ _ _ _ hx hb k => lv_l2i hx hb hd rfl k) k
theorem ab_i2b {x : Int32} (hd : decode y.2.1 pc = .ok (.i2b, 1)) (k : ab_V y R Po mc ms cells slots (pc + 1) lv (.int (x.toInt8.toInt32) :: st) h) : ab_V y R Po mc ms cells slots pc lv (.int x :: st) h := ab_lift (fun _ _ _ _ _ _ _ _ _ _ _ _ _ _ hx hb k => lv_i2b hx hb hd rfl k) k
theorem ab_i2s {x : Int32} (hd : decode y.2.1 pc = .ok (.i2s, 1)) (k : ab_V y R Po mc ms cells slots (pc + 1) lv (.int (x.toInt16.toInt32) :: st) h) : ab_V y R Po mc ms cells slots pc lv (.int x :: st) h := ab_lift (fun _ _ _ _ _ _ _ _ _ _ _ _ _ _ hx hb k => lv_i2s hx hb hd rfl k) k
theorem ab_i2c {x : Int32} (hd : decode y.2.1 pc = .ok (.i2c, 1)) (k : ab_V y R Po mc ms cells slots (pc + 1) lv (.int ((x.toUInt32 % 65536).toInt32) :: st) h) : ab_V y R Po mc ms cells slots pc lv (.int x :: st) h := ab_lift (fun _ _ _ _ _ _ _ _ _ _ _ _ _ _ hx hb k => lv_i2c hx hb hd rfl k) k
theorem ab_iconst {n : Int} {v : Int32} (hd : decode y.2.1 pc = .ok (.iconst n, 1)) (hv : Int32.ofInt n = v) (k : ab_V y R Po mc ms cells slots (pc + 1) lv (.int v :: st) h) : ab_V y R Po mc ms cells slots pc lv st h := ab_lift (fun _ _ _ _ _ _ _ _ _ _ _ _ _ _ hx hb k => lv_iconst hx hb hd hv k) k
theorem ab_bipush {n : Int} {v : Int32} (hd : decode y.2.1 pc = .ok (.bipush n, 2)) (hv : (Int8.ofInt n).toInt32 = v) (k : ab_V y R Po mc ms cells slots (pc + 2) lv (.int v :: st) h) : ab_V y R Po mc ms cells slots pc lv st h := ab_lift (fun _ _ _ _ _ _ _ _ _ _ _ _ _ _ hx hb k => lv_bipush hx hb hd hv k) k
theorem ab_sipush {n : Int} {v : Int32} (hd : decode y.2.1 pc = .ok (.sipush n, 3)) (hv : (Int16.ofInt n).toInt32 = v) (k : ab_V y R Po mc ms cells slots (pc + 3) lv (.int v :: st) h) : ab_V y R Po mc ms cells slots pc lv st h := ab_lift (fun _ _ _ _ _ _ _ _ _ _ _ _ _ _ hx hb k => lv_sipush hx hb hd hv k) k
theorem ab_lconst {n : Fin 2} {v : Int64} (hd : decode y.2.1 pc = .ok (.lconst n, 1)) (hv : Int64.ofNat (n : Nat) = v) (k : ab_V y R Po mc ms cells slots (pc + 1) lv (.long v :: st) h) : ab_V y R Po mc ms cells slots pc lv st h := ab_lift (fun _ _ _ _ _ _ _ _ _ _ _ _ _ _ hx hb k => lv_lconst hx hb hd hv k) k
theorem ab_null (hd : decode y.2.1 pc = .ok (.aconst_null, 1)) (k : ab_V y R Po mc ms cells slots (pc + 1) lv (.null :: st) h) : ab_V y R Po mc ms cells slots pc lv st h := ab_lift (fun _ _ _ _ _ _ _ _ _ _ _ _ _ _ hx hb k => lv_null hx hb hd k) k
theorem ab_dup {va : Value} (hd : decode y.2.1 pc = .ok (.dup, 1)) (h1 : va.category = 1) (k : ab_V y R Po mc ms cells slots (pc + 1) lv (va :: va :: st) h) : ab_V y R Po mc ms cells slots pc lv (va :: st) h := ab_lift (fun G _ _ _ _ _ _ _ _ _ _ _ _ _ hx hb k => lv_dup hx hb hd ((ab_cat G va).trans h1) k) k
theorem ab_pop {va : Value} (hd : decode y.2.1 pc = .ok (.pop, 1)) (h1 : va.category = 1) (k : ab_V y R Po mc ms cells slots (pc + 1) lv st h) : ab_V y R Po mc ms cells slots pc lv (va :: st) h := ab_lift (fun G _ _ _ _ _ _ _ _ _ _ _ _ _ hx hb k => lv_pop hx hb hd ((ab_cat G va).trans h1) k) k
theorem ab_dup_x1 {va vb : Value} (hd : decode y.2.1 pc = .ok (.dup_x1, 1)) (h1 : va.category = 1) (h2 : vb.category = 1) (k : ab_V y R Po mc ms cells slots (pc + 1) lv (va :: vb :: va :: st) h) : ab_V y R Po mc ms cells slots pc lv (va :: vb :: st) h := ab_lift (fun G _ _ _ _ _ _ _ _ _ _ _ _ _ hx hb k => lv_dup_x1 hx hb hd ((ab_cat G va).trans h1) ((ab_cat G vb).trans h2) k) k
theorem ab_dup_x2 {va vb vd : Value} (hd : decode y.2.1 pc = .ok (.dup_x2, 1)) (h1 : va.category = 1) (h2 : vb.category = 1) (h3 : vd.category = 1) (k : ab_V y R Po mc ms cells slots (pc + 1) lv (va :: vb :: vd :: va :: st) h) : ab_V y R Po mc ms cells slots pc lv (va :: vb :: vd :: st) h := ab_lift (fun G _ _ _ _ _ _ _ _ _ _ _ _ _ hx hb k => lv_dup_x2 hx hb hd ((ab_cat G va).trans h1) ((ab_cat G vb).trans h2) ((ab_cat G vd).trans h3) k) k
theorem ab_dup2_11 {va vb : Value} (hd : decode y.2.1 pc = .ok (.dup2, 1)) (h1 : va.category = 1) (h2 : vb.category = 1) (k : ab_V y R Po mc ms cells slots (pc + 1) lv (va :: vb :: va :: vb :: st) h) : ab_V y R Po mc ms cells slots pc lv (va :: vb :: st) h := ab_lift (fun G _ _ _ _ _ _ _ _ _ _ _ _ _ hx hb k => lv_dup2_11 hx hb hd ((ab_cat G va).trans h1) ((ab_cat G vb).trans h2) k) k
theorem ab_dup2_2 {va : Value} (hd : decode y.2.1 pc = .ok (.dup2, 1)) (h1 : va.category = 2) (k : ab_V y R Po mc ms cells slots (pc + 1) lv (va :: va :: st) h) : ab_V y R Po mc ms cells slots pc lv (va :: st) h := ab_lift (fun G _ _ _ _ _ _ _ _ _ _ _ _ _ hx hb k => lv_dup2_2 hx hb hd ((ab_cat G va).trans h1) k) k
theorem ab_pop2_2 {va : Value} (hd : decode y.2.1 pc = .ok (.pop2, 1)) (h1 : va.category = 2) (k : ab_V y R Po mc ms cells slots (pc + 1) lv st h) : ab_V y R Po mc ms cells slots pc lv (va :: st) h := ab_lift (fun G _ _ _ _ _ _ _ _ _ _ _ _ _ hx hb k => lv_pop2_2 hx hb hd ((ab_cat G va).trans h1) k) k
theorem ab_if_eq {x : Int32} {off : Int} {tgt : Nat} (hd : decode y.2.1 pc = .ok (.ifCond .eq off, 3)) (ht : (pc : Int) + off = (tgt : Int)) (kt : x = 0 → ab_V y R Po mc ms cells slots tgt lv st h) (kf : ¬ x = 0 → ab_V y R Po mc ms cells slots (pc + 3) lv st h) : ab_V y R Po mc ms cells slots pc lv (.int x :: st) h := by
  intro p l e s m args below meth c G H locs ls hX hI hl
  exact lv_if_eq hX.1 hX.2.1 hd ht (fun q => kt q p l e s m args below meth c G H locs ls hX hI hl) (fun q => kf q p l e s m args below meth c G H locs ls hX hI hl)
theorem ab_icmp_eq {x z : Int32} {off : Int} {tgt : Nat} (hd : decode y.2.1 pc = .ok (.if_icmp .eq off, 3)) (ht : (pc : Int) + off = (tgt : Int)) (kt : x = z → ab_V y R Po mc ms cells slots tgt lv st h) (kf : ¬ x = z → ab_V y R Po mc ms cells slots (pc + 3) lv st h) : ab_V y R Po mc ms cells slots pc lv (.int z :: .int x :: st) h := by
  intro p l e s m args below meth c G H locs ls hX hI hl
  exact lv_icmp_eq hX.1 hX.2.1 hd ht (fun q => kt q p l e s m args below meth c G H locs ls hX hI hl) (fun q => kf q p l e s m args below meth c G H locs ls hX hI hl)
theorem ab_if_ne {x : Int32} {off : Int} {tgt : Nat} (hd : decode y.2.1 pc = .ok (.ifCond .ne off, 3)) (ht : (pc : Int) + off = (tgt : Int)) (kt : ¬ x = 0 → ab_V y R Po mc ms cells slots tgt lv st h) (kf : x = 0 → ab_V y R Po mc ms cells slots (pc + 3) lv st h) : ab_V y R Po mc ms cells slots pc lv (.int x :: st) h := by
  intro p l e s m args below meth c G H locs ls hX hI hl
  exact lv_if_ne hX.1 hX.2.1 hd ht (fun q => kt q p l e s m args below meth c G H locs ls hX hI hl) (fun q => kf q p l e s m args below meth c G H locs ls hX hI hl)
theorem ab_icmp_ne {x z : Int32} {off : Int} {tgt : Nat} (hd : decode y.2.1 pc = .ok (.if_icmp .ne off, 3)) (ht : (pc : Int) + off = (tgt : Int)) (kt : ¬ x = z → ab_V y R Po mc ms cells slots tgt lv st h) (kf : x = z → ab_V y R Po mc ms cells slots (pc + 3) lv st h) : ab_V y R Po mc ms cells slots pc lv (.int z :: .int x :: st) h := by
  intro p l e s m args below meth c G H locs ls hX hI hl
  exact lv_icmp_ne hX.1 hX.2.1 hd ht (fun q => kt q p l e s m args below meth c G H locs ls hX hI hl) (fun q => kf q p l e s m args below meth c G H locs ls hX hI hl)
theorem ab_if_lt {x : Int32} {off : Int} {tgt : Nat} (hd : decode y.2.1 pc = .ok (.ifCond .lt off, 3)) (ht : (pc : Int) + off = (tgt : Int)) (kt : x < 0 → ab_V y R Po mc ms cells slots tgt lv st h) (kf : ¬ x < 0 → ab_V y R Po mc ms cells slots (pc + 3) lv st h) : ab_V y R Po mc ms cells slots pc lv (.int x :: st) h := by
  intro p l e s m args below meth c G H locs ls hX hI hl
  exact lv_if_lt hX.1 hX.2.1 hd ht (fun q => kt q p l e s m args below meth c G H locs ls hX hI hl) (fun q => kf q p l e s m args below meth c G H locs ls hX hI hl)
theorem ab_icmp_lt {x z : Int32} {off : Int} {tgt : Nat} (hd : decode y.2.1 pc = .ok (.if_icmp .lt off, 3)) (ht : (pc : Int) + off = (tgt : Int)) (kt : x < z → ab_V y R Po mc ms cells slots tgt lv st h) (kf : ¬ x < z → ab_V y R Po mc ms cells slots (pc + 3) lv st h) : ab_V y R Po mc ms cells slots pc lv (.int z :: .int x :: st) h := by
  intro p l e s m args below meth c G H locs ls hX hI hl
  exact lv_icmp_lt hX.1 hX.2.1 hd ht (fun q => kt q p l e s m args below meth c G H locs ls hX hI hl) (fun q => kf q p l e s m args below meth c G H locs ls hX hI hl)
theorem ab_if_ge {x : Int32} {off : Int} {tgt : Nat} (hd : decode y.2.1 pc = .ok (.ifCond .ge off, 3)) (ht : (pc : Int) + off = (tgt : Int)) (kt : 0 ≤ x → ab_V y R Po mc ms cells slots tgt lv st h) (kf : ¬ 0 ≤ x → ab_V y R Po mc ms cells slots (pc + 3) lv st h) : ab_V y R Po mc ms cells slots pc lv (.int x :: st) h := by
  intro p l e s m args below meth c G H locs ls hX hI hl
  exact lv_if_ge hX.1 hX.2.1 hd ht (fun q => kt q p l e s m args below meth c G H locs ls hX hI hl) (fun q => kf q p l e s m args below meth c G H locs ls hX hI hl)
theorem ab_icmp_ge {x z : Int32} {off : Int} {tgt : Nat} (hd : decode y.2.1 pc = .ok (.if_icmp .ge off, 3)) (ht : (pc : Int) + off = (tgt : Int)) (kt : z ≤ x → ab_V y R Po mc ms cells slots tgt lv st h) (kf : ¬ z ≤ x → ab_V y R Po mc ms cells slots (pc + 3) lv st h) : ab_V y R Po mc ms cells slots pc lv (.int z :: .int x :: st) h := by
  intro p l e s m args below meth c G H locs ls hX hI hl
  exact lv_icmp_ge hX.1 hX.2.1 hd ht (fun q => kt q p l e s m args below meth c G H locs ls hX hI hl) (fun q => kf q p l e s m args below meth c G H locs ls hX hI hl)
theorem ab_if_gt {x : Int32} {off : Int} {tgt : Nat} (hd : decode y.2.1 pc = .ok (.ifCond .gt off, 3)) (ht : (pc : Int) + off = (tgt : Int)) (kt : 0 < x → ab_V y R Po mc ms cells slots tgt lv st h) (kf : ¬ 0 < x → ab_V y R Po mc ms cells slots (pc + 3) lv st h) : ab_V y R Po mc ms cells slots pc lv (.int x :: st) h := by
  intro p l e s m args below meth c G H locs ls hX hI hl
  exact lv_if_gt hX.1 hX.2.1 hd ht (fun q => kt q p l e s m args below meth c G H locs ls hX hI hl) (fun q => kf q p l e s m args below meth c G H locs ls hX hI hl)
theorem ab_icmp_gt {x z : Int32} {off : Int} {tgt : Nat} (hd : decode y.2.1 pc = .ok (.if_icmp .gt off, 3)) (ht : (pc : Int) + off = (tgt : Int)) (kt : z < x → ab_V y R Po mc ms cells slots tgt lv st h) (kf : ¬ z < x → ab_V y R Po mc ms cells slots (pc + 3) lv st h) : ab_V y R Po mc ms cells slots pc lv (.int z :: .int x :: st) h := by
  intro p l e s m args below meth c G H locs ls hX hI hl
  exact lv_icmp_gt hX.1 hX.2.1 hd ht (fun q => kt q p l e s m args below meth c G H locs ls hX hI hl) (fun q => kf q p l e s m args below meth c G H locs ls hX hI hl)
theorem ab_if_le {x : Int32} {off : Int} {tgt : Nat} (hd : decode y.2.1 pc = .ok (.ifCond .le off, 3)) (ht : (pc : Int) + off = (tgt : Int)) (kt : x ≤ 0 → ab_V y R Po mc ms cells slots tgt lv st h) (kf : ¬ x ≤ 0 → ab_V y R Po mc ms cells slots (pc + 3) lv st h) : ab_V y R Po mc ms cells slots pc lv (.int x :: st) h := by
  intro p l e s m args below meth c G H locs ls hX hI hl
  exact lv_if_le hX.1 hX.2.1 hd ht (fun q => kt q p l e s m args below meth c G H locs ls hX hI hl) (fun q => kf q p l e s m args below meth c G H locs ls hX hI hl)
theorem ab_icmp_le {x z : Int32} {off : Int} {tgt : Nat} (hd : decode y.2.1 pc = .ok (.if_icmp .le off, 3)) (ht : (pc : Int) + off = (tgt : Int)) (kt : x ≤ z → ab_V y R Po mc ms cells slots tgt lv st h) (kf : ¬ x ≤ z → ab_V y R Po mc ms cells slots (pc + 3) lv st h) : ab_V y R Po mc ms cells slots pc lv (.int z :: .int x :: st) h := by
  intro p l e s m args below meth c G H locs ls hX hI hl
  exact lv_icmp_le hX.1 hX.2.1 hd ht (fun q => kt q p l e s m args below meth c G H locs ls hX hI hl) (fun q => kf q p l e s m args below meth c G H locs ls hX hI hl)
theorem ab_goto {off : Int} {tgt : Nat} (hd : decode y.2.1 pc = .ok (.goto off, 3)) (ht : (pc : Int) + off = (tgt : Int)) (k : ab_V y R Po mc ms cells slots tgt lv st h) : ab_V y R Po mc ms cells slots pc lv st h := ab_lift (fun _ _ _ _ _ _ _ _ _ _ _ _ _ _ hx hb k => lv_goto hx hb hd ht k) k
theorem ab_ifnonnull {x : Nat} {off : Int} {tgt : Nat} (hd : decode y.2.1 pc = .ok (.ifnonnull off, 3)) (ht : (pc : Int) + off = (tgt : Int)) (k : ab_V y R Po mc ms cells slots tgt lv st h) : ab_V y R Po mc ms cells slots pc lv (.ref x :: st) h := ab_lift (fun _ _ _ _ _ _ _ _ _ _ _ _ _ _ hx hb k => lv_ifnonnull hx hb hd ht k) k
theorem ab_ifnull {x : Nat} {off : Int} (hd : decode y.2.1 pc = .ok (.ifnull off, 3)) (k : ab_V y R Po mc ms cells slots (pc + 3) lv st h) : ab_V y R Po mc ms cells slots pc lv (.ref x :: st) h := ab_lift (fun _ _ _ _ _ _ _ _ _ _ _ _ _ _ hx hb k => lv_ifnull hx hb hd k) k
theorem ab_ifnullN {off : Int} {tgt : Nat} (hd : decode y.2.1 pc = .ok (.ifnull off, 3)) (ht : (pc : Int) + off = (tgt : Int)) (k : ab_V y R Po mc ms cells slots tgt lv st h) : ab_V y R Po mc ms cells slots pc lv (.null :: st) h := ab_lift (fun _ _ _ _ _ _ _ _ _ _ _ _ _ _ hx hb k => lv_ifnullN hx hb hd ht k) k
theorem ab_ifnonnullN {off : Int} (hd : decode y.2.1 pc = .ok (.ifnonnull off, 3)) (k : ab_V y R Po mc ms cells slots (pc + 3) lv st h) : ab_V y R Po mc ms cells slots pc lv (.null :: st) h := ab_lift (fun _ _ _ _ _ _ _ _ _ _ _ _ _ _ hx hb k => lv_ifnonnullN hx hb hd k) k
theorem ab_tableIn {dflt lo hi : Int} {offs : Array Int} {len : Nat} {x : Int32} {off : Int} {tgt : Nat} (hd : decode y.2.1 pc = .ok (.tableswitch dflt lo hi offs, len)) (h1 : ¬ x.toInt < lo) (h2 : ¬ hi < x.toInt) (ho : offs[(x.toInt - lo).toNat]? = some off) (ht : (pc : Int) + off = (tgt : Int)) (k : ab_V y R Po mc ms cells slots tgt lv st h) : ab_V y R Po mc ms cells slots pc lv (.int x :: st) h := ab_lift (fun _ _ _ _ _ _ _ _ _ _ _ _ _ _ hx hb k => lv_tableIn hx hb hd h1 h2 ho ht k) k
theorem ab_tableOut {dflt lo hi : Int} {offs : Array Int} {len : Nat} {x : Int32} {tgt : Nat} (hd : decode y.2.1 pc = .ok (.tableswitch dflt lo hi offs, len)) (h1 : x.toInt < lo ∨ hi < x.toInt) (ht : (pc : Int) + dflt = (tgt : Int)) (k : ab_V y R Po mc ms cells slots tgt lv st h) : ab_V y R Po mc ms cells slots pc lv (.int x :: st) h := ab_lift (fun _ _ _ _ _ _ _ _ _ _ _ _ _ _ hx hb k => lv_tableOut hx hb hd h1 ht k) k
theorem ab_lookup {dflt : Int} {ps : Array (Int × Int)} {len : Nat} {x : Int32} {off : Int} {tgt : Nat} (hd : decode y.2.1 pc = .ok (.lookupswitch dflt ps, len)) (hp : (ps.toList.zip (ps.toList.drop 1)).all (fun (a, next) => a.1 < next.1) = true) (ho : Op.lookupswitch.offset ps.toList dflt x.toInt = off) (ht : (pc : Int) + off = (tgt : Int)) (k : ab_V y R Po mc ms cells slots tgt lv st h) : ab_V y R Po mc ms cells slots pc lv (.int x :: st) h := ab_lift (fun _ _ _ _ _ _ _ _ _ _ _ _ _ _ hx hb k => lv_lookup hx hb hd hp ho ht k) k
theorem ab_iload_n {j : Fin 4} {i : Nat} {x : Int32} (hd : decode y.2.1 pc = .ok (.iload_n j, 1)) (hi : (j : Nat) = i) (hv : lv[i]? = some (some (.int x))) (k : ab_V y R Po mc ms cells slots (pc + 1) lv (.int x :: st) h) : ab_V y R Po mc ms cells slots pc lv st h := by
  intro p l e s m args below meth c G H locs ls hX hI hl
  exact lv_iload_n hX.1 hX.2.1 hd hi (ab_l_at hl hv) (k p l e s m args below meth c G H locs ls hX hI hl)
theorem ab_iload {i : Nat} {x : Int32} (hd : decode y.2.1 pc = .ok (.iload i, 2)) (hv : lv[i]? = some (some (.int x))) (k : ab_V y R Po mc ms cells slots (pc + 2) lv (.int x :: st) h) : ab_V y R Po mc ms cells slots pc lv st h := by
  intro p l e s m args below meth c G H locs ls hX hI hl
  exact lv_iload hX.1 hX.2.1 hd (ab_l_at hl hv) (k p l e s m args below meth c G H locs ls hX hI hl)
theorem ab_lload_n {j : Fin 4} {i : Nat} {x : Int64} (hd : decode y.2.1 pc = .ok (.lload_n j, 1)) (hi : (j : Nat) = i) (hv : lv[i]? = some (some (.long x))) (k : ab_V y R Po mc ms cells slots (pc + 1) lv (.long x :: st) h) : ab_V y R Po mc ms cells slots pc lv st h := by
  intro p l e s m args below meth c G H locs ls hX hI hl
  exact lv_lload_n hX.1 hX.2.1 hd hi (ab_l_at hl hv) (k p l e s m args below meth c G H locs ls hX hI hl)
theorem ab_lload {i : Nat} {x : Int64} (hd : decode y.2.1 pc = .ok (.lload i, 2)) (hv : lv[i]? = some (some (.long x))) (k : ab_V y R Po mc ms cells slots (pc + 2) lv (.long x :: st) h) : ab_V y R Po mc ms cells slots pc lv st h := by
  intro p l e s m args below meth c G H locs ls hX hI hl
  exact lv_lload hX.1 hX.2.1 hd (ab_l_at hl hv) (k p l e s m args below meth c G H locs ls hX hI hl)
def ab_ir : Value → Bool
  | .ref _ => true
  | .null => true
  | .float _ => true
  | _ => false
theorem ab_aload_n {j : Fin 4} {i : Nat} {v : Value} (hd : decode y.2.1 pc = .ok (.aload_n j, 1)) (hi : (j : Nat) = i) (hv : lv[i]? = some (some v)) (hr : ab_ir v = true) (k : ab_V y R Po mc ms cells slots (pc + 1) lv (v :: st) h) : ab_V y R Po mc ms cells slots pc lv st h := by
  intro p l e s m args below meth c G H locs ls hX hI hl
  have k1 := k p l e s m args below meth c G H locs ls hX hI hl
  have h1 := ab_l_at hl hv
  cases v with
  | ref a => exact lv_aload_n hX.1 hX.2.1 hd hi h1 k1
  | null => exact lv_aload_nN hX.1 hX.2.1 hd hi h1 k1
  | float q => exact lv_aload_n hX.1 hX.2.1 hd hi h1 k1
  | _ => cases hr
theorem ab_astore_n {j : Fin 4} {i : Nat} {v : Value} {lv' : List (Option Value)} (hd : decode y.2.1 pc = .ok (.astore_n j, 1)) (hi : (j : Nat) = i) (hn : i < y.2.2.1) (hr : ab_ir v = true) (he : ab_s1 i v lv = lv') (k : ab_V y R Po mc ms cells slots (pc + 1) lv' st h) : ab_V y R Po mc ms cells slots pc lv (v :: st) h := by
  subst he
  intro p l e s m args below meth c G H locs ls hX hI hl
  have k1 : ∀ ls' : Array Slot, lv_has ls' y.2.2.1 ((i, ab_v G v) :: (ab_l G lv).filter (fun q => !(q.1 == i) && !(q.1 + 1 == i && q.2.category == 2))) → _ := fun ls' hl' => k p l e s m args below meth c G H locs ls' hX hI (ab_l_mono hl' (fun q hq => ab_s1_ok hq))
  cases v with
  | ref a => exact lv_astore_n hX.1 hX.2.1 hd hi hl hn rfl k1
  | null => exact lv_astore_nN hX.1 hX.2.1 hd hi hl hn rfl k1
  | float q => exact lv_astore_n hX.1 hX.2.1 hd hi hl hn rfl k1
  | _ => cases hr
theorem ab_istore_n {j : Fin 4} {i : Nat} {x : Int32} {lv' : List (Option Value)} (hd : decode y.2.1 pc = .ok (.istore_n j, 1)) (hi : (j : Nat) = i) (hn : i < y.2.2.1) (he : ab_s1 i (.int x) lv = lv') (k : ab_V y R Po mc ms cells slots (pc + 1) lv' st h) : ab_V y R Po mc ms cells slots pc lv (.int x :: st) h := by
  subst he
  intro p l e s m args below meth c G H locs ls hX hI hl
  exact lv_istore_n hX.1 hX.2.1 hd hi hl hn rfl (fun ls' hl' => k p l e s m args below meth c G H locs ls' hX hI (ab_l_mono hl' (fun q hq => ab_s1_ok hq)))
theorem ab_lstore_n {j : Fin 4} {i : Nat} {x : Int64} {lv' : List (Option Value)} (hd : decode y.2.1 pc = .ok (.lstore_n j, 1)) (hi : (j : Nat) = i) (hn : i + 1 < y.2.2.1) (he : ab_s2 i (.long x) lv = lv') (k : ab_V y R Po mc ms cells slots (pc + 1) lv' st h) : ab_V y R Po mc ms cells slots pc lv (.long x :: st) h := by
  subst he
  intro p l e s m args below meth c G H locs ls hX hI hl
  exact lv_lstore_n hX.1 hX.2.1 hd hi hl hn rfl (fun ls' hl' => k p l e s m args below meth c G H locs ls' hX hI (ab_l_mono hl' (fun q hq => ab_s2_ok hq)))
theorem ab_aload {i : Nat} {v : Value} (hd : decode y.2.1 pc = .ok (.aload i, 2)) (hv : lv[i]? = some (some v)) (hr : ab_ir v = true) (k : ab_V y R Po mc ms cells slots (pc + 2) lv (v :: st) h) : ab_V y R Po mc ms cells slots pc lv st h := by
  intro p l e s m args below meth c G H locs ls hX hI hl
  have k1 := k p l e s m args below meth c G H locs ls hX hI hl
  have h1 := ab_l_at hl hv
  cases v with
  | ref a => exact lv_aload hX.1 hX.2.1 hd h1 k1
  | null => exact lv_aloadN hX.1 hX.2.1 hd h1 k1
  | float q => exact lv_aload hX.1 hX.2.1 hd h1 k1
  | _ => cases hr
theorem ab_astore {i : Nat} {v : Value} {lv' : List (Option Value)} (hd : decode y.2.1 pc = .ok (.astore i, 2)) (hn : i < y.2.2.1) (hr : ab_ir v = true) (he : ab_s1 i v lv = lv') (k : ab_V y R Po mc ms cells slots (pc + 2) lv' st h) : ab_V y R Po mc ms cells slots pc lv (v :: st) h := by
  subst he
  intro p l e s m args below meth c G H locs ls hX hI hl
  have k1 : ∀ ls' : Array Slot, lv_has ls' y.2.2.1 ((i, ab_v G v) :: (ab_l G lv).filter (fun q => !(q.1 == i) && !(q.1 + 1 == i && q.2.category == 2))) → _ := fun ls' hl' => k p l e s m args below meth c G H locs ls' hX hI (ab_l_mono hl' (fun q hq => ab_s1_ok hq))
  cases v with
  | ref a => exact lv_astore hX.1 hX.2.1 hd hl hn rfl k1
  | null => exact lv_astoreN hX.1 hX.2.1 hd hl hn rfl k1
  | float q => exact lv_astore hX.1 hX.2.1 hd hl hn rfl k1
  | _ => cases hr
theorem ab_istore {i : Nat} {x : Int32} {lv' : List (Option Value)} (hd : decode y.2.1 pc = .ok (.istore i, 2)) (hn : i < y.2.2.1) (he : ab_s1 i (.int x) lv = lv') (k : ab_V y R Po mc ms cells slots (pc + 2) lv' st h) : ab_V y R Po mc ms cells slots pc lv (.int x :: st) h := by
  subst he
  intro p l e s m args below meth c G H locs ls hX hI hl
  exact lv_istore hX.1 hX.2.1 hd hl hn rfl (fun ls' hl' => k p l e s m args below meth c G H locs ls' hX hI (ab_l_mono hl' (fun q hq => ab_s1_ok hq)))
theorem ab_lstore {i : Nat} {x : Int64} {lv' : List (Option Value)} (hd : decode y.2.1 pc = .ok (.lstore i, 2)) (hn : i + 1 < y.2.2.1) (he : ab_s2 i (.long x) lv = lv') (k : ab_V y R Po mc ms cells slots (pc + 2) lv' st h) : ab_V y R Po mc ms cells slots pc lv (.long x :: st) h := by
  subst he
  intro p l e s m args below meth c G H locs ls hX hI hl
  exact lv_lstore hX.1 hX.2.1 hd hl hn rfl (fun ls' hl' => k p l e s m args below meth c G H locs ls' hX hI (ab_l_mono hl' (fun q hq => ab_s2_ok hq)))
theorem ab_iinc {i : Nat} {n : Int} {x v : Int32} {lv' : List (Option Value)} (hd : decode y.2.1 pc = .ok (.iinc i n, 3)) (hx : lv[i]? = some (some (.int x))) (hv : x + Int32.ofInt n = v) (hn : i < y.2.2.1) (he : ab_s1 i (.int v) lv = lv') (k : ab_V y R Po mc ms cells slots (pc + 3) lv' st h) : ab_V y R Po mc ms cells slots pc lv st h := by
  subst he
  intro p l e s m args below meth c G H locs ls hX hI hl
  obtain ⟨j, hj⟩ := List.getElem?_of_mem (ab_l_mem.mpr ⟨_, hx, rfl⟩ : (i, ab_v G (.int x)) ∈ ab_l G lv)
  exact lv_iinc hX.1 hX.2.1 hd hl hj hv hn rfl (fun ls' hl' => k p l e s m args below meth c G H locs ls' hX hI (ab_l_mono hl' (fun q hq => ab_s1_ok hq)))
theorem ab_ldc {i : Nat} {v : Int32} (hd : decode y.2.1 pc = .ok (.ldc i, 2)) (hw : Cond.constant y.1.cls i v ∈ ab_T) (k : ab_V y R Po mc ms cells slots (pc + 2) lv (.int v :: st) h) : ab_V y R Po mc ms cells slots pc lv st h := by
  intro p l e s m args below meth c G H locs ls hX hI hl
  exact lv_ldc hX.1 hX.2.1 hX.2.2.2.1 (hX.2.2.2.2.1 _ hw) hd (k p l e s m args below meth c G H locs ls hX hI hl)
theorem ab_ldcw {i : Nat} {v : Int32} (hd : decode y.2.1 pc = .ok (.ldc_w i, 3)) (hw : Cond.constant y.1.cls i v ∈ ab_T) (k : ab_V y R Po mc ms cells slots (pc + 3) lv (.int v :: st) h) : ab_V y R Po mc ms cells slots pc lv st h := by
  intro p l e s m args below meth c G H locs ls hX hI hl
  exact lv_ldcw hX.1 hX.2.1 hX.2.2.2.1 (hX.2.2.2.2.1 _ hw) hd (k p l e s m args below meth c G H locs ls hX hI hl)
theorem ab_ldc2 {i : Nat} {v : Int64} (hd : decode y.2.1 pc = .ok (.ldc2_w i, 3)) (hw : Cond.constantLong y.1.cls i v ∈ ab_T) (k : ab_V y R Po mc ms cells slots (pc + 3) lv (.long v :: st) h) : ab_V y R Po mc ms cells slots pc lv st h := by
  intro p l e s m args below meth c G H locs ls hX hI hl
  exact lv_ldc2 hX.1 hX.2.1 hX.2.2.2.1 (hX.2.2.2.2.1 _ hw) hd (k p l e s m args below meth c G H locs ls hX hI hl)
theorem ab_get {i a ci f : Nat} {r : vw_C} {fs : List Value} {v : Value} (hd : decode y.2.1 pc = .ok (.getfield i, 3)) (ha : h[a]? = some (.inr (ci, fs))) (hc : ab_cl[ci]? = some r) (hf : f < r.2.2) (hw : Cond.fieldLink y.1.cls i (r.2.1 f).1 (r.2.1 f).2.1 (r.2.1 f).2.2.1 ∈ ab_T) (hv : fs[f]? = some v) (k : ab_V y R Po mc ms cells slots (pc + 3) lv (v :: st) h) : ab_V y R Po mc ms cells slots pc lv (.ref a :: st) h := by
  intro p l e s m args below meth c G H locs ls hX hI hl
  exact va_get (D := G.2.2.2) (cl := ab_cl) (C := r.1) (T := r.2.1) (N := r.2.2) hX.1 hX.2.1 hX.2.2.2.2.1 (ab_clin ci r hc) hX.2.2.2.1 hI.2.2.1 hI.2.2.2.1 a (ab_w_get ha) hc f hf (hX.2.2.2.2.1 _ hw) (fun _ q => q) (by rw [List.getElem?_map, hv]; rfl) hd (k p l e s m args below meth c G H locs ls hX hI hl)
theorem ab_getN {i a ci f : Nat} {host : String} {r : vw_C} {fs : List Value} {v : Value} (hd : decode y.2.1 pc = .ok (.getfield i, 3)) (ha : h[a]? = some (.inr (ci, fs))) (hc : ab_cl[ci]? = some r) (hf : f < r.2.2) (hw : Cond.fieldLinkNest y.1.cls i (r.2.1 f).1 (r.2.1 f).2.1 (r.2.1 f).2.2.1 host ∈ ab_T) (hv : fs[f]? = some v) (k : ab_V y R Po mc ms cells slots (pc + 3) lv (v :: st) h) : ab_V y R Po mc ms cells slots pc lv (.ref a :: st) h := by
  intro p l e s m args below meth c G H locs ls hX hI hl
  exact va_getN (D := G.2.2.2) (cl := ab_cl) (C := r.1) (T := r.2.1) (N := r.2.2) hX.1 hX.2.1 hX.2.2.2.2.1 (ab_clin ci r hc) hX.2.2.2.1 hI.2.2.1 hI.2.2.2.1 a (ab_w_get ha) hc f hf (hX.2.2.2.2.1 _ hw) (fun _ q => q) (by rw [List.getElem?_map, hv]; rfl) hd (k p l e s m args below meth c G H locs ls hX hI hl)

/-- behind a write to cell a -/
theorem ab_upd_In {G : ab_G} {s : State} {H H1 : Heap} {locs : List Loc} {a j : Nat} {c0 c : ab_E} (hI : ab_In G s h H locs) (ha : h[a]? = some c0) (he : va_at G.2.2.2 ab_cl (G.1 + a, ab_e G c) H1) (z : H1.size = H.size) (oq : ∀ q : Nat, q ≠ G.1 + a → H1[q]? = H[q]?) : ab_In G s (h.set a c) H1 (locs ++ [⟨G.1 + a, j⟩]) :=
  ⟨hI.1, by rw [z, List.length_set]; exact hI.2.1, hI.2.2.1, by rw [ab_w_set]; exact hI.2.2.2.1.set (ab_w_D G h) (ab_w_get ha) he oq, hI.2.2.2.2.1.put z oq (Nat.le_add_right _ _), hI.2.2.2.2.2⟩
theorem ab_ty_get {G : ab_G} {t : FieldType} (ht : t ∈ ab_tyl) : ∃ k : Nat, (ab_ty G)[k]? = some (G.2.2.1 t, t) := by
  obtain ⟨k, hk⟩ := List.getElem?_of_mem ht
  exact ⟨k, by simp [ab_ty, hk]⟩
theorem ab_arr {G : ab_G} {s : State} {t : FieldType} (hK : va_K G.2.2.2 ab_cl (ab_ty G) s) (ht : t ∈ ab_tyl) : ArrOfT s (G.2.2.1 t) t ∧ va_RA s (G.2.2.1 t) t := by
  obtain ⟨k, hk⟩ := ab_ty_get (G := G) ht
  exact hK.2 k _ hk
theorem ab_put {i a ci f : Nat} {r : vw_C} {fs : List Value} {v : Value} {ty : FieldType} (hd : decode y.2.1 pc = .ok (.putfield i, 3)) (ha : h[a]? = some (.inr (ci, fs))) (hc : ab_cl[ci]? = some r) (hf : f < r.2.2) (hw : Cond.fieldLink y.1.cls i (r.2.1 f).1 (r.2.1 f).2.1 (r.2.1 f).2.2.1 ∈ ab_T) (hfin : (r.2.1 f).2.2.2 = false) (hty : parseFieldDescriptor (r.2.1 f).2.2.1 = some ty) (hn : ∀ G : ab_G, narrow ty (ab_v G v) = ab_v G v) (hi : ∀ G : ab_G, fits ty (ab_v G v) = true) (hl : f < fs.length) (k : ab_V y R Po mc ms cells slots (pc + 3) lv st (h.set a (.inr (ci, fs.set f v)))) : ab_V y R Po mc ms cells slots pc lv (v :: .ref a :: st) h := by
  intro p l e s m args below meth c G H locs ls hX hI hlv
  have hts := hX.2.2.2.2.1
  have hin := ab_clin ci r hc
  have hK := hI.2.2.1
  have hap := va_apart (own := y.1.cls) hts hin (ab_tyof r) (ab_clty ci r hc) (ab_clnm ci r hc) hK hc
  obtain ⟨r1, h1, cell, q1, q2, q3, q4⟩ := hI.2.2.2.1 a _ (ab_w_get ha)
  have hr : r1 = r := Option.some.inj (h1.symm.trans hc)
  subst hr
  obtain ⟨hS, hfc, kC, hkC, hkind⟩ := hK.1 ci _ hc
  obtain ⟨cf, kf, fi, fd, hfd, hsl⟩ := hS f hf
  have hst := (u_facts hfc hkC (u_lays hts hin hf) hfd).1
  have hlay := hts _ (hin _ (u_in_lay hf))
  unfold u_lay at hlay
  rw [if_neg (by rw [hfin]; decide)] at hlay
  have h6 := u_store hfc hkC hkind hlay hfd hty (hn G) (hi G)
  refine W.putK hX.1 hX.2.1 (f := fd) ⟨hX.2.2.2.1, hts _ hw, ⟨_, _, _, hfd⟩, hst⟩ (by rw [q2]; exact h6) q1 q3 (by rw [hsl]; exact k2_hasslot (q4 f hf)) rfl rfl hd fun H' e1 e2 e3 => ?_
  rw [hsl] at e1 ⊢
  refine k p l e s m args below meth c G H' _ ls hX (ab_upd_In hI ha ?_ e2 e3) hlv
  have hle : f < (fs.map (ab_v G)).length := by rw [List.length_map]; exact hl
  refine ⟨_, hc, t_OB.to (V := updV (vp_V (fs.map (ab_v G))) f (ab_v G v)) ⟨_, e1, q2, q3, t_set q4 hap hf _⟩ (fun j _ => ?_)⟩
  rw [vp_updV_set hle (ab_v G v) j, List.map_set]
theorem ab_putN {host : String} {i a ci f : Nat} {r : vw_C} {fs : List Value} {v : Value} {ty : FieldType} (hd : decode y.2.1 pc = .ok (.putfield i, 3)) (ha : h[a]? = some (.inr (ci, fs))) (hc : ab_cl[ci]? = some r) (hf : f < r.2.2) (hw : Cond.fieldLinkNest y.1.cls i (r.2.1 f).1 (r.2.1 f).2.1 (r.2.1 f).2.2.1 host ∈ ab_T) (hfin : (r.2.1 f).2.2.2 = false) (hty : parseFieldDescriptor (r.2.1 f).2.2.1 = some ty) (hn : ∀ G : ab_G, narrow ty (ab_v G v) = ab_v G v) (hi : ∀ G : ab_G, fits ty (ab_v G v) = true) (hl : f < fs.length) (k : ab_V y R Po mc ms cells slots (pc + 3) lv st (h.set a (.inr (ci, fs.set f v)))) : ab_V y R Po mc ms cells slots pc lv (v :: .ref a :: st) h := by
  intro p l e s m args below meth c G H locs ls hX hI hlv
  have hts := hX.2.2.2.2.1
  have hin := ab_clin ci r hc
  have hK := hI.2.2.1
  have hap := va_apart (own := y.1.cls) hts hin (ab_tyof r) (ab_clty ci r hc) (ab_clnm ci r hc) hK hc
  obtain ⟨r1, h1, cell, q1, q2, q3, q4⟩ := hI.2.2.2.1 a _ (ab_w_get ha)
  have hr : r1 = r := Option.some.inj (h1.symm.trans hc)
  subst hr
  obtain ⟨hS, hfc, kC, hkC, hkind⟩ := hK.1 ci _ hc
  obtain ⟨cf, kf, fi, fd, hfd, hsl⟩ := hS f hf
  have hst := (u_facts hfc hkC (u_lays hts hin hf) hfd).1
  have hlay := hts _ (hin _ (u_in_lay hf))
  unfold u_lay at hlay
  rw [if_neg (by rw [hfin]; decide)] at hlay
  have h6 := u_store hfc hkC hkind hlay hfd hty (hn G) (hi G)
  refine va_WputK hX.1 hX.2.1 (f := fd) hX.2.2.2.1 (hts _ hw) hfd hst (by rw [q2]; exact h6) q1 q3 (by rw [hsl]; exact k2_hasslot (q4 f hf)) rfl rfl hd fun H' e1 e2 e3 => ?_
  rw [hsl] at e1 ⊢
  refine k p l e s m args below meth c G H' _ ls hX (ab_upd_In hI ha ?_ e2 e3) hlv
  have hle : f < (fs.map (ab_v G)).length := by rw [List.length_map]; exact hl
  refine ⟨_, hc, t_OB.to (V := updV (vp_V (fs.map (ab_v G))) f (ab_v G v)) ⟨_, e1, q2, q3, t_set q4 hap hf _⟩ (fun j _ => ?_)⟩
  rw [vp_updV_set hle (ab_v G v) j, List.map_set]
theorem ab_putF {i a ci f : Nat} {r : vw_C} {fs : List Value} {v : Value} {ty : FieldType} (hd : decode y.2.1 pc = .ok (.putfield i, 3)) (ha : h[a]? = some (.inr (ci, fs))) (hc : ab_cl[ci]? = some r) (hf : f < r.2.2) (hw : Cond.fieldLink y.1.cls i (r.2.1 f).1 (r.2.1 f).2.1 (r.2.1 f).2.2.1 ∈ ab_T) (hfin : (r.2.1 f).2.2.2 = true) (hin2 : y.1.name = "<init>") (hdecl : (r.2.1 f).1 = y.1.cls) (hty : parseFieldDescriptor (r.2.1 f).2.2.1 = some ty) (hn : ∀ G : ab_G, narrow ty (ab_v G v) = ab_v G v) (hi : ∀ G : ab_G, fits ty (ab_v G v) = true) (hl : f < fs.length) (k : ab_V y R Po mc ms cells slots (pc + 3) lv st (h.set a (.inr (ci, fs.set f v)))) : ab_V y R Po mc ms cells slots pc lv (v :: .ref a :: st) h := by
  intro p l e s m args below meth c G H locs ls hX hI hlv
  have hts := hX.2.2.2.2.1
  have hin := ab_clin ci r hc
  have hK := hI.2.2.1
  have hap := va_apart (own := y.1.cls) hts hin (ab_tyof r) (ab_clty ci r hc) (ab_clnm ci r hc) hK hc
  obtain ⟨r1, h1, cell, q1, q2, q3, q4⟩ := hI.2.2.2.1 a _ (ab_w_get ha)
  have hr : r1 = r := Option.some.inj (h1.symm.trans hc)
  subst hr
  obtain ⟨hS, hfc, kC, hkC, hkind⟩ := hK.1 ci _ hc
  obtain ⟨cf, kf, fi, fd, hfd, hsl⟩ := hS f hf
  have hst := (u_facts hfc hkC (u_lays hts hin hf) hfd).1
  have hlay := hts _ (hin _ (u_in_lay hf))
  unfold u_lay at hlay
  rw [if_pos hfin] at hlay
  have hcf : m.cls = cf := by
    obtain ⟨_, _, c', _, _, _, -, -, hf', -, -, -, hown2, -⟩ := Cond.laysFinal_spec hlay
    have e1 : c' = cf := by have := hfd.symm.trans hf'; simp at this; exact this.1.symm
    rw [hdecl] at hown2
    rw [← e1]; exact Option.some.inj (hX.2.2.2.1.symm.trans hown2)
  refine W.putFinK hX.1 hX.2.1 hX.2.2.2.1 (hts _ hw) hfd hst hcf (hX.2.2.2.2.2.2.2.1.trans hin2) (by rw [q2]; exact u_fits hfc hkC hkind (u_lays hts hin hf) hfd hty (hn G) (hi G)) q1 q3 (by rw [hsl]; exact k2_hasslot (q4 f hf)) rfl rfl hd fun H' e1 e2 e3 => ?_
  rw [hsl] at e1 ⊢
  refine k p l e s m args below meth c G H' _ ls hX (ab_upd_In hI ha ?_ e2 e3) hlv
  have hle : f < (fs.map (ab_v G)).length := by rw [List.length_map]; exact hl
  refine ⟨_, hc, t_OB.to (V := updV (vp_V (fs.map (ab_v G))) f (ab_v G v)) ⟨_, e1, q2, q3, t_set q4 hap hf _⟩ (fun j _ => ?_)⟩
  rw [vp_updV_set hle (ab_v G v) j, List.map_set]
end ABundle
