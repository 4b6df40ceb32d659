section ABundle7
variable {y z : ab_Y} {R R1 : Room} {Po Pz : Outcome → List ab_E → Prop} {mc ms cells slots pc : Nat} {lv : List (Option Value)} {st : List Value} {h : List ab_E}
theorem ab_traces {l : Launch} {e : Env} (ha : l.admits e) (hf : l.stackTraces = false) : e.platform.stackTraces = false := by
  rw [ha.platform]
  exact hf
/-- the state as if the method were only now called -/
def ab_now (T : State) (m : MethodId) (args : Array Value) (below : List Frame) : State := T.setFrames (.invoking m args :: below)
theorem ab_rebase {p : Program} {l : Launch} {e : Env} {s T : State} {m : MethodId} {args : Array Value} {below : List Frame} {meth : Method} {c : Code} {locs : List Loc} (X : Stand p l e R s m args below meth c T locs cells slots) (hc : cells ≤ R.cells) (hs : slots ≤ R.slots) :
    Stand p l e { frames := R.frames, cells := R.cells - cells, slots := R.slots - slots, locals := R.locals } (ab_now T m args below) m args below meth c T [] 0 0 := by
  obtain ⟨g₀, hfr⟩ := X.frames_eq
  have hcur : T.cur < T.threads.size := State.cur_lt_of_frames hfr
  have hf1 : (ab_now T m args below).frames = .invoking m args :: below := State.frames_setFrames _ hcur
  obtain ⟨t, ht, -⟩ := State.frames_cons hfr
  have hT : T = (ab_now T m args below).setFrames T.frames := by
    unfold ab_now
    rw [State.setFrames_setFrames, State.setFrames_self ht]
  obtain ⟨t1, ht1, -⟩ := State.frames_cons hf1
  refine ⟨X.admits, X.cas, X.clock, hf1, ?_, ?_, X.method', X.code, X.here, X.tail, State.WarmedH.refl _, (State.stackLimits_setFrames _ _ _).symm, (State.stackBytes_setFrames _ _).symm, ?_⟩
  · have h0 := X.room
    simp only [State.hasRoom, Bool.and_eq_true, decide_eq_true_eq] at h0 ⊢
    rw [State.localsInUse_invoking X.frames X.method X.code, X.frames] at h0
    rw [State.localsInUse_invoking hf1 X.method' X.code, hf1]
    have hl : e.platform.stackLimits (ab_now T m args below).me = e.platform.stackLimits s.me := (State.stackLimits_setFrames _ _ _).trans X.limits
    have hb : (ab_now T m args below).me.stackBytes = s.me.stackBytes := (State.stackBytes_setFrames _ _).trans X.bytes
    have hz := X.heapSize
    have hu := X.used
    have e1 : (ab_now T m args below).heap.size = T.heap.size := rfl
    have e2 : (ab_now T m args below).slotsUsed = T.slotsUsed := rfl
    rw [hl, hb, e1, e2]
    exact ⟨⟨⟨h0.1.1.1, by omega⟩, by omega⟩, X.book⟩
  · have h0 := X.hears
    have hal : ∀ q : MethodId, (ab_now T m args below).code? q = s.code? q := fun q => by
      rw [State.code?_eq, State.code?_eq]
      show (T.vm.method? q).bind _ = _
      rw [X.warmed.alike.method?]
    cases below with
    | nil =>
      show (T.vm.method? m).any _ = true
      rw [X.warmed.alike.method?]
      exact h0
    | cons f r =>
      cases f with
      | java g =>
        show (((ab_now T m args (.java g :: r)).code? g.method).bind _).isSome = true
        rw [hal]
        exact h0
      | native _ => rfl
      | proc _ => rfl
      | _ =>
        show (T.vm.method? m).any _ = true
        rw [X.warmed.alike.method?]
        exact h0
  · have h := (State.sameButNew.refl (ab_now T m args below) ht1).setFrames T.frames (State.cur_lt_of_frames hf1)
    rw [← hT] at h
    exact h
/-- nothing old has changed where nothing may have -/
theorem ab_same {s t : State} {k n : Nat} (hs : s.sameButNew t [] k n) {q : Nat} (hq : q < s.heap.size) : t.heap[q]? = s.heap[q]? := by
  obtain ⟨-, -, -, -, -, q6⟩ := hs
  have h0 : s.heap[q]? = some s.heap[q] := Array.getElem?_eq_getElem hq
  obtain ⟨c', h1, h2, h3, h4⟩ := q6 q _ h0
  rw [h0, h1, h2]
  have h5 : c'.slots = s.heap[q].slots := Array.ext_getElem? (fun i => h4 i (by simp))
  rw [h5]
set_option maxHeartbeats 2000000 in
theorem ab_throw {i j ic ci : Nat} {EX : String} {T0 : u_T} {names : List String} {q : String × Nat × String × Nat} {k0 : UInt32}
    (hd0 : decode y.2.1 pc = .ok (.new i, 3)) (hd1 : decode y.2.1 (pc + 3) = .ok (.dup, 1)) (hd2 : decode y.2.1 (pc + 3 + 1) = .ok (.ldc j, 2)) (hd3 : decode y.2.1 (pc + 3 + 1 + 2) = .ok (.invokespecial ic, 3)) (hd4 : decode y.2.1 (pc + 3 + 1 + 2 + 3) = .ok (.athrow, 1))
    (hc : ab_cl[ci]? = some (EX, T0, 0)) (hcl : Cond.classLink y.1.cls i EX ∈ ab_T) (hin : Cond.instantiable EX 6 ∈ ab_T) (hini : Cond.initialized EX ∈ ab_T) (hfx : Bundle.fit EX = true) (hnm : ∀ n ∈ names, Bundle.fit n = true)
    (hat : ∀ a ∈ Bundle.ownAtoms y.1.cls ic EX names, a ∈ ab_T ∨ a = .laysStatic Bundle.tN "UNASSIGNED_STACK" Bundle.steD ∨ a = .laysStatic Bundle.tN "SUPPRESSED_SENTINEL" Bundle.listD ∨ a = .isRef (.static Bundle.tN "UNASSIGNED_STACK" Bundle.steD) ∨ a = .isRef (.static Bundle.tN "SUPPRESSED_SENTINEL" Bundle.listD))
    (hq : q ∈ ab_cs) (h1 : q.1 = y.1.cls) (h2 : q.2.1 = j) (h3 : q.2.2.2 = k0.toNat)
    (hh : y.2.2.2.2.all (fun q => !(decide (q.1 ≤ pc + 3 + 1 + 2 + 3) && decide (pc + 3 + 1 + 2 + 3 < q.2.1))) = true) (hcs : cells + 1 ≤ R.cells) (hss : slots + 6 ≤ R.slots) (hmc : cells + 1 ≤ mc) (hms : slots + 6 ≤ ms) (hfr : names.length + 3 < R.frames) (hlo : (st.map fun v => v.category).sum + 1 + (13 * (names.length + 1) + 42) ≤ R.locals)
    (hp : Po (.threw h.length) (h ++ [.inr (ci, [])])) : ab_V y R Po mc ms cells slots pc lv st h := by
  intro p l e s m args below meth c G H locs ls hX hI hl
  intro T hT X
  have X' := ab_rebase X (by omega) (by omega)
  have hW' : s.WarmedH (ab_now T m args below).vm := X.warmed
  have hts' : ∀ w ∈ ab_T, w.before args (ab_now T m args below) = true := fun w hw => ab_warm hX.2.2.2.2.1 hW' hw
  have hk : ∀ q : Nat, q < G.1 → (ab_now T m args below).heap[q]? = s.heap[q]? := fun q hq => by
    show T.heap[q]? = _
    rw [hT]
    exact hI.2.2.2.2.1.2.1 q (Nat.lt_of_lt_of_le hq hI.1) (fun z => absurd z (Nat.not_le.mpr hq))
  have hCs : ab_Cs G (ab_now T m args below) := ab_Cs_moved hW' hk hI.2.2.2.2.2
  have hown' : (ab_now T m args below).vm.findClass y.1.cls = some m.cls := by rw [hW'.alike.findClass]; exact hX.2.2.2.1
  have hfX' : (ab_now T m args below).vm.findClass EX = some (G.2.2.2.1 ci) := by rw [hW'.alike.findClass]; exact (hI.2.2.1.1 ci _ hc).2.1
  have hr := hCs.2.1 q hq
  rw [h1, h2, h3] at hr
  have hcat : ((st.map (ab_v G)).map (fun v => v.category)).sum = (st.map (fun v => v.category)).sum := by
    rw [List.map_map]
    exact congrArg List.sum (List.map_congr_left (fun v _ => ab_cat G v))
  have hsz : (ab_now T m args below).heap.size = G.1 + h.length := by show T.heap.size = _; rw [hT]; exact hI.2.1
  have K : W p l e { frames := R.frames, cells := R.cells - cells, slots := R.slots - slots, locals := R.locals } (ab_now T m args below) m args below meth c H [] 0 0
      (fun t => t.status = .running ∧ Ended t below (.threw (G.1 + h.length)) ∧ (ab_now T m args below).WarmedH t.vm ∧ (ab_now T m args below).sameButNew ({ t with vm := (ab_now T m args below).vm } : State) [] 1 6 ∧ ∃ ce : Cell, t.heap[G.1 + h.length]? = some ce ∧ (ab_now T m args below).vm.findClass EX = some ce.cls ∧ ce.vm = .none) (F0 m pc ls (st.map (ab_v G))) := by
    refine W.newcK hX.1 hX.2.1 hown' (hts' _ hcl) (hts' _ hin) (hts' _ hini) rfl hd0 (by show 0 + 1 ≤ R.cells - cells; omega) (by show 0 + 6 ≤ R.slots - slots; omega) hfX' hI.2.1 fun H1 kC hkC e1 z1 o1 => ?_
    refine lv_dup hX.1 hX.2.1 hd1 rfl ?_
    refine va_ldcS hX.1 hX.2.1 hown' hr hd2 ?_
    intro T1 hT1 X1
    obtain ⟨U, b1, b2, b3, b4, b5, ce, b6, b7⟩ := X1.ctorThrowS hX.1 (ab_traces X1.admits hX.2.2.2.2.2.2.2.2.2) hown' hfx hnm (fun a ha => by
        rcases hat a ha with z | z | z | z | z
        · exact hts' a z
        · rw [z]; exact ab_St_lays hCs.2.2.2.2.1
        · rw [z]; exact ab_St_lays hCs.2.2.2.2.2
        · rw [z]; exact ab_St_ref hCs.2.2.2.2.1
        · rw [z]; exact ab_St_ref hCs.2.2.2.2.2) (fun x hx => by cases hx) hfX' hkC (a := G.1 + h.length) (by rw [hT1]; exact e1) (Nat.le_of_eq hsz) (msg := .ref (G.2.1 k0.toNat)) rfl
      (g := F0 m (pc + 3 + 1 + 2) ls (.ref (G.2.1 k0.toNat) :: .ref (G.1 + h.length) :: .ref (G.1 + h.length) :: st.map (ab_v G))) rfl (hl.1.trans hX.2.2.1.symm) rfl rfl rfl (by rw [hX.2.1]; exact hd3) (by rw [hX.2.1]; exact hd4) (by
        intro x hx
        have z1 : (x.startPc, x.endPc, x.handlerPc, x.catchType) ∈ y.2.2.2.2 := by
          rw [← hX.2.2.2.2.2.2.2.2.1]
          exact List.mem_map.mpr ⟨x, hx, rfl⟩
        have z2 := List.all_eq_true.mp hh _ z1
        simp only [Bool.not_eq_true', Bool.and_eq_false_iff, decide_eq_false_iff_not] at z2
        simp only [covers, Bool.and_eq_false_iff, decide_eq_false_iff_not]
        exact z2) hfr (by show 2 * 0 + (1 + ((st.map (ab_v G)).map (fun v => v.category)).sum) + _ ≤ R.locals; rw [hcat]; omega) hX.2.2.2.2.2.2.1
    exact ⟨U, b1, b2, b3, b4, b5, ce, b6, b7.cls, b7.vm⟩
  obtain ⟨t, a1, a2, a3, a4, a5, ce, a6, a7, a8⟩ := K T hT X'
  have hlt : G.1 + h.length < t.heap.size := (Array.getElem?_eq_some_iff.mp a6).1
  have hup : t.heap.size ≤ G.1 + h.length + 1 := by
    have := a5.2.2.1
    rw [hsz] at this
    exact this
  have hold : ∀ q : Nat, q < G.1 + h.length → t.heap[q]? = H[q]? := fun q hq => by
    have := ab_same a5 (q := q) (by rw [hsz]; exact hq)
    rw [← hT]
    exact this
  have hs2 : T.sameButNew ({ t with vm := T.vm } : State) [] 1 6 := by
    obtain ⟨e2, q2, q3, q4, q5, q6⟩ := a5
    refine ⟨?_, q2, q3, q4, q5, q6⟩
    have e3 : ({ t with vm := T.vm } : State) = { (ab_now T m args below).setFrames t.frames with heap := t.heap, slotsUsed := t.slotsUsed } := e2
    rw [show (ab_now T m args below).setFrames t.frames = T.setFrames t.frames from State.setFrames_setFrames _ _ _] at e3
    exact e3
  have hs3 := (X.same.trans (hs2.setVm s.vm)).mono hmc hms
  rw [List.append_nil] at hs3
  refine ⟨t, a1, .threw (G.1 + h.length), a2, a3, ⟨.threw h.length, h ++ [.inr (ci, [])], rfl, hp, by rw [List.length_append]; show _ = G.1 + (h.length + 1); omega, ?_, ?_, ?_⟩, State.WarmedH.trans X.warmed a4, locs, hs3, hI.2.2.2.2.1.2.2⟩
  · rw [ab_w_push]
    refine (hI.2.2.2.1.kept (fun k q hq => hold q.1 (by have := (hI.2.2.2.1 k q hq).lt; rw [hI.2.1] at this; exact this))).app (fun k q hq => ?_)
    have hz : k < 1 := (List.getElem?_eq_some_iff.mp hq).1
    rw [show k = 0 by omega] at hq
    cases hq
    exact ⟨_, hc, ce, a6, Option.some.inj (a7.symm.trans hfX'), a8, fun k hk => absurd hk (Nat.not_lt_zero _)⟩
  · have := hI.2.2.2.2.1.1
    rw [hI.2.1] at this
    omega
  · intro q hq
    rw [hold q (by omega)]
    exact hI.2.2.2.2.1.2.1 q (Nat.lt_of_lt_of_le hq hI.1) (fun z => absurd z (Nat.not_le.mpr hq))
end ABundle7
