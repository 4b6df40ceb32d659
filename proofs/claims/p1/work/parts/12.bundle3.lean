section ABundle3
variable {y z : ab_Y} {R R1 : Room} {Po Pz : Outcome → List ab_E → Prop} {mc ms cells slots pc : Nat} {lv : List (Option Value)} {st : List Value} {h : List ab_E}
/-- the tables' words stay -/
theorem ab_warm {s U : State} {args a1 : Array Value} (hts : ∀ w ∈ ab_T, w.before args s = true) (hW : s.WarmedH U.vm) {w : Cond} (hw : w ∈ ab_T) : w.before a1 U = true := ab_warm0 hW (ab_good w hw) (hts w hw)
/-- an exception is under way in this frame -/
def ab_U (y : ab_Y) (R : Room) (Po : Outcome → List ab_E → Prop) (mc ms cells slots pc : Nat) (lv : List (Option Value)) (h : List ab_E) (x : Nat) : Prop :=
  ∀ (p : Program) (l : Launch) (e : Env) (s : State) (m : MethodId) (args : Array Value) (below : List Frame) (meth : Method) (c : Code) (G : ab_G) (H : Heap) (locs : List Loc) (ls : Array Slot) (sc : List Value),
    ab_X y p l s m args meth c → ab_In G s h H locs → lv_has ls y.2.2.1 (ab_l G lv) → ∀ T : State, T.heap = H → Stand p l e R s m args below meth c T locs cells slots →
    ∃ t, Steps p.tables e below ((T.setTop (F0 m pc ls sc)).pushFrame (.throwing (G.1 + x))) t ∧ ab_Z below G Po args s mc ms t
theorem ab_U_out {x : Nat} (hh : y.2.2.2.2.all (fun q => !(decide (q.1 ≤ pc) && decide (pc < q.2.1))) = true) (hc : cells ≤ mc) (hs : slots ≤ ms) (hp : Po (.threw x) h) : ab_U y R Po mc ms cells slots pc lv h x := by
  intro p l e s m args below meth c G H locs ls sc hX hI hl T hT X
  have X1 := stand_widen X hc hs
  have hlocks := hX.2.2.2.2.2.2.1
  have hout : ∀ q ∈ c.exceptionTable.toList, covers q (F0 m pc ls sc).pc = false := by
    intro q hq
    have h1 : (q.startPc, q.endPc, q.handlerPc, q.catchType) ∈ y.2.2.2.2 := by
      rw [← hX.2.2.2.2.2.2.2.2.1]
      exact List.mem_map.mpr ⟨q, hq, rfl⟩
    have h2 := List.all_eq_true.mp hh _ h1
    simp only [Bool.not_eq_true', Bool.and_eq_false_iff, decide_eq_false_iff_not] at h2
    simp only [covers, Bool.and_eq_false_iff, decide_eq_false_iff_not]
    exact h2
  obtain ⟨a1, a2, a3, a4, a5⟩ := X1.leaveThrown (G.1 + x) (g := F0 m pc ls sc) rfl rfl rfl hout hlocks
  exact ⟨_, a1, .threw (G.1 + x), a2, a3, ab_end (o := .threw x) hI hT rfl hp, a4, locs, a5, hI.2.2.2.2.1.2.2⟩
set_option maxHeartbeats 2000000 in
theorem ab_invoke {p : Program} {l : Launch} {e : Env} {s : State} {m : MethodId} {args : Array Value} {below : List Frame} {meth : Method} {c : Code} {U : State} {locs : List Loc} {av : List Value} {G : ab_G} (hM : ab_M z R1 av h Pz) (X : Stand p l e R s m args below meth c U locs cells slots)
    {g : JFrame} {ig : Instr} {len : Nat} {mk : MethodId} (hg : g.method = m) (hsize : g.locals.size = c.maxLocals) (hdg : decode c.code g.pc = .ok (ig, len)) (hW : 2 * g.monitorRoom + (g.stack.map fun v => v.category).sum ≤ 8) (hn : U.methodNamed? z.1 = some mk)
    (hws : ∀ w ∈ ab_cw z :: ab_T, w.before (av.map (ab_v G)).toArray U = true) (hini : (Cond.initialized z.1.cls).before (av.map (ab_v G)).toArray U = true) (hfr : R1.frames + 1 ≤ R.frames) (hlo : 8 + (z.2.2.1 + 11) + R1.locals ≤ R.locals) (hcs : cells + R1.cells ≤ R.cells) (hss : slots + R1.slots ≤ R.slots) (hB : ab_B G h U) (hfl : l.stackTraces = false) :
    ∃ (o : Outcome) (h1 : List ab_E) (T1 : State) (L : List Loc), Pz o h1 ∧ Stand p l e R s m args below meth c T1 (locs ++ L) (cells + R1.cells) (slots + R1.slots) ∧ (∀ q ∈ L, G.1 ≤ q.base) ∧ T1.heap.size = G.1 + h1.length ∧ va_P G.2.2.2 ab_cl (ab_w G h1) T1.heap ∧ U.heap.size ≤ T1.heap.size ∧ (∀ q : Nat, q < G.1 → T1.heap[q]? = U.heap[q]?) ∧
      (∀ v, o = .returned v → Steps p.tables e below (doInvoke e (U.setTop g) [] mk (av.map (ab_v G)).toArray).1 (T1.setTop { g with pc := g.pc + len, stack := (v.map (ab_v G)).toList ++ g.stack })) ∧
      (∀ x, o = .threw x → Steps p.tables e below (doInvoke e (U.setTop g) [] mk (av.map (ab_v G)).toArray).1 ((T1.setTop g).pushFrame (.throwing (G.1 + x)))) := by
  obtain ⟨methY, cY, hmY, hcY, -, hlY, -, -, -, -⟩ := ab_cw_spec hn (hws _ List.mem_cons_self)
  obtain ⟨kY, hkY, -⟩ := className_of_methodNamed hn
  have hinitY : kY.init = .initialized := Cond.initialized_spec (findClass_of_methodNamed hn) hkY hini
  have hAt : At U g.method c below := by rw [hg]; exact X.here
  have happ : (headSpec (ab_cw z :: ab_T) R1).appliesLoose z.1 e.platform (U.calling g mk (av.map (ab_v G)).toArray) = true :=
    Spec.appliesLoose_calling (g := g) hAt hdg hn hkY hinitY
      (X.room_calling (g := g) (R' := R1) hsize hmY hcY hfr (by rw [hlY]; omega) hcs hss) (atoms_intro hws)
  obtain ⟨mid, hmid⟩ := hAt.above
  have hfr2 : (U.setTop g).frames = (.java g :: mid) ++ below := by rw [State.frames_setTop' g hAt.top, hmid]; rfl
  have hB1 : ab_B G h (U.calling g mk (av.map (ab_v G)).toArray) := ⟨hB.1, va_K.moved (u := U) (U := U.calling g mk (av.map (ab_v G)).toArray) (Vm.Alike.refl U.vm) hB.2.1, hB.2.2.1, ab_Cs_moved (u := U) (U := U.calling g mk (av.map (ab_v G)).toArray) (State.WarmedH.refl U) (fun q hq => rfl) hB.2.2.2⟩
  obtain ⟨o, s₂, hsteps, -, hend, hq⟩ := Steps.callFree (hM l G hfl) p X.admits X.cas X.clock (acts := []) hfr2 happ ⟨rfl, hB1⟩ trivial
  rw [State.frames_setTop' g hAt.top] at hend
  have hq' : ab_Q G Pz (av.map (ab_v G)).toArray (U.calling g mk (av.map (ab_v G)).toArray) o s₂ ∧ (U.calling g mk (av.map (ab_v G)).toArray).WarmedH s₂.vm ∧ ∃ L, (U.calling g mk (av.map (ab_v G)).toArray).sameButNew ({ s₂ with vm := (U.calling g mk (av.map (ab_v G)).toArray).vm } : State) L R1.cells R1.slots ∧ ∀ q ∈ L, G.1 ≤ q.base := hq
  obtain ⟨⟨o1, h1, ho, hp, hz, hP, hle, hfrm⟩, hW₂, L, ⟨e2, q2, q3, q4, q5, q6⟩, hL⟩ := hq'
  have e3 : s₂ = ({ (U.calling g mk (av.map (ab_v G)).toArray).setFrames s₂.frames with heap := s₂.heap, slotsUsed := s₂.slotsUsed } : State).setVm s₂.vm := by
    have : s₂ = ({ s₂ with vm := (U.calling g mk (av.map (ab_v G)).toArray).vm } : State).setVm s₂.vm := rfl
    rw [e2] at this
    exact this
  have hW' : U.WarmedH s₂.vm := hW₂
  obtain ⟨g₀, hg0⟩ := Option.isSome_iff_exists.mp hAt.top
  obtain ⟨r, hr⟩ := State.topJava?_eq_some.mp hg0
  have hsame : U.sameButNew ({ U with heap := s₂.heap, slotsUsed := s₂.slotsUsed } : State) L R1.cells R1.slots := by
    refine ⟨?_, q2, q3, q4, q5, q6⟩
    obtain ⟨t, ht, -⟩ := State.frames_cons hr
    show ({ U with heap := s₂.heap, slotsUsed := s₂.slotsUsed } : State) = { U.setFrames U.frames with heap := s₂.heap, slotsUsed := s₂.slotsUsed }
    rw [State.setFrames_self ht]
  have hr' : (({ U with heap := s₂.heap, slotsUsed := s₂.slotsUsed } : State).setVm s₂.vm).frames = .java g₀ :: r := hr
  subst hg
  refine ⟨o1, h1, (({ U with heap := s₂.heap, slotsUsed := s₂.slotsUsed } : State).setVm s₂.vm), L, hp,
    ⟨X.admits, X.cas, X.clock, X.frames, X.room, X.hears, X.method, X.code, (X.here.setHeapUsed s₂.heap s₂.slotsUsed).setVm hW'.alike, X.tail, State.WarmedH.trans X.warmed hW', X.limits, X.bytes, X.same.trans (hsame.setVm s.vm)⟩,
    hL, hz, hP, hle, hfrm, ?_, ?_⟩
  · intro v hv
    subst hv
    have ho' : o = .returned (v.map (ab_v G)) := ho
    subst ho'
    obtain ⟨c₂, i₂, len₂, hc₂, hd₂, hf₂⟩ := hend
    have hcc : c₂ = c := by
      have h1 : s₂.code? g.method = U.code? g.method := by
        rw [State.code?_eq, State.code?_eq, hW'.alike.method?]
      exact Option.some.inj (hc₂.symm.trans (h1.trans hAt.code))
    subst hcc
    have hlen : len₂ = len := by rw [hdg] at hd₂; cases hd₂; rfl
    subst hlen
    have hs₂ : s₂ = (({ U with heap := s₂.heap, slotsUsed := s₂.slotsUsed } : State).setVm s₂.vm).setTop { g with pc := g.pc + len₂, stack := (v.map (ab_v G)).toList ++ g.stack } := by
      refine e3.trans ?_
      rw [hf₂, State.calling_eq hAt.top, State.setFrames_setFrames, State.setTop_of_frames _ hr', hr]
      rfl
    rw [← hs₂]
    exact hsteps
  · intro x hx
    subst hx
    have ho' : o = .threw (G.1 + x) := ho
    subst ho'
    have hf₂ : s₂.frames = .throwing (G.1 + x) :: .java g :: U.frames.tail := hend
    have hs₂ : s₂ = ((({ U with heap := s₂.heap, slotsUsed := s₂.slotsUsed } : State).setVm s₂.vm).setTop g).pushFrame (.throwing (G.1 + x)) := by
      refine e3.trans ?_
      rw [hf₂, State.calling_eq hAt.top, State.setFrames_setFrames, State.pushFrame, State.frames_setTop _ hr', State.setTop_of_frames _ hr', State.setFrames_setFrames, hr]
      rfl
    rw [← hs₂]
    exact hsteps
/-- what a call needs of its callee, whoever calls: the words, the room -/
def ab_Call (z : ab_Y) (R R1 : Room) (cells slots n : Nat) : Prop :=
  ab_cw z ∈ ab_T ∧ Cond.initialized z.1.cls ∈ ab_T ∧ (z.1.cls ≠ "java/lang/invoke/MethodHandle" ∧ z.1.cls ≠ "java/lang/invoke/VarHandle") ∧ (parseMethodDescriptor z.1.desc).map (fun d => d.parameters.length) = some n ∧
  R1.frames + 1 ≤ R.frames ∧ 8 + (z.2.2.1 + 11) + R1.locals ≤ R.locals ∧ cells + R1.cells ≤ R.cells ∧ slots + R1.slots ≤ R.slots
theorem ab_psz {z : ab_Y} {n : Nat} (h1 : (parseMethodDescriptor z.1.desc).map (fun d => d.parameters.length) = some n) : ∀ sig, parseMethodDescriptor z.1.desc = some sig → n = sig.parameters.length := by
  intro sig h2
  rw [h2] at h1
  exact (Option.some.inj h1).symm
set_option maxHeartbeats 1000000 in
/-- behind the instruction's own step: the callee runs, and what follows -/
theorem ab_tail {p : Program} {l : Launch} {e : Env} {s : State} {m : MethodId} {args : Array Value} {below : List Frame} {meth : Method} {c : Code} {G : ab_G} {H : Heap} {locs : List Loc} {ls : Array Slot} {av rest : List Value} {n : Nat} {ig : Instr} {sc : List Value} {T : State} {vm1 : Vm} {mk : MethodId}
    (hX : ab_X y p l s m args meth c) (hI : ab_In G s h H locs) (hl : lv_has ls y.2.2.1 (ab_l G lv)) (hM : ab_M z R1 av h Pz) (hC : ab_Call z R R1 cells slots n) (hd : decode y.2.1 pc = .ok (ig, 3)) (hw : (rest.map fun v => v.category).sum ≤ 8)
    (hT : T.heap = H) (X1 : Stand p l e R s m args below meth c (T.setVm vm1) locs cells slots) (hn : s.methodNamed? z.1 = some mk)
    (hstep : ∀ target, (∀ acts, Steps p.tables e below (doInvoke e ((T.setVm vm1).setTop { F0 m pc ls sc with stack := rest.map (ab_v G) }) acts mk (av.map (ab_v G)).toArray).1 target) → Steps p.tables e below (T.setTop (F0 m pc ls sc)) target)
    (kr : ∀ (v : Option Value) (h1 : List ab_E), Pz (.returned v) h1 → ab_V y R Po mc ms (cells + R1.cells) (slots + R1.slots) (pc + 3) lv (v.toList ++ rest) h1)
    (kt : ∀ (x : Nat) (h1 : List ab_E), Pz (.threw x) h1 → ab_U y R Po mc ms (cells + R1.cells) (slots + R1.slots) pc lv h1 x) :
    ∃ t, Steps p.tables e below (T.setTop (F0 m pc ls sc)) t ∧ ab_Z below G Po args s mc ms t := by
  obtain ⟨c1, c2, c3, c4, c5, c6, c7, c8⟩ := hC
  have hcat : (rest.map (ab_v G)).map (fun v => v.category) = rest.map (fun v => v.category) := by
    rw [List.map_map]
    exact List.map_congr_left (fun v _ => ab_cat G v)
  have hB : ab_B G h (T.setVm vm1) := ⟨by show T.heap.size = _; rw [hT]; exact hI.2.1, va_K.moved X1.warmed.alike hI.2.2.1, by show va_P _ _ _ T.heap; rw [hT]; exact hI.2.2.2.1, ab_Cs_moved X1.warmed (fun q hq => by show T.heap[q]? = _; rw [hT]; exact hI.2.2.2.2.1.2.1 q (Nat.lt_of_lt_of_le hq hI.1) (fun z => absurd z (Nat.not_le.mpr hq))) hI.2.2.2.2.2⟩
  obtain ⟨o, h1, T1, L, b1, b2, b3, b4, b5, b6, b7, b8, b9⟩ := ab_invoke (G := G) hM X1 (g := { F0 m pc ls sc with stack := rest.map (ab_v G) }) rfl (hl.1.trans hX.2.2.1.symm) (by rw [hX.2.1]; exact hd)
    (by show 2 * 0 + _ ≤ 8; rw [hcat]; omega) (X1.named hn) (fun w hw => by
      rcases List.mem_cons.mp hw with q | q
      · rw [q]; exact ab_warm hX.2.2.2.2.1 X1.warmed c1
      · exact ab_warm hX.2.2.2.2.1 X1.warmed q) (ab_warm hX.2.2.2.2.1 X1.warmed c2) c5 c6 c7 c8 hB hX.2.2.2.2.2.2.2.2.2
  have b6' : H.size ≤ T1.heap.size := by rw [← hT]; exact b6
  have b7' : ∀ q : Nat, q < G.1 → T1.heap[q]? = H[q]? := fun q hq => by rw [← hT]; exact b7 q hq
  have hI1 : ab_In G s h1 T1.heap (locs ++ L) := ⟨hI.1, b4, hI.2.2.1, b5, ⟨Nat.le_trans hI.2.2.2.2.1.1 b6', fun q h2 h3 => by
      rw [b7' q (Nat.lt_of_not_le h3)]; exact hI.2.2.2.2.1.2.1 q h2 h3, fun q hq => by
      rcases List.mem_append.mp hq with z | z
      · exact hI.2.2.2.2.1.2.2 q z
      · exact b3 q z⟩, hI.2.2.2.2.2⟩
  cases o with
  | returned v =>
    obtain ⟨t, a1, a2⟩ := kr v h1 b1 p l e s m args below meth c G T1.heap (locs ++ L) ls hX hI1 hl T1 rfl b2
    refine ⟨t, hstep t (fun acts => ?_), a2⟩
    rw [doInvoke_state]
    refine (b8 v rfl).trans ?_
    rw [List.map_append, show List.map (ab_v G) v.toList = (v.map (ab_v G)).toList by cases v <;> rfl] at a1
    exact a1
  | threw x =>
    obtain ⟨t, a1, a2⟩ := kt x h1 b1 p l e s m args below meth c G T1.heap (locs ++ L) ls (rest.map (ab_v G)) hX hI1 hl T1 rfl b2
    refine ⟨t, hstep t (fun acts => ?_), a2⟩
    rw [doInvoke_state]
    exact (b9 x rfl).trans a1
set_option maxHeartbeats 1000000 in
theorem ab_callV {i b ci : Nat} {r : vw_C} {fs As rest : List Value} (hd : decode y.2.1 pc = .ok (.invokevirtual i, 3)) (hM : ab_M z R1 (.ref b :: As) h Pz) (hC : ab_Call z R R1 cells slots As.length) (hlk : Cond.methodLink y.1.cls i z.1 ∈ ab_T) (hin : Cond.instanceMethod z.1 ∈ ab_T) (hse : Cond.selects r.1 z.1 z.1 ∈ ab_T) (hb : h[b]? = some (.inr (ci, fs))) (hc : ab_cl[ci]? = some r) (hst : st = As.reverse ++ .ref b :: rest) (hw : (rest.map fun v => v.category).sum ≤ 8) (kr : ∀ (v : Option Value) (h1 : List ab_E), Pz (.returned v) h1 → ab_V y R Po mc ms (cells + R1.cells) (slots + R1.slots) (pc + 3) lv (v.toList ++ rest) h1) (kt : ∀ (x : Nat) (h1 : List ab_E), Pz (.threw x) h1 → ab_U y R Po mc ms (cells + R1.cells) (slots + R1.slots) pc lv h1 x) : ab_V y R Po mc ms cells slots pc lv st h := by
  intro p l e s m args below meth c G H locs ls hX hI hl
  subst hst
  intro T hT X
  have hts := hX.2.2.2.2.1
  obtain ⟨cellB, hcB, hoB, hclB⟩ := va_recv hI.2.2.1 hI.2.2.2.1 hc (ab_w_get hb)
  obtain ⟨mk, methM, hnamed, hmethM, hstM, habM⟩ := Cond.instanceMethod_spec (hts _ hin)
  obtain ⟨methM', cM, hmethM', -, -, -, -, -, -, hsigM⟩ := ab_cw_spec hnamed (hts _ hC.1)
  cases hmethM.symm.trans hmethM'
  obtain ⟨c2, r2, m2, q1, q2, q3, q4, kP, hkP, hkPi⟩ := Cond.selects_spec (hts _ hse)
  cases hclB.symm.trans q1
  cases (State.methodFound?_of_named hnamed hC.2.2.1).symm.trans q2
  cases hnamed.symm.trans q3
  have hselP : selectMethod e.platform s.vm cellB.cls mk = .method mk := by rw [Launch.admits_selectMethod X.admits]; exact q4
  obtain ⟨vm₁, X₁, hstep₁⟩ := X.invokevirtual hX.1 hX.2.2.2.1 (hts _ hlk) hnamed hmethM hstM hkP hkPi hC.2.2.1 (a := G.1 + b) (cell := cellB) (by rw [hT]; exact hcB)
    (fun z h => by rw [h] at hoB; cases hoB) hselP hmethM habM hkP hkPi (g := F0 m pc ls ((As.reverse ++ .ref b :: rest).map (ab_v G))) rfl (argsL := As.map (ab_v G)) (rest := rest.map (ab_v G)) (by rw [List.length_map]; exact ab_psz hC.2.2.2.1 _ hsigM) (by simp [ab_v]) (by rw [hX.2.1]; exact hd)
  exact ab_tail (av := .ref b :: As) hX hI hl hM hC hd hw hT X₁ hnamed hstep₁ kr kt
set_option maxHeartbeats 1000000 in
theorem ab_callS {i : Nat} {As rest : List Value} (hd : decode y.2.1 pc = .ok (.invokestatic i, 3)) (hM : ab_M z R1 As h Pz) (hC : ab_Call z R R1 cells slots As.length) (hlk : Cond.methodLink y.1.cls i z.1 ∈ ab_T) (hin : Cond.static z.1 ∈ ab_T) (hst : st = As.reverse ++ rest) (hw : (rest.map fun v => v.category).sum ≤ 8) (kr : ∀ (v : Option Value) (h1 : List ab_E), Pz (.returned v) h1 → ab_V y R Po mc ms (cells + R1.cells) (slots + R1.slots) (pc + 3) lv (v.toList ++ rest) h1) (kt : ∀ (x : Nat) (h1 : List ab_E), Pz (.threw x) h1 → ab_U y R Po mc ms (cells + R1.cells) (slots + R1.slots) pc lv h1 x) : ab_V y R Po mc ms cells slots pc lv st h := by
  intro p l e s m args below meth c G H locs ls hX hI hl
  subst hst
  intro T hT X
  have hts := hX.2.2.2.2.1
  obtain ⟨mk, hnamed⟩ := ab_cw_named (hts _ hC.1)
  obtain ⟨methM, cM, hmethM, -, -, -, -, -, -, hsigM⟩ := ab_cw_spec hnamed (hts _ hC.1)
  have hstatic : methM.isStatic = true := Cond.static_spec hnamed hmethM (hts _ hin)
  obtain ⟨kP, hkP, -⟩ := className_of_methodNamed hnamed
  have hinitP : kP.init = .initialized := Cond.initialized_spec (findClass_of_methodNamed hnamed) hkP (hts _ hC.2.1)
  obtain ⟨vm₁, X₁, hstep₁⟩ := X.invokestatic hX.1 hX.2.2.2.1 (hts _ hlk) hnamed hmethM hstatic hkP hinitP hC.2.2.1 (g := F0 m pc ls ((As.reverse ++ rest).map (ab_v G))) rfl (argsL := As.map (ab_v G)) (rest := rest.map (ab_v G)) (by rw [List.length_map]; exact ab_psz hC.2.2.2.1 _ hsigM) (by simp) (by rw [hX.2.1]; exact hd)
  exact ab_tail hX hI hl hM hC hd hw hT X₁ hnamed hstep₁ kr kt
set_option maxHeartbeats 1000000 in
theorem ab_callI {i b : Nat} {bb : ByteArray} {nl : Nat} {As rest : List Value} (hd : decode y.2.1 pc = .ok (.invokespecial i, 3)) (hM : ab_M z R1 (.ref b :: As) h Pz) (hC : ab_Call z R R1 cells slots As.length) (hlk : Cond.methodLink y.1.cls i z.1 ∈ ab_T) (hin : Cond.instanceMethod z.1 ∈ ab_T) (hnm : z.1.name = "<init>") (hcw : Cond.code z.1 bb nl none ∈ ab_T) (hst : st = As.reverse ++ .ref b :: rest) (hw : (rest.map fun v => v.category).sum ≤ 8) (kr : ∀ (v : Option Value) (h1 : List ab_E), Pz (.returned v) h1 → ab_V y R Po mc ms (cells + R1.cells) (slots + R1.slots) (pc + 3) lv (v.toList ++ rest) h1) (kt : ∀ (x : Nat) (h1 : List ab_E), Pz (.threw x) h1 → ab_U y R Po mc ms (cells + R1.cells) (slots + R1.slots) pc lv h1 x) : ab_V y R Po mc ms cells slots pc lv st h := by
  intro p l e s m args below meth c G H locs ls hX hI hl
  subst hst
  intro T hT X
  have hts := hX.2.2.2.2.1
  have hpl : e.platform.magicAccessors = ({} : Platform).magicAccessors := by rw [X.admits.platform]
  obtain ⟨mk, methM, cM, kP, vm₁, hnamed, hmethM, hcodeM, -, hlocalsM, -, hkP, -, hW₁, hstep₁⟩ := Steps.initColdArgs (e := e) X.here hX.1 X.warmed hpl hX.2.2.2.1 hnm hC.2.2.1 (hts _ hlk) (hts _ hin) (hts _ hcw) (f := F0 m pc ls ((As.reverse ++ .ref b :: rest).map (ab_v G))) rfl (argsL := As.map (ab_v G)) (rest := rest.map (ab_v G)) (a := G.1 + b) (by rw [List.length_map]; exact ab_psz hC.2.2.2.1) (by simp [ab_v]) (by rw [hX.2.1]; exact hd)
  exact ab_tail (av := .ref b :: As) hX hI hl hM hC hd hw hT (X.noted hW₁) hnamed hstep₁ kr kt
set_option maxHeartbeats 1000000 in
theorem ab_callVN {i b ci : Nat} {host : String} {r : vw_C} {fs As rest : List Value} (hd : decode y.2.1 pc = .ok (.invokevirtual i, 3)) (hM : ab_M z R1 (.ref b :: As) h Pz) (hC : ab_Call z R R1 cells slots As.length) (hlk : Cond.methodLinkNest y.1.cls i z.1 host ∈ ab_T) (hin : Cond.instanceMethod z.1 ∈ ab_T) (hse : Cond.selects r.1 z.1 z.1 ∈ ab_T) (hb : h[b]? = some (.inr (ci, fs))) (hc : ab_cl[ci]? = some r) (hst : st = As.reverse ++ .ref b :: rest) (hw : (rest.map fun v => v.category).sum ≤ 8) (kr : ∀ (v : Option Value) (h1 : List ab_E), Pz (.returned v) h1 → ab_V y R Po mc ms (cells + R1.cells) (slots + R1.slots) (pc + 3) lv (v.toList ++ rest) h1) (kt : ∀ (x : Nat) (h1 : List ab_E), Pz (.threw x) h1 → ab_U y R Po mc ms (cells + R1.cells) (slots + R1.slots) pc lv h1 x) : ab_V y R Po mc ms cells slots pc lv st h := by
  intro p l e s m args below meth c G H locs ls hX hI hl
  subst hst
  intro T hT X
  have hts := hX.2.2.2.2.1
  obtain ⟨cellB, hcB, hoB, hclB⟩ := va_recv hI.2.2.1 hI.2.2.2.1 hc (ab_w_get hb)
  obtain ⟨mk, methM, hnamed, hmethM, hstM, habM⟩ := Cond.instanceMethod_spec (hts _ hin)
  obtain ⟨methM', cM, hmethM', -, -, -, -, -, -, hsigM⟩ := ab_cw_spec hnamed (hts _ hC.1)
  cases hmethM.symm.trans hmethM'
  obtain ⟨c2, r2, m2, q1, q2, q3, q4, kP, hkP, hkPi⟩ := Cond.selects_spec (hts _ hse)
  cases hclB.symm.trans q1
  cases (State.methodFound?_of_named hnamed hC.2.2.1).symm.trans q2
  cases hnamed.symm.trans q3
  have hselP : selectMethod e.platform s.vm cellB.cls mk = .method mk := by rw [Launch.admits_selectMethod X.admits]; exact q4
  obtain ⟨vm₁, X₁, hstep₁⟩ := X.invokevirtualNest hX.1 hX.2.2.2.1 (hts _ hlk) hnamed hmethM hstM hkP hkPi hC.2.2.1 (a := G.1 + b) (cell := cellB) (by rw [hT]; exact hcB)
    (fun z h => by rw [h] at hoB; cases hoB) hselP hmethM habM hkP hkPi (g := F0 m pc ls ((As.reverse ++ .ref b :: rest).map (ab_v G))) rfl (argsL := As.map (ab_v G)) (rest := rest.map (ab_v G)) (by rw [List.length_map]; exact ab_psz hC.2.2.2.1 _ hsigM) (by simp [ab_v]) (by rw [hX.2.1]; exact hd)
  exact ab_tail (av := .ref b :: As) hX hI hl hM hC hd hw hT X₁ hnamed hstep₁ kr kt
set_option maxHeartbeats 1000000 in
theorem ab_callSN {i : Nat} {host : String} {As rest : List Value} (hd : decode y.2.1 pc = .ok (.invokestatic i, 3)) (hM : ab_M z R1 As h Pz) (hC : ab_Call z R R1 cells slots As.length) (hlk : Cond.methodLinkNest y.1.cls i z.1 host ∈ ab_T) (hin : Cond.static z.1 ∈ ab_T) (hst : st = As.reverse ++ rest) (hw : (rest.map fun v => v.category).sum ≤ 8) (kr : ∀ (v : Option Value) (h1 : List ab_E), Pz (.returned v) h1 → ab_V y R Po mc ms (cells + R1.cells) (slots + R1.slots) (pc + 3) lv (v.toList ++ rest) h1) (kt : ∀ (x : Nat) (h1 : List ab_E), Pz (.threw x) h1 → ab_U y R Po mc ms (cells + R1.cells) (slots + R1.slots) pc lv h1 x) : ab_V y R Po mc ms cells slots pc lv st h := by
  intro p l e s m args below meth c G H locs ls hX hI hl
  subst hst
  intro T hT X
  have hts := hX.2.2.2.2.1
  obtain ⟨mk, hnamed⟩ := ab_cw_named (hts _ hC.1)
  obtain ⟨methM, cM, hmethM, -, -, -, -, -, -, hsigM⟩ := ab_cw_spec hnamed (hts _ hC.1)
  have hstatic : methM.isStatic = true := Cond.static_spec hnamed hmethM (hts _ hin)
  obtain ⟨kP, hkP, -⟩ := className_of_methodNamed hnamed
  have hinitP : kP.init = .initialized := Cond.initialized_spec (findClass_of_methodNamed hnamed) hkP (hts _ hC.2.1)
  obtain ⟨vm₁, X₁, hstep₁⟩ := X.invokestaticNest hX.1 hX.2.2.2.1 (hts _ hlk) hnamed hmethM hstatic hkP hinitP hC.2.2.1 (g := F0 m pc ls ((As.reverse ++ rest).map (ab_v G))) rfl (argsL := As.map (ab_v G)) (rest := rest.map (ab_v G)) (by rw [List.length_map]; exact ab_psz hC.2.2.2.1 _ hsigM) (by simp) (by rw [hX.2.1]; exact hd)
  exact ab_tail hX hI hl hM hC hd hw hT X₁ hnamed hstep₁ kr kt
set_option maxHeartbeats 1000000 in
theorem ab_callIN {i b : Nat} {host : String} {bb : ByteArray} {nl : Nat} {As rest : List Value} (hd : decode y.2.1 pc = .ok (.invokespecial i, 3)) (hM : ab_M z R1 (.ref b :: As) h Pz) (hC : ab_Call z R R1 cells slots As.length) (hlk : Cond.methodLinkNest y.1.cls i z.1 host ∈ ab_T) (hin : Cond.instanceMethod z.1 ∈ ab_T) (hnm : z.1.name = "<init>") (hcw : Cond.code z.1 bb nl none ∈ ab_T) (hst : st = As.reverse ++ .ref b :: rest) (hw : (rest.map fun v => v.category).sum ≤ 8) (kr : ∀ (v : Option Value) (h1 : List ab_E), Pz (.returned v) h1 → ab_V y R Po mc ms (cells + R1.cells) (slots + R1.slots) (pc + 3) lv (v.toList ++ rest) h1) (kt : ∀ (x : Nat) (h1 : List ab_E), Pz (.threw x) h1 → ab_U y R Po mc ms (cells + R1.cells) (slots + R1.slots) pc lv h1 x) : ab_V y R Po mc ms cells slots pc lv st h := by
  intro p l e s m args below meth c G H locs ls hX hI hl
  subst hst
  intro T hT X
  have hts := hX.2.2.2.2.1
  have hpl : e.platform.magicAccessors = ({} : Platform).magicAccessors := by rw [X.admits.platform]
  obtain ⟨mk, methM, cM, kP, vm₁, hnamed, hmethM, hcodeM, -, hlocalsM, -, hkP, -, hW₁, hstep₁⟩ := Steps.initColdArgsNest (e := e) X.here hX.1 X.warmed hpl hX.2.2.2.1 hnm hC.2.2.1 (hts _ hlk) (hts _ hin) (hts _ hcw) (f := F0 m pc ls ((As.reverse ++ .ref b :: rest).map (ab_v G))) rfl (argsL := As.map (ab_v G)) (rest := rest.map (ab_v G)) (a := G.1 + b) (by rw [List.length_map]; exact ab_psz hC.2.2.2.1) (by simp [ab_v]) (by rw [hX.2.1]; exact hd)
  exact ab_tail (av := .ref b :: As) hX hI hl hM hC hd hw hT (X.noted hW₁) hnamed hstep₁ kr kt
theorem ab_objInit {i a : Nat} {rest : List Value} (hd : decode y.2.1 pc = .ok (.invokespecial i, 3)) (hlk : Cond.methodLink y.1.cls i objectInit ∈ ab_T) (hin : Cond.instanceMethod objectInit ∈ ab_T) (hco : Cond.code objectInit ⟨#[0xb1]⟩ 1 none ∈ ab_T) (hf : 1 ≤ R.frames) (hlo : (rest.map fun v => v.category).sum + 12 ≤ R.locals) (k : ab_V y R Po mc ms cells slots (pc + 3) lv rest h) : ab_V y R Po mc ms cells slots pc lv (.ref a :: rest) h := by
  intro p l e s m args below meth c G H locs ls hX hI hl
  have hts := hX.2.2.2.2.1
  have hcat : (rest.map (ab_v G)).map (fun v => v.category) = rest.map (fun v => v.category) := by
    rw [List.map_map]
    exact List.map_congr_left (fun v _ => ab_cat G v)
  exact W.objInit hX.1 hX.2.1 hX.2.2.2.1 (hts _ hlk) (hts _ hin) (hts _ hco) rfl (hl.1.trans hX.2.2.1.symm) rfl hd hf (by show 2 * 0 + _ + 12 ≤ _; rw [hcat]; omega) (k p l e s m args below meth c G H locs ls hX hI hl)
end ABundle3
