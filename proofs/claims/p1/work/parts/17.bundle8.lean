section ABundle8
variable {y z : ab_Y} {R R1 : Room} {Po Pz : Outcome → List ab_E → Prop} {mc ms cells slots pc : Nat} {lv : List (Option Value)} {st : List Value} {h : List ab_E}
theorem ab_go_cold {E : CtlPost} {e : Env} {d : Bool} {acts : List Action} {s : State} {f : JFrame} {a : Addr} {Q : Handler → Pre} {x : ExceptionTableEntry} {t : List ExceptionTableEntry} {c : ClassId} {cell : Cell} {vm1 : Vm} (hx : covers x f.pc = true) (h0 : x.catchType ≠ 0)
    (hg : (resolveClass f.method.cls x.catchType).Gives e.toSetting s.vm (.ok c) vm1) (hsz : vm1.classes.size ≤ s.vm.classes.size) (hcell : s.heap[a]? = some cell) (hobj : ∀ k, cell.vm ≠ .statics k)
    (hk : ∃ k, vm1.classes[cell.cls]? = some k) (hc : ∃ k, vm1.classes[c]? = some k) (hfit : vm1.assignable cell.cls c = true) :
    wp (findHandler.go f a (x :: t)) Q E e d acts s ↔ Q (.found x.handlerPc) d acts (s.setVm vm1) := by
  simp only [covers] at hx
  obtain ⟨ha, ht⟩ := hg.op (op := VmOp.resolveClass f.method.cls x.catchType) rfl
  simp [findHandler.go, hx, h0, ha, ht, hsz, hcell, hobj, hk, hc, hfit, VmOp.dirties, VmOp.acts]
theorem ab_step_cold {e : Env} {s : State} {a : Addr} {f : JFrame} {r : List Frame} {pc : Nat} {vm1 : Vm} (hfind : ∀ (Q : Handler → Pre) (E : CtlPost) (d : Bool) (acts : List Action), wp (findHandler f a) Q E e d acts s ↔ Q (.found pc) d acts (s.setVm vm1)) :
    (stepThrowing e s a (.java f :: r)).Is ((s.setVm vm1).setFrames (.java { f with pc := pc, stack := [.ref a] } :: r)) [] := by
  simp only [stepThrowing, searchFrame, vmDo]
  generalize hr : Sem.go _ e false [] s = res
  obtain ⟨as, rfl, ha⟩ := Sem.eq_ok_of hr (a := Handler.found pc) (s' := s.setVm vm1) (acts' := []) (by simp [hfind _ _ _ _])
  exact ⟨rfl, ha⟩
theorem ab_caught {tb : Tables} {e : Env} {s target : State} {g : JFrame} {c : Code} {below : List Frame} {a : Addr} {vm1 : Vm} (hA : At s g.method c below) {pc : Nat}
    (hfind : ∀ (Q : Handler → Pre) (E : CtlPost) (d : Bool) (acts : List Action), wp (findHandler g a) Q E e d acts ((s.setTop g).pushFrame (.throwing a)) ↔ Q (.found pc) d acts (((s.setTop g).pushFrame (.throwing a)).setVm vm1))
    (hrest : Steps tb e below ((s.setVm vm1).setTop { g with pc := pc, stack := [.ref a] }) target) :
    Steps tb e below ((s.setTop g).pushFrame (.throwing a)) target := by
  obtain ⟨hgo, hw⟩ := hA.throwing a
  refine Steps.head hgo hw ?_
  rw [stepThread_throwing (frames_entered hA.top _), (ab_step_cold hfind).1]
  obtain ⟨g₀, hg⟩ := Option.isSome_iff_exists.mp hA.top
  obtain ⟨r, hr⟩ := State.topJava?_eq_some.mp hg
  have hr1 : (s.setVm vm1).frames = .java g₀ :: r := hr
  rw [State.setTop_of_frames _ hr1] at hrest
  have e1 : ((((s.setTop g).pushFrame (.throwing a)).setVm vm1).setFrames (.java { g with pc := pc, stack := [.ref a] } :: s.frames.tail)) = (s.setVm vm1).setFrames (.java { g with pc := pc, stack := [.ref a] } :: r) := by
    rw [State.pushFrame, State.setTop_of_frames _ hr, State.setFrames_setFrames, hr]
    show ((s.setFrames _).setVm vm1).setFrames _ = _
    exact State.setFrames_setFrames (s.setVm vm1) _ _
  rw [e1]
  exact hrest
set_option maxHeartbeats 1000000 in
theorem ab_U_catch {x ci hpc ct st0 en : Nat} {EX : String} {T0 : u_T} {fs : List Value} (hh : y.2.2.2.2 = [(st0, en, hpc, ct)]) (hcov : (decide (st0 ≤ pc) && decide (pc < en)) = true) (hct : ct ≠ 0) (hcl : Cond.classLink y.1.cls ct EX ∈ ab_T) (hx : h[x]? = some (.inr (ci, fs))) (hc : ab_cl[ci]? = some (EX, T0, 0))
    (k : ab_V y R Po mc ms cells slots hpc lv [.ref x] h) : ab_U y R Po mc ms cells slots pc lv h x := by
  intro p l e s m args below meth c G H locs ls sc hX hI hl T hT X
  have hpl : e.platform.magicAccessors = ({} : Platform).magicAccessors := by rw [X.admits.platform]
  obtain ⟨cE, hfE, hlk⟩ := Cond.classLink_spec hX.2.2.2.1 (hX.2.2.2.2.1 _ hcl) e.platform hpl
  obtain ⟨hg1, hwarm1, hready1⟩ := State.classEntry (e := e) X.warmed hlk
  have hKn := hI.2.2.1.1 ci _ hc
  have hcE : cE = G.2.2.2.1 ci := Option.some.inj (hfE.symm.trans hKn.2.1)
  subst hcE
  obtain ⟨r1, h1, cell, q1, q2, q3, q4⟩ := hI.2.2.2.1 x _ (ab_w_get hx)
  have hr : r1 = (EX, T0, 0) := Option.some.inj (h1.symm.trans hc)
  subst hr
  have hsz : (T.vm.noted m.cls ct (.cls (G.2.2.2.1 ci))).classes.size ≤ T.vm.classes.size := by no_record
  generalize hv1 : T.vm.noted m.cls ct (.cls (G.2.2.2.1 ci)) = vm1 at hg1 hwarm1 hready1 hsz
  have hCA : ClassAt (T.setVm vm1) EX (G.2.2.2.1 ci) := classAt_moved (E := T.setVm vm1) hwarm1.alike hKn.2
  have hfit : vm1.assignable (G.2.2.2.1 ci) (G.2.2.2.1 ci) = true := va_assign (s := T.setVm vm1) hCA
  obtain ⟨-, kE, hkE, -⟩ := hCA
  have X1 := X.noted hwarm1
  obtain ⟨t, a1, a2⟩ := k p l e s m args below meth c G H locs ls hX hI hl (T.setVm vm1) hT X1
  refine ⟨t, ?_, a2⟩
  obtain ⟨q, hq⟩ : ∃ q : ExceptionTableEntry, c.exceptionTable.toList = [q] ∧ (q.startPc, q.endPc, q.handlerPc, q.catchType) = (st0, en, hpc, ct) := by
    have h2 := hX.2.2.2.2.2.2.2.2.1
    rw [hh] at h2
    cases hL : c.exceptionTable.toList with
    | nil => rw [hL] at h2; cases h2
    | cons q0 rest =>
      cases rest with
      | nil => rw [hL] at h2; exact ⟨q0, rfl, (List.cons.inj h2).1⟩
      | cons _ _ => rw [hL] at h2; cases h2
  obtain ⟨hq1, hq2⟩ := hq
  cases hq2
  refine ab_caught (vm1 := vm1) (g := F0 m pc ls sc) X.here (fun Q E d acts => ?_) a1
  have hm : ((T.setTop (F0 m pc ls sc)).pushFrame (.throwing (G.1 + x))).vm.method? (F0 m pc ls sc).method = some meth := X.method'
  rw [W.findHandler_eq hm X.code, hq1]
  exact ab_go_cold (f := F0 m pc ls sc) (s := (T.setTop (F0 m pc ls sc)).pushFrame (.throwing (G.1 + x))) hcov hct hg1 hsz (cell := cell) (by show T.heap[G.1 + x]? = _; rw [hT]; exact q1) (fun k hk => by rw [q3] at hk; cases hk) ⟨kE, by rw [q2]; exact hkE⟩ ⟨kE, hkE⟩ (by rw [q2]; exact hfit)
end ABundle8
