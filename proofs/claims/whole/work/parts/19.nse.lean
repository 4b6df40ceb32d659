/-- what a throw whose class's first link is entry idx needs -/
def ab_lastA (own : String) (ic : Nat) (X : String) : List Cond := [.methodLink own ic (Bundle.initS X), .instantiable X 6, .castable X X, .selects X Bundle.tFill0 Bundle.tFill0, .selects X Bundle.tFill Bundle.tFill, .lays X Bundle.tN "cause" "Ljava/lang/Throwable;", .lays X Bundle.tN "stackTrace" Bundle.steD, .lays X Bundle.tN "suppressedExceptions" Bundle.listD, .lays X Bundle.tN "detailMessage" "Ljava/lang/String;", .isRef (.static Bundle.tN "UNASSIGNED_STACK" Bundle.steD), .isRef (.static Bundle.tN "SUPPRESSED_SENTINEL" Bundle.listD), .fieldLink Bundle.tN 198 Bundle.tN "backtrace" "Ljava/lang/Object;", .lays Bundle.tN Bundle.tN "backtrace" "Ljava/lang/Object;", .lays X Bundle.tN "backtrace" "Ljava/lang/Object;"]
def ab_nse (own : String) (ic : Nat) (X Y : String) (idx : Nat) (bytes : ByteArray) (names : List String) : List Cond :=
  Bundle.throwableAtoms ++ (Bundle.throwableSAtoms ++ (Bundle.passSAtoms X Y idx bytes ++ (Bundle.chainSAtoms Y names ++ ab_lastA own ic X)))
set_option maxHeartbeats 2000000 in
theorem ab_ctorThrow {p : Program} {l : Launch} {e : Env} {R : Room} {s : State} {m₀ : MethodId} {args : Array Value} {below : List Frame} {meth : Method} {c : Code} {W : State} {locs : List Loc} {cells slots : Nat}
    (X : Stand p l e R s m₀ args below meth c W locs cells slots) (hexec : p.tables.exec = Jvm.exec) (htr : e.platform.stackTraces = false) {own cls Y0 : String} {names : List String} {ic idx : Nat} {bytes : ByteArray}
    (hown : s.vm.findClass own = some m₀.cls) (hcls : Bundle.fit cls = true) (hY0 : Bundle.fit Y0 = true) (hnames : ∀ n ∈ names, Bundle.fit n = true)
    (b0 : decode bytes 0 = .ok (.aload_n 0, 1)) (b1 : decode bytes 1 = .ok (.aload_n 1, 1)) (b2 : decode bytes 2 = .ok (.invokespecial idx, 3)) (b5 : decode bytes 5 = .ok (.return_, 1))
    (h : ∀ a ∈ ab_nse own ic cls Y0 idx bytes names, a.before args s = true) (hlocs : locs = [])
    {a : Addr} {cX : ClassId} {kX : Class} (hfoundX : s.vm.findClass cls = some cX) (hkX : s.vm.classes[cX]? = some kX) (hcell : W.heap[a]? = some (freshCell cX kX)) (hnew : s.heap.size ≤ a)
    {msg : Value} (hmsg : msg.isRef = true)
    {g : JFrame} (hg : g.method = m₀) (hsize : g.locals.size = c.maxLocals) (hlocked : g.locked = none) (hentered : g.entered = []) {rest : List Value} (hstack : g.stack = msg :: .ref a :: .ref a :: rest)
    (hd6 : decode c.code g.pc = .ok (.invokespecial ic, 3)) (hd9 : decode c.code (g.pc + 3) = .ok (.athrow, 1)) (hout : ∀ x ∈ c.exceptionTable.toList, covers x (g.pc + 3) = false)
    (hRframes : names.length + 1 + 3 < R.frames) (hRlocals : 2 * g.monitorRoom + ((Value.ref a :: rest).map fun v => v.category).sum + (13 * (names.length + 1 + 1) + 42) ≤ R.locals) (hlocks : meth.locks = false) :
    ∃ U : State, Steps p.tables e below (W.setTop g) U ∧ U.status = .running ∧ Ended U below (.threw a) ∧ s.WarmedH U.vm ∧ s.sameButNew ({ U with vm := s.vm } : State) locs cells slots ∧
      ∃ ce, U.heap[a]? = some ce ∧ s.vm.findClass cls = some ce.cls ∧ ce.vm = .none := by
  subst hlocs
  have pl1 : e.platform.frameOwnsMonitors = true := by rw [X.admits.platform]
  have pl2 : e.platform.finalization = false := by rw [X.admits.platform]
  have pl3 : e.platform.magicAccessors = ({} : Platform).magicAccessors := by rw [X.admits.platform]
  have hA : ∀ x ∈ Bundle.throwableAtoms, x.before args s = true := fun x hx => h x (List.mem_append_left _ hx)
  have hB : ∀ x ∈ Bundle.throwableSAtoms, x.before args s = true := fun x hx => h x (List.mem_append_right _ (List.mem_append_left _ hx))
  have hC : ∀ x ∈ Bundle.passSAtoms cls Y0 idx bytes, x.before args s = true := fun x hx => h x (List.mem_append_right _ (List.mem_append_right _ (List.mem_append_left _ hx)))
  have hD : ∀ x ∈ Bundle.chainSAtoms Y0 names, x.before args s = true := fun x hx => h x (List.mem_append_right _ (List.mem_append_right _ (List.mem_append_right _ (List.mem_append_left _ hx))))
  have hE : ∀ x ∈ ab_lastA own ic cls, x.holds args s none s [] = true := fun x hx => h x (List.mem_append_right _ (List.mem_append_right _ (List.mem_append_right _ (List.mem_append_right _ hx))))
  obtain ⟨T, Z0, L, -, Y⟩ := ThrowableC.of_atoms (args := args) pl1 pl2 pl3 hA
  obtain ⟨Z, M, LZ, LM, hnZ⟩ := Init0T.ofS_atoms (args := args) pl3 L Y hB
  obtain ⟨P1, L1, hP1m, hP1s⟩ := PassC.ofS_atoms (args := args) (s := s) pl3 (X := cls) (Y := Y0) (Bundle.fit_spec hcls).1 (Bundle.fit_spec hY0).2 b0 b1 b2 b5 hC
  obtain ⟨P2, Ps, hlen, L2, hL, hP2m, hlink2, hlink⟩ := Bundle.chainS (args := args) pl3 hnZ names Y0 hY0 hnames hD
  have hlink1 : P1.sup = P2.m := Option.some.inj (hP1s.symm.trans hP2m)
  have hfound : s.vm.findClass cls = some P1.m.cls := findClass_of_methodNamed hP1m
  cases Option.some.inj (hfoundX.symm.trans hfound)
  obtain ⟨c1, kX', hc1, hk, hord, -, -, hn6⟩ := Cond.instantiable_spec (hE (.instantiable cls 6) (by simp [ab_lastA]))
  cases Option.some.inj (hc1.symm.trans hfound)
  cases Option.some.inj (hkX.symm.trans hk)
  have sel : ∀ (t : MethodName) (f : MethodId), s.methodNamed? t = some f → (Cond.selects cls t t) ∈ ab_lastA own ic cls → s.methodFound? t.cls t.name t.desc = some f → selectMethod e.platform s.vm P1.m.cls f = .method f := by
    intro t f hn hm hq
    obtain ⟨c2, r2, m2, q1, q2, q3, q4, -⟩ := Cond.selects_spec (hE _ hm)
    cases Option.some.inj (q1.symm.trans hfound)
    cases Option.some.inj (q2.symm.trans hq)
    cases Option.some.inj (q3.symm.trans hn)
    rw [Launch.admits_selectMethod X.admits]
    exact q4
  have hsel0 := sel Bundle.tFill0 T.fill0 Y.fill0 (by simp [ab_lastA]) (State.methodFound?_of_named Y.fill0 (by decide))
  have hselF := sel Bundle.tFill T.fill Y.fill (by simp [ab_lastA]) (State.methodFound?_of_named Y.fill (by decide))
  obtain ⟨cellS0, hcS0, hiss⟩ := Y.statics
  obtain ⟨u0, hu0⟩ := Cond.staticRefV Y.unassigned L.unassignedStatic L.statics hcS0 hiss (hE (.isRef (.static Bundle.tN "UNASSIGNED_STACK" Bundle.steD)) (by simp [ab_lastA]))
  obtain ⟨sen, hsen⟩ := Cond.staticRefV Y.sentinel L.sentinelStatic L.statics hcS0 hiss (hE (.isRef (.static Bundle.tN "SUPPRESSED_SENTINEL" Bundle.listD)) (by simp [ab_lastA]))
  obtain ⟨ci198, i198, fB, hk198, hg198, ha198, hsB, -, hnB, htB, hffB⟩ := Cond.ownField (t := .object "java/lang/Object") Y.found L.cls (by decide +kernel) (hE (.fieldLink Bundle.tN 198 Bundle.tN "backtrace" "Ljava/lang/Object;") (by simp [ab_lastA])) (hE (.lays Bundle.tN Bundle.tN "backtrace" "Ljava/lang/Object;") (by simp [ab_lastA])) e.platform pl3
  obtain ⟨cellS, hcS', heS, -, hkeep⟩ := X.same.2.2.2.2.2 T.aS cellS0 hcS0
  have hcellS : W.heap[T.aS]? = some cellS := hcS'
  have hknownS : cellS.vm ≠ .unknown := by
    rw [heS]
    intro hu
    rw [show cellS0.vm = .unknown from hu] at hiss
    cases hiss
  have hneS : T.aS ≠ a := Nat.ne_of_lt (Nat.lt_of_lt_of_le (Array.getElem?_eq_some_iff.mp hcS0).1 hnew)
  obtain ⟨iM, hffM⟩ := Y.msg
  obtain ⟨tyC, dC, hdC, hdnC⟩ := Cond.laysAt hfound hk Y.cause (hE (.lays cls Bundle.tN "cause" "Ljava/lang/Throwable;") (by simp [ab_lastA]))
  obtain ⟨tyS, dS, hdS, hdnS⟩ := Cond.laysAt hfound hk Y.stack (hE (.lays cls Bundle.tN "stackTrace" Bundle.steD) (by simp [ab_lastA]))
  obtain ⟨tyP, dP, hdP, hdnP⟩ := Cond.laysAt hfound hk Y.supp (hE (.lays cls Bundle.tN "suppressedExceptions" Bundle.listD) (by simp [ab_lastA]))
  obtain ⟨tyM, dM, hdM, hdnM⟩ := Cond.laysAt hfound hk hffM (hE (.lays cls Bundle.tN "detailMessage" "Ljava/lang/String;") (by simp [ab_lastA]))
  obtain ⟨tyB, dB, hdB, hdnB⟩ := Cond.laysAt hfound hk hffB (hE (.lays cls Bundle.tN "backtrace" "Ljava/lang/Object;") (by simp [ab_lastA]))
  have bC := Cond.laysApart hdB hdC hdnB hdnC (by rw [hnB, Y.causeName]; decide)
  have bS := Cond.laysApart hdB hdS hdnB hdnS (by rw [hnB, Y.stackName]; decide)
  have bP := Cond.laysApart hdB hdP hdnB hdnP (by rw [hnB, Y.suppName]; decide)
  have hskip : SkipFacts T e.platform s (fun u => u) u0 ((preparedCellV T.toThrowableT (freshCell P1.m.cls kX) a u0 sen).withEntry W.cur) := by
    refine ⟨{ ci198 := ci198, i198 := i198, fBack := fB }, ⟨hk198, hg198, ha198, hsB⟩, ?_, fun _ _ => rfl⟩
    have z := fresh_default (c := P1.m.cls) tyB
    rw [htB] at z
    simpa [preparedCellV, Cell.setSlot, Cell.withEntry, Array.getElem?_setIfInBounds, bC, bS, bP, bC.symm, bS.symm, bP.symm, defaultValue] using z
  obtain ⟨tm, methC, cdC, kC, vm₁, hnC, -, -, -, -, -, -, -, hW₁, st1⟩ := Steps.initColdS (tb := p.tables) (e := e) (below := below) (s := s) (U := W) X.here hexec X.warmed pl3 hown (t := Bundle.initS cls) rfl rfl (Bundle.fit_spec hcls).2
    (hE (.methodLink own ic (Bundle.initS cls)) (by simp [ab_lastA])) (hC (.instanceMethod (Bundle.initS cls)) (by simp [Bundle.passSAtoms])) (bytes := bytes) (maxL := 2) (hC (.code (Bundle.initS cls) bytes 2 none) (by simp [Bundle.passSAtoms]))
    (f := g) hg (a := a) (msg := msg) (rest := .ref a :: rest) hstack hd6
  cases Option.some.inj (hnC.symm.trans hP1m)
  have X₁ := X.noted hW₁
  obtain ⟨vm₂, X₂, st2⟩ := X₁.ctorMessageOffV hexec (g := { g with stack := .ref a :: rest }) hg hsize T L Z LZ M LM (P1 :: P2 :: Ps)
    (fun P hP => by
      rcases List.mem_cons.mp hP with rfl | hP
      · exact L1
      · rcases List.mem_cons.mp hP with rfl | hP
        · exact L2
        · exact hL P hP) ⟨hlink1, hlink2, hlink⟩ (u0 := u0) (sen := sen) (self := a) hmsg (cell := freshCell P1.m.cls kX) (cellS := cellS)
    hcell (fun _ => by simp) (by simp) rfl rfl hsel0 hselF hcellS hneS hknownS (by rw [hkeep _ (by simp)]; exact hu0) (by rw [hkeep _ (by simp)]; exact hsen)
    (Takes.of_laid hk hord tyC (by rw [Y.causeType]; rfl)) (Takes.of_laid hk hord tyS (by rw [Y.stackType]; exact fits_refV_array _ u0)) (Takes.of_laid hk hord tyP (by rw [Y.suppType]; exact fits_refV_object _ sen))
    (Takes.of_laid hk hord tyM (by rw [Y.msgType]; exact fits_refV_object _ ⟨msg, hmsg⟩)) Y.objLocals hskip htr [] hd6
    (by simp only [List.length_cons, hlen]; omega) (by simp only [List.length_cons, hlen]; exact hRlocals)
  obtain ⟨hwalk, hrun, hended, hWU, hsame⟩ := X₂.athrowLeaves hexec (g := { g with stack := .ref a :: rest, pc := g.pc + 3 }) hg hlocked hentered hout (a := a) (rest := rest) rfl hd9
  have hlt : a < ((W.setVm vm₁).setVm vm₂).heap.size := (Array.getElem?_eq_some_iff.mp hcell).1
  have hU := heapAt_setCell_self (s := (W.setVm vm₁).setVm vm₂) (plainBareV T.toThrowableT (freshCell P1.m.cls kX) a u0 sen msg) hlt
  refine ⟨_, st1 _ (fun acts => ?_), hrun, hended, hWU, hsame.weaken (fun y hy hlt' => ?_) (Nat.le_refl _) (Nat.le_refl _), _, hU, hfound, rfl⟩
  · rw [doInvoke_state]
    exact st2 _ hwalk
  · rcases List.mem_append.mp hy with h1 | h1
    · exact h1
    · exfalso
      have hb : y.base = a := by
        simp only [List.mem_cons, List.not_mem_nil, or_false] at h1
        rcases h1 with rfl | rfl | rfl | rfl | rfl <;> rfl
      rw [hb] at hlt'
      exact Nat.not_lt.mpr hnew hlt'
section ABundleN
variable {y z : ab_Y} {R R1 : Room} {Po Pz : Outcome → List ab_E → Prop} {mc ms cells slots pc : Nat} {lv : List (Option Value)} {st : List Value} {h : List ab_E}
set_option maxHeartbeats 2000000 in
theorem ab_throwN {i j ic ci idx : Nat} {EX EY : String} {bytes : ByteArray} {T0 : u_T} {names : List String} {q : String × Nat × String × Nat} {k0 : UInt32}
    (hd0 : decode y.2.1 pc = .ok (.new i, 3)) (hd1 : decode y.2.1 (pc + 3) = .ok (.dup, 1)) (hd2 : decode y.2.1 (pc + 3 + 1) = .ok (.ldc j, 2)) (hd3 : decode y.2.1 (pc + 3 + 1 + 2) = .ok (.invokespecial ic, 3)) (hd4 : decode y.2.1 (pc + 3 + 1 + 2 + 3) = .ok (.athrow, 1))
    (hc : ab_cl[ci]? = some (EX, T0, 0)) (hcl : Cond.classLink y.1.cls i EX ∈ ab_T) (hin : Cond.instantiable EX 6 ∈ ab_T) (hini : Cond.initialized EX ∈ ab_T) (hfx : Bundle.fit EX = true) (hfy : Bundle.fit EY = true) (hnm : ∀ n ∈ names, Bundle.fit n = true) (b0 : decode bytes 0 = .ok (.aload_n 0, 1)) (b1 : decode bytes 1 = .ok (.aload_n 1, 1)) (b2 : decode bytes 2 = .ok (.invokespecial idx, 3)) (b5 : decode bytes 5 = .ok (.return_, 1))
    (hat : ∀ a ∈ ab_nse y.1.cls ic EX EY idx bytes names, a ∈ ab_T ∨ a = .laysStatic Bundle.tN "UNASSIGNED_STACK" Bundle.steD ∨ a = .laysStatic Bundle.tN "SUPPRESSED_SENTINEL" Bundle.listD ∨ a = .isRef (.static Bundle.tN "UNASSIGNED_STACK" Bundle.steD) ∨ a = .isRef (.static Bundle.tN "SUPPRESSED_SENTINEL" Bundle.listD))
    (hq : q ∈ ab_cs) (h1 : q.1 = y.1.cls) (h2 : q.2.1 = j) (h3 : q.2.2.2 = k0.toNat)
    (hh : y.2.2.2.2.all (fun q => !(decide (q.1 ≤ pc + 3 + 1 + 2 + 3) && decide (pc + 3 + 1 + 2 + 3 < q.2.1))) = true) (hcs : cells + 1 ≤ R.cells) (hss : slots + 6 ≤ R.slots) (hmc : cells + 1 ≤ mc) (hms : slots + 6 ≤ ms) (hfr : names.length + 1 + 3 < R.frames) (hlo : (st.map fun v => v.category).sum + 1 + (13 * (names.length + 1 + 1) + 42) ≤ R.locals)
    (hp : Po (.threw h.length) (h ++ [.inr (ci, [])])) : ab_V y R Po mc ms cells slots pc lv st h := by
  intro p l e s m args below meth c G H locs ls hX hI hl
  intro T hT X
  have X' := ab_rebase X (by omega) (by omega)
  have hW' : s.WarmedH (ab_now T m args below).vm := X.warmed
  have hts' : ∀ w ∈ ab_T, w.before args (ab_now T m args below) = true := fun w hw => ab_warm hX.2.2.2.2.1 hW' hw
  have hk : ∀ q : Nat, q < G.1 → (ab_now T m args below).heap[q]? = s.heap[q]? := fun q hq => by
    show T.heap[q]? = _
    rw [hT]
    exact hI.2.2.2.2.1.2.1 q (Nat.lt_of_lt_of_le hq hI.1) (fun z => absurd z (Nat.not_le.mpr hq))
  have hCs : ab_Cs G (ab_now T m args below) := ab_Cs_moved hW' hk hI.2.2.2.2.2
  have hown' : (ab_now T m args below).vm.findClass y.1.cls = some m.cls := by rw [hW'.alike.findClass]; exact hX.2.2.2.1
  have hfX' : (ab_now T m args below).vm.findClass EX = some (G.2.2.2.1 ci) := by rw [hW'.alike.findClass]; exact (hI.2.2.1.1 ci _ hc).2.1
  have hr := hCs.2.1 q hq
  rw [h1, h2, h3] at hr
  have hcat : ((st.map (ab_v G)).map (fun v => v.category)).sum = (st.map (fun v => v.category)).sum := by
    rw [List.map_map]
    exact congrArg List.sum (List.map_congr_left (fun v _ => ab_cat G v))
  have hsz : (ab_now T m args below).heap.size = G.1 + h.length := by show T.heap.size = _; rw [hT]; exact hI.2.1
  have K : W p l e { frames := R.frames, cells := R.cells - cells, slots := R.slots - slots, locals := R.locals } (ab_now T m args below) m args below meth c H [] 0 0
      (fun t => t.status = .running ∧ Ended t below (.threw (G.1 + h.length)) ∧ (ab_now T m args below).WarmedH t.vm ∧ (ab_now T m args below).sameButNew ({ t with vm := (ab_now T m args below).vm } : State) [] 1 6 ∧ ∃ ce : Cell, t.heap[G.1 + h.length]? = some ce ∧ (ab_now T m args below).vm.findClass EX = some ce.cls ∧ ce.vm = .none) (F0 m pc ls (st.map (ab_v G))) := by
    refine W.newcK hX.1 hX.2.1 hown' (hts' _ hcl) (hts' _ hin) (hts' _ hini) rfl hd0 (by show 0 + 1 ≤ R.cells - cells; omega) (by show 0 + 6 ≤ R.slots - slots; omega) hfX' hI.2.1 fun H1 kC hkC e1 z1 o1 => ?_
    refine lv_dup hX.1 hX.2.1 hd1 rfl ?_
    refine va_ldcS hX.1 hX.2.1 hown' hr hd2 ?_
    intro T1 hT1 X1
    obtain ⟨U, d1, d2, d3, d4, d5, ce, d6, d7⟩ := ab_ctorThrow X1 hX.1 (ab_traces X1.admits hX.2.2.2.2.2.2.2.2.2) hown' hfx hfy hnm b0 b1 b2 b5 (fun a ha => by
        rcases hat a ha with z | z | z | z | z
        · exact hts' a z
        · rw [z]; exact ab_St_lays hCs.2.2.2.2.1
        · rw [z]; exact ab_St_lays hCs.2.2.2.2.2
        · rw [z]; exact ab_St_ref hCs.2.2.2.2.1
        · rw [z]; exact ab_St_ref hCs.2.2.2.2.2) rfl hfX' hkC (a := G.1 + h.length) (by rw [hT1]; exact e1) (Nat.le_of_eq hsz) (msg := .ref (G.2.1 k0.toNat)) rfl
      (g := F0 m (pc + 3 + 1 + 2) ls (.ref (G.2.1 k0.toNat) :: .ref (G.1 + h.length) :: .ref (G.1 + h.length) :: st.map (ab_v G))) rfl (hl.1.trans hX.2.2.1.symm) rfl rfl rfl (by rw [hX.2.1]; exact hd3) (by rw [hX.2.1]; exact hd4) (by
        intro x hx
        have z1 : (x.startPc, x.endPc, x.handlerPc, x.catchType) ∈ y.2.2.2.2 := by
          rw [← hX.2.2.2.2.2.2.2.2.1]
          exact List.mem_map.mpr ⟨x, hx, rfl⟩
        have z2 := List.all_eq_true.mp hh _ z1
        simp only [Bool.not_eq_true', Bool.and_eq_false_iff, decide_eq_false_iff_not] at z2
        simp only [covers, Bool.and_eq_false_iff, decide_eq_false_iff_not]
        exact z2) hfr (by show 2 * 0 + (1 + ((st.map (ab_v G)).map (fun v => v.category)).sum) + _ ≤ R.locals; rw [hcat]; omega) hX.2.2.2.2.2.2.1
    exact ⟨U, d1, d2, d3, d4, d5, ce, d6, d7⟩
  obtain ⟨t, a1, a2, a3, a4, a5, ce, a6, a7, a8⟩ := K T hT X'
  have hlt : G.1 + h.length < t.heap.size := (Array.getElem?_eq_some_iff.mp a6).1
  have hup : t.heap.size ≤ G.1 + h.length + 1 := by
    have := a5.2.2.1
    rw [hsz] at this
    exact this
  have hold : ∀ q : Nat, q < G.1 + h.length → t.heap[q]? = H[q]? := fun q hq => by
    have := ab_same a5 (q := q) (by rw [hsz]; exact hq)
    rw [← hT]
    exact this
  have hs2 : T.sameButNew ({ t with vm := T.vm } : State) [] 1 6 := by
    obtain ⟨e2, q2, q3, q4, q5, q6⟩ := a5
    refine ⟨?_, q2, q3, q4, q5, q6⟩
    have e3 : ({ t with vm := T.vm } : State) = { (ab_now T m args below).setFrames t.frames with heap := t.heap, slotsUsed := t.slotsUsed } := e2
    rw [show (ab_now T m args below).setFrames t.frames = T.setFrames t.frames from State.setFrames_setFrames _ _ _] at e3
    exact e3
  have hs3 := (X.same.trans (hs2.setVm s.vm)).mono hmc hms
  rw [List.append_nil] at hs3
  refine ⟨t, a1, .threw (G.1 + h.length), a2, a3, ⟨.threw h.length, h ++ [.inr (ci, [])], rfl, hp, by rw [List.length_append]; show _ = G.1 + (h.length + 1); omega, ?_, ?_, ?_⟩, State.WarmedH.trans X.warmed a4, locs, hs3, hI.2.2.2.2.1.2.2⟩
  · rw [ab_w_push]
    refine (hI.2.2.2.1.kept (fun k q hq => hold q.1 (by have := (hI.2.2.2.1 k q hq).lt; rw [hI.2.1] at this; exact this))).app (fun k q hq => ?_)
    have hz : k < 1 := (List.getElem?_eq_some_iff.mp hq).1
    rw [show k = 0 by omega] at hq
    cases hq
    exact ⟨_, hc, ce, a6, Option.some.inj (a7.symm.trans hfX'), a8, fun k hk => absurd hk (Nat.not_lt_zero _)⟩
  · have := hI.2.2.2.2.1.1
    rw [hI.2.1] at this
    omega
  · intro q hq
    rw [hold q (by omega)]
    exact hI.2.2.2.2.1.2.1 q (Nat.lt_of_lt_of_le hq hI.1) (fun z => absurd z (Nat.not_le.mpr hq))
end ABundleN
set_option maxRecDepth 20000 in
theorem ow_NSE : ∀ a ∈ ab_nse "WorldEngine" 198 "java/util/NoSuchElementException" "java/lang/RuntimeException" 13 prog_31_method_4_code ["java/lang/Exception"], a ∈ ab_T ∨ a = .laysStatic Bundle.tN "UNASSIGNED_STACK" Bundle.steD ∨ a = .laysStatic Bundle.tN "SUPPRESSED_SENTINEL" Bundle.listD ∨ a = .isRef (.static Bundle.tN "UNASSIGNED_STACK" Bundle.steD) ∨ a = .isRef (.static Bundle.tN "SUPPRESSED_SENTINEL" Bundle.listD) := List.forall_mem_cons.mpr ⟨Or.inl (k1 24 rfl rfl), List.forall_mem_cons.mpr ⟨Or.inl (k4 123 rfl rfl), List.forall_mem_cons.mpr ⟨Or.inl (k4 132 rfl rfl), List.forall_mem_cons.mpr ⟨Or.inl (k4 135 rfl rfl), List.forall_mem_cons.mpr ⟨Or.inl (k4 138 rfl rfl), List.forall_mem_cons.mpr ⟨Or.inl (k4 140 rfl rfl), List.forall_mem_cons.mpr ⟨Or.inl (k4 124 rfl rfl), List.forall_mem_cons.mpr ⟨Or.inl (k4 125 rfl rfl), List.forall_mem_cons.mpr ⟨Or.inl (k1 37 rfl rfl), List.forall_mem_cons.mpr ⟨Or.inl (k1 38 rfl rfl), List.forall_mem_cons.mpr ⟨Or.inl (k4 126 rfl rfl), List.forall_mem_cons.mpr ⟨Or.inl (k4 131 rfl rfl), List.forall_mem_cons.mpr ⟨Or.inl (k4 136 rfl rfl), List.forall_mem_cons.mpr ⟨Or.inl (k4 156 rfl rfl), List.forall_mem_cons.mpr ⟨Or.inl (k4 113 rfl rfl), List.forall_mem_cons.mpr ⟨Or.inl (k4 157 rfl rfl), List.forall_mem_cons.mpr ⟨Or.inl (k4 115 rfl rfl), List.forall_mem_cons.mpr ⟨Or.inl (k4 158 rfl rfl), List.forall_mem_cons.mpr ⟨Or.inl (k4 117 rfl rfl), List.forall_mem_cons.mpr ⟨Or.inl (k4 127 rfl rfl), List.forall_mem_cons.mpr ⟨Or.inr (Or.inl rfl), List.forall_mem_cons.mpr ⟨Or.inl (k4 129 rfl rfl), List.forall_mem_cons.mpr ⟨Or.inr (Or.inr (Or.inl rfl)), List.forall_mem_cons.mpr ⟨Or.inl (k4 119 rfl rfl), List.forall_mem_cons.mpr ⟨Or.inl (k4 152 rfl rfl), List.forall_mem_cons.mpr ⟨Or.inl (k4 153 rfl rfl), List.forall_mem_cons.mpr ⟨Or.inl (k4 155 rfl rfl), List.forall_mem_cons.mpr ⟨Or.inl (k4 119 rfl rfl), List.forall_mem_cons.mpr ⟨Or.inl (k8 133 rfl rfl), List.forall_mem_cons.mpr ⟨Or.inl (k8 134 rfl rfl), List.forall_mem_cons.mpr ⟨Or.inl (k8 135 rfl rfl), List.forall_mem_cons.mpr ⟨Or.inl (k4 146 rfl rfl), List.forall_mem_cons.mpr ⟨Or.inl (k4 105 rfl rfl), List.forall_mem_cons.mpr ⟨Or.inl (k4 146 rfl rfl), List.forall_mem_cons.mpr ⟨Or.inl (k4 147 rfl rfl), List.forall_mem_cons.mpr ⟨Or.inl (k4 148 rfl rfl), List.forall_mem_cons.mpr ⟨Or.inl (k4 149 rfl rfl), List.forall_mem_cons.mpr ⟨Or.inl (k4 107 rfl rfl), List.forall_mem_cons.mpr ⟨Or.inl (k4 149 rfl rfl), List.forall_mem_cons.mpr ⟨Or.inl (k4 150 rfl rfl), List.forall_mem_cons.mpr ⟨Or.inl (k4 151 rfl rfl), List.forall_mem_cons.mpr ⟨Or.inl (k4 152 rfl rfl), List.forall_mem_cons.mpr ⟨Or.inl (k4 109 rfl rfl), List.forall_mem_cons.mpr ⟨Or.inl (k8 132 rfl rfl), List.forall_mem_cons.mpr ⟨Or.inl (k8 123 rfl rfl), List.forall_mem_cons.mpr ⟨Or.inl (k8 124 rfl rfl), List.forall_mem_cons.mpr ⟨Or.inl (k8 125 rfl rfl), List.forall_mem_cons.mpr ⟨Or.inl (k4 134 rfl rfl), List.forall_mem_cons.mpr ⟨Or.inl (k8 126 rfl rfl), List.forall_mem_cons.mpr ⟨Or.inl (k8 127 rfl rfl), List.forall_mem_cons.mpr ⟨Or.inl (k8 128 rfl rfl), List.forall_mem_cons.mpr ⟨Or.inl (k8 129 rfl rfl), List.forall_mem_cons.mpr ⟨Or.inr (Or.inr (Or.inr (Or.inl rfl))), List.forall_mem_cons.mpr ⟨Or.inr (Or.inr (Or.inr (Or.inr rfl))), List.forall_mem_cons.mpr ⟨Or.inl (k4 122 rfl rfl), List.forall_mem_cons.mpr ⟨Or.inl (k4 121 rfl rfl), List.forall_mem_cons.mpr ⟨Or.inl (k8 130 rfl rfl), fun _ h => absurd h List.not_mem_nil⟩⟩⟩⟩⟩⟩⟩⟩⟩⟩⟩⟩⟩⟩⟩⟩⟩⟩⟩⟩⟩⟩⟩⟩⟩⟩⟩⟩⟩⟩⟩⟩⟩⟩⟩⟩⟩⟩⟩⟩⟩⟩⟩⟩⟩⟩⟩⟩⟩⟩⟩⟩⟩⟩⟩⟩⟩
theorem nse_0 : decode prog_31_method_4_code 0 = .ok (.aload_n 0, 1) := by decide +kernel
theorem nse_1 : decode prog_31_method_4_code 1 = .ok (.aload_n 1, 1) := by decide +kernel
theorem nse_2 : decode prog_31_method_4_code 2 = .ok (.invokespecial 13, 3) := by decide +kernel
theorem nse_5 : decode prog_31_method_4_code 5 = .ok (.return_, 1) := by decide +kernel
theorem hp_throwN {y : ab_Y} {R : Room} {Po : Outcome → List ab_E → Prop} {mc ms cells slots pc : Nat} {lv : List (Option Value)} {st : List Value} {H : Hp} {i j ic ci idx : Nat} {EX EY : String} {bytes : ByteArray} {T0 : u_T} {names : List String} {q : String × Nat × String × Nat} {k0 : UInt32}
    (hd0 : decode y.2.1 pc = .ok (.new i, 3)) (hd1 : decode y.2.1 (pc + 3) = .ok (.dup, 1)) (hd2 : decode y.2.1 (pc + 3 + 1) = .ok (.ldc j, 2)) (hd3 : decode y.2.1 (pc + 3 + 1 + 2) = .ok (.invokespecial ic, 3)) (hd4 : decode y.2.1 (pc + 3 + 1 + 2 + 3) = .ok (.athrow, 1))
    (hc : ab_cl[ci]? = some (EX, T0, 0)) (hcl : Cond.classLink y.1.cls i EX ∈ ab_T) (hin : Cond.instantiable EX 6 ∈ ab_T) (hini : Cond.initialized EX ∈ ab_T) (hfx : Bundle.fit EX = true) (hfy : Bundle.fit EY = true) (hnm : ∀ n ∈ names, Bundle.fit n = true) (b0 : decode bytes 0 = .ok (.aload_n 0, 1)) (b1 : decode bytes 1 = .ok (.aload_n 1, 1)) (b2 : decode bytes 2 = .ok (.invokespecial idx, 3)) (b5 : decode bytes 5 = .ok (.return_, 1))
    (hat : ∀ a ∈ ab_nse y.1.cls ic EX EY idx bytes names, a ∈ ab_T ∨ a = .laysStatic Bundle.tN "UNASSIGNED_STACK" Bundle.steD ∨ a = .laysStatic Bundle.tN "SUPPRESSED_SENTINEL" Bundle.listD ∨ a = .isRef (.static Bundle.tN "UNASSIGNED_STACK" Bundle.steD) ∨ a = .isRef (.static Bundle.tN "SUPPRESSED_SENTINEL" Bundle.listD))
    (hq : q ∈ ab_cs) (h1 : q.1 = y.1.cls) (h2 : q.2.1 = j) (h3 : q.2.2.2 = k0.toNat)
    (hh : y.2.2.2.2.all (fun q => !(decide (q.1 ≤ pc + 3 + 1 + 2 + 3) && decide (pc + 3 + 1 + 2 + 3 < q.2.1))) = true) (hcs : cells + 1 ≤ R.cells) (hss : slots + 6 ≤ R.slots) (hmc : cells + 1 ≤ mc) (hms : slots + 6 ≤ ms) (hfr : names.length + 1 + 3 < R.frames) (hlo : (st.map fun v => v.category).sum + 1 + (13 * (names.length + 1 + 1) + 42) ≤ R.locals)
    (hci : ci < 100) (hk : kd ci = []) (hp : Po (.threw H.sh.length) (hpw (H.nx (ci, 0) 6))) : ab_V y R Po mc ms cells slots pc lv st (hpw H) := by
  refine ab_throwN hd0 hd1 hd2 hd3 hd4 hc hcl hin hini hfx hfy hnm b0 b1 b2 b5 hat hq h1 h2 h3 hh hcs hss hmc hms hfr hlo ?_
  rw [hpw_len]
  have e : hpw (H.nx (ci, 0) 6) = hpw H ++ [.inr (ci, [])] := by
    refine hpw_app rfl (fun x t hx => hp_nx_o) ?_
    rw [hp_cell_obj hci, hk]
    rfl
  rw [← e]
  exact hp
