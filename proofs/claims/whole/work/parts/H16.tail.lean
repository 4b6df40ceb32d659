def lw_P (b : Addr) (xs : List Int32) (args : Array Value) (s : State) : Prop := args = #[.ref b] ∧ s.IntsAt b xs ∧ xs.length ≤ 3073 ∧ (Jvm.Cond.and given_1 narrow_1).before args s = true
def lw_Q (_ : Array Value) (s : State) (o : Outcome) (t : State) : Prop := o = .returned (some (.int 1)) ∧ Framed s o t [] 601024 7292999
/-- the law ends with true; nothing old is written -/
theorem lw_fin {below : List Frame} {G : ab_G} {args : Array Value} {s t : State} (hG : G.1 = s.heap.size) (h : ab_Z below G (fun o _ => o = .returned (some (.int 1))) args s room_1.cells room_1.slots t) : ∃ o, t.status = .running ∧ Ended t below o ∧ lw_Q args s o t := by
  obtain ⟨o, h1, h2, ⟨o', hh, ho, hp, -, -, -, -⟩, hW, L, hsame, hL⟩ := h
  subst hp
  have ho' : o = .returned (some (.int 1)) := ho
  subst ho'
  refine ⟨_, h1, h2, rfl, ⟨_, rfl⟩, hW, ?_⟩
  exact hsame.weaken (fun y hy hlt => absurd hlt (Nat.not_lt.mpr (by rw [← hG]; exact hL y hy))) (Nat.le_refl _) (Nat.le_refl _)
set_option maxHeartbeats 4000000 in
theorem lw_walk (l : Launch) (hfl : l.stackTraces = false) (b : Addr) (xs : List Int32) : MetFree l x (headSpec (Jvm.Cond.code x code maxLocals ret :: tables_1) room_1) (lw_P b xs) (fun _ _ _ _ _ => True) lw_Q := by
  refine MetFree.of_bodyS (code := code) (maxLocals := maxLocals) (ret := ret) (by decide) ?_ ?_
  · intro args s m h hn
    obtain ⟨meth, c, h1, h2, h3, h4, h5, h6, -, -⟩ := Cond.code_spec hn (atoms_spec (ws := Jvm.Cond.code x code maxLocals ret :: tables_1) h _ List.mem_cons_self)
    exact ⟨meth, c, h1, h2, h3, h4, h5, h6⟩
  · intro p e s m args below meth c s₁ B hml0 hP _
    obtain ⟨rfl, hx, hbd, hgv⟩ := hP
    obtain ⟨scr, harrAt, hlist, hof, hsmall⟩ := hx
    obtain ⟨hcb, hkn, -, -⟩ := State.arrayAt?_spec harrAt
    have hts0 : ∀ c ∈ (Jvm.Cond.code x code maxLocals ret :: tables_1), c.before #[Value.ref b] s = true := atoms_spec (ws := Jvm.Cond.code x code maxLocals ret :: tables_1) B.pre
    have hts : ∀ w ∈ lw_tbl, w.before #[Value.ref b] s = true := k2_hts_sels lw_privs (fun w hw => hts0 w (List.mem_cons_of_mem _ hw)) lw_privs_ok
    have hml : c.maxLocals = 7 := B.maxLocals_eq (hts0 _ List.mem_cons_self)
    have X₀ : Stand p l e room_1 s m #[Value.ref b] below meth c s₁ [] 0 0 := Stand.of_body B
    have hh0 : s₁.heap = s.heap := by rw [B.state]; rfl
    have hsz : scr.slots.size = xs.length := by rw [← Array.length_toList, hlist, List.length_map]
    have hval : ∀ j : Nat, j < xs.length → scr.slots[j]? = some (.int (xs.getD j 0)) := fun j hj => by
      rw [← Array.getElem?_toList, hlist]
      simp [hj]
    have hbl : b < s.heap.size := (Array.getElem?_eq_some_iff.mp hcb).1
    have hX : va_X b xs.length (fun j => xs.getD j 0) s s.heap := ⟨scr, hcb, hof, hkn, hsz, hval⟩
    obtain ⟨meth', c', h1, h2, -, -, -, -, h7, -⟩ := ab_cw_spec (y := y_Law) B.named (hts0 _ List.mem_cons_self)
    cases B.method.symm.trans h1
    cases X₀.code.symm.trans h2
    have hbox : ab_X y_Law p l s m #[Value.ref b] meth c := ⟨B.exec, B.bytes, hml, findClass_of_methodNamed B.named, fun w hw => hts w (List.mem_filter.mp hw).1, B.returns, B.notSynchronized, (name_of_methodNamed B.named B.method).1, h7, hfl⟩
    obtain ⟨G, hG1, hb3, hK, hCs⟩ := law_start (b := b) hts hgv
    subst hb3
    have hKs : pw_K G xs.length (fun j => xs.getD j 0) s := ⟨by rw [hG1]; exact hbl, hX⟩
    have hI : ab_In G s [] s.heap [] := ⟨Nat.le_of_eq hG1, by rw [hG1]; rfl, hK, (fun k q h => by cases h), va_S.rf, hCs⟩
    have K : W p l e room_1 s m #[Value.ref (G.2.1 300)] below meth c s.heap [] 0 0 (ab_Z below G (fun o _ => o = .returned (some (.int 1))) #[Value.ref (G.2.1 300)] s room_1.cells room_1.slots) (entryFrame m ([Value.ref (G.2.1 300)] : List Value).toArray 7) := by
      have hl := lv_entry (([.float 300] : List Value).map (ab_v G)) (n := 7) (by rw [ab_sl_len]; decide)
      show W p l e room_1 s m _ below meth c s.heap [] 0 0 _ (entryFrame m (([.float 300] : List Value).map (ab_v G)).toArray 7)
      rw [lg_entry_eq]
      generalize (lg_sl (([.float 300] : List Value).map (ab_v G)) ++ List.replicate (7 - (lg_sl (([.float 300] : List Value).map (ab_v G))).length) Slot.unset).toArray = ls at hl ⊢
      have hl2 : lv_has ls 7 (ab_l G (ab_in [.float 300])) := ab_l_mono hl (fun q hq => by
        obtain ⟨u, h1, h2⟩ := ab_l_mem.mp hq
        have := ab_in_ok G [.float 300] 0 q.1 u h1
        rw [Nat.zero_add, ← h2] at this
        exact this)
      have hsub : pw_V p l e s m #[Value.ref (G.2.1 300)] below meth c G y_Law room_1 (fun o _ => o = .returned (some (.int 1))) room_1.cells room_1.slots 0 0 0 (ab_in [.float 300]) [] [] := by
        refine pw_sub hbox (lv' := [some (.float 300), none, none, none, none, none, none]) (fun i v hv => ?_) (law_body hbox hKs hbd)
        match i, hv with
        | 0, hv => exact hv
        | 1, hv => exact nomatch (show some (none : Option Value) = some (some v) from hv)
        | 2, hv => exact nomatch (show some (none : Option Value) = some (some v) from hv)
        | 3, hv => exact nomatch (show some (none : Option Value) = some (some v) from hv)
        | 4, hv => exact nomatch (show some (none : Option Value) = some (some v) from hv)
        | 5, hv => exact nomatch (show some (none : Option Value) = some (some v) from hv)
        | 6, hv => exact nomatch (show some (none : Option Value) = some (some v) from hv)
        | k + 7, hv => exact nomatch (show (none : Option (Option Value)) = some (some v) from hv)
      exact hsub s.heap [] ls hI hl2
    obtain ⟨t, a1, hz⟩ := K s₁ hh0 X₀
    obtain ⟨o, b1, b2, b3⟩ := lw_fin hG1 hz
    exact ⟨t, o, a1, b1, b2, b3⟩
theorem lw_pre_spec {args : Array Value} {s : State} (h : (Jvm.Cond.and given_1 narrow_1).before args s = true) (hr : rest_1_c.before args s = true) : ∃ (b : Addr) (xs : List Int32), lw_P b xs args s := by
  have hs := flat_of_before _ h
  have hq := flat_of_before _ hr
  have hc : (Cond.count 1).before args s = true := hs _ (by decide +kernel)
  have harr : (Cond.arrayOf (.arg 0) .int).before args s = true := hs _ (by decide +kernel)
  have hle : (Cond.le (.length (.arg 0)) (.int 3073)).before args s = true := hs _ (by decide +kernel)
  have hlen : (Cond.isInt (.length (.arg 0))).before args s = true := hq _ (by decide +kernel)
  have hall : (Cond.all (.arg 0) (.isInt (.elem (.arg 0) (.index 0)))).before args s = true := hq _ (by decide +kernel)
  obtain ⟨b, xs, hb, hx⟩ := State.ints_of_pre rfl harr hlen hall
  have hsm : xs.length < 2 ^ 31 := hx.choose_spec.2.2.2
  have hev : (Term.length (.arg 0)).eval args s none [] s = some (.int xs.length.toInt32) := hx.length_eval hb
  have hv := Cond.le_ints hev (show (Term.int 3073).eval args s none [] s = some (.int 3073) from rfl)
  have hd : xs.length.toInt32 ≤ 3073 := by
    simpa [Cond.before, Cond.holds, hv] using hle
  have hN : xs.length ≤ 3073 := (Int32.ofNat_le_ofNat hsm (by decide)).mp (show Int32.ofNat xs.length ≤ Int32.ofNat 3073 from hd)
  exact ⟨b, xs, Cond.one_arg hc (show args[0]? = some (.ref b) from hb), hx, hN, h⟩
theorem lw_comes (l : Launch) (hfl : l.stackTraces = false) : Comes l x (Jvm.Cond.code x code maxLocals ret :: tables_1) room_1 (fun tb e args s => Calls_1 tb e args s ∧ rest_1 tb e args s ∧ Pre_1 tb e args s)
    (fun _ _ args s o t => lw_Q args s o t) := by
  intro p e ha hc hk s m args below hf hfit hheap happ hpre
  obtain ⟨b, xs, hP⟩ := lw_pre_spec hpre.2.2 hpre.2.1
  obtain ⟨k, o, h1, h2, h3, hQ⟩ := lw_walk l hfl b xs p e ha hc hk s m args below hf ((Spec.applies_iff_loose hf).mp happ).1 hP trivial
  exact ⟨k, o, h1, h2, h3, hQ⟩
theorem lw_frame {s t : State} {o : Outcome} {args : Array Value} (h : Framed s o t [] 601024 7292999) :
    Framed s o t (fieldLocs frame_1_writes args s ++ arrayLocs frame_1_arrays args s ++ staticLocs frame_1_statics s) 601024 7292999 := h
theorem lw_limb (L : Cond) (hL : ∀ (args : Array Value) (s t : State), L.after args s (.returned (some (.int 1))) t = true) :
    ArmFor flags0 classFile x code maxLocals ret World_1 tables_1 room_1 Calls_1 rest_1 Pre_1
      (fun tb e a s o t => postC L tb e a s o t ∧ Framed s o t (fieldLocs frame_1_writes a s ++ arrayLocs frame_1_arrays a s ++ staticLocs frame_1_statics s) 601024 7292999) := by
  intro l hfl0 _ _ p e ha hc hk s m args below hf hfit hheap happ hpre
  have hfl : l.stackTraces = false := by
    unfold Launch.stackTraces
    rw [hfl0]
    decide
  obtain ⟨k, o, h1, h2, h3, rfl, hF⟩ := lw_comes l hfl p e ha hc hk s m args below hf hfit hheap happ hpre
  exact ⟨k, _, h1, h2, h3, hL args s _, lw_frame hF⟩
theorem i_vc : Claimed_1_1 ∧ Claimed_1_2 := ⟨lw_limb limb_1_1 (fun args s t => by simp [limb_1_1, Cond.after, Cond.holds, Cond.value]), lw_limb limb_1_2 (fun args s t => Cond.after_iff.mpr (by
  first | (rw [show limb_1_2 = Cond.eq .result (.int 1) from rfl, Cond.eq_ints (x := 1) (y := 1) rfl rfl]; simp; done) | (simp [limb_1_2, Cond.value, Term.eval]; done)))⟩
