section PW
variable {p : Program} {l : Launch} {e : Env} {s : State} {m : MethodId} {args : Array Value} {below : List Frame} {meth : Method} {c : Code} {G : ab_G} {y z : ab_Y} {R R1 : Room} {Po Pz : Outcome → List ab_E → Prop} {mc ms cells slots pc n sL : Nat} {sxs : Nat → Int32} {lv : List (Option Value)} {st : List Value} {h : List ab_E}
/-- the script, of which the constant 300 tells the place, stands below the base -/
def pw_K (G : ab_G) (sL : Nat) (sxs : Nat → Int32) (U : State) : Prop := G.2.1 300 < G.1 ∧ va_X (G.2.1 300) sL sxs U U.heap
/-- a contract at one base, where the script may be read -/
def pw_M (G : ab_G) (sL : Nat) (sxs : Nat → Int32) (y : ab_Y) (R : Room) (av : List Value) (h : List ab_E) (Po : Outcome → List ab_E → Prop) : Prop :=
  ∀ (l : Launch), l.stackTraces = false → MetFree l y.1 (headSpec (ab_cw y :: ab_T) R) (va_Pc (av.map (ab_v G)) (fun U => ab_B G h U ∧ pw_K G sL sxs U)) (fun _ _ _ _ _ => True)
    (fun a st o t => ab_Q G Po a st o t ∧ st.WarmedH t.vm ∧ ∃ L, st.sameButNew ({ t with vm := st.vm } : State) L R.cells R.slots ∧ ∀ q ∈ L, G.1 ≤ q.base)
theorem pw_ofM {av : List Value} (k : ab_M y R av h Po) : pw_M G sL sxs y R av h Po := by
  intro l hfl p e ha hc hk s m args below hf happ hP hK
  exact k l G hfl p e ha hc hk s m args below hf happ ⟨hP.1, hP.2.1⟩ hK
/-- the judgement at one context -/
def pw_V (p : Program) (l : Launch) (e : Env) (s : State) (m : MethodId) (args : Array Value) (below : List Frame) (meth : Method) (c : Code) (G : ab_G) (y : ab_Y) (R : Room) (Po : Outcome → List ab_E → Prop) (mc ms cells slots pc : Nat) (lv : List (Option Value)) (st : List Value) (h : List ab_E) : Prop :=
  ∀ (H : Heap) (locs : List Loc) (ls : Array Slot), ab_In G s h H locs → lv_has ls y.2.2.1 (ab_l G lv) →
    W p l e R s m args below meth c H locs cells slots (ab_Z below G Po args s mc ms) (F0 m pc ls (st.map (ab_v G)))
/-- fewer locals -/
theorem pw_sub (hX : ab_X y p l s m args meth c) {lv' : List (Option Value)} (hs : ∀ (i : Nat) (v : Value), lv'[i]? = some (some v) → lv[i]? = some (some v)) (k : pw_V p l e s m args below meth c G y R Po mc ms cells slots pc lv' st h) : pw_V p l e s m args below meth c G y R Po mc ms cells slots pc lv st h := by
  intro H locs ls hI hl
  exact k H locs ls hI (ab_l_mono hl (fun q hq => by
    obtain ⟨u, h1, h2⟩ := ab_l_mem.mp hq
    exact ab_l_mem.mpr ⟨u, hs q.1 u h1, h2⟩))
theorem pw_widen (hX : ab_X y p l s m args meth c) {cells' slots' : Nat} (h1 : cells ≤ cells') (h2 : slots ≤ slots') (k : pw_V p l e s m args below meth c G y R Po mc ms cells' slots' pc lv st h) : pw_V p l e s m args below meth c G y R Po mc ms cells slots pc lv st h := by
  intro H locs ls hI hl
  exact W.widen h1 h2 (k H locs ls hI hl)
theorem pw_lift (hX : ab_X y p l s m args meth c) {pc' : Nat} {st' : List Value}
    (f : ∀ (G : ab_G) {p : Program} {l : Launch} {e : Env} {s : State} {m : MethodId} {args : Array Value} {below : List Frame} {meth : Method} {c : Code} {H : Heap} {locs : List Loc} {Q : State → Prop} {ls : Array Slot}, p.tables.exec = Jvm.exec → c.code = y.2.1 → W p l e R s m args below meth c H locs cells slots Q (F0 m pc' ls (st'.map (ab_v G))) → W p l e R s m args below meth c H locs cells slots Q (F0 m pc ls (st.map (ab_v G))))
    (k : pw_V p l e s m args below meth c G y R Po mc ms cells slots pc' lv st' h) : pw_V p l e s m args below meth c G y R Po mc ms cells slots pc lv st h := by
  intro H locs ls hI hl
  exact f G hX.1 hX.2.1 (k H locs ls hI hl)

theorem pw_iadd (hX : ab_X y p l s m args meth c) {x z : Int32} (hd : decode y.2.1 pc = .ok (.iadd, 1)) (k : pw_V p l e s m args below meth c G y R Po mc ms cells slots (pc + 1) lv (.int (x + z) :: st) h) : pw_V p l e s m args below meth c G y R Po mc ms cells slots pc lv (.int z :: .int x :: st) h := pw_lift hX (fun _ _ _ _ _ _ _ _ _ _ _ _ _ _ hx hb k => lv_iadd hx hb hd k) k
theorem pw_isub (hX : ab_X y p l s m args meth c) {x z : Int32} (hd : decode y.2.1 pc = .ok (.isub, 1)) (k : pw_V p l e s m args below meth c G y R Po mc ms cells slots (pc + 1) lv (.int (x - z) :: st) h) : pw_V p l e s m args below meth c G y R Po mc ms cells slots pc lv (.int z :: .int x :: st) h := pw_lift hX (fun _ _ _ _ _ _ _ _ _ _ _ _ _ _ hx hb k => lv_isub hx hb hd k) k
theorem pw_iand (hX : ab_X y p l s m args meth c) {x z : Int32} (hd : decode y.2.1 pc = .ok (.iand, 1)) (k : pw_V p l e s m args below meth c G y R Po mc ms cells slots (pc + 1) lv (.int (x &&& z) :: st) h) : pw_V p l e s m args below meth c G y R Po mc ms cells slots pc lv (.int z :: .int x :: st) h := pw_lift hX (fun _ _ _ _ _ _ _ _ _ _ _ _ _ _ hx hb k => lv_iand hx hb hd k) k
theorem pw_iconst (hX : ab_X y p l s m args meth c) {n : Int} {v : Int32} (hd : decode y.2.1 pc = .ok (.iconst n, 1)) (hv : Int32.ofInt n = v) (k : pw_V p l e s m args below meth c G y R Po mc ms cells slots (pc + 1) lv (.int v :: st) h) : pw_V p l e s m args below meth c G y R Po mc ms cells slots pc lv st h := pw_lift hX (fun _ _ _ _ _ _ _ _ _ _ _ _ _ _ hx hb k => lv_iconst hx hb hd hv k) k
theorem pw_bipush (hX : ab_X y p l s m args meth c) {n : Int} {v : Int32} (hd : decode y.2.1 pc = .ok (.bipush n, 2)) (hv : (Int8.ofInt n).toInt32 = v) (k : pw_V p l e s m args below meth c G y R Po mc ms cells slots (pc + 2) lv (.int v :: st) h) : pw_V p l e s m args below meth c G y R Po mc ms cells slots pc lv st h := pw_lift hX (fun _ _ _ _ _ _ _ _ _ _ _ _ _ _ hx hb k => lv_bipush hx hb hd hv k) k
theorem pw_dup (hX : ab_X y p l s m args meth c) {va : Value} (hd : decode y.2.1 pc = .ok (.dup, 1)) (h1 : va.category = 1) (k : pw_V p l e s m args below meth c G y R Po mc ms cells slots (pc + 1) lv (va :: va :: st) h) : pw_V p l e s m args below meth c G y R Po mc ms cells slots pc lv (va :: st) h := pw_lift hX (fun G _ _ _ _ _ _ _ _ _ _ _ _ _ hx hb k => lv_dup hx hb hd ((ab_cat G va).trans h1) k) k
theorem pw_if_eq (hX : ab_X y p l s m args meth c) {x : Int32} {off : Int} {tgt : Nat} (hd : decode y.2.1 pc = .ok (.ifCond .eq off, 3)) (ht : (pc : Int) + off = (tgt : Int)) (kt : x = 0 → pw_V p l e s m args below meth c G y R Po mc ms cells slots tgt lv st h) (kf : ¬ x = 0 → pw_V p l e s m args below meth c G y R Po mc ms cells slots (pc + 3) lv st h) : pw_V p l e s m args below meth c G y R Po mc ms cells slots pc lv (.int x :: st) h := by
  intro H locs ls hI hl
  exact lv_if_eq hX.1 hX.2.1 hd ht (fun q => kt q H locs ls hI hl) (fun q => kf q H locs ls hI hl)
theorem pw_if_ne (hX : ab_X y p l s m args meth c) {x : Int32} {off : Int} {tgt : Nat} (hd : decode y.2.1 pc = .ok (.ifCond .ne off, 3)) (ht : (pc : Int) + off = (tgt : Int)) (kt : ¬ x = 0 → pw_V p l e s m args below meth c G y R Po mc ms cells slots tgt lv st h) (kf : x = 0 → pw_V p l e s m args below meth c G y R Po mc ms cells slots (pc + 3) lv st h) : pw_V p l e s m args below meth c G y R Po mc ms cells slots pc lv (.int x :: st) h := by
  intro H locs ls hI hl
  exact lv_if_ne hX.1 hX.2.1 hd ht (fun q => kt q H locs ls hI hl) (fun q => kf q H locs ls hI hl)
theorem pw_if_lt (hX : ab_X y p l s m args meth c) {x : Int32} {off : Int} {tgt : Nat} (hd : decode y.2.1 pc = .ok (.ifCond .lt off, 3)) (ht : (pc : Int) + off = (tgt : Int)) (kt : x < 0 → pw_V p l e s m args below meth c G y R Po mc ms cells slots tgt lv st h) (kf : ¬ x < 0 → pw_V p l e s m args below meth c G y R Po mc ms cells slots (pc + 3) lv st h) : pw_V p l e s m args below meth c G y R Po mc ms cells slots pc lv (.int x :: st) h := by
  intro H locs ls hI hl
  exact lv_if_lt hX.1 hX.2.1 hd ht (fun q => kt q H locs ls hI hl) (fun q => kf q H locs ls hI hl)
theorem pw_icmp_eq (hX : ab_X y p l s m args meth c) {x z : Int32} {off : Int} {tgt : Nat} (hd : decode y.2.1 pc = .ok (.if_icmp .eq off, 3)) (ht : (pc : Int) + off = (tgt : Int)) (kt : x = z → pw_V p l e s m args below meth c G y R Po mc ms cells slots tgt lv st h) (kf : ¬ x = z → pw_V p l e s m args below meth c G y R Po mc ms cells slots (pc + 3) lv st h) : pw_V p l e s m args below meth c G y R Po mc ms cells slots pc lv (.int z :: .int x :: st) h := by
  intro H locs ls hI hl
  exact lv_icmp_eq hX.1 hX.2.1 hd ht (fun q => kt q H locs ls hI hl) (fun q => kf q H locs ls hI hl)
theorem pw_icmp_gt (hX : ab_X y p l s m args meth c) {x z : Int32} {off : Int} {tgt : Nat} (hd : decode y.2.1 pc = .ok (.if_icmp .gt off, 3)) (ht : (pc : Int) + off = (tgt : Int)) (kt : z < x → pw_V p l e s m args below meth c G y R Po mc ms cells slots tgt lv st h) (kf : ¬ z < x → pw_V p l e s m args below meth c G y R Po mc ms cells slots (pc + 3) lv st h) : pw_V p l e s m args below meth c G y R Po mc ms cells slots pc lv (.int z :: .int x :: st) h := by
  intro H locs ls hI hl
  exact lv_icmp_gt hX.1 hX.2.1 hd ht (fun q => kt q H locs ls hI hl) (fun q => kf q H locs ls hI hl)
theorem pw_icmp_ge (hX : ab_X y p l s m args meth c) {x z : Int32} {off : Int} {tgt : Nat} (hd : decode y.2.1 pc = .ok (.if_icmp .ge off, 3)) (ht : (pc : Int) + off = (tgt : Int)) (kt : z ≤ x → pw_V p l e s m args below meth c G y R Po mc ms cells slots tgt lv st h) (kf : ¬ z ≤ x → pw_V p l e s m args below meth c G y R Po mc ms cells slots (pc + 3) lv st h) : pw_V p l e s m args below meth c G y R Po mc ms cells slots pc lv (.int z :: .int x :: st) h := by
  intro H locs ls hI hl
  exact lv_icmp_ge hX.1 hX.2.1 hd ht (fun q => kt q H locs ls hI hl) (fun q => kf q H locs ls hI hl)
theorem pw_goto (hX : ab_X y p l s m args meth c) {off : Int} {tgt : Nat} (hd : decode y.2.1 pc = .ok (.goto off, 3)) (ht : (pc : Int) + off = (tgt : Int)) (k : pw_V p l e s m args below meth c G y R Po mc ms cells slots tgt lv st h) : pw_V p l e s m args below meth c G y R Po mc ms cells slots pc lv st h := pw_lift hX (fun _ _ _ _ _ _ _ _ _ _ _ _ _ _ hx hb k => lv_goto hx hb hd ht k) k
theorem pw_tableIn (hX : ab_X y p l s m args meth c) {dflt lo hi : Int} {offs : Array Int} {len : Nat} {x : Int32} {off : Int} {tgt : Nat} (hd : decode y.2.1 pc = .ok (.tableswitch dflt lo hi offs, len)) (h1 : ¬ x.toInt < lo) (h2 : ¬ hi < x.toInt) (ho : offs[(x.toInt - lo).toNat]? = some off) (ht : (pc : Int) + off = (tgt : Int)) (k : pw_V p l e s m args below meth c G y R Po mc ms cells slots tgt lv st h) : pw_V p l e s m args below meth c G y R Po mc ms cells slots pc lv (.int x :: st) h := pw_lift hX (fun _ _ _ _ _ _ _ _ _ _ _ _ _ _ hx hb k => lv_tableIn hx hb hd h1 h2 ho ht k) k
theorem pw_tableOut (hX : ab_X y p l s m args meth c) {dflt lo hi : Int} {offs : Array Int} {len : Nat} {x : Int32} {tgt : Nat} (hd : decode y.2.1 pc = .ok (.tableswitch dflt lo hi offs, len)) (h1 : x.toInt < lo ∨ hi < x.toInt) (ht : (pc : Int) + dflt = (tgt : Int)) (k : pw_V p l e s m args below meth c G y R Po mc ms cells slots tgt lv st h) : pw_V p l e s m args below meth c G y R Po mc ms cells slots pc lv (.int x :: st) h := pw_lift hX (fun _ _ _ _ _ _ _ _ _ _ _ _ _ _ hx hb k => lv_tableOut hx hb hd h1 ht k) k
theorem pw_iload_n (hX : ab_X y p l s m args meth c) {j : Fin 4} {i : Nat} {x : Int32} (hd : decode y.2.1 pc = .ok (.iload_n j, 1)) (hi : (j : Nat) = i) (hv : lv[i]? = some (some (.int x))) (k : pw_V p l e s m args below meth c G y R Po mc ms cells slots (pc + 1) lv (.int x :: st) h) : pw_V p l e s m args below meth c G y R Po mc ms cells slots pc lv st h := by
  intro H locs ls hI hl
  exact lv_iload_n hX.1 hX.2.1 hd hi (ab_l_at hl hv) (k H locs ls hI hl)
theorem pw_iload (hX : ab_X y p l s m args meth c) {i : Nat} {x : Int32} (hd : decode y.2.1 pc = .ok (.iload i, 2)) (hv : lv[i]? = some (some (.int x))) (k : pw_V p l e s m args below meth c G y R Po mc ms cells slots (pc + 2) lv (.int x :: st) h) : pw_V p l e s m args below meth c G y R Po mc ms cells slots pc lv st h := by
  intro H locs ls hI hl
  exact lv_iload hX.1 hX.2.1 hd (ab_l_at hl hv) (k H locs ls hI hl)
theorem pw_aload_n (hX : ab_X y p l s m args meth c) {j : Fin 4} {i : Nat} {v : Value} (hd : decode y.2.1 pc = .ok (.aload_n j, 1)) (hi : (j : Nat) = i) (hv : lv[i]? = some (some v)) (hr : ab_ir v = true) (k : pw_V p l e s m args below meth c G y R Po mc ms cells slots (pc + 1) lv (v :: st) h) : pw_V p l e s m args below meth c G y R Po mc ms cells slots pc lv st h := by
  intro H locs ls hI hl
  have k1 := k H locs ls hI hl
  have h1 := ab_l_at hl hv
  cases v with
  | ref a => exact lv_aload_n hX.1 hX.2.1 hd hi h1 k1
  | null => exact lv_aload_nN hX.1 hX.2.1 hd hi h1 k1
  | float q => exact lv_aload_n hX.1 hX.2.1 hd hi h1 k1
  | _ => cases hr
theorem pw_aload (hX : ab_X y p l s m args meth c) {i : Nat} {v : Value} (hd : decode y.2.1 pc = .ok (.aload i, 2)) (hv : lv[i]? = some (some v)) (hr : ab_ir v = true) (k : pw_V p l e s m args below meth c G y R Po mc ms cells slots (pc + 2) lv (v :: st) h) : pw_V p l e s m args below meth c G y R Po mc ms cells slots pc lv st h := by
  intro H locs ls hI hl
  have k1 := k H locs ls hI hl
  have h1 := ab_l_at hl hv
  cases v with
  | ref a => exact lv_aload hX.1 hX.2.1 hd h1 k1
  | null => exact lv_aloadN hX.1 hX.2.1 hd h1 k1
  | float q => exact lv_aload hX.1 hX.2.1 hd h1 k1
  | _ => cases hr
theorem pw_astore_n (hX : ab_X y p l s m args meth c) {j : Fin 4} {i : Nat} {v : Value} {lv' : List (Option Value)} (hd : decode y.2.1 pc = .ok (.astore_n j, 1)) (hi : (j : Nat) = i) (hn : i < y.2.2.1) (hr : ab_ir v = true) (he : ab_s1 i v lv = lv') (k : pw_V p l e s m args below meth c G y R Po mc ms cells slots (pc + 1) lv' st h) : pw_V p l e s m args below meth c G y R Po mc ms cells slots pc lv (v :: st) h := by
  subst he
  intro H locs ls hI hl
  have k1 : ∀ ls' : Array Slot, lv_has ls' y.2.2.1 ((i, ab_v G v) :: (ab_l G lv).filter (fun q => !(q.1 == i) && !(q.1 + 1 == i && q.2.category == 2))) → _ := fun ls' hl' => k H locs ls' hI (ab_l_mono hl' (fun q hq => ab_s1_ok hq))
  cases v with
  | ref a => exact lv_astore_n hX.1 hX.2.1 hd hi hl hn rfl k1
  | null => exact lv_astore_nN hX.1 hX.2.1 hd hi hl hn rfl k1
  | float q => exact lv_astore_n hX.1 hX.2.1 hd hi hl hn rfl k1
  | _ => cases hr
theorem pw_istore (hX : ab_X y p l s m args meth c) {i : Nat} {x : Int32} {lv' : List (Option Value)} (hd : decode y.2.1 pc = .ok (.istore i, 2)) (hn : i < y.2.2.1) (he : ab_s1 i (.int x) lv = lv') (k : pw_V p l e s m args below meth c G y R Po mc ms cells slots (pc + 2) lv' st h) : pw_V p l e s m args below meth c G y R Po mc ms cells slots pc lv (.int x :: st) h := by
  subst he
  intro H locs ls hI hl
  exact lv_istore hX.1 hX.2.1 hd hl hn rfl (fun ls' hl' => k H locs ls' hI (ab_l_mono hl' (fun q hq => ab_s1_ok hq)))
theorem pw_iinc (hX : ab_X y p l s m args meth c) {i : Nat} {n : Int} {x v : Int32} {lv' : List (Option Value)} (hd : decode y.2.1 pc = .ok (.iinc i n, 3)) (hx : lv[i]? = some (some (.int x))) (hv : x + Int32.ofInt n = v) (hn : i < y.2.2.1) (he : ab_s1 i (.int v) lv = lv') (k : pw_V p l e s m args below meth c G y R Po mc ms cells slots (pc + 3) lv' st h) : pw_V p l e s m args below meth c G y R Po mc ms cells slots pc lv st h := by
  subst he
  intro H locs ls hI hl
  obtain ⟨j, hj⟩ := List.getElem?_of_mem (ab_l_mem.mpr ⟨_, hx, rfl⟩ : (i, ab_v G (.int x)) ∈ ab_l G lv)
  exact lv_iinc hX.1 hX.2.1 hd hl hj hv hn rfl (fun ls' hl' => k H locs ls' hI (ab_l_mono hl' (fun q hq => ab_s1_ok hq)))
theorem pw_new (hX : ab_X y p l s m args meth c) {i ci : Nat} {r : vw_C} {fs : List Value} (hd : decode y.2.1 pc = .ok (.new i, 3)) (hc : ab_cl[ci]? = some r) (hcl : Cond.classLink y.1.cls i r.1 ∈ ab_T) (hinst : Cond.instantiable r.1 r.2.2 ∈ ab_T) (hini : Cond.initialized r.1 ∈ ab_T)
    (hfs : (List.range r.2.2).map (fun j => defaultValue (ab_tyof r j)) = fs) (hpl : fs.all ab_plain = true) (hcells : cells + 1 ≤ R.cells) (hslots : slots + r.2.2 ≤ R.slots)
    (k : pw_V p l e s m args below meth c G y R Po mc ms (cells + 1) (slots + r.2.2) (pc + 3) lv (.ref h.length :: st) (h ++ [.inr (ci, fs)])) : pw_V p l e s m args below meth c G y R Po mc ms cells slots pc lv st h := by
  intro H locs ls hI hl
  have hts := hX.2.2.2.2.1
  have hKn := hI.2.2.1.1 ci _ hc
  refine W.newcK hX.1 hX.2.1 hX.2.2.2.1 (hts _ hcl) (hts _ hinst) (hts _ hini) rfl hd hcells hslots hKn.2.1 hI.2.1 fun H1 kC hkC e1 z1 o1 => ?_
  refine k H1 locs ls (ab_new_In hI ?_ (by rw [z1, hI.2.1]) (fun q hq => o1 q (by rw [← hI.2.1]; exact hq))) hl
  refine ⟨_, hc, (u_born (ab_tyof r) hts (ab_clin ci r hc) hKn hkC e1 (ab_clty ci r hc)).to (fun j hj => ?_)⟩
  subst hfs
  have hj' : defaultValue (ab_tyof r j) ∈ (List.range r.2.2).map (fun j => defaultValue (ab_tyof r j)) := List.mem_map.mpr ⟨j, List.mem_range.mpr hj, rfl⟩
  have hp := List.all_eq_true.mp hpl _ hj'
  simp [vp_V, hj, ab_plain_v hp]
theorem pw_newa (hX : ab_X y p l s m args meth c) {aty : ArrayType} {ty : FieldType} {n : Int32} {N : Nat} (hd : decode y.2.1 pc = .ok (.newarray aty, 2)) (hty : newarray.typeOf aty = ty) (hw : Cond.arrayClass ty ∈ ab_T) (ht : ty ∈ ab_tyl) (hk : ty = .int ∨ ty = .byte ∨ ty = .boolean ∨ ty = .char ∨ ty = .long) (hn : ¬ n < 0) (hN : n.toNatClampNeg = N) (hby : N * componentBytes ty ≤ 536870912) (hcells : cells + 1 ≤ R.cells) (hslots : slots + N ≤ R.slots)
    (k : pw_V p l e s m args below meth c G y R Po mc ms (cells + 1) (slots + N) (pc + 2) lv (.ref h.length :: st) (h ++ [.inl (ty, N, ab_zero ty)])) : pw_V p l e s m args below meth c G y R Po mc ms cells slots pc lv (.int n :: st) h := by
  subst hty
  intro H locs ls hI hl
  refine va_newaK hX.1 hX.2.1 (hX.2.2.2.2.1 _ hw) rfl hd rfl hn hN hby hcells hslots hI.2.1 fun H1 cA e1 z1 o1 hA hf => ?_
  have hcA : cA = G.2.2.1 (newarray.typeOf aty) := by
    have h2 := (ab_arr hI.2.2.1 ht).2
    have h3 : s.vm.findClass ("[" ++ (newarray.typeOf aty).toString) = some (G.2.2.1 (newarray.typeOf aty)) := by
      rcases hk with q | q | q | q | q <;> (rw [q] at h2 ⊢; exact h2)
    exact Option.some.inj (hf.symm.trans h3)
  subst hcA
  refine k H1 locs ls (ab_new_In hI ?_ (by rw [z1, hI.2.1]) (fun q hq => o1 q (by rw [← hI.2.1]; exact hq))) hl
  show H1[G.1 + h.length]? = some (vp_cell _ _)
  rw [e1]
  rcases hk with q | q | q | q | q <;> rw [q] <;> rfl
theorem pw_iret (hX : ab_X y p l s m args meth c) {v : Int32} (hd : decode y.2.1 pc = .ok (.ireturn, 1)) (hr : y.2.2.2.1 = some .int) (hc : cells ≤ mc) (hs : slots ≤ ms) (hp : Po (.returned (some (.int v))) h) : pw_V p l e s m args below meth c G y R Po mc ms cells slots pc lv [.int v] h := by
  intro H locs ls hI hl
  exact ab_ofMQ (W.widen hc hs (W.iret (v := v) hX.1 hX.2.1 (hX.2.2.2.2.2.1.trans hr) (fun t ht _ => ab_end (o := .returned (some (.int v))) hI ht rfl hp) hI.2.2.2.2.1.2.2 hd hX.2.2.2.2.2.2.1))
theorem pw_zret (hX : ab_X y p l s m args meth c) {v : Int32} {ty : FieldType} (hd : decode y.2.1 pc = .ok (.ireturn, 1)) (hr : y.2.2.2.1 = some ty) (hn : narrow ty (.int v) = .int v) (hc : cells ≤ mc) (hs : slots ≤ ms) (hp : Po (.returned (some (.int v))) h) : pw_V p l e s m args below meth c G y R Po mc ms cells slots pc lv [.int v] h := by
  intro H locs ls hI hl
  exact ab_ofMQ (W.widen hc hs (W.zret (v := v) hX.1 hX.2.1 (hX.2.2.2.2.2.1.trans hr) hn (fun t ht _ => ab_end (o := .returned (some (.int v))) hI ht rfl hp) hI.2.2.2.2.1.2.2 hd hX.2.2.2.2.2.2.1))
set_option maxHeartbeats 2000000 in
theorem pw_invoke {p : Program} {l : Launch} {e : Env} {s : State} {m : MethodId} {args : Array Value} {below : List Frame} {meth : Method} {c : Code} {U : State} {locs : List Loc} {av : List Value} {G : ab_G} (hM : pw_M G sL sxs z R1 av h Pz) (X : Stand p l e R s m args below meth c U locs cells slots)
    {g : JFrame} {ig : Instr} {len : Nat} {mk : MethodId} (hg : g.method = m) (hsize : g.locals.size = c.maxLocals) (hdg : decode c.code g.pc = .ok (ig, len)) (hW : 2 * g.monitorRoom + (g.stack.map fun v => v.category).sum ≤ 8) (hn : U.methodNamed? z.1 = some mk)
    (hws : ∀ w ∈ ab_cw z :: ab_T, w.before (av.map (ab_v G)).toArray U = true) (hini : (Cond.initialized z.1.cls).before (av.map (ab_v G)).toArray U = true) (hfr : R1.frames + 1 ≤ R.frames) (hlo : 8 + (z.2.2.1 + 11) + R1.locals ≤ R.locals) (hcs : cells + R1.cells ≤ R.cells) (hss : slots + R1.slots ≤ R.slots) (hB : ab_B G h U) (hfl : l.stackTraces = false) (hKU : pw_K G sL sxs U) :
    ∃ (o : Outcome) (h1 : List ab_E) (T1 : State) (L : List Loc), Pz o h1 ∧ Stand p l e R s m args below meth c T1 (locs ++ L) (cells + R1.cells) (slots + R1.slots) ∧ (∀ q ∈ L, G.1 ≤ q.base) ∧ T1.heap.size = G.1 + h1.length ∧ va_P G.2.2.2 ab_cl (ab_w G h1) T1.heap ∧ U.heap.size ≤ T1.heap.size ∧ (∀ q : Nat, q < G.1 → T1.heap[q]? = U.heap[q]?) ∧
      (∀ v, o = .returned v → Steps p.tables e below (doInvoke e (U.setTop g) [] mk (av.map (ab_v G)).toArray).1 (T1.setTop { g with pc := g.pc + len, stack := (v.map (ab_v G)).toList ++ g.stack })) ∧
      (∀ x, o = .threw x → Steps p.tables e below (doInvoke e (U.setTop g) [] mk (av.map (ab_v G)).toArray).1 ((T1.setTop g).pushFrame (.throwing (G.1 + x)))) := by
  obtain ⟨methY, cY, hmY, hcY, -, hlY, -, -, -, -⟩ := ab_cw_spec hn (hws _ List.mem_cons_self)
  obtain ⟨kY, hkY, -⟩ := className_of_methodNamed hn
  have hinitY : kY.init = .initialized := Cond.initialized_spec (findClass_of_methodNamed hn) hkY hini
  have hAt : At U g.method c below := by rw [hg]; exact X.here
  have happ : (headSpec (ab_cw z :: ab_T) R1).appliesLoose z.1 e.platform (U.calling g mk (av.map (ab_v G)).toArray) = true :=
    Spec.appliesLoose_calling (g := g) hAt hdg hn hkY hinitY
      (X.room_calling (g := g) (R' := R1) hsize hmY hcY hfr (by rw [hlY]; omega) hcs hss) (atoms_intro hws)
  obtain ⟨mid, hmid⟩ := hAt.above
  have hfr2 : (U.setTop g).frames = (.java g :: mid) ++ below := by rw [State.frames_setTop' g hAt.top, hmid]; rfl
  have hB1 : ab_B G h (U.calling g mk (av.map (ab_v G)).toArray) := ⟨hB.1, va_K.moved (u := U) (U := U.calling g mk (av.map (ab_v G)).toArray) (Vm.Alike.refl U.vm) hB.2.1, hB.2.2.1, ab_Cs_moved (u := U) (U := U.calling g mk (av.map (ab_v G)).toArray) (State.WarmedH.refl U) (fun q hq => rfl) hB.2.2.2⟩
  obtain ⟨o, s₂, hsteps, -, hend, hq⟩ := Steps.callFree (hM l hfl) p X.admits X.cas X.clock (acts := []) hfr2 happ ⟨rfl, hB1, hKU.1, va_X.moved (u := U) (U := U.calling g mk (av.map (ab_v G)).toArray) (Vm.Alike.refl U.vm) hKU.2⟩ trivial
  rw [State.frames_setTop' g hAt.top] at hend
  have hq' : ab_Q G Pz (av.map (ab_v G)).toArray (U.calling g mk (av.map (ab_v G)).toArray) o s₂ ∧ (U.calling g mk (av.map (ab_v G)).toArray).WarmedH s₂.vm ∧ ∃ L, (U.calling g mk (av.map (ab_v G)).toArray).sameButNew ({ s₂ with vm := (U.calling g mk (av.map (ab_v G)).toArray).vm } : State) L R1.cells R1.slots ∧ ∀ q ∈ L, G.1 ≤ q.base := hq
  obtain ⟨⟨o1, h1, ho, hp, hz, hP, hle, hfrm⟩, hW₂, L, ⟨e2, q2, q3, q4, q5, q6⟩, hL⟩ := hq'
  have e3 : s₂ = ({ (U.calling g mk (av.map (ab_v G)).toArray).setFrames s₂.frames with heap := s₂.heap, slotsUsed := s₂.slotsUsed } : State).setVm s₂.vm := by
    have : s₂ = ({ s₂ with vm := (U.calling g mk (av.map (ab_v G)).toArray).vm } : State).setVm s₂.vm := rfl
    rw [e2] at this
    exact this
  have hW' : U.WarmedH s₂.vm := hW₂
  obtain ⟨g₀, hg0⟩ := Option.isSome_iff_exists.mp hAt.top
  obtain ⟨r, hr⟩ := State.topJava?_eq_some.mp hg0
  have hsame : U.sameButNew ({ U with heap := s₂.heap, slotsUsed := s₂.slotsUsed } : State) L R1.cells R1.slots := by
    refine ⟨?_, q2, q3, q4, q5, q6⟩
    obtain ⟨t, ht, -⟩ := State.frames_cons hr
    show ({ U with heap := s₂.heap, slotsUsed := s₂.slotsUsed } : State) = { U.setFrames U.frames with heap := s₂.heap, slotsUsed := s₂.slotsUsed }
    rw [State.setFrames_self ht]
  have hr' : (({ U with heap := s₂.heap, slotsUsed := s₂.slotsUsed } : State).setVm s₂.vm).frames = .java g₀ :: r := hr
  subst hg
  refine ⟨o1, h1, (({ U with heap := s₂.heap, slotsUsed := s₂.slotsUsed } : State).setVm s₂.vm), L, hp,
    ⟨X.admits, X.cas, X.clock, X.frames, X.room, X.hears, X.method, X.code, (X.here.setHeapUsed s₂.heap s₂.slotsUsed).setVm hW'.alike, X.tail, State.WarmedH.trans X.warmed hW', X.limits, X.bytes, X.same.trans (hsame.setVm s.vm)⟩,
    hL, hz, hP, hle, hfrm, ?_, ?_⟩
  · intro v hv
    subst hv
    have ho' : o = .returned (v.map (ab_v G)) := ho
    subst ho'
    obtain ⟨c₂, i₂, len₂, hc₂, hd₂, hf₂⟩ := hend
    have hcc : c₂ = c := by
      have h1 : s₂.code? g.method = U.code? g.method := by
        rw [State.code?_eq, State.code?_eq, hW'.alike.method?]
      exact Option.some.inj (hc₂.symm.trans (h1.trans hAt.code))
    subst hcc
    have hlen : len₂ = len := by rw [hdg] at hd₂; cases hd₂; rfl
    subst hlen
    have hs₂ : s₂ = (({ U with heap := s₂.heap, slotsUsed := s₂.slotsUsed } : State).setVm s₂.vm).setTop { g with pc := g.pc + len₂, stack := (v.map (ab_v G)).toList ++ g.stack } := by
      refine e3.trans ?_
      rw [hf₂, State.calling_eq hAt.top, State.setFrames_setFrames, State.setTop_of_frames _ hr', hr]
      rfl
    rw [← hs₂]
    exact hsteps
  · intro x hx
    subst hx
    have ho' : o = .threw (G.1 + x) := ho
    subst ho'
    have hf₂ : s₂.frames = .throwing (G.1 + x) :: .java g :: U.frames.tail := hend
    have hs₂ : s₂ = ((({ U with heap := s₂.heap, slotsUsed := s₂.slotsUsed } : State).setVm s₂.vm).setTop g).pushFrame (.throwing (G.1 + x)) := by
      refine e3.trans ?_
      rw [hf₂, State.calling_eq hAt.top, State.setFrames_setFrames, State.pushFrame, State.frames_setTop _ hr', State.setTop_of_frames _ hr', State.setFrames_setFrames, hr]
      rfl
    rw [← hs₂]
    exact hsteps
set_option maxHeartbeats 1000000 in
/-- behind the instruction's own step: the callee runs, and what follows -/
theorem pw_tail {p : Program} {l : Launch} {e : Env} {s : State} {m : MethodId} {args : Array Value} {below : List Frame} {meth : Method} {c : Code} {G : ab_G} {H : Heap} {locs : List Loc} {ls : Array Slot} {av rest : List Value} {n : Nat} {ig : Instr} {sc : List Value} {T : State} {vm1 : Vm} {mk : MethodId}
    (hX : ab_X y p l s m args meth c) (hI : ab_In G s h H locs) (hl : lv_has ls y.2.2.1 (ab_l G lv)) (hK : pw_K G sL sxs s) (hM : pw_M G sL sxs z R1 av h Pz) (hC : ab_Call z R R1 cells slots n) (hd : decode y.2.1 pc = .ok (ig, 3)) (hw : (rest.map fun v => v.category).sum ≤ 8)
    (hT : T.heap = H) (X1 : Stand p l e R s m args below meth c (T.setVm vm1) locs cells slots) (hn : s.methodNamed? z.1 = some mk)
    (hstep : ∀ target, (∀ acts, Steps p.tables e below (doInvoke e ((T.setVm vm1).setTop { F0 m pc ls sc with stack := rest.map (ab_v G) }) acts mk (av.map (ab_v G)).toArray).1 target) → Steps p.tables e below (T.setTop (F0 m pc ls sc)) target)
    (kr : ∀ (v : Option Value) (h1 : List ab_E), Pz (.returned v) h1 → pw_V p l e s m args below meth c G y R Po mc ms (cells + R1.cells) (slots + R1.slots) (pc + 3) lv (v.toList ++ rest) h1)
    (kt : ∀ (x : Nat) (h1 : List ab_E), ¬ Pz (.threw x) h1) :
    ∃ t, Steps p.tables e below (T.setTop (F0 m pc ls sc)) t ∧ ab_Z below G Po args s mc ms t := by
  obtain ⟨c1, c2, c3, c4, c5, c6, c7, c8⟩ := hC
  have hcat : (rest.map (ab_v G)).map (fun v => v.category) = rest.map (fun v => v.category) := by
    rw [List.map_map]
    exact List.map_congr_left (fun v _ => ab_cat G v)
  have hB : ab_B G h (T.setVm vm1) := ⟨by show T.heap.size = _; rw [hT]; exact hI.2.1, va_K.moved X1.warmed.alike hI.2.2.1, by show va_P _ _ _ T.heap; rw [hT]; exact hI.2.2.2.1, ab_Cs_moved X1.warmed (fun q hq => by show T.heap[q]? = _; rw [hT]; exact hI.2.2.2.2.1.2.1 q (Nat.lt_of_lt_of_le hq hI.1) (fun z => absurd z (Nat.not_le.mpr hq))) hI.2.2.2.2.2⟩
  have hKT : pw_K G sL sxs (T.setVm vm1) := ⟨hK.1, (va_X.moved X1.warmed.alike hK.2).kept (by show T.heap[_]? = _; rw [hT]; exact hI.2.2.2.2.1.2.1 _ (Nat.lt_of_lt_of_le hK.1 hI.1) (Nat.not_le.mpr hK.1))⟩
  obtain ⟨o, h1, T1, L, b1, b2, b3, b4, b5, b6, b7, b8, b9⟩ := pw_invoke (G := G) hM X1 (g := { F0 m pc ls sc with stack := rest.map (ab_v G) }) rfl (hl.1.trans hX.2.2.1.symm) (by rw [hX.2.1]; exact hd)
    (by show 2 * 0 + _ ≤ 8; rw [hcat]; omega) (X1.named hn) (fun w hw => by
      rcases List.mem_cons.mp hw with q | q
      · rw [q]; exact ab_warm hX.2.2.2.2.1 X1.warmed c1
      · exact ab_warm hX.2.2.2.2.1 X1.warmed q) (ab_warm hX.2.2.2.2.1 X1.warmed c2) c5 c6 c7 c8 hB hX.2.2.2.2.2.2.2.2.2 hKT
  have b6' : H.size ≤ T1.heap.size := by rw [← hT]; exact b6
  have b7' : ∀ q : Nat, q < G.1 → T1.heap[q]? = H[q]? := fun q hq => by rw [← hT]; exact b7 q hq
  have hI1 : ab_In G s h1 T1.heap (locs ++ L) := ⟨hI.1, b4, hI.2.2.1, b5, ⟨Nat.le_trans hI.2.2.2.2.1.1 b6', fun q h2 h3 => by
      rw [b7' q (Nat.lt_of_not_le h3)]; exact hI.2.2.2.2.1.2.1 q h2 h3, fun q hq => by
      rcases List.mem_append.mp hq with z | z
      · exact hI.2.2.2.2.1.2.2 q z
      · exact b3 q z⟩, hI.2.2.2.2.2⟩
  cases o with
  | returned v =>
    obtain ⟨t, a1, a2⟩ := kr v h1 b1 T1.heap (locs ++ L) ls hI1 hl T1 rfl b2
    refine ⟨t, hstep t (fun acts => ?_), a2⟩
    rw [doInvoke_state]
    refine (b8 v rfl).trans ?_
    rw [List.map_append, show List.map (ab_v G) v.toList = (v.map (ab_v G)).toList by cases v <;> rfl] at a1
    exact a1
  | threw x =>
    exact absurd b1 (kt x h1)

set_option maxHeartbeats 1000000 in
theorem pw_callV (hX : ab_X y p l s m args meth c) {i b ci : Nat} {r : vw_C} {fs As rest : List Value} (hd : decode y.2.1 pc = .ok (.invokevirtual i, 3)) (hK : pw_K G sL sxs s) (hM : pw_M G sL sxs z R1 (.ref b :: As) h Pz) (hC : ab_Call z R R1 cells slots As.length) (hlk : Cond.methodLink y.1.cls i z.1 ∈ ab_T) (hin : Cond.instanceMethod z.1 ∈ ab_T) (hse : Cond.selects r.1 z.1 z.1 ∈ ab_T) (hb : h[b]? = some (.inr (ci, fs))) (hc : ab_cl[ci]? = some r) (hst : st = As.reverse ++ .ref b :: rest) (hw : (rest.map fun v => v.category).sum ≤ 8) (kr : ∀ (v : Option Value) (h1 : List ab_E), Pz (.returned v) h1 → pw_V p l e s m args below meth c G y R Po mc ms (cells + R1.cells) (slots + R1.slots) (pc + 3) lv (v.toList ++ rest) h1) (kt : ∀ (x : Nat) (h1 : List ab_E), ¬ Pz (.threw x) h1) : pw_V p l e s m args below meth c G y R Po mc ms cells slots pc lv st h := by
  intro H locs ls hI hl
  subst hst
  intro T hT X
  have hts := hX.2.2.2.2.1
  obtain ⟨cellB, hcB, hoB, hclB⟩ := va_recv hI.2.2.1 hI.2.2.2.1 hc (ab_w_get hb)
  obtain ⟨mk, methM, hnamed, hmethM, hstM, habM⟩ := Cond.instanceMethod_spec (hts _ hin)
  obtain ⟨methM', cM, hmethM', -, -, -, -, -, -, hsigM⟩ := ab_cw_spec hnamed (hts _ hC.1)
  cases hmethM.symm.trans hmethM'
  obtain ⟨c2, r2, m2, q1, q2, q3, q4, kP, hkP, hkPi⟩ := Cond.selects_spec (hts _ hse)
  cases hclB.symm.trans q1
  cases (State.methodFound?_of_named hnamed hC.2.2.1).symm.trans q2
  cases hnamed.symm.trans q3
  have hselP : selectMethod e.platform s.vm cellB.cls mk = .method mk := by rw [Launch.admits_selectMethod X.admits]; exact q4
  obtain ⟨vm₁, X₁, hstep₁⟩ := X.invokevirtual hX.1 hX.2.2.2.1 (hts _ hlk) hnamed hmethM hstM hkP hkPi hC.2.2.1 (a := G.1 + b) (cell := cellB) (by rw [hT]; exact hcB)
    (fun z h => by rw [h] at hoB; cases hoB) hselP hmethM habM hkP hkPi (g := F0 m pc ls ((As.reverse ++ .ref b :: rest).map (ab_v G))) rfl (argsL := As.map (ab_v G)) (rest := rest.map (ab_v G)) (by rw [List.length_map]; exact ab_psz hC.2.2.2.1 _ hsigM) (by simp [ab_v]) (by rw [hX.2.1]; exact hd)
  exact pw_tail (av := .ref b :: As) hX hI hl hK hM hC hd hw hT X₁ hnamed hstep₁ kr kt
set_option maxHeartbeats 1000000 in
theorem pw_callS (hX : ab_X y p l s m args meth c) {i : Nat} {As rest : List Value} (hd : decode y.2.1 pc = .ok (.invokestatic i, 3)) (hK : pw_K G sL sxs s) (hM : pw_M G sL sxs z R1 As h Pz) (hC : ab_Call z R R1 cells slots As.length) (hlk : Cond.methodLink y.1.cls i z.1 ∈ ab_T) (hin : Cond.static z.1 ∈ ab_T) (hst : st = As.reverse ++ rest) (hw : (rest.map fun v => v.category).sum ≤ 8) (kr : ∀ (v : Option Value) (h1 : List ab_E), Pz (.returned v) h1 → pw_V p l e s m args below meth c G y R Po mc ms (cells + R1.cells) (slots + R1.slots) (pc + 3) lv (v.toList ++ rest) h1) (kt : ∀ (x : Nat) (h1 : List ab_E), ¬ Pz (.threw x) h1) : pw_V p l e s m args below meth c G y R Po mc ms cells slots pc lv st h := by
  intro H locs ls hI hl
  subst hst
  intro T hT X
  have hts := hX.2.2.2.2.1
  obtain ⟨mk, hnamed⟩ := ab_cw_named (hts _ hC.1)
  obtain ⟨methM, cM, hmethM, -, -, -, -, -, -, hsigM⟩ := ab_cw_spec hnamed (hts _ hC.1)
  have hstatic : methM.isStatic = true := Cond.static_spec hnamed hmethM (hts _ hin)
  obtain ⟨kP, hkP, -⟩ := className_of_methodNamed hnamed
  have hinitP : kP.init = .initialized := Cond.initialized_spec (findClass_of_methodNamed hnamed) hkP (hts _ hC.2.1)
  obtain ⟨vm₁, X₁, hstep₁⟩ := X.invokestatic hX.1 hX.2.2.2.1 (hts _ hlk) hnamed hmethM hstatic hkP hinitP hC.2.2.1 (g := F0 m pc ls ((As.reverse ++ rest).map (ab_v G))) rfl (argsL := As.map (ab_v G)) (rest := rest.map (ab_v G)) (by rw [List.length_map]; exact ab_psz hC.2.2.2.1 _ hsigM) (by simp) (by rw [hX.2.1]; exact hd)
  exact pw_tail hX hI hl hK hM hC hd hw hT X₁ hnamed hstep₁ kr kt
set_option maxHeartbeats 1000000 in
theorem pw_callI (hX : ab_X y p l s m args meth c) {i b : Nat} {bb : ByteArray} {nl : Nat} {As rest : List Value} (hd : decode y.2.1 pc = .ok (.invokespecial i, 3)) (hK : pw_K G sL sxs s) (hM : pw_M G sL sxs z R1 (.ref b :: As) h Pz) (hC : ab_Call z R R1 cells slots As.length) (hlk : Cond.methodLink y.1.cls i z.1 ∈ ab_T) (hin : Cond.instanceMethod z.1 ∈ ab_T) (hnm : z.1.name = "<init>") (hcw : Cond.code z.1 bb nl none ∈ ab_T) (hst : st = As.reverse ++ .ref b :: rest) (hw : (rest.map fun v => v.category).sum ≤ 8) (kr : ∀ (v : Option Value) (h1 : List ab_E), Pz (.returned v) h1 → pw_V p l e s m args below meth c G y R Po mc ms (cells + R1.cells) (slots + R1.slots) (pc + 3) lv (v.toList ++ rest) h1) (kt : ∀ (x : Nat) (h1 : List ab_E), ¬ Pz (.threw x) h1) : pw_V p l e s m args below meth c G y R Po mc ms cells slots pc lv st h := by
  intro H locs ls hI hl
  subst hst
  intro T hT X
  have hts := hX.2.2.2.2.1
  have hpl : e.platform.magicAccessors = ({} : Platform).magicAccessors := by rw [X.admits.platform]
  obtain ⟨mk, methM, cM, kP, vm₁, hnamed, hmethM, hcodeM, -, hlocalsM, -, hkP, -, hW₁, hstep₁⟩ := Steps.initColdArgs (e := e) X.here hX.1 X.warmed hpl hX.2.2.2.1 hnm hC.2.2.1 (hts _ hlk) (hts _ hin) (hts _ hcw) (f := F0 m pc ls ((As.reverse ++ .ref b :: rest).map (ab_v G))) rfl (argsL := As.map (ab_v G)) (rest := rest.map (ab_v G)) (a := G.1 + b) (by rw [List.length_map]; exact ab_psz hC.2.2.2.1) (by simp [ab_v]) (by rw [hX.2.1]; exact hd)
  exact pw_tail (av := .ref b :: As) hX hI hl hK hM hC hd hw hT (X.noted hW₁) hnamed hstep₁ kr kt
theorem pw_topi (hX : ab_X y p l s m args meth c) {x : Int32} (k : ∀ v : Int32, v = x → pw_V p l e s m args below meth c G y R Po mc ms cells slots pc lv (.int v :: st) h) : pw_V p l e s m args below meth c G y R Po mc ms cells slots pc lv (.int x :: st) h := k x rfl
theorem pw_callV_a (hX : ab_X y p l s m args meth c) {i b ci : Nat} {r : vw_C} {fs As rest : List Value} {v : Value} {Q : List ab_E → Prop} (hd : decode y.2.1 pc = .ok (.invokevirtual i, 3)) (hK : pw_K G sL sxs s) (hM : pw_M G sL sxs z R1 (.ref b :: As) h (ab_A (some v) Q)) (hC : ab_Call z R R1 cells slots As.length) (hlk : Cond.methodLink y.1.cls i z.1 ∈ ab_T) (hin : Cond.instanceMethod z.1 ∈ ab_T) (hse : Cond.selects r.1 z.1 z.1 ∈ ab_T) (hb : h[b]? = some (.inr (ci, fs))) (hc : ab_cl[ci]? = some r) (hst : st = As.reverse ++ .ref b :: rest) (hw : (rest.map fun v => v.category).sum ≤ 8) (k : ∀ h1 : List ab_E, Q h1 → pw_V p l e s m args below meth c G y R Po mc ms (cells + R1.cells) (slots + R1.slots) (pc + 3) lv (v :: rest) h1) : pw_V p l e s m args below meth c G y R Po mc ms cells slots pc lv st h :=
  pw_callV hX hd hK hM hC hlk hin hse hb hc hst hw (fun v1 h1 q => by obtain ⟨e, q⟩ := q; cases e; exact k h1 q) (fun x h1 q => by cases q.1)
theorem pw_callV_v (hX : ab_X y p l s m args meth c) {i b ci : Nat} {r : vw_C} {fs As rest : List Value} {Q : List ab_E → Prop} (hd : decode y.2.1 pc = .ok (.invokevirtual i, 3)) (hK : pw_K G sL sxs s) (hM : pw_M G sL sxs z R1 (.ref b :: As) h (ab_A none Q)) (hC : ab_Call z R R1 cells slots As.length) (hlk : Cond.methodLink y.1.cls i z.1 ∈ ab_T) (hin : Cond.instanceMethod z.1 ∈ ab_T) (hse : Cond.selects r.1 z.1 z.1 ∈ ab_T) (hb : h[b]? = some (.inr (ci, fs))) (hc : ab_cl[ci]? = some r) (hst : st = As.reverse ++ .ref b :: rest) (hw : (rest.map fun v => v.category).sum ≤ 8) (k : ∀ h1 : List ab_E, Q h1 → pw_V p l e s m args below meth c G y R Po mc ms (cells + R1.cells) (slots + R1.slots) (pc + 3) lv rest h1) : pw_V p l e s m args below meth c G y R Po mc ms cells slots pc lv st h :=
  pw_callV hX hd hK hM hC hlk hin hse hb hc hst hw (fun v1 h1 q => by obtain ⟨e, q⟩ := q; cases e; exact k h1 q) (fun x h1 q => by cases q.1)
theorem pw_callS_a (hX : ab_X y p l s m args meth c) {i : Nat} {As rest : List Value} {v : Value} {Q : List ab_E → Prop} (hd : decode y.2.1 pc = .ok (.invokestatic i, 3)) (hK : pw_K G sL sxs s) (hM : pw_M G sL sxs z R1 As h (ab_A (some v) Q)) (hC : ab_Call z R R1 cells slots As.length) (hlk : Cond.methodLink y.1.cls i z.1 ∈ ab_T) (hin : Cond.static z.1 ∈ ab_T) (hst : st = As.reverse ++ rest) (hw : (rest.map fun v => v.category).sum ≤ 8) (k : ∀ h1 : List ab_E, Q h1 → pw_V p l e s m args below meth c G y R Po mc ms (cells + R1.cells) (slots + R1.slots) (pc + 3) lv (v :: rest) h1) : pw_V p l e s m args below meth c G y R Po mc ms cells slots pc lv st h :=
  pw_callS hX hd hK hM hC hlk hin hst hw (fun v1 h1 q => by obtain ⟨e, q⟩ := q; cases e; exact k h1 q) (fun x h1 q => by cases q.1)
theorem pw_callI_v (hX : ab_X y p l s m args meth c) {i b : Nat} {bb : ByteArray} {nl : Nat} {As rest : List Value} {Q : List ab_E → Prop} (hd : decode y.2.1 pc = .ok (.invokespecial i, 3)) (hK : pw_K G sL sxs s) (hM : pw_M G sL sxs z R1 (.ref b :: As) h (ab_A none Q)) (hC : ab_Call z R R1 cells slots As.length) (hlk : Cond.methodLink y.1.cls i z.1 ∈ ab_T) (hin : Cond.instanceMethod z.1 ∈ ab_T) (hnm : z.1.name = "<init>") (hcw : Cond.code z.1 bb nl none ∈ ab_T) (hst : st = As.reverse ++ .ref b :: rest) (hw : (rest.map fun v => v.category).sum ≤ 8) (k : ∀ h1 : List ab_E, Q h1 → pw_V p l e s m args below meth c G y R Po mc ms (cells + R1.cells) (slots + R1.slots) (pc + 3) lv rest h1) : pw_V p l e s m args below meth c G y R Po mc ms cells slots pc lv st h :=
  pw_callI hX hd hK hM hC hlk hin hnm hcw hst hw (fun v1 h1 q => by obtain ⟨e, q⟩ := q; cases e; exact k h1 q) (fun x h1 q => by cases q.1)
theorem pw_newL (hX : ab_X y p l s m args meth c) {i ci : Nat} {r : vw_C} {fs : List Value} (hn : h.length = n) (hd : decode y.2.1 pc = .ok (.new i, 3)) (hc : ab_cl[ci]? = some r) (hcl : Cond.classLink y.1.cls i r.1 ∈ ab_T) (hinst : Cond.instantiable r.1 r.2.2 ∈ ab_T) (hini : Cond.initialized r.1 ∈ ab_T)
    (hfs : (List.range r.2.2).map (fun j => defaultValue (ab_tyof r j)) = fs) (hpl : fs.all ab_plain = true) (hcells : cells + 1 ≤ R.cells) (hslots : slots + r.2.2 ≤ R.slots) (k : ∀ h1 : List ab_E, h1.length = n + 1 → h1[n]? = some (.inr (ci, fs)) → (∀ i : Nat, i < n → h1[i]? = h[i]?) → pw_V p l e s m args below meth c G y R Po mc ms (cells + 1) (slots + r.2.2) (pc + 3) lv (.ref n :: st) h1) : pw_V p l e s m args below meth c G y R Po mc ms cells slots pc lv st h := by
  refine pw_new hX hd hc hcl hinst hini hfs hpl hcells hslots ?_
  obtain ⟨h1, h2, h3⟩ := ab_app (c := .inr (ci, fs)) hn
  rw [hn]
  exact k _ h1 h2 h3
theorem pw_newaL (hX : ab_X y p l s m args meth c) {aty : ArrayType} {ty : FieldType} {x : Int32} {N : Nat} (hn : h.length = n) (hd : decode y.2.1 pc = .ok (.newarray aty, 2)) (hty : newarray.typeOf aty = ty) (hw : Cond.arrayClass ty ∈ ab_T) (ht : ty ∈ ab_tyl) (hk : ty = .int ∨ ty = .byte ∨ ty = .boolean ∨ ty = .char ∨ ty = .long) (hx : ¬ x < 0) (hN : x.toNatClampNeg = N) (hby : N * componentBytes ty ≤ 536870912) (hcells : cells + 1 ≤ R.cells) (hslots : slots + N ≤ R.slots)
    (k : ∀ h1 : List ab_E, h1.length = n + 1 → h1[n]? = some (.inl (ty, N, ab_zero ty)) → (∀ i : Nat, i < n → h1[i]? = h[i]?) → pw_V p l e s m args below meth c G y R Po mc ms (cells + 1) (slots + N) (pc + 2) lv (.ref n :: st) h1) : pw_V p l e s m args below meth c G y R Po mc ms cells slots pc lv (.int x :: st) h := by
  refine pw_newa hX hd hty hw ht hk hx hN hby hcells hslots ?_
  obtain ⟨h1, h2, h3⟩ := ab_app (c := .inl (ty, N, ab_zero ty)) hn
  rw [hn]
  exact k _ h1 h2 h3
theorem pw_sld (hX : ab_X y p l s m args meth c) (hK : pw_K G sL sxs s) {i : Int32} (hd : decode y.2.1 pc = .ok (.iaload, 1)) (hin : vp_in i sL) (k : pw_V p l e s m args below meth c G y R Po mc ms cells slots (pc + 1) lv (.int (sxs i.toNatClampNeg) :: st) h) : pw_V p l e s m args below meth c G y R Po mc ms cells slots pc lv (.int i :: .float 300 :: st) h := by
  intro H locs ls hI hl
  exact va_sld (A := fun q => G.1 ≤ q) hX.1 hX.2.1 hK.2 (Nat.lt_of_lt_of_le hK.1 hI.1) (Nat.not_le.mpr hK.1) hI.2.2.2.2.1 hin hd (k H locs ls hI hl)
theorem pw_slen (hX : ab_X y p l s m args meth c) (hK : pw_K G sL sxs s) (hd : decode y.2.1 pc = .ok (.arraylength, 1)) (k : pw_V p l e s m args below meth c G y R Po mc ms cells slots (pc + 1) lv (.int (nI sL) :: st) h) : pw_V p l e s m args below meth c G y R Po mc ms cells slots pc lv (.float 300 :: st) h := by
  intro H locs ls hI hl
  exact va_slen (A := fun q => G.1 ≤ q) hX.1 hX.2.1 hK.2 (Nat.lt_of_lt_of_le hK.1 hI.1) (Nat.not_le.mpr hK.1) hI.2.2.2.2.1 hd (k H locs ls hI hl)
set_option maxHeartbeats 1000000 in
theorem pw_of {av : List Value} (hy : plainFor y.1 = true) (hn : (ab_in av).length ≤ y.2.2.1) (k : ∀ (p : Program) (l : Launch) (e : Env) (s : State) (m : MethodId) (args : Array Value) (below : List Frame) (meth : Method) (c : Code), ab_X y p l s m args meth c → pw_K G sL sxs s → pw_V p l e s m args below meth c G y R Po R.cells R.slots 0 0 0 (ab_in av) [] h) : pw_M G sL sxs y R av h Po := by
  intro l hfl
  refine MetFree.of_bodySF (code := y.2.1) (maxLocals := y.2.2.1) (ret := y.2.2.2.1) hy ?_ ?_
  · intro args s m hp hm
    obtain ⟨meth, c, h1, h2, h3, h4, h5, h6, -, -⟩ := ab_cw_spec hm (atoms_spec (ws := ab_cw y :: ab_T) hp _ List.mem_cons_self)
    exact ⟨meth, c, h1, h2, h3, h4, h5, h6⟩
  · intro p e s m args below meth c s₁ B hml hv _
    obtain ⟨rfl, ⟨hsz, hK, hP, hC⟩, hKs⟩ := hv
    have hts := atoms_spec (ws := ab_cw y :: ab_T) B.pre
    have X₀ := Stand.of_body B
    have hh0 : s₁.heap = s.heap := by rw [B.state]; rfl
    obtain ⟨meth', c', h1, h2, -, -, -, -, h7, -⟩ := ab_cw_spec B.named (hts _ List.mem_cons_self)
    cases B.method.symm.trans h1
    cases X₀.code.symm.trans h2
    have hl := lv_entry (av.map (ab_v G)) (n := y.2.2.1) (by rw [ab_sl_len]; exact hn)
    rw [lg_entry_eq]
    generalize (lg_sl (av.map (ab_v G)) ++ List.replicate (y.2.2.1 - (lg_sl (av.map (ab_v G))).length) Slot.unset).toArray = ls at hl ⊢
    have hl2 : lv_has ls y.2.2.1 (ab_l G (ab_in av)) := ab_l_mono hl (fun q hq => by
      obtain ⟨u, h1, h2⟩ := ab_l_mem.mp hq
      have := ab_in_ok G av 0 q.1 u h1
      rw [Nat.zero_add, ← h2] at this
      exact this)
    obtain ⟨t, a1, o, b1, b2, b3, b4, b5⟩ := k p l e s m _ below meth c ⟨B.exec, B.bytes, hml, findClass_of_methodNamed B.named, fun w hw => hts w (List.mem_cons_of_mem _ hw), B.returns, B.notSynchronized, (name_of_methodNamed B.named B.method).1, h7, hfl⟩ hKs s.heap [] ls
      ⟨by omega, hsz, hK, hP, va_S.rf, hC⟩ hl2 s₁ hh0 X₀
    exact ⟨t, o, a1, b1, b2, b3, b4, b5⟩
end PW
