/-! ===== the law's body ===== -/
section Par
variable {p : Program} {l : Launch} {e : Env} {s : State} {m : MethodId} {args : Array Value} {below : List Frame} {meth : Method} {c : Code} {G : ab_G} {sL : Nat} {sxs : Nat → Int32} {y : ab_Y} {R : Room} {Po : Outcome → List ab_E → Prop} {mc ms cells slots pc : Nat} {lv : List (Option Value)} {st : List Value} {H : Hp}
theorem hw_new (hX : ab_X y p l s m args meth c) {i ci : Nat} {r : vw_C} {fs : List Value} (hd : decode y.2.1 pc = .ok (.new i, 3)) (hc : ab_cl[ci]? = some r) (hcl : Cond.classLink y.1.cls i r.1 ∈ ab_T) (hinst : Cond.instantiable r.1 r.2.2 ∈ ab_T) (hini : Cond.initialized r.1 ∈ ab_T) (hfs : (List.range r.2.2).map (fun j => defaultValue (ab_tyof r j)) = fs) (hpl : fs.all ab_plain = true) (hci : ci < 100) (hk : (kd ci).mapIdx (fun _ b => if b then Value.null else .int 0) = fs) (hcells : cells + 1 ≤ R.cells) (hslots : slots + r.2.2 ≤ R.slots)
    (k : pw_V p l e s m args below meth c G y R Po mc ms (cells + 1) (slots + r.2.2) (pc + 3) lv (.ref H.sh.length :: st) (hpw (H.nw (ci, 0) r.2.2))) : pw_V p l e s m args below meth c G y R Po mc ms cells slots pc lv st (hpw H) := by
  refine pw_new hX hd hc hcl hinst hini hfs hpl hcells hslots ?_
  rw [hpw_len]
  have e : hpw (H.nw (ci, 0) r.2.2) = hpw H ++ [.inr (ci, fs)] := by
    refine hpw_app rfl (fun x t hx => hp_nw_o hx) ?_
    rw [hp_cell_obj hci, ← hk]
    simp [Hp.nw, mkH_D, mkH_P, mkH_L]
  rw [← e]
  exact k
theorem hw_newl (hX : ab_X y p l s m args meth c) {aty : ArrayType} {x : Int32} {q : Nat} (hd : decode y.2.1 pc = .ok (.newarray aty, 2)) (hty : newarray.typeOf aty = .long) (hw : Cond.arrayClass .long ∈ ab_T) (hx : ¬ x < 0) (hq : x.toNatClampNeg = q) (hby : q * componentBytes .long ≤ 536870912) (hcells : cells + 1 ≤ R.cells) (hslots : slots + q ≤ R.slots)
    (k : pw_V p l e s m args below meth c G y R Po mc ms (cells + 1) (slots + q) (pc + 2) lv (.ref H.sh.length :: st) (hpw (H.nw (104, q) q))) : pw_V p l e s m args below meth c G y R Po mc ms cells slots pc lv (.int x :: st) (hpw H) := by
  refine pw_newa hX hd hty hw tJ (Or.inr (Or.inr (Or.inr (Or.inr rfl)))) hx hq hby hcells hslots ?_
  rw [hpw_len]
  have e : hpw (H.nw (104, q) q) = hpw H ++ [.inl (.long, q, ab_zero .long)] := by
    refine hpw_app rfl (fun x t hx => hp_nw_o hx) ?_
    rw [hp_cell_lar, show ab_zero .long = .inr (.inl (fun _ => 0)) from rfl]
    simp [Hp.nw, mkH_D, mkH_P, mkH_L]
  rw [← e]
  exact k
end Par
set_option maxRecDepth 20000 in
set_option maxHeartbeats 20000000 in
theorem law_body {p : Program} {l : Launch} {e : Env} {s : State} {m : MethodId} {args : Array Value} {below : List Frame} {meth : Method} {c : Code} {G : ab_G} {sL : Nat} {sxs : Nat → Int32} (hX : ab_X y_Law p l s m args meth c) (hK : pw_K G sL sxs s) (hL : sL ≤ 3073) : pw_V p l e s m args below meth c G y_Law room_1 (fun o _ => o = .returned (some (.int 1))) room_1.cells room_1.slots 0 0 0 [some (.float 300), none, none, none, none, none, none] [] [] := by
  show pw_V p l e s m args below meth c G y_Law room_1 (fun o _ => o = .returned (some (.int 1))) room_1.cells room_1.slots 0 0 0 [some (.float 300), none, none, none, none, none, none] [] (hpw hp_0)
  obtain ⟨X, B, e1, e2, xs, xl, bs, bl, hR⟩ := start_ok (N := 2000000) (w := cell0 sL sxs) (Nat.le_refl _)
  have lx : X.sh.length = 517 := by rw [xs, List.length_take, sh0_len]; rfl
  have lb : B.sh.length = 625 := by rw [bs, List.length_take, sh0_len]; rfl
  have l1 : (X.nw (12, 0) 29).sh.length = 518 := by show (X.sh ++ [(12, 0)]).length = _; rw [List.length_append, lx]; rfl
  refine hw_new hX (ci := 0) (fs := [.null, .null, .null, .null, .null, .null, .int 0, .int 0, .int 0]) d_Law_0 rfl (k1 31 rfl rfl) (k1 32 rfl rfl) (k1 1 rfl rfl) rfl rfl (by decide) rfl (by decide) (by decide) ?_
  refine pw_dup hX d_Law_3 rfl ?_
  refine pw_aload_n hX d_Law_4 rfl rfl rfl ?_
  refine pw_iconst hX (v := 0) d_Law_5 (by decide) ?_
  refine pw_callS_a hX (As := [.float 300, .int 0]) (rest := [.ref 0, .ref 0]) d_Law_6 hK (f_cell (by omega)) (ab_mkC s_Law_cell (Nat.le_of_ble_eq_true rfl) (Nat.le_of_ble_eq_true rfl) (by decide) (by decide)) (k8 111 rfl rfl) t_Law_cell rfl (Nat.le_of_ble_eq_true rfl) (fun h8 q7 => ?_)
  subst q7
  refine pw_callI_v hX (Q := fun h1 => h1 = hpw X) (As := [.int (cell0 sL sxs)]) (rest := [.ref 0]) d_Law_9 hK (pw_ofM (k_W_init (C := 516) (Sl := 368477) e1 (by show X.sh.length ≤ 1 + 516; omega) (by show X.sl ≤ 9 + 368477; omega))) (ab_mkC s_W_init (Nat.le_of_ble_eq_true rfl) (Nat.le_of_ble_eq_true rfl) (by decide) (by decide)) (k1 33 rfl rfl) i_W_init rfl (k1 35 rfl rfl) rfl (Nat.le_of_ble_eq_true rfl) (fun h10 q11 => ?_)
  subst q11
  refine pw_astore_n hX (lv' := [some (.float 300), some (.ref 0), none, none, none, none, none]) d_Law_12 rfl (by decide) rfl rfl ?_
  refine hw_new hX (ci := 12) (fs := [.int 0, .null, .int 0, .null, .null, .int 0, .int 0, .int 0, .null, .null, .null, .null, .int 0, .int 0, .null, .null, .null, .null, .null, .null, .int 0, .null, .int 0, .int 0, .int 0, .null, .null, .int 0, .int 0]) d_Law_13 rfl (k8 147 rfl rfl) (k8 148 rfl rfl) (k1 19 rfl rfl) rfl rfl (by decide) rfl (by decide) (by decide) ?_
  rw [lx]
  refine pw_dup hX d_Law_16 rfl ?_
  refine pw_aload_n hX d_Law_17 rfl rfl rfl ?_
  refine pw_iconst hX (v := 0) d_Law_18 (by decide) ?_
  refine pw_callS_a hX (As := [.float 300, .int 0]) (rest := [.ref 517, .ref 517]) d_Law_19 hK (f_cell (by omega)) (ab_mkC s_Law_cell (Nat.le_of_ble_eq_true rfl) (Nat.le_of_ble_eq_true rfl) (by decide) (by decide)) (k8 111 rfl rfl) t_Law_cell rfl (Nat.le_of_ble_eq_true rfl) (fun h24 q23 => ?_)
  subst q23
  refine pw_callI_v hX (Q := fun h1 => h1 = hpw B) (As := [.int (cell0 sL sxs)]) (rest := [.ref 517]) d_Law_22 hK (pw_ofM (k_M_init (C := 107) (Sl := 589578) e2 (by show B.sh.length ≤ (X.nw (12, 0) 29).sh.length + 107; omega) (by show B.sl ≤ X.sl + 29 + 589578; omega))) (ab_mkC s_M_init (Nat.le_of_ble_eq_true rfl) (Nat.le_of_ble_eq_true rfl) (by decide) (by decide)) (k8 149 rfl rfl) i_M_init rfl (k8 151 rfl rfl) rfl (Nat.le_of_ble_eq_true rfl) (fun h26 q27 => ?_)
  subst q27
  refine pw_astore_n hX (lv' := [some (.float 300), some (.ref 0), some (.ref 517), none, none, none, none]) d_Law_25 rfl (by decide) rfl rfl ?_
  refine pw_iconst hX (v := 1) d_Law_26 (by decide) ?_
  refine hw_newl hX (q := 1) d_Law_27 rfl (k13 85 rfl rfl) (by decide) (by decide) (by decide) (by decide) (by decide) ?_
  rw [lb]
  refine pw_astore_n hX (lv' := [some (.float 300), some (.ref 0), some (.ref 517), some (.ref 625), none, none, none]) d_Law_29 rfl (by decide) rfl rfl ?_
  refine pw_iconst hX (v := 1) d_Law_30 (by decide) ?_
  refine pw_istore hX (lv' := lvL (6 * 0 + 1)) d_Law_31 (by decide) rfl ?_
  have lk : (B.nw (104, 1) 1).sh.length = 626 := by show (B.sh ++ [(104, 1)]).length = _; rw [List.length_append, lb]; rfl
  have sk : (B.nw (104, 1) 1).sl = 958094 := by show B.sl + 1 = _; rw [bl]
  refine pw_widen hX (cells' := (B.nw (104, 1) 1).sh.length) (slots' := (B.nw (104, 1) 1).sl) (by rw [lk]; decide) (by rw [sk]; decide) ?_
  exact law_loop hX hK hL (by decide) 512 0 _ (by omega) (by decide) hR
