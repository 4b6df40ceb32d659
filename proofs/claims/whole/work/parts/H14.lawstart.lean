def sg_tm : List Term := [.string "WorldEngine$Lexer" 30, .string "WorldEngine$Named" 7, .string "WorldEngine$Lexer" 122, .string "WorldEngine$Lexer" 129, .string "WorldEngine$Lexer" 141, .string "WorldEngine$Store" 146, .string "WorldEngine$Store" 151, .string "WorldEngine$Store" 153, .string "WorldEngine" 196, .string "WorldEngine" 229]
def sg_t (i : Nat) : Term := sg_tm.getD i (.int 0)
def sg_fl : List Cond := flatC (Jvm.Cond.and given_1 narrow_1)
def sg_x : List Nat := [66, 284, 289, 311, 338, 382, 411, 439, 465, 492]
def sg_c : List Nat := [67, 285, 290, 312, 339, 383, 412, 440, 466, 493]
def sg_a : List Nat := [68, 286, 291, 313, 340, 384, 413, 441, 467, 494]
def sg_l : List Nat := [69, 287, 292, 314, 341, 385, 414, 442, 468, 495]
def sg_e : List Nat := [70, 0, 293, 315, 342, 386, 415, 443, 469, 496]
def sg_n : List Nat := [0, 288, 309, 335, 369, 405, 432, 457, 483, 519, 288, 0, 310, 336, 370, 406, 433, 458, 484, 520, 309, 310, 0, 337, 371, 407, 434, 459, 485, 521, 335, 336, 337, 0, 372, 408, 435, 460, 486, 522, 369, 370, 371, 372, 0, 409, 436, 461, 487, 523, 405, 406, 407, 408, 409, 0, 438, 463, 489, 525, 432, 433, 434, 435, 436, 438, 0, 464, 490, 526, 457, 458, 459, 460, 461, 463, 464, 0, 491, 527, 483, 484, 485, 486, 487, 489, 490, 491, 0, 528, 519, 520, 521, 522, 523, 525, 526, 527, 528, 0]
theorem sg_x0 : ∀ i, i < 10 → sg_fl[sg_x.getD i 0]? = some (Cond.exactly (sg_t i) "java/lang/String") := by decide +kernel
theorem sg_c0 : ∀ i, i < 10 → sg_fl[sg_c.getD i 0]? = some (Cond.eq (.field (sg_t i) "java/lang/String" "coder" "B") (.int 0)) := by decide +kernel
theorem sg_a0 : ∀ i, i < 10 → sg_fl[sg_a.getD i 0]? = some (Cond.arrayOf (.field (sg_t i) "java/lang/String" "value" "[B") .byte) := by decide +kernel
theorem sg_l0 : ∀ i, i < 10 → sg_fl[sg_l.getD i 0]? = some (Cond.eq (.length (.field (sg_t i) "java/lang/String" "value" "[B")) (.int (Int32.ofNat (ab_len.getD i 0)))) := by decide +kernel
theorem sg_e0 : ∀ i, i < 10 → ∀ j, j < ab_len.getD i 0 → sg_fl[sg_e.getD i 0 + j]? = some (Cond.eq (.elem (.field (sg_t i) "java/lang/String" "value" "[B") (.int (Int32.ofNat j))) (.int ((ab_byt.getD i []).getD j 0))) := by decide +kernel
theorem sg_n0 : ∀ i, i < 10 → ∀ j, j < 10 → i ≠ j → (sg_fl[sg_n.getD (10 * i + j) 0]? = some (Cond.not (Cond.eq (sg_t i) (sg_t j))) ∨ sg_fl[sg_n.getD (10 * i + j) 0]? = some (Cond.not (Cond.eq (sg_t j) (sg_t i)))) := by decide +kernel
theorem sg_eq {args : Array Value} {s : State} {t u : Term} {a : Nat} (h : (Cond.eq t u).before args s = true) (ht : t.eval args s none [] s = some (.ref a)) : u.eval args s none [] s = some (.ref a) := by
  cases hu : u.eval args s none [] s with
  | none => simp [Cond.before, Cond.holds, Cond.value, ht, hu] at h
  | some w =>
    simp only [Cond.before, Cond.holds, Cond.value, ht, hu] at h
    cases w <;> simp_all
theorem sg_St {args : Array Value} {s : State} {n d : String} (hl : (Cond.laysStatic "java/lang/Throwable" n d).before args s = true) (h : (Cond.isRef (.static "java/lang/Throwable" n d)).before args s = true) : ab_St n d s.heap.size s := by
  obtain ⟨c, k, i, f, a, cell, hc, hi, hst, ha, hcell, hs, hcls, hlt, hty⟩ := Cond.laysStatic_spec hl
  cases hv : (Term.static "java/lang/Throwable" n d).eval args s none [] s with
  | none => simp [Cond.before, Cond.holds, Cond.value, hv] at h
  | some v =>
    obtain ⟨hst', a', cell', ha', hcell', -, hslot⟩ := Term.static_spec hi hv
    cases ha.symm.trans ha'
    cases hcell.symm.trans hcell'
    refine ⟨c, k, i, f, a, cell, v, hc, hi, hst, ha, hcell, hs, hcls, hlt, hty, hslot, ?_, (Array.getElem?_eq_some_iff.mp hcell).1⟩
    simp only [Cond.before, Cond.holds, Cond.value, hv] at h
    cases v <;> simp_all [Value.isRef]
theorem sg_Scongr {N : Nat} {len : List Nat} {byt : List (List Int32)} {adK adV bdK bdV : Nat → Nat} {A : Nat → Prop} {U : State} {H : Heap} (h : vk_S N len byt adK adV A U H) (h1 : ∀ i, i < N → bdK i = adK i) (h2 : ∀ i, i < N → bdV i = adV i) : vk_S N len byt bdK bdV A U H := by
  refine ⟨fun i hi => ?_, fun i j hi hj e => h.2 i j hi hj ?_⟩
  · rw [h1 i hi, h2 i hi]
    exact h.1 i hi
  · rw [← h1 i hi, ← h1 j hj]
    exact e
theorem sg_inst : ∀ (ci : Nat) (r : vw_C), ab_cl[ci]? = some r → ∃ n, Cond.instantiable r.1 n ∈ ab_T := by
  intro ci r hr
  match ci, hr with
  | 0, hr => cases hr; exact ⟨9, (k1 32 rfl rfl)⟩
  | 1, hr => cases hr; exact ⟨13, (k1 40 rfl rfl)⟩
  | 2, hr => cases hr; exact ⟨4, (k2 222 rfl rfl)⟩
  | 3, hr => cases hr; exact ⟨4, (k3 16 rfl rfl)⟩
  | 4, hr => cases hr; exact ⟨18, (k2 209 rfl rfl)⟩
  | 5, hr => cases hr; exact ⟨3, (k1 146 rfl rfl)⟩
  | 6, hr => cases hr; exact ⟨7, (k1 152 rfl rfl)⟩
  | 7, hr => cases hr; exact ⟨16, (k1 196 rfl rfl)⟩
  | 8, hr => cases hr; exact ⟨19, (k2 55 rfl rfl)⟩
  | 9, hr => cases hr; exact ⟨3, (k2 49 rfl rfl)⟩
  | 10, hr => cases hr; exact ⟨14, (k1 190 rfl rfl)⟩
  | 11, hr => cases hr; exact ⟨6, (k2 180 rfl rfl)⟩
  | 12, hr => cases hr; exact ⟨29, (k8 148 rfl rfl)⟩
  | 13, hr => cases hr; exact ⟨18, (k9 78 rfl rfl)⟩
  | 14, hr => cases hr; exact ⟨43, (k8 154 rfl rfl)⟩
  | 15, hr => cases hr; exact ⟨16, (k9 177 rfl rfl)⟩
  | 16, hr => cases hr; exact ⟨4, (k4 183 rfl rfl)⟩
  | 17, hr => cases hr; exact ⟨6, (k4 102 rfl rfl)⟩
  | 18, hr => cases hr; exact ⟨6, (k8 123 rfl rfl)⟩
  | k + 19, hr => simp [ab_cl] at hr
theorem sg_ac {s : State} {args : Array Value} {ty : FieldType} (hn : ∀ C, ty ≠ .object C) (h : (Cond.arrayClass ty).before args s = true) : ∃ cA : ClassId, ArrOfT s cA ty ∧ va_RA s cA ty := by
  obtain ⟨cB, kB, comp, h1, h2, h3⟩ := Cond.arrayClass_spec h
  refine ⟨cB, fun N z => ⟨(fun k h => by cases h), kB, h2, comp, h3⟩, ?_⟩
  cases ty with
  | object C => exact absurd rfl (hn C)
  | _ => exact h1
theorem sg_ao {s : State} {args : Array Value} {C : String} (h : (Cond.arrayOver (.object C)).before args s = true) : ∃ cA : ClassId, ArrOfT s cA (.object C) ∧ va_RA s cA (.object C) := by
  obtain ⟨comp, c, k, h1, h2, h3, h4, h5⟩ := Cond.arrayOver_spec h
  exact ⟨c, fun N z => ⟨(fun k h => by cases h), k, h3, comp, h4⟩, k, comp, h3, h4, h1, h5⟩
theorem sg_ty {s : State} {args : Array Value} (hts : ∀ w ∈ ab_T, w.before args s = true) : ∀ (k : Nat) (t : FieldType), ab_tyl[k]? = some t → ∃ cA : ClassId, ArrOfT s cA t ∧ va_RA s cA t := by
  intro k t hr
  match k, hr with
  | 0, hr => cases hr; exact sg_ac (fun C h => by cases h) (hts _ (k1 143 rfl rfl))
  | 1, hr => cases hr; exact sg_ac (fun C h => by cases h) (hts _ (k1 142 rfl rfl))
  | 2, hr => cases hr; exact sg_ac (fun C h => by cases h) (hts _ (k1 144 rfl rfl))
  | 3, hr => cases hr; exact sg_ac (fun C h => by cases h) (hts _ (k4 238 rfl rfl))
  | 4, hr => cases hr; exact sg_ac (fun C h => by cases h) (hts _ (k13 85 rfl rfl))
  | 5, hr => cases hr; exact sg_ao (hts _ (k2 47 rfl rfl))
  | 6, hr => cases hr; exact sg_ao (hts _ (k2 221 rfl rfl))
  | k + 7, hr => simp [ab_tyl] at hr
set_option maxRecDepth 20000 in
set_option maxHeartbeats 4000000 in
theorem law_start {s : State} {args : Array Value} {b : Nat} (hw : ∀ w ∈ lw_tbl, w.before args s = true) (hg : (Jvm.Cond.and given_1 narrow_1).before args s = true) : ∃ G : ab_G, G.1 = s.heap.size ∧ G.2.1 300 = b ∧ va_K G.2.2.2 ab_cl (ab_ty G) s ∧ ab_Cs G s := by
  have hts : ∀ w ∈ ab_T, w.before args s = true := fun w h => hw w (List.mem_filter.mp h).1
  have hfl : ∀ (i : Nat) {c : Cond}, sg_fl[i]? = some c → c.before args s = true := fun i c h => flat_of_before _ hg c (List.mem_of_getElem? h)
  have hA : ∀ a : Nat, a < s.heap.size → ¬ s.heap.size ≤ a := fun a ha => Nat.not_le.mpr ha
  obtain ⟨adK, adV, hS, hev⟩ := vk_Sof (args := args) (s := s) (N := 10) (tm := sg_t) (len := ab_len) (byt := ab_byt) (A := fun q => s.heap.size ≤ q) (by decide) (fun i hi => hfl _ (sg_x0 i hi)) (fun i hi => hfl _ (sg_c0 i hi)) (fun i hi => hfl _ (sg_a0 i hi)) (fun i hi => hfl _ (sg_l0 i hi)) (fun i hi j hj => hfl _ (sg_e0 i hi j hj)) (fun i j hi hj hij => (sg_n0 i hi j hj hij).imp (fun q => hfl _ q) (fun q => hfl _ q)) hA
  have hC := va_Zof (A := fun q => s.heap.size ≤ q) (hw _ (List.mem_append_right _ (ab_i1 (List.mem_of_getElem? (i := 55) rfl)))) (hts _ (k1 3 rfl rfl)) (va_eqi (z := 1) (hfl 4 (by decide +kernel))) hA
  have hP := va_Zqof (A := fun q => s.heap.size ≤ q) (hw _ (List.mem_append_right _ (ab_i1 (List.mem_of_getElem? (i := 71) rfl)))) (hts _ (k1 5 rfl rfl)) (hfl 5 (by decide +kernel)) hA
  have hU := sg_St (hw _ (List.mem_append_right _ (ab_i4 (List.mem_of_getElem? (i := 128) rfl)))) (hfl 9 (by decide +kernel))
  have hT := sg_St (hw _ (List.mem_append_right _ (ab_i4 (List.mem_of_getElem? (i := 130) rfl)))) (hfl 10 (by decide +kernel))
  have hcl : ∀ c : Nat, ∃ q : ClassId × (Nat → Nat), ∀ r, ab_cl[c]? = some r → u_Kn s r.1 r.2.1 r.2.2 q.1 q.2 := by
    intro c
    cases hr : ab_cl[c]? with
    | none => exact ⟨(default, fun _ => 0), fun r h => by cases h⟩
    | some r =>
      obtain ⟨n, hn⟩ := sg_inst c r hr
      obtain ⟨cC, iS, hk⟩ := u_known hts (ab_clin c r hr) (hts _ hn)
      exact ⟨(cC, iS), fun r' h => by cases h; exact hk⟩
  have hty : ∀ t : FieldType, ∃ cA : ClassId, t ∈ ab_tyl → ArrOfT s cA t ∧ va_RA s cA t := by
    intro t
    by_cases h : t ∈ ab_tyl
    · obtain ⟨k, hk⟩ := List.getElem?_of_mem h
      obtain ⟨cA, hA⟩ := sg_ty hts k t hk
      exact ⟨cA, fun _ => hA⟩
    · exact ⟨default, fun z => absurd z h⟩
  obtain ⟨t200, h200⟩ : ∃ t : Nat, va_Z "jdk/internal/util/Preconditions" "SIOOBE_FORMATTER" "Ljava/util/function/BiFunction;" .null (fun q => s.heap.size ≤ q) s s.heap ∨ va_Z "jdk/internal/util/Preconditions" "SIOOBE_FORMATTER" "Ljava/util/function/BiFunction;" (.ref t) (fun q => s.heap.size ≤ q) s s.heap := by
    rcases hP with z | ⟨t, z⟩
    · exact ⟨0, Or.inl z⟩
    · exact ⟨t, Or.inr z⟩
  let ad : Nat → Nat := fun k => if k = 300 then b else if k = 200 then t200 else if k < 100 then adK k else adV (k - 100)
  have e1 : ∀ i, i < 10 → ad i = adK i := fun i hi => by
    show (if i = 300 then b else if i = 200 then t200 else if i < 100 then adK i else adV (i - 100)) = adK i
    rw [if_neg (by omega), if_neg (by omega), if_pos (by omega)]
  have e2 : ∀ i, i < 10 → ad (100 + i) = adV i := fun i hi => by
    show (if 100 + i = 300 then b else if 100 + i = 200 then t200 else if 100 + i < 100 then adK (100 + i) else adV (100 + i - 100)) = adV i
    rw [if_neg (by omega), if_neg (by omega), if_neg (by omega), show 100 + i - 100 = i by omega]
  refine ⟨(s.heap.size, ad, fun t => Classical.choose (hty t), (fun c => (Classical.choose (hcl c)).1, fun c => (Classical.choose (hcl c)).2)), rfl, rfl, ⟨fun c q hq => Classical.choose_spec (hcl c) q hq, fun k q hq => ?_⟩, sg_Scongr hS e1 e2, ?_, hC, h200, hU, hT⟩
  · have hq2 : (ab_tyl.map (fun t => (Classical.choose (hty t), t)))[k]? = some q := hq
    rw [List.getElem?_map] at hq2
    cases hk : ab_tyl[k]? with
    | none => rw [hk] at hq2; cases hq2
    | some t =>
      rw [hk] at hq2
      cases hq2
      exact Classical.choose_spec (hty t) (List.mem_of_getElem? hk)
  · have key : ∀ q ∈ ab_cs, vk_R q.1 q.2.1 q.2.2.1 (adK q.2.2.2) s := List.forall_mem_cons.mpr ⟨(vk_R.of (hw _ (List.mem_append_right _ (ab_i1 (List.mem_of_getElem? (i := 45) rfl)))) (hev 0 (by decide))), List.forall_mem_cons.mpr ⟨(vk_R.of (hw _ (List.mem_append_right _ (ab_i2 (List.mem_of_getElem? (i := 227) rfl)))) (hev 1 (by decide))), List.forall_mem_cons.mpr ⟨(vk_R.of (hw _ (List.mem_append_right _ (ab_i4 (List.mem_of_getElem? (i := 33) rfl)))) (hev 2 (by decide))), List.forall_mem_cons.mpr ⟨(vk_R.of (hw _ (List.mem_append_right _ (ab_i4 (List.mem_of_getElem? (i := 141) rfl)))) (hev 3 (by decide))), List.forall_mem_cons.mpr ⟨(vk_R.of (hw _ (List.mem_append_right _ (ab_i4 (List.mem_of_getElem? (i := 179) rfl)))) (hev 4 (by decide))), List.forall_mem_cons.mpr ⟨(vk_R.of (hw _ (List.mem_append_right _ (ab_i4 (List.mem_of_getElem? (i := 191) rfl)))) (sg_eq (hfl 378 (by decide +kernel)) (hev 1 (by decide)))), List.forall_mem_cons.mpr ⟨(vk_R.of (hw _ (List.mem_append_right _ (ab_i8 (List.mem_of_getElem? (i := 57) rfl)))) (hev 5 (by decide))), List.forall_mem_cons.mpr ⟨(vk_R.of (hw _ (List.mem_append_right _ (ab_i8 (List.mem_of_getElem? (i := 59) rfl)))) (hev 6 (by decide))), List.forall_mem_cons.mpr ⟨(vk_R.of (hw _ (List.mem_append_right _ (ab_i8 (List.mem_of_getElem? (i := 90) rfl)))) (hev 7 (by decide))), List.forall_mem_cons.mpr ⟨(vk_R.of (hw _ (List.mem_append_right _ (ab_i8 (List.mem_of_getElem? (i := 131) rfl)))) (hev 8 (by decide))), List.forall_mem_cons.mpr ⟨(vk_R.of (hw _ (List.mem_append_right _ (ab_i8 (List.mem_of_getElem? (i := 146) rfl)))) (hev 9 (by decide))), List.forall_mem_cons.mpr ⟨(vk_R.of (hw _ (List.mem_append_right _ (ab_i10 (List.mem_of_getElem? (i := 134) rfl)))) (sg_eq (hfl 747 (by decide +kernel)) (hev 0 (by decide)))), fun _ h => absurd h List.not_mem_nil⟩⟩⟩⟩⟩⟩⟩⟩⟩⟩⟩⟩
    intro q hq
    have hlt : q.2.2.2 < 10 := (show ∀ q ∈ ab_cs, q.2.2.2 < 10 by decide) q hq
    show vk_R q.1 q.2.1 q.2.2.1 (ad q.2.2.2) s
    rw [e1 _ hlt]
    exact key q hq
