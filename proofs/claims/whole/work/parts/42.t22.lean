def y_Body_turns : ab_Y := (⟨"WorldEngine$Body", "turns", "(III)V"⟩, prog_2_method_10_code, 4, none, [])
theorem d_Body_turns_0 : decode y_Body_turns.2.1 0 = .ok (.aload_n 0, 1) := by decide +kernel
theorem d_Body_turns_1 : decode y_Body_turns.2.1 1 = .ok (.getfield 17, 3) := by decide +kernel
theorem d_Body_turns_4 : decode y_Body_turns.2.1 4 = .ok (.iconst 1, 1) := by decide +kernel
theorem d_Body_turns_5 : decode y_Body_turns.2.1 5 = .ok (.invokevirtual 50, 3) := by decide +kernel
theorem d_Body_turns_8 : decode y_Body_turns.2.1 8 = .ok (.pop, 1) := by decide +kernel
theorem d_Body_turns_9 : decode y_Body_turns.2.1 9 = .ok (.aload_n 0, 1) := by decide +kernel
theorem d_Body_turns_10 : decode y_Body_turns.2.1 10 = .ok (.getfield 33, 3) := by decide +kernel
theorem d_Body_turns_13 : decode y_Body_turns.2.1 13 = .ok (.aload_n 0, 1) := by decide +kernel
theorem d_Body_turns_14 : decode y_Body_turns.2.1 14 = .ok (.getfield 13, 3) := by decide +kernel
theorem d_Body_turns_17 : decode y_Body_turns.2.1 17 = .ok (.arraylength, 1) := by decide +kernel
theorem d_Body_turns_18 : decode y_Body_turns.2.1 18 = .ok (.if_icmp .ge 13, 3) := by decide +kernel
theorem d_Body_turns_21 : decode y_Body_turns.2.1 21 = .ok (.aload_n 0, 1) := by decide +kernel
theorem d_Body_turns_22 : decode y_Body_turns.2.1 22 = .ok (.getfield 13, 3) := by decide +kernel
theorem d_Body_turns_25 : decode y_Body_turns.2.1 25 = .ok (.aload_n 0, 1) := by decide +kernel
theorem d_Body_turns_26 : decode y_Body_turns.2.1 26 = .ok (.getfield 33, 3) := by decide +kernel
theorem d_Body_turns_29 : decode y_Body_turns.2.1 29 = .ok (.iload_n 3, 1) := by decide +kernel
theorem d_Body_turns_30 : decode y_Body_turns.2.1 30 = .ok (.iastore, 1) := by decide +kernel
theorem d_Body_turns_31 : decode y_Body_turns.2.1 31 = .ok (.aload_n 0, 1) := by decide +kernel
theorem d_Body_turns_32 : decode y_Body_turns.2.1 32 = .ok (.dup, 1) := by decide +kernel
theorem d_Body_turns_33 : decode y_Body_turns.2.1 33 = .ok (.getfield 33, 3) := by decide +kernel
theorem d_Body_turns_36 : decode y_Body_turns.2.1 36 = .ok (.iconst 1, 1) := by decide +kernel
theorem d_Body_turns_37 : decode y_Body_turns.2.1 37 = .ok (.iadd, 1) := by decide +kernel
theorem d_Body_turns_38 : decode y_Body_turns.2.1 38 = .ok (.putfield 33, 3) := by decide +kernel
theorem d_Body_turns_41 : decode y_Body_turns.2.1 41 = .ok (.aload_n 0, 1) := by decide +kernel
theorem d_Body_turns_42 : decode y_Body_turns.2.1 42 = .ok (.invokevirtual 117, 3) := by decide +kernel
theorem d_Body_turns_45 : decode y_Body_turns.2.1 45 = .ok (.aload_n 0, 1) := by decide +kernel
theorem d_Body_turns_46 : decode y_Body_turns.2.1 46 = .ok (.dup, 1) := by decide +kernel
theorem d_Body_turns_47 : decode y_Body_turns.2.1 47 = .ok (.getfield 33, 3) := by decide +kernel
theorem d_Body_turns_50 : decode y_Body_turns.2.1 50 = .ok (.iconst 1, 1) := by decide +kernel
theorem d_Body_turns_51 : decode y_Body_turns.2.1 51 = .ok (.isub, 1) := by decide +kernel
theorem d_Body_turns_52 : decode y_Body_turns.2.1 52 = .ok (.putfield 33, 3) := by decide +kernel
theorem d_Body_turns_55 : decode y_Body_turns.2.1 55 = .ok (.aload_n 0, 1) := by decide +kernel
theorem d_Body_turns_56 : decode y_Body_turns.2.1 56 = .ok (.getfield 17, 3) := by decide +kernel
theorem d_Body_turns_59 : decode y_Body_turns.2.1 59 = .ok (.iconst 2, 1) := by decide +kernel
theorem d_Body_turns_60 : decode y_Body_turns.2.1 60 = .ok (.invokevirtual 50, 3) := by decide +kernel
theorem d_Body_turns_63 : decode y_Body_turns.2.1 63 = .ok (.pop, 1) := by decide +kernel
theorem d_Body_turns_64 : decode y_Body_turns.2.1 64 = .ok (.aload_n 0, 1) := by decide +kernel
theorem d_Body_turns_65 : decode y_Body_turns.2.1 65 = .ok (.getfield 17, 3) := by decide +kernel
theorem d_Body_turns_68 : decode y_Body_turns.2.1 68 = .ok (.iload_n 1, 1) := by decide +kernel
theorem d_Body_turns_69 : decode y_Body_turns.2.1 69 = .ok (.invokevirtual 50, 3) := by decide +kernel
theorem d_Body_turns_72 : decode y_Body_turns.2.1 72 = .ok (.pop, 1) := by decide +kernel
theorem d_Body_turns_73 : decode y_Body_turns.2.1 73 = .ok (.aload_n 0, 1) := by decide +kernel
theorem d_Body_turns_74 : decode y_Body_turns.2.1 74 = .ok (.getfield 17, 3) := by decide +kernel
theorem d_Body_turns_77 : decode y_Body_turns.2.1 77 = .ok (.iload_n 2, 1) := by decide +kernel
theorem d_Body_turns_78 : decode y_Body_turns.2.1 78 = .ok (.invokevirtual 120, 3) := by decide +kernel
theorem d_Body_turns_81 : decode y_Body_turns.2.1 81 = .ok (.return_, 1) := by decide +kernel
theorem s_Body_turns : ab_Stat y_Body_turns 3 := ⟨(k6 25 rfl rfl), (k1 8 rfl rfl), ⟨by decide, by decide⟩, by decide +kernel⟩
theorem i_Body_turns : Cond.instanceMethod y_Body_turns.1 ∈ ab_T := (k6 24 rfl rfl)
theorem v_Body_turns : Cond.selects "WorldEngine$Body" y_Body_turns.1 y_Body_turns.1 ∈ ab_T := ab_s (List.mem_of_getElem? (i := 51) rfl) rfl
def B_Body_turns_31 (N : Nat) (o : Orc_BodyS) (p0 : Nat) (p1 : Int32) (p2 : Int32) (p3 : Int32)  (H : Hp) : Option ((Ot Unit) × Hp) :=
    ck (H.sh[p0]? = some (6, 0)) <|
    bnd ((H.D p0 5)) fun x15 =>
    bnd (H.sD p0 5 (x15 + (1 : Int32))) fun H16 =>
    bT (F_Body_innerBlock N o p0 H16) fun v18 H19 =>
    bnd ((H19.D p0 5)) fun x21 =>
    bnd (H19.sD p0 5 (x21 - (1 : Int32))) fun H22 =>
    rf (H22.P p0 1) fun a23 =>
    ck (H22.sh[a23]? = some (4, 0)) <|
    bC (F_Program_add N a23 (2 : Int32) H22) fun v27 H28 =>
    rf (H28.P p0 1) fun a29 =>
    ck (H28.sh[a29]? = some (4, 0)) <|
    bC (F_Program_add N a29 p1 H28) fun v33 H34 =>
    rf (H34.P p0 1) fun a35 =>
    ck (H34.sh[a35]? = some (4, 0)) <|
    bC (F_Program_aim N a35 p2 H34) fun v39 H40 =>
    some (.inl (), H40)
set_option maxRecDepth 20000 in
set_option maxHeartbeats 2000000 in
theorem mB_Body_turns_31 {N : Nat} {o : Orc_BodyS} (hmo : mo_BodyS o) {p0 : Nat} {p1 : Int32} {p2 : Int32} {p3 : Int32}  {H : Hp} {r : (Ot Unit) × Hp} (hF : B_Body_turns_31 N o p0 p1 p2 p3  H = some r) : Mo H r.2 := by
  unfold B_Body_turns_31 at hF
  have hm := Mo.rf H
  obtain ⟨q41, hG⟩ := ck_s hF; clear hF
  obtain ⟨x42, -, hF⟩ := bnd_g hG; clear hG
  obtain ⟨H43, eH43, hG⟩ := bnd_g hF; clear hF
  replace hm : Mo H H43 := by rw [eH43]; exact hm
  refine bT_c hG (fun x47 H46 z44 er => ?_) (fun v45 H46 z44 hF => ?_)
  · subst er; exact hm.tr (m_Body_innerBlock hmo z44)
  clear hG
  replace hm : Mo H H46 := hm.tr (m_Body_innerBlock hmo z44)
  obtain ⟨x48, -, hG⟩ := bnd_g hF; clear hF
  obtain ⟨H49, eH49, hF⟩ := bnd_g hG; clear hG
  replace hm : Mo H H49 := by rw [eH49]; exact hm
  obtain ⟨a50, e51, hG⟩ := rf_s hF; clear hF
  obtain ⟨q52, hF⟩ := ck_s hG; clear hG
  obtain ⟨v54, H55, z53, hG⟩ := bC_s hF; clear hF
  replace hm : Mo H H55 := hm.tr ((m_Program_add z53)).mo
  obtain ⟨a56, e57, hF⟩ := rf_s hG; clear hG
  obtain ⟨q58, hG⟩ := ck_s hF; clear hF
  obtain ⟨v60, H61, z59, hF⟩ := bC_s hG; clear hG
  replace hm : Mo H H61 := hm.tr ((m_Program_add z59)).mo
  obtain ⟨a62, e63, hG⟩ := rf_s hF; clear hF
  obtain ⟨q64, hF⟩ := ck_s hG; clear hG
  obtain ⟨v66, H67, z65, hG⟩ := bC_s hF; clear hF
  replace hm : Mo H H67 := hm.tr ((m_Program_aim z65)).mo
  have hr := Option.some.inj hG; subst hr
  exact hm
set_option maxRecDepth 20000 in
set_option maxHeartbeats 2000000 in
theorem kB_Body_turns_31 {N : Nat} {o : Orc_BodyS} {fr lo : Nat} (ho : ok_BodyS o fr lo) (hmo : mo_BodyS o) {p0 : Nat} {p1 : Int32} {p2 : Int32} {p3 : Int32} {c0 s0 C Sl : Nat}  {H : Hp} {r : (Ot Unit) × Hp} (hF : B_Body_turns_31 N o p0 p1 p2 p3  H = some r) (hc0 : c0 ≤ H.sh.length) (hs0 : s0 ≤ H.sl) (hcc : H.sh.length ≤ c0 + C) (hss : H.sl ≤ s0 + Sl) (hC : r.2.sh.length ≤ c0 + C) (hS : r.2.sl ≤ s0 + Sl) : ab_V y_Body_turns { frames := fr + 2, cells := C, slots := Sl, locals := lo + 42 } (po (oV r.1) r.2) C Sl (H.sh.length - c0) (H.sl - s0) 31 [some (.ref p0), some (.int p1), some (.int p2), some (.int p3)] [] (hpw H) := by
  unfold B_Body_turns_31 at hF
  refine ab_aload_n d_Body_turns_31 rfl rfl rfl ?_
  refine ab_dup d_Body_turns_32 rfl ?_
  obtain ⟨q14, hG⟩ := ck_s hF; clear hF
  refine hp_getI (f := 5) d_Body_turns_33 q14 (by decide) rfl (by decide) (k1 162 rfl rfl) rfl ?_
  refine ab_topi (fun x15 ex15 => ?_)
  replace hG := bnd_s ex15 hG
  refine ab_iconst (v := 1) d_Body_turns_36 (by decide) ?_
  refine ab_iadd d_Body_turns_37 ?_
  refine hp_putI (v := x15 + (1 : Int32)) (f := 5) d_Body_turns_38 q14 (by decide) rfl (by decide) (k1 162 rfl rfl) rfl rfl (fun _ => rfl) (fun _ => rfl) rfl ?_
  refine hp_gen (fun H16 eH16 => ?_)
  replace hG := bnd_s eH16 hG
  have s_3 : Sa H H16 := by rw [eH16]; exact Sa.rf _
  refine ab_aload_n d_Body_turns_41 rfl rfl rfl ?_
  refine bT_c hG (fun x20 H19 z17 er => ?_) (fun v18 H19 z17 hF => ?_)
  · subst er
    refine ab_widen (cells' := H16.sh.length - c0) (slots' := H16.sl - s0) (by rw [(s_3).1]; exact Nat.le_refl _) (by rw [(s_3).2]; exact Nat.le_refl _) ?_
    have mz : Mo H16 H19 := (m_Body_innerBlock hmo z17)
    have ml := mz.len
    have m2 := mz.2
    have be := congrArg List.length (s_3).1
    have bfx := (s_3).2
    have hC9 : H19.sh.length ≤ c0 + C := hC
    have hS9 : H19.sl ≤ s0 + Sl := hS
    refine hp_callV_t (x := x20) (H1 := H19) (As := []) (rest := []) d_Body_turns_42 (k_Body_innerBlock ho hmo z17 (C := H19.sh.length - H16.sh.length) (Sl := H19.sl - H16.sl) (by show H19.sh.length ≤ _; omega) (by show H19.sl ≤ _; omega)) (ab_mkC s_Body_innerBlock (show (fr + 1) + 1 ≤ fr + 2 from by have := ho.1; omega) (show 8 + (1 + 11) + (lo + 22) ≤ lo + 42 from by have := ho.2.1; omega) (show (H16.sh.length - c0) + (H19.sh.length - H16.sh.length) ≤ C from by omega) (show (H16.sl - s0) + (H19.sl - H16.sl) ≤ Sl from by omega)) (k6 13 rfl rfl) i_Body_innerBlock v_Body_innerBlock (by rw [(s_3).1]; exact q14) (by decide) rfl rfl (Nat.le_of_ble_eq_true rfl) ?_
    exact ab_U_out rfl (by show _ + (H19.sh.length - H16.sh.length) ≤ C; omega) (by show _ + (H19.sl - H16.sl) ≤ Sl; omega) ⟨rfl, rfl⟩
  clear hG
  refine ab_widen (cells' := H16.sh.length - c0) (slots' := H16.sl - s0) (by rw [(s_3).1]; exact Nat.le_refl _) (by rw [(s_3).2]; exact Nat.le_refl _) ?_
  have mz_4 : Mo H16 H19 := (m_Body_innerBlock hmo z17)
  have b_5l := (mz_4).len
  have b_5s := (mz_4).2
  have b_5e := congrArg List.length (s_3).1
  have b_5f := (s_3).2
  have b_5c : c0 ≤ H19.sh.length := by omega
  have b_5d : s0 ≤ H19.sl := by omega
  have q_6 := (mz_4).get (by rw [(s_3).1]; exact q14)
  obtain ⟨x21, ex21, hG⟩ := bnd_g hF; clear hF
  obtain ⟨H22, eH22, hF⟩ := bnd_g hG; clear hG
  have jH22 : Mo H19 H22 := by rw [eH22]; exact Mo.rf _
  obtain ⟨a23, e24, hG⟩ := rf_s hF; clear hF
  obtain ⟨q25, hF⟩ := ck_s hG; clear hG
  obtain ⟨v27, H28, z26, hG⟩ := bC_s hF; clear hF
  have jH28 : Mo H22 H28 := ((m_Program_add z26)).mo
  obtain ⟨a29, e30, hF⟩ := rf_s hG; clear hG
  obtain ⟨q31, hG⟩ := ck_s hF; clear hF
  obtain ⟨v33, H34, z32, hF⟩ := bC_s hG; clear hG
  have jH34 : Mo H28 H34 := ((m_Program_add z32)).mo
  obtain ⟨a35, e36, hG⟩ := rf_s hF; clear hF
  obtain ⟨q37, hF⟩ := ck_s hG; clear hG
  obtain ⟨v39, H40, z38, hG⟩ := bC_s hF; clear hF
  have jH40 : Mo H34 H40 := ((m_Program_aim z38)).mo
  have fH40 : Mo H40 r.2 := by
    have hm := Mo.rf H40
    have hr := Option.some.inj hG; subst hr
    exact hm
  have fH34 : Mo H34 r.2 := jH40.tr fH40
  have fH28 : Mo H28 r.2 := jH34.tr fH34
  have fH22 : Mo H22 r.2 := jH28.tr fH28
  have fH19 : Mo H19 r.2 := jH22.tr fH22
  have b_5m := (fH19).len
  have b_5n := (fH19).2
  have b_5p : H19.sh.length ≤ c0 + C := by omega
  have b_5q : H19.sl ≤ s0 + Sl := by omega
  refine hp_callV_v (H1 := H19) (As := []) (rest := []) d_Body_turns_42 (k_Body_innerBlock ho hmo z17 (C := H19.sh.length - H16.sh.length) (Sl := H19.sl - H16.sl) (by show H19.sh.length ≤ _; omega) (by show H19.sl ≤ _; omega)) (ab_mkC s_Body_innerBlock (show (fr + 1) + 1 ≤ fr + 2 from by have := ho.1; omega) (show 8 + (1 + 11) + (lo + 22) ≤ lo + 42 from by have := ho.2.1; omega) (show (H16.sh.length - c0) + (H19.sh.length - H16.sh.length) ≤ C from by omega) (show (H16.sl - s0) + (H19.sl - H16.sl) ≤ Sl from by omega)) (k6 13 rfl rfl) i_Body_innerBlock v_Body_innerBlock (by rw [(s_3).1]; exact q14) (by decide) rfl rfl (Nat.le_of_ble_eq_true rfl) ?_
  refine ab_widen (cells' := H19.sh.length - c0) (slots' := H19.sl - s0) (by show _ + (H19.sh.length - H16.sh.length) ≤ _; omega) (by show _ + (H19.sl - H16.sl) ≤ _; omega) ?_
  clear b_5l b_5s b_5m b_5n b_5e b_5f
  refine ab_aload_n d_Body_turns_45 rfl rfl rfl ?_
  refine ab_dup d_Body_turns_46 rfl ?_
  refine hp_getI (f := 5) d_Body_turns_47 q_6 (by decide) rfl (by decide) (k1 162 rfl rfl) rfl ?_
  refine ab_topxi ex21 ?_
  refine ab_iconst (v := 1) d_Body_turns_50 (by decide) ?_
  refine ab_isub d_Body_turns_51 ?_
  refine hp_putI (v := x21 - (1 : Int32)) (f := 5) d_Body_turns_52 q_6 (by decide) rfl (by decide) (k1 162 rfl rfl) rfl rfl (fun _ => rfl) (fun _ => rfl) rfl ?_
  refine hp_genx eH22 ?_
  have s_11 : Sa H19 H22 := by rw [eH22]; exact Sa.rf _
  refine ab_aload_n d_Body_turns_55 rfl rfl rfl ?_
  refine hp_getR (f := 1) d_Body_turns_56 (by rw [(s_11).1]; exact q_6) (by decide) rfl (by decide) (k1 158 rfl rfl) rfl e24 ?_
  refine ab_iconst (v := 2) d_Body_turns_59 (by decide) ?_
  rw [(s_11).1] at q25
  refine ab_widen (cells' := H22.sh.length - c0) (slots' := H22.sl - s0) (by rw [(s_11).1]; exact Nat.le_refl _) (by rw [(s_11).2]; exact Nat.le_refl _) ?_
  have b_12e := congrArg List.length (s_11).1
  have b_12f := (s_11).2
  refine hp_callV_a (v := .int v27) (H1 := H28) (As := [.int 2]) (rest := []) d_Body_turns_60 (k_Program_add z26) (ab_mkC s_Program_add (show 0 + 1 ≤ fr + 2 from by have := ho.1; omega) (show 8 + (2 + 11) + 0 ≤ lo + 42 from by have := ho.2.1; omega) (show (H22.sh.length - c0) + 0 ≤ C from by omega) (show (H22.sl - s0) + 0 ≤ Sl from by omega)) (k5 117 rfl rfl) i_Program_add v_Program_add (by rw [(s_11).1]; exact q25) (by decide) rfl rfl (Nat.le_of_ble_eq_true rfl) ?_
  have s_13 : Sa H19 H28 := (s_11).tr (m_Program_add z26)
  refine ab_widen (cells' := H19.sh.length - c0) (slots' := H19.sl - s0) (by show (H22.sh.length - c0) + 0 ≤ _; omega) (by show (H22.sl - s0) + 0 ≤ _; omega) ?_
  clear b_12e b_12f
  refine ab_pop d_Body_turns_63 rfl ?_
  refine ab_aload_n d_Body_turns_64 rfl rfl rfl ?_
  refine hp_getR (f := 1) d_Body_turns_65 (by rw [(s_13).1]; exact q_6) (by decide) rfl (by decide) (k1 158 rfl rfl) rfl e30 ?_
  refine ab_iload_n d_Body_turns_68 rfl rfl ?_
  rw [(s_13).1] at q31
  refine ab_widen (cells' := H28.sh.length - c0) (slots' := H28.sl - s0) (by rw [(s_13).1]; exact Nat.le_refl _) (by rw [(s_13).2]; exact Nat.le_refl _) ?_
  have b_14e := congrArg List.length (s_13).1
  have b_14f := (s_13).2
  refine hp_callV_a (v := .int v33) (H1 := H34) (As := [.int p1]) (rest := []) d_Body_turns_69 (k_Program_add z32) (ab_mkC s_Program_add (show 0 + 1 ≤ fr + 2 from by have := ho.1; omega) (show 8 + (2 + 11) + 0 ≤ lo + 42 from by have := ho.2.1; omega) (show (H28.sh.length - c0) + 0 ≤ C from by omega) (show (H28.sl - s0) + 0 ≤ Sl from by omega)) (k5 117 rfl rfl) i_Program_add v_Program_add (by rw [(s_13).1]; exact q31) (by decide) rfl rfl (Nat.le_of_ble_eq_true rfl) ?_
  have s_15 : Sa H19 H34 := (s_13).tr (m_Program_add z32)
  refine ab_widen (cells' := H19.sh.length - c0) (slots' := H19.sl - s0) (by show (H28.sh.length - c0) + 0 ≤ _; omega) (by show (H28.sl - s0) + 0 ≤ _; omega) ?_
  clear b_14e b_14f
  refine ab_pop d_Body_turns_72 rfl ?_
  refine ab_aload_n d_Body_turns_73 rfl rfl rfl ?_
  refine hp_getR (f := 1) d_Body_turns_74 (by rw [(s_15).1]; exact q_6) (by decide) rfl (by decide) (k1 158 rfl rfl) rfl e36 ?_
  refine ab_iload_n d_Body_turns_77 rfl rfl ?_
  rw [(s_15).1] at q37
  refine ab_widen (cells' := H34.sh.length - c0) (slots' := H34.sl - s0) (by rw [(s_15).1]; exact Nat.le_refl _) (by rw [(s_15).2]; exact Nat.le_refl _) ?_
  have b_16e := congrArg List.length (s_15).1
  have b_16f := (s_15).2
  refine hp_callV_v (H1 := H40) (As := [.int p2]) (rest := []) d_Body_turns_78 (k_Program_aim z38) (ab_mkC s_Program_aim (show 0 + 1 ≤ fr + 2 from by have := ho.1; omega) (show 8 + (2 + 11) + 0 ≤ lo + 42 from by have := ho.2.1; omega) (show (H34.sh.length - c0) + 0 ≤ C from by omega) (show (H34.sl - s0) + 0 ≤ Sl from by omega)) (k5 232 rfl rfl) i_Program_aim v_Program_aim (by rw [(s_15).1]; exact q37) (by decide) rfl rfl (Nat.le_of_ble_eq_true rfl) ?_
  have s_17 : Sa H19 H40 := (s_15).tr (m_Program_aim z38)
  refine ab_widen (cells' := H19.sh.length - c0) (slots' := H19.sl - s0) (by show (H34.sh.length - c0) + 0 ≤ _; omega) (by show (H34.sl - s0) + 0 ≤ _; omega) ?_
  clear b_16e b_16f
  exact ab_vret d_Body_turns_81 rfl (by show _ ≤ C; omega) (by show _ ≤ Sl; omega) (by have hr := Option.some.inj hG; subst hr; exact ⟨rfl, rfl⟩)
def F_Body_turns (N : Nat) (o : Orc_BodyS) (p0 : Nat) (p1 : Int32) (p2 : Int32) (p3 : Int32) (H : Hp) : Option ((Ot Unit) × Hp) :=
    ck (H.sh[p0]? = some (6, 0)) <|
    rf (H.P p0 1) fun a2 =>
    ck (H.sh[a2]? = some (4, 0)) <|
    bC (F_Program_add N a2 (1 : Int32) H) fun v6 H7 =>
    bnd ((H7.D p0 5)) fun x8 =>
    rf (H7.P p0 4) fun a9 =>
    ar H7 100 a9 fun n11 =>
    if (Int32.ofNat n11) ≤ x8 then
    B_Body_turns_31 N o p0 p1 p2 p3  H7
    else
    rf (H7.P p0 4) fun a68 =>
    bnd ((H7.D p0 5)) fun x70 =>
    ar H7 100 a68 fun n71 =>
    ck (inb x70 n71) <|
    bnd (H7.sD a68 (x70).toNatClampNeg p3) fun H74 =>
    B_Body_turns_31 N o p0 p1 p2 p3  H74
set_option maxRecDepth 20000 in
set_option maxHeartbeats 2000000 in
theorem m_Body_turns {N : Nat} {o : Orc_BodyS} (hmo : mo_BodyS o) {p0 : Nat} {p1 : Int32} {p2 : Int32} {p3 : Int32} {H : Hp} {r : (Ot Unit) × Hp} (hF : F_Body_turns N o p0 p1 p2 p3 H = some r) : Mo H r.2 := by
  unfold F_Body_turns at hF
  have hm := Mo.rf H
  obtain ⟨q75, hG⟩ := ck_s hF; clear hF
  obtain ⟨a76, e77, hF⟩ := rf_s hG; clear hG
  obtain ⟨q78, hG⟩ := ck_s hF; clear hF
  obtain ⟨v80, H81, z79, hF⟩ := bC_s hG; clear hG
  replace hm : Mo H H81 := hm.tr ((m_Program_add z79)).mo
  obtain ⟨x82, -, hG⟩ := bnd_g hF; clear hF
  obtain ⟨a83, e84, hF⟩ := rf_s hG; clear hG
  obtain ⟨n85, q86, hG⟩ := ar_s hF; clear hF
  rcases ite_s hG with ⟨q_23, hF⟩ | ⟨q_23, hF⟩
  · clear hG
    exact hm.tr (mB_Body_turns_31 hmo hF)
  · clear hG
    obtain ⟨a88, e89, hG⟩ := rf_s hF; clear hF
    obtain ⟨x90, -, hF⟩ := bnd_g hG; clear hG
    obtain ⟨n91, q92, hG⟩ := ar_s hF; clear hF
    obtain ⟨q93, hF⟩ := ck_s hG; clear hG
    obtain ⟨H94, eH94, hG⟩ := bnd_g hF; clear hF
    replace hm : Mo H H94 := by rw [eH94]; exact hm
    exact hm.tr (mB_Body_turns_31 hmo hG)
set_option maxRecDepth 20000 in
set_option maxHeartbeats 2000000 in
theorem k_Body_turns {N : Nat} {o : Orc_BodyS} {fr lo : Nat} (ho : ok_BodyS o fr lo) (hmo : mo_BodyS o) {p0 : Nat} {p1 : Int32} {p2 : Int32} {p3 : Int32} {H : Hp} {r : (Ot Unit) × Hp} {C Sl : Nat} (hF : F_Body_turns N o p0 p1 p2 p3 H = some r) (hC : r.2.sh.length ≤ H.sh.length + C) (hS : r.2.sl ≤ H.sl + Sl) : ab_M y_Body_turns { frames := fr + 2, cells := C, slots := Sl, locals := lo + 42 } [.ref p0, .int p1, .int p2, .int p3] (hpw H) (po (oV r.1) r.2) := by
  unfold F_Body_turns at hF
  obtain ⟨c0, e0⟩ : ∃ q, q = H.sh.length := ⟨_, rfl⟩
  obtain ⟨s0, e1⟩ : ∃ q, q = H.sl := ⟨_, rfl⟩
  rw [← e0] at hC
  rw [← e1] at hS
  have hc0 : c0 ≤ H.sh.length := Nat.le_of_eq e0
  have hs0 : s0 ≤ H.sl := Nat.le_of_eq e1
  have hcc : H.sh.length ≤ c0 + C := by omega
  have hss : H.sl ≤ s0 + Sl := by omega
  refine ab_of2 (lv := [some (.ref p0), some (.int p1), some (.int p2), some (.int p3)]) 0 rfl rfl (Nat.le_of_ble_eq_true rfl) ?_
  refine ab_widen (cells' := H.sh.length - c0) (slots' := H.sl - s0) (Nat.zero_le _) (Nat.zero_le _) ?_
  refine ab_aload_n d_Body_turns_0 rfl rfl rfl ?_
  obtain ⟨q1, hG⟩ := ck_s hF; clear hF
  obtain ⟨a2, e3, hF⟩ := rf_s hG; clear hG
  refine hp_getR (f := 1) d_Body_turns_1 q1 (by decide) rfl (by decide) (k1 158 rfl rfl) rfl e3 ?_
  refine ab_iconst (v := 1) d_Body_turns_4 (by decide) ?_
  obtain ⟨q4, hG⟩ := ck_s hF; clear hF
  obtain ⟨v6, H7, z5, hF⟩ := bC_s hG; clear hG
  refine hp_callV_a (v := .int v6) (H1 := H7) (As := [.int 1]) (rest := []) d_Body_turns_5 (k_Program_add z5) (ab_mkC s_Program_add (show 0 + 1 ≤ fr + 2 from by have := ho.1; omega) (show 8 + (2 + 11) + 0 ≤ lo + 42 from by have := ho.2.1; omega) (show (H.sh.length - c0) + 0 ≤ C from by omega) (show (H.sl - s0) + 0 ≤ Sl from by omega)) (k5 117 rfl rfl) i_Program_add v_Program_add q4 (by decide) rfl rfl (Nat.le_of_ble_eq_true rfl) ?_
  have s_2 : Sa H H7 := (m_Program_add z5)
  refine ab_widen (cells' := H.sh.length - c0) (slots' := H.sl - s0) (by show (H.sh.length - c0) + 0 ≤ _; omega) (by show (H.sl - s0) + 0 ≤ _; omega) ?_
  refine ab_pop d_Body_turns_8 rfl ?_
  refine ab_aload_n d_Body_turns_9 rfl rfl rfl ?_
  refine hp_getI (f := 5) d_Body_turns_10 (by rw [(s_2).1]; exact q1) (by decide) rfl (by decide) (k1 162 rfl rfl) rfl ?_
  refine ab_topi (fun x8 ex8 => ?_)
  replace hF := bnd_s ex8 hF
  refine ab_aload_n d_Body_turns_13 rfl rfl rfl ?_
  obtain ⟨a9, e10, hG⟩ := rf_s hF; clear hF
  refine hp_getR (f := 4) d_Body_turns_14 (by rw [(s_2).1]; exact q1) (by decide) rfl (by decide) (k1 161 rfl rfl) rfl e10 ?_
  obtain ⟨n11, q12, hF⟩ := ar_s hG; clear hG
  rw [(s_2).1] at q12
  refine hp_alen (q := 100) d_Body_turns_17 (by rw [(s_2).1]; exact q12) (Or.inl ⟨by decide, by decide, rfl⟩) tI ?_
  refine ab_icmp_ge (tgt := 31) d_Body_turns_18 (by decide) (fun q13 => ?_) (fun q13 => ?_)
  · rw [if_pos q13] at hF
    refine ab_widen (cells' := H7.sh.length - c0) (slots' := H7.sl - s0) (by rw [(s_2).1]; exact Nat.le_refl _) (by rw [(s_2).2]; exact Nat.le_refl _) ?_
    exact kB_Body_turns_31 ho hmo hF (by rw [(s_2).1]; exact hc0) (by rw [(s_2).2]; exact hs0) (by rw [(s_2).1]; exact hcc) (by rw [(s_2).2]; exact hss) hC hS
  · rw [if_neg q13] at hF
    refine ab_aload_n d_Body_turns_21 rfl rfl rfl ?_
    obtain ⟨a68, e69, hG⟩ := rf_s hF; clear hF
    refine hp_getR (f := 4) d_Body_turns_22 (by rw [(s_2).1]; exact q1) (by decide) rfl (by decide) (k1 161 rfl rfl) rfl e69 ?_
    refine ab_aload_n d_Body_turns_25 rfl rfl rfl ?_
    refine hp_getI (f := 5) d_Body_turns_26 (by rw [(s_2).1]; exact q1) (by decide) rfl (by decide) (k1 162 rfl rfl) rfl ?_
    refine ab_topi (fun x70 ex70 => ?_)
    replace hG := bnd_s ex70 hG
    refine ab_iload_n d_Body_turns_29 rfl rfl ?_
    obtain ⟨n71, q72, hF⟩ := ar_s hG; clear hG
    rw [(s_2).1] at q72
    obtain ⟨q73, hG⟩ := ck_s hF; clear hF
    refine hp_iast d_Body_turns_30 tI (by rw [(s_2).1]; exact q72) q73 ?_
    refine hp_gen (fun H74 eH74 => ?_)
    replace hG := bnd_s eH74 hG
    have s_22 : Sa H H74 := by rw [eH74]; exact s_2
    refine ab_widen (cells' := H74.sh.length - c0) (slots' := H74.sl - s0) (by rw [(s_22).1]; exact Nat.le_refl _) (by rw [(s_22).2]; exact Nat.le_refl _) ?_
    exact kB_Body_turns_31 ho hmo hG (by rw [(s_22).1]; exact hc0) (by rw [(s_22).2]; exact hs0) (by rw [(s_22).1]; exact hcc) (by rw [(s_22).2]; exact hss) hC hS
def y_Body_readHear : ab_Y := (⟨"WorldEngine$Body", "readHear", "()V"⟩, prog_2_method_13_code, 4, none, [])
theorem d_Body_readHear_0 : decode y_Body_readHear.2.1 0 = .ok (.aload_n 0, 1) := by decide +kernel
theorem d_Body_readHear_1 : decode y_Body_readHear.2.1 1 = .ok (.getfield 7, 3) := by decide +kernel
theorem d_Body_readHear_4 : decode y_Body_readHear.2.1 4 = .ok (.invokevirtual 93, 3) := by decide +kernel
theorem d_Body_readHear_7 : decode y_Body_readHear.2.1 7 = .ok (.aload_n 0, 1) := by decide +kernel
theorem d_Body_readHear_8 : decode y_Body_readHear.2.1 8 = .ok (.iconst 1, 1) := by decide +kernel
theorem d_Body_readHear_9 : decode y_Body_readHear.2.1 9 = .ok (.invokevirtual 134, 3) := by decide +kernel
theorem d_Body_readHear_12 : decode y_Body_readHear.2.1 12 = .ok (.istore_n 1, 1) := by decide +kernel
theorem d_Body_readHear_13 : decode y_Body_readHear.2.1 13 = .ok (.aload_n 0, 1) := by decide +kernel
theorem d_Body_readHear_14 : decode y_Body_readHear.2.1 14 = .ok (.getfield 17, 3) := by decide +kernel
theorem d_Body_readHear_17 : decode y_Body_readHear.2.1 17 = .ok (.bipush 6, 2) := by decide +kernel
theorem d_Body_readHear_19 : decode y_Body_readHear.2.1 19 = .ok (.invokevirtual 50, 3) := by decide +kernel
theorem d_Body_readHear_22 : decode y_Body_readHear.2.1 22 = .ok (.pop, 1) := by decide +kernel
theorem d_Body_readHear_23 : decode y_Body_readHear.2.1 23 = .ok (.aload_n 0, 1) := by decide +kernel
theorem d_Body_readHear_24 : decode y_Body_readHear.2.1 24 = .ok (.getfield 17, 3) := by decide +kernel
theorem d_Body_readHear_27 : decode y_Body_readHear.2.1 27 = .ok (.aload_n 0, 1) := by decide +kernel
theorem d_Body_readHear_28 : decode y_Body_readHear.2.1 28 = .ok (.getfield 33, 3) := by decide +kernel
theorem d_Body_readHear_31 : decode y_Body_readHear.2.1 31 = .ok (.invokevirtual 50, 3) := by decide +kernel
theorem d_Body_readHear_34 : decode y_Body_readHear.2.1 34 = .ok (.pop, 1) := by decide +kernel
theorem d_Body_readHear_35 : decode y_Body_readHear.2.1 35 = .ok (.aload_n 0, 1) := by decide +kernel
theorem d_Body_readHear_36 : decode y_Body_readHear.2.1 36 = .ok (.getfield 17, 3) := by decide +kernel
theorem d_Body_readHear_39 : decode y_Body_readHear.2.1 39 = .ok (.getfield 123, 3) := by decide +kernel
theorem d_Body_readHear_42 : decode y_Body_readHear.2.1 42 = .ok (.istore_n 2, 1) := by decide +kernel
theorem d_Body_readHear_43 : decode y_Body_readHear.2.1 43 = .ok (.aload_n 0, 1) := by decide +kernel
theorem d_Body_readHear_44 : decode y_Body_readHear.2.1 44 = .ok (.getfield 17, 3) := by decide +kernel
theorem d_Body_readHear_47 : decode y_Body_readHear.2.1 47 = .ok (.bipush 10, 2) := by decide +kernel
theorem d_Body_readHear_49 : decode y_Body_readHear.2.1 49 = .ok (.invokevirtual 50, 3) := by decide +kernel
theorem d_Body_readHear_52 : decode y_Body_readHear.2.1 52 = .ok (.pop, 1) := by decide +kernel
theorem d_Body_readHear_53 : decode y_Body_readHear.2.1 53 = .ok (.aload_n 0, 1) := by decide +kernel
theorem d_Body_readHear_54 : decode y_Body_readHear.2.1 54 = .ok (.getfield 17, 3) := by decide +kernel
theorem d_Body_readHear_57 : decode y_Body_readHear.2.1 57 = .ok (.aload_n 0, 1) := by decide +kernel
theorem d_Body_readHear_58 : decode y_Body_readHear.2.1 58 = .ok (.getfield 33, 3) := by decide +kernel
theorem d_Body_readHear_61 : decode y_Body_readHear.2.1 61 = .ok (.invokevirtual 50, 3) := by decide +kernel
theorem d_Body_readHear_64 : decode y_Body_readHear.2.1 64 = .ok (.pop, 1) := by decide +kernel
theorem d_Body_readHear_65 : decode y_Body_readHear.2.1 65 = .ok (.aload_n 0, 1) := by decide +kernel
theorem d_Body_readHear_66 : decode y_Body_readHear.2.1 66 = .ok (.getfield 17, 3) := by decide +kernel
theorem d_Body_readHear_69 : decode y_Body_readHear.2.1 69 = .ok (.iload_n 1, 1) := by decide +kernel
theorem d_Body_readHear_70 : decode y_Body_readHear.2.1 70 = .ok (.invokevirtual 50, 3) := by decide +kernel
theorem d_Body_readHear_73 : decode y_Body_readHear.2.1 73 = .ok (.pop, 1) := by decide +kernel
theorem d_Body_readHear_74 : decode y_Body_readHear.2.1 74 = .ok (.aload_n 0, 1) := by decide +kernel
theorem d_Body_readHear_75 : decode y_Body_readHear.2.1 75 = .ok (.getfield 17, 3) := by decide +kernel
theorem d_Body_readHear_78 : decode y_Body_readHear.2.1 78 = .ok (.iconst 0, 1) := by decide +kernel
theorem d_Body_readHear_79 : decode y_Body_readHear.2.1 79 = .ok (.invokevirtual 50, 3) := by decide +kernel
theorem d_Body_readHear_82 : decode y_Body_readHear.2.1 82 = .ok (.istore_n 3, 1) := by decide +kernel
theorem d_Body_readHear_83 : decode y_Body_readHear.2.1 83 = .ok (.aload_n 0, 1) := by decide +kernel
theorem d_Body_readHear_84 : decode y_Body_readHear.2.1 84 = .ok (.iload_n 2, 1) := by decide +kernel
theorem d_Body_readHear_85 : decode y_Body_readHear.2.1 85 = .ok (.iload_n 3, 1) := by decide +kernel
theorem d_Body_readHear_86 : decode y_Body_readHear.2.1 86 = .ok (.iload_n 1, 1) := by decide +kernel
theorem d_Body_readHear_87 : decode y_Body_readHear.2.1 87 = .ok (.invokevirtual 126, 3) := by decide +kernel
theorem d_Body_readHear_90 : decode y_Body_readHear.2.1 90 = .ok (.return_, 1) := by decide +kernel
theorem s_Body_readHear : ab_Stat y_Body_readHear 0 := ⟨(k6 43 rfl rfl), (k1 8 rfl rfl), ⟨by decide, by decide⟩, by decide +kernel⟩
theorem i_Body_readHear : Cond.instanceMethod y_Body_readHear.1 ∈ ab_T := (k6 42 rfl rfl)
theorem v_Body_readHear : Cond.selects "WorldEngine$Body" y_Body_readHear.1 y_Body_readHear.1 ∈ ab_T := ab_s (List.mem_of_getElem? (i := 54) rfl) rfl
def F_Body_readHear (N : Nat) (o : Orc_BodyS) (p0 : Nat) (H : Hp) : Option ((Ot Unit) × Hp) :=
    ck (H.sh[p0]? = some (6, 0)) <|
    rf (H.P p0 0) fun a2 =>
    ck (H.sh[a2]? = some (1, 0)) <|
    bC (F_Lexer_advance N a2 H) fun v6 H7 =>
    bT (F_Body_numberHere N p0 (1 : Int32) H7) fun v9 H10 =>
    rf (H10.P p0 1) fun a12 =>
    ck (H10.sh[a12]? = some (4, 0)) <|
    bC (F_Program_add N a12 (6 : Int32) H10) fun v16 H17 =>
    rf (H17.P p0 1) fun a18 =>
    bnd ((H17.D p0 5)) fun x20 =>
    ck (H17.sh[a18]? = some (4, 0)) <|
    bC (F_Program_add N a18 x20 H17) fun v23 H24 =>
    rf (H24.P p0 1) fun a25 =>
    ck (H24.sh[a25]? = some (4, 0)) <|
    bnd ((H24.D a25 17)) fun x28 =>
    rf (H24.P p0 1) fun a29 =>
    ck (H24.sh[a29]? = some (4, 0)) <|
    bC (F_Program_add N a29 (10 : Int32) H24) fun v33 H34 =>
    rf (H34.P p0 1) fun a35 =>
    bnd ((H34.D p0 5)) fun x37 =>
    ck (H34.sh[a35]? = some (4, 0)) <|
    bC (F_Program_add N a35 x37 H34) fun v40 H41 =>
    rf (H41.P p0 1) fun a42 =>
    ck (H41.sh[a42]? = some (4, 0)) <|
    bC (F_Program_add N a42 v9 H41) fun v46 H47 =>
    rf (H47.P p0 1) fun a48 =>
    ck (H47.sh[a48]? = some (4, 0)) <|
    bC (F_Program_add N a48 (0 : Int32) H47) fun v52 H53 =>
    bT (F_Body_turns N o p0 x28 v52 v9 H53) fun v55 H56 =>
    some (.inl (), H56)
set_option maxRecDepth 20000 in
set_option maxHeartbeats 2000000 in
theorem m_Body_readHear {N : Nat} {o : Orc_BodyS} (hmo : mo_BodyS o) {p0 : Nat} {H : Hp} {r : (Ot Unit) × Hp} (hF : F_Body_readHear N o p0 H = some r) : Mo H r.2 := by
  unfold F_Body_readHear at hF
  have hm := Mo.rf H
  obtain ⟨q58, hG⟩ := ck_s hF; clear hF
  obtain ⟨a59, e60, hF⟩ := rf_s hG; clear hG
  obtain ⟨q61, hG⟩ := ck_s hF; clear hF
  obtain ⟨v63, H64, z62, hF⟩ := bC_s hG; clear hG
  replace hm : Mo H H64 := hm.tr ((m_Lexer_advance z62)).mo
  refine bT_c hF (fun x68 H67 z65 er => ?_) (fun v66 H67 z65 hG => ?_)
  · subst er; exact hm.tr (m_Body_numberHere z65)
  clear hF
  replace hm : Mo H H67 := hm.tr (m_Body_numberHere z65)
  obtain ⟨a69, e70, hF⟩ := rf_s hG; clear hG
  obtain ⟨q71, hG⟩ := ck_s hF; clear hF
  obtain ⟨v73, H74, z72, hF⟩ := bC_s hG; clear hG
  replace hm : Mo H H74 := hm.tr ((m_Program_add z72)).mo
  obtain ⟨a75, e76, hG⟩ := rf_s hF; clear hF
  obtain ⟨x77, -, hF⟩ := bnd_g hG; clear hG
  obtain ⟨q78, hG⟩ := ck_s hF; clear hF
  obtain ⟨v80, H81, z79, hF⟩ := bC_s hG; clear hG
  replace hm : Mo H H81 := hm.tr ((m_Program_add z79)).mo
  obtain ⟨a82, e83, hG⟩ := rf_s hF; clear hF
  obtain ⟨q84, hF⟩ := ck_s hG; clear hG
  obtain ⟨x85, -, hG⟩ := bnd_g hF; clear hF
  obtain ⟨a86, e87, hF⟩ := rf_s hG; clear hG
  obtain ⟨q88, hG⟩ := ck_s hF; clear hF
  obtain ⟨v90, H91, z89, hF⟩ := bC_s hG; clear hG
  replace hm : Mo H H91 := hm.tr ((m_Program_add z89)).mo
  obtain ⟨a92, e93, hG⟩ := rf_s hF; clear hF
  obtain ⟨x94, -, hF⟩ := bnd_g hG; clear hG
  obtain ⟨q95, hG⟩ := ck_s hF; clear hF
  obtain ⟨v97, H98, z96, hF⟩ := bC_s hG; clear hG
  replace hm : Mo H H98 := hm.tr ((m_Program_add z96)).mo
  obtain ⟨a99, e100, hG⟩ := rf_s hF; clear hF
  obtain ⟨q101, hF⟩ := ck_s hG; clear hG
  obtain ⟨v103, H104, z102, hG⟩ := bC_s hF; clear hF
  replace hm : Mo H H104 := hm.tr ((m_Program_add z102)).mo
  obtain ⟨a105, e106, hF⟩ := rf_s hG; clear hG
  obtain ⟨q107, hG⟩ := ck_s hF; clear hF
  obtain ⟨v109, H110, z108, hF⟩ := bC_s hG; clear hG
  replace hm : Mo H H110 := hm.tr ((m_Program_add z108)).mo
  refine bT_c hF (fun x114 H113 z111 er => ?_) (fun v112 H113 z111 hG => ?_)
  · subst er; exact hm.tr (m_Body_turns hmo z111)
  clear hF
  replace hm : Mo H H113 := hm.tr (m_Body_turns hmo z111)
  have hr := Option.some.inj hG; subst hr
  exact hm
set_option maxRecDepth 20000 in
set_option maxHeartbeats 2000000 in
theorem k_Body_readHear {N : Nat} {o : Orc_BodyS} {fr lo : Nat} (ho : ok_BodyS o fr lo) (hmo : mo_BodyS o) {p0 : Nat} {H : Hp} {r : (Ot Unit) × Hp} {C Sl : Nat} (hF : F_Body_readHear N o p0 H = some r) (hC : r.2.sh.length ≤ H.sh.length + C) (hS : r.2.sl ≤ H.sl + Sl) : ab_M y_Body_readHear { frames := fr + 3, cells := C, slots := Sl, locals := lo + 65 } [.ref p0] (hpw H) (po (oV r.1) r.2) := by
  unfold F_Body_readHear at hF
  obtain ⟨c0, e0⟩ : ∃ q, q = H.sh.length := ⟨_, rfl⟩
  obtain ⟨s0, e1⟩ : ∃ q, q = H.sl := ⟨_, rfl⟩
  rw [← e0] at hC
  rw [← e1] at hS
  have hc0 : c0 ≤ H.sh.length := Nat.le_of_eq e0
  have hs0 : s0 ≤ H.sl := Nat.le_of_eq e1
  have hcc : H.sh.length ≤ c0 + C := by omega
  have hss : H.sl ≤ s0 + Sl := by omega
  refine ab_of2 (lv := [some (.ref p0), none, none, none]) 3 rfl rfl (Nat.le_of_ble_eq_true rfl) ?_
  refine ab_widen (cells' := H.sh.length - c0) (slots' := H.sl - s0) (Nat.zero_le _) (Nat.zero_le _) ?_
  refine ab_aload_n d_Body_readHear_0 rfl rfl rfl ?_
  obtain ⟨q1, hG⟩ := ck_s hF; clear hF
  obtain ⟨a2, e3, hF⟩ := rf_s hG; clear hG
  refine hp_getR (f := 0) d_Body_readHear_1 q1 (by decide) rfl (by decide) (k1 157 rfl rfl) rfl e3 ?_
  obtain ⟨q4, hG⟩ := ck_s hF; clear hF
  obtain ⟨v6, H7, z5, hF⟩ := bC_s hG; clear hG
  refine hp_callV_v (H1 := H7) (As := []) (rest := []) d_Body_readHear_4 (k_Lexer_advance z5) (ab_mkC s_Lexer_advance (show 0 + 1 ≤ fr + 3 from by have := ho.1; omega) (show 8 + (1 + 11) + 0 ≤ lo + 65 from by have := ho.2.1; omega) (show (H.sh.length - c0) + 0 ≤ C from by omega) (show (H.sl - s0) + 0 ≤ Sl from by omega)) (k5 129 rfl rfl) i_Lexer_advance v_Lexer_advance q4 (by decide) rfl rfl (Nat.le_of_ble_eq_true rfl) ?_
  have s_2 : Sa H H7 := (m_Lexer_advance z5)
  refine ab_widen (cells' := H.sh.length - c0) (slots' := H.sl - s0) (by show (H.sh.length - c0) + 0 ≤ _; omega) (by show (H.sl - s0) + 0 ≤ _; omega) ?_
  refine ab_aload_n d_Body_readHear_7 rfl rfl rfl ?_
  refine ab_iconst (v := 1) d_Body_readHear_8 (by decide) ?_
  refine bT_c hF (fun x11 H10 z8 er => ?_) (fun v9 H10 z8 hG => ?_)
  · subst er
    refine ab_widen (cells' := H7.sh.length - c0) (slots' := H7.sl - s0) (by rw [(s_2).1]; exact Nat.le_refl _) (by rw [(s_2).2]; exact Nat.le_refl _) ?_
    have mz : Mo H7 H10 := (m_Body_numberHere z8)
    have ml := mz.len
    have m2 := mz.2
    have be := congrArg List.length (s_2).1
    have bfx := (s_2).2
    have hC9 : H10.sh.length ≤ c0 + C := hC
    have hS9 : H10.sl ≤ s0 + Sl := hS
    refine hp_callV_t (x := x11) (H1 := H10) (As := [.int 1]) (rest := []) d_Body_readHear_9 (k_Body_numberHere z8 (C := H10.sh.length - H7.sh.length) (Sl := H10.sl - H7.sl) (by show H10.sh.length ≤ _; omega) (by show H10.sl ≤ _; omega)) (ab_mkC s_Body_numberHere (show 8 + 1 ≤ fr + 3 from by have := ho.1; omega) (show 8 + (4 + 11) + 150 ≤ lo + 65 from by have := ho.2.1; omega) (show (H7.sh.length - c0) + (H10.sh.length - H7.sh.length) ≤ C from by omega) (show (H7.sl - s0) + (H10.sl - H7.sl) ≤ Sl from by omega)) (k5 177 rfl rfl) i_Body_numberHere v_Body_numberHere (by rw [(s_2).1]; exact q1) (by decide) rfl rfl (Nat.le_of_ble_eq_true rfl) ?_
    exact ab_U_out rfl (by show _ + (H10.sh.length - H7.sh.length) ≤ C; omega) (by show _ + (H10.sl - H7.sl) ≤ Sl; omega) ⟨rfl, rfl⟩
  clear hF
  refine ab_widen (cells' := H7.sh.length - c0) (slots' := H7.sl - s0) (by rw [(s_2).1]; exact Nat.le_refl _) (by rw [(s_2).2]; exact Nat.le_refl _) ?_
  have mz_3 : Mo H7 H10 := (m_Body_numberHere z8)
  have b_4l := (mz_3).len
  have b_4s := (mz_3).2
  have b_4e := congrArg List.length (s_2).1
  have b_4f := (s_2).2
  have b_4c : c0 ≤ H10.sh.length := by omega
  have b_4d : s0 ≤ H10.sl := by omega
  have q_5 := (mz_3).get (by rw [(s_2).1]; exact q1)
  have q_6 := (mz_3).get (by rw [(s_2).1]; exact q4)
  obtain ⟨a12, e13, hF⟩ := rf_s hG; clear hG
  obtain ⟨q14, hG⟩ := ck_s hF; clear hF
  obtain ⟨v16, H17, z15, hF⟩ := bC_s hG; clear hG
  have jH17 : Mo H10 H17 := ((m_Program_add z15)).mo
  obtain ⟨a18, e19, hG⟩ := rf_s hF; clear hF
  obtain ⟨x20, ex20, hF⟩ := bnd_g hG; clear hG
  obtain ⟨q21, hG⟩ := ck_s hF; clear hF
  obtain ⟨v23, H24, z22, hF⟩ := bC_s hG; clear hG
  have jH24 : Mo H17 H24 := ((m_Program_add z22)).mo
  obtain ⟨a25, e26, hG⟩ := rf_s hF; clear hF
  obtain ⟨q27, hF⟩ := ck_s hG; clear hG
  obtain ⟨x28, ex28, hG⟩ := bnd_g hF; clear hF
  obtain ⟨a29, e30, hF⟩ := rf_s hG; clear hG
  obtain ⟨q31, hG⟩ := ck_s hF; clear hF
  obtain ⟨v33, H34, z32, hF⟩ := bC_s hG; clear hG
  have jH34 : Mo H24 H34 := ((m_Program_add z32)).mo
  obtain ⟨a35, e36, hG⟩ := rf_s hF; clear hF
  obtain ⟨x37, ex37, hF⟩ := bnd_g hG; clear hG
  obtain ⟨q38, hG⟩ := ck_s hF; clear hF
  obtain ⟨v40, H41, z39, hF⟩ := bC_s hG; clear hG
  have jH41 : Mo H34 H41 := ((m_Program_add z39)).mo
  obtain ⟨a42, e43, hG⟩ := rf_s hF; clear hF
  obtain ⟨q44, hF⟩ := ck_s hG; clear hG
  obtain ⟨v46, H47, z45, hG⟩ := bC_s hF; clear hF
  have jH47 : Mo H41 H47 := ((m_Program_add z45)).mo
  obtain ⟨a48, e49, hF⟩ := rf_s hG; clear hG
  obtain ⟨q50, hG⟩ := ck_s hF; clear hF
  obtain ⟨v52, H53, z51, hF⟩ := bC_s hG; clear hG
  have jH53 : Mo H47 H53 := ((m_Program_add z51)).mo
  have fH53 : Mo H53 r.2 := by
    have hm := Mo.rf H53
    refine bT_c hF (fun x57 H56 z54 er => ?_) (fun v55 H56 z54 hG => ?_)
    · subst er; exact hm.tr (m_Body_turns hmo z54)
    clear hF
    replace hm : Mo H53 H56 := hm.tr (m_Body_turns hmo z54)
    have hr := Option.some.inj hG; subst hr
    exact hm
  have fH47 : Mo H47 r.2 := jH53.tr fH53
  have fH41 : Mo H41 r.2 := jH47.tr fH47
  have fH34 : Mo H34 r.2 := jH41.tr fH41
  have fH24 : Mo H24 r.2 := jH34.tr fH34
  have fH17 : Mo H17 r.2 := jH24.tr fH24
  have fH10 : Mo H10 r.2 := jH17.tr fH17
  have b_4m := (fH10).len
  have b_4n := (fH10).2
  have b_4p : H10.sh.length ≤ c0 + C := by omega
  have b_4q : H10.sl ≤ s0 + Sl := by omega
  refine hp_callV_a (v := .int v9) (H1 := H10) (As := [.int 1]) (rest := []) d_Body_readHear_9 (k_Body_numberHere z8 (C := H10.sh.length - H7.sh.length) (Sl := H10.sl - H7.sl) (by show H10.sh.length ≤ _; omega) (by show H10.sl ≤ _; omega)) (ab_mkC s_Body_numberHere (show 8 + 1 ≤ fr + 3 from by have := ho.1; omega) (show 8 + (4 + 11) + 150 ≤ lo + 65 from by have := ho.2.1; omega) (show (H7.sh.length - c0) + (H10.sh.length - H7.sh.length) ≤ C from by omega) (show (H7.sl - s0) + (H10.sl - H7.sl) ≤ Sl from by omega)) (k5 177 rfl rfl) i_Body_numberHere v_Body_numberHere (by rw [(s_2).1]; exact q1) (by decide) rfl rfl (Nat.le_of_ble_eq_true rfl) ?_
  refine ab_widen (cells' := H10.sh.length - c0) (slots' := H10.sl - s0) (by show _ + (H10.sh.length - H7.sh.length) ≤ _; omega) (by show _ + (H10.sl - H7.sl) ≤ _; omega) ?_
  clear b_4l b_4s b_4m b_4n b_4e b_4f
  refine ab_istore_n (lv' := [some (.ref p0), some (.int v9), none, none]) d_Body_readHear_12 rfl (by decide) rfl ?_
  refine ab_aload_n d_Body_readHear_13 rfl rfl rfl ?_
  refine hp_getR (f := 1) d_Body_readHear_14 q_5 (by decide) rfl (by decide) (k1 158 rfl rfl) rfl e13 ?_
  refine ab_bipush (v := 6) d_Body_readHear_17 (by decide) ?_
  refine hp_callV_a (v := .int v16) (H1 := H17) (As := [.int 6]) (rest := []) d_Body_readHear_19 (k_Program_add z15) (ab_mkC s_Program_add (show 0 + 1 ≤ fr + 3 from by have := ho.1; omega) (show 8 + (2 + 11) + 0 ≤ lo + 65 from by have := ho.2.1; omega) (show (H10.sh.length - c0) + 0 ≤ C from by omega) (show (H10.sl - s0) + 0 ≤ Sl from by omega)) (k5 117 rfl rfl) i_Program_add v_Program_add q14 (by decide) rfl rfl (Nat.le_of_ble_eq_true rfl) ?_
  have s_24 : Sa H10 H17 := (m_Program_add z15)
  refine ab_widen (cells' := H10.sh.length - c0) (slots' := H10.sl - s0) (by show (H10.sh.length - c0) + 0 ≤ _; omega) (by show (H10.sl - s0) + 0 ≤ _; omega) ?_
  refine ab_pop d_Body_readHear_22 rfl ?_
  refine ab_aload_n d_Body_readHear_23 rfl rfl rfl ?_
  refine hp_getR (f := 1) d_Body_readHear_24 (by rw [(s_24).1]; exact q_5) (by decide) rfl (by decide) (k1 158 rfl rfl) rfl e19 ?_
  refine ab_aload_n d_Body_readHear_27 rfl rfl rfl ?_
  refine hp_getI (f := 5) d_Body_readHear_28 (by rw [(s_24).1]; exact q_5) (by decide) rfl (by decide) (k1 162 rfl rfl) rfl ?_
  refine ab_topxi ex20 ?_
  rw [(s_24).1] at q21
  refine ab_widen (cells' := H17.sh.length - c0) (slots' := H17.sl - s0) (by rw [(s_24).1]; exact Nat.le_refl _) (by rw [(s_24).2]; exact Nat.le_refl _) ?_
  have b_25e := congrArg List.length (s_24).1
  have b_25f := (s_24).2
  refine hp_callV_a (v := .int v23) (H1 := H24) (As := [.int x20]) (rest := []) d_Body_readHear_31 (k_Program_add z22) (ab_mkC s_Program_add (show 0 + 1 ≤ fr + 3 from by have := ho.1; omega) (show 8 + (2 + 11) + 0 ≤ lo + 65 from by have := ho.2.1; omega) (show (H17.sh.length - c0) + 0 ≤ C from by omega) (show (H17.sl - s0) + 0 ≤ Sl from by omega)) (k5 117 rfl rfl) i_Program_add v_Program_add (by rw [(s_24).1]; exact q21) (by decide) rfl rfl (Nat.le_of_ble_eq_true rfl) ?_
  have s_26 : Sa H10 H24 := (s_24).tr (m_Program_add z22)
  refine ab_widen (cells' := H10.sh.length - c0) (slots' := H10.sl - s0) (by show (H17.sh.length - c0) + 0 ≤ _; omega) (by show (H17.sl - s0) + 0 ≤ _; omega) ?_
  clear b_25e b_25f
  refine ab_pop d_Body_readHear_34 rfl ?_
  refine ab_aload_n d_Body_readHear_35 rfl rfl rfl ?_
  refine hp_getR (f := 1) d_Body_readHear_36 (by rw [(s_26).1]; exact q_5) (by decide) rfl (by decide) (k1 158 rfl rfl) rfl e26 ?_
  rw [(s_26).1] at q27
  refine hp_getI (f := 17) d_Body_readHear_39 (by rw [(s_26).1]; exact q27) (by decide) rfl (by decide) (k3 114 rfl rfl) rfl ?_
  refine ab_topxi ex28 ?_
  refine ab_istore_n (lv' := [some (.ref p0), some (.int v9), some (.int x28), none]) d_Body_readHear_42 rfl (by decide) rfl ?_
  refine ab_aload_n d_Body_readHear_43 rfl rfl rfl ?_
  refine hp_getR (f := 1) d_Body_readHear_44 (by rw [(s_26).1]; exact q_5) (by decide) rfl (by decide) (k1 158 rfl rfl) rfl e30 ?_
  refine ab_bipush (v := 10) d_Body_readHear_47 (by decide) ?_
  rw [(s_26).1] at q31
  refine ab_widen (cells' := H24.sh.length - c0) (slots' := H24.sl - s0) (by rw [(s_26).1]; exact Nat.le_refl _) (by rw [(s_26).2]; exact Nat.le_refl _) ?_
  have b_27e := congrArg List.length (s_26).1
  have b_27f := (s_26).2
  refine hp_callV_a (v := .int v33) (H1 := H34) (As := [.int 10]) (rest := []) d_Body_readHear_49 (k_Program_add z32) (ab_mkC s_Program_add (show 0 + 1 ≤ fr + 3 from by have := ho.1; omega) (show 8 + (2 + 11) + 0 ≤ lo + 65 from by have := ho.2.1; omega) (show (H24.sh.length - c0) + 0 ≤ C from by omega) (show (H24.sl - s0) + 0 ≤ Sl from by omega)) (k5 117 rfl rfl) i_Program_add v_Program_add (by rw [(s_26).1]; exact q31) (by decide) rfl rfl (Nat.le_of_ble_eq_true rfl) ?_
  have s_28 : Sa H10 H34 := (s_26).tr (m_Program_add z32)
  refine ab_widen (cells' := H10.sh.length - c0) (slots' := H10.sl - s0) (by show (H24.sh.length - c0) + 0 ≤ _; omega) (by show (H24.sl - s0) + 0 ≤ _; omega) ?_
  clear b_27e b_27f
  refine ab_pop d_Body_readHear_52 rfl ?_
  refine ab_aload_n d_Body_readHear_53 rfl rfl rfl ?_
  refine hp_getR (f := 1) d_Body_readHear_54 (by rw [(s_28).1]; exact q_5) (by decide) rfl (by decide) (k1 158 rfl rfl) rfl e36 ?_
  refine ab_aload_n d_Body_readHear_57 rfl rfl rfl ?_
  refine hp_getI (f := 5) d_Body_readHear_58 (by rw [(s_28).1]; exact q_5) (by decide) rfl (by decide) (k1 162 rfl rfl) rfl ?_
  refine ab_topxi ex37 ?_
  rw [(s_28).1] at q38
  refine ab_widen (cells' := H34.sh.length - c0) (slots' := H34.sl - s0) (by rw [(s_28).1]; exact Nat.le_refl _) (by rw [(s_28).2]; exact Nat.le_refl _) ?_
  have b_29e := congrArg List.length (s_28).1
  have b_29f := (s_28).2
  refine hp_callV_a (v := .int v40) (H1 := H41) (As := [.int x37]) (rest := []) d_Body_readHear_61 (k_Program_add z39) (ab_mkC s_Program_add (show 0 + 1 ≤ fr + 3 from by have := ho.1; omega) (show 8 + (2 + 11) + 0 ≤ lo + 65 from by have := ho.2.1; omega) (show (H34.sh.length - c0) + 0 ≤ C from by omega) (show (H34.sl - s0) + 0 ≤ Sl from by omega)) (k5 117 rfl rfl) i_Program_add v_Program_add (by rw [(s_28).1]; exact q38) (by decide) rfl rfl (Nat.le_of_ble_eq_true rfl) ?_
  have s_30 : Sa H10 H41 := (s_28).tr (m_Program_add z39)
  refine ab_widen (cells' := H10.sh.length - c0) (slots' := H10.sl - s0) (by show (H34.sh.length - c0) + 0 ≤ _; omega) (by show (H34.sl - s0) + 0 ≤ _; omega) ?_
  clear b_29e b_29f
  refine ab_pop d_Body_readHear_64 rfl ?_
  refine ab_aload_n d_Body_readHear_65 rfl rfl rfl ?_
  refine hp_getR (f := 1) d_Body_readHear_66 (by rw [(s_30).1]; exact q_5) (by decide) rfl (by decide) (k1 158 rfl rfl) rfl e43 ?_
  refine ab_iload_n d_Body_readHear_69 rfl rfl ?_
  rw [(s_30).1] at q44
  refine ab_widen (cells' := H41.sh.length - c0) (slots' := H41.sl - s0) (by rw [(s_30).1]; exact Nat.le_refl _) (by rw [(s_30).2]; exact Nat.le_refl _) ?_
  have b_31e := congrArg List.length (s_30).1
  have b_31f := (s_30).2
  refine hp_callV_a (v := .int v46) (H1 := H47) (As := [.int v9]) (rest := []) d_Body_readHear_70 (k_Program_add z45) (ab_mkC s_Program_add (show 0 + 1 ≤ fr + 3 from by have := ho.1; omega) (show 8 + (2 + 11) + 0 ≤ lo + 65 from by have := ho.2.1; omega) (show (H41.sh.length - c0) + 0 ≤ C from by omega) (show (H41.sl - s0) + 0 ≤ Sl from by omega)) (k5 117 rfl rfl) i_Program_add v_Program_add (by rw [(s_30).1]; exact q44) (by decide) rfl rfl (Nat.le_of_ble_eq_true rfl) ?_
  have s_32 : Sa H10 H47 := (s_30).tr (m_Program_add z45)
  refine ab_widen (cells' := H10.sh.length - c0) (slots' := H10.sl - s0) (by show (H41.sh.length - c0) + 0 ≤ _; omega) (by show (H41.sl - s0) + 0 ≤ _; omega) ?_
  clear b_31e b_31f
  refine ab_pop d_Body_readHear_73 rfl ?_
  refine ab_aload_n d_Body_readHear_74 rfl rfl rfl ?_
  refine hp_getR (f := 1) d_Body_readHear_75 (by rw [(s_32).1]; exact q_5) (by decide) rfl (by decide) (k1 158 rfl rfl) rfl e49 ?_
  refine ab_iconst (v := 0) d_Body_readHear_78 (by decide) ?_
  rw [(s_32).1] at q50
  refine ab_widen (cells' := H47.sh.length - c0) (slots' := H47.sl - s0) (by rw [(s_32).1]; exact Nat.le_refl _) (by rw [(s_32).2]; exact Nat.le_refl _) ?_
  have b_33e := congrArg List.length (s_32).1
  have b_33f := (s_32).2
  refine hp_callV_a (v := .int v52) (H1 := H53) (As := [.int 0]) (rest := []) d_Body_readHear_79 (k_Program_add z51) (ab_mkC s_Program_add (show 0 + 1 ≤ fr + 3 from by have := ho.1; omega) (show 8 + (2 + 11) + 0 ≤ lo + 65 from by have := ho.2.1; omega) (show (H47.sh.length - c0) + 0 ≤ C from by omega) (show (H47.sl - s0) + 0 ≤ Sl from by omega)) (k5 117 rfl rfl) i_Program_add v_Program_add (by rw [(s_32).1]; exact q50) (by decide) rfl rfl (Nat.le_of_ble_eq_true rfl) ?_
  have s_34 : Sa H10 H53 := (s_32).tr (m_Program_add z51)
  refine ab_widen (cells' := H10.sh.length - c0) (slots' := H10.sl - s0) (by show (H47.sh.length - c0) + 0 ≤ _; omega) (by show (H47.sl - s0) + 0 ≤ _; omega) ?_
  clear b_33e b_33f
  refine ab_istore_n (lv' := [some (.ref p0), some (.int v9), some (.int x28), some (.int v52)]) d_Body_readHear_82 rfl (by decide) rfl ?_
  refine ab_aload_n d_Body_readHear_83 rfl rfl rfl ?_
  refine ab_iload_n d_Body_readHear_84 rfl rfl ?_
  refine ab_iload_n d_Body_readHear_85 rfl rfl ?_
  refine ab_iload_n d_Body_readHear_86 rfl rfl ?_
  refine bT_c hF (fun x57 H56 z54 er => ?_) (fun v55 H56 z54 hG => ?_)
  · subst er
    refine ab_widen (cells' := H53.sh.length - c0) (slots' := H53.sl - s0) (by rw [(s_34).1]; exact Nat.le_refl _) (by rw [(s_34).2]; exact Nat.le_refl _) ?_
    have mz : Mo H53 H56 := (m_Body_turns hmo z54)
    have ml := mz.len
    have m2 := mz.2
    have be := congrArg List.length (s_34).1
    have bfx := (s_34).2
    have hC9 : H56.sh.length ≤ c0 + C := hC
    have hS9 : H56.sl ≤ s0 + Sl := hS
    refine hp_callV_t (x := x57) (H1 := H56) (As := [.int x28, .int v52, .int v9]) (rest := []) d_Body_readHear_87 (k_Body_turns ho hmo z54 (C := H56.sh.length - H53.sh.length) (Sl := H56.sl - H53.sl) (by show H56.sh.length ≤ _; omega) (by show H56.sl ≤ _; omega)) (ab_mkC s_Body_turns (show (fr + 2) + 1 ≤ fr + 3 from by have := ho.1; omega) (show 8 + (4 + 11) + (lo + 42) ≤ lo + 65 from by have := ho.2.1; omega) (show (H53.sh.length - c0) + (H56.sh.length - H53.sh.length) ≤ C from by omega) (show (H53.sl - s0) + (H56.sl - H53.sl) ≤ Sl from by omega)) (k6 22 rfl rfl) i_Body_turns v_Body_turns (by rw [(s_34).1]; exact q_5) (by decide) rfl rfl (Nat.le_of_ble_eq_true rfl) ?_
    exact ab_U_out rfl (by show _ + (H56.sh.length - H53.sh.length) ≤ C; omega) (by show _ + (H56.sl - H53.sl) ≤ Sl; omega) ⟨rfl, rfl⟩
  clear hF
  refine ab_widen (cells' := H53.sh.length - c0) (slots' := H53.sl - s0) (by rw [(s_34).1]; exact Nat.le_refl _) (by rw [(s_34).2]; exact Nat.le_refl _) ?_
  have mz_35 : Mo H53 H56 := (m_Body_turns hmo z54)
  have b_36l := (mz_35).len
  have b_36s := (mz_35).2
  have b_36e := congrArg List.length (s_34).1
  have b_36f := (s_34).2
  have b_36c : c0 ≤ H56.sh.length := by omega
  have b_36d : s0 ≤ H56.sl := by omega
  have q_37 := (mz_35).get (by rw [(s_34).1]; exact q_5)
  have q_38 := (mz_35).get (by rw [(s_34).1]; exact q_6)
  have q_39 := (mz_35).get (by rw [(s_34).1]; exact q14)
  have q_40 := (mz_35).get (by rw [(s_34).1]; exact q21)
  have q_41 := (mz_35).get (by rw [(s_34).1]; exact q27)
  have q_42 := (mz_35).get (by rw [(s_34).1]; exact q31)
  have q_43 := (mz_35).get (by rw [(s_34).1]; exact q38)
  have q_44 := (mz_35).get (by rw [(s_34).1]; exact q44)
  have q_45 := (mz_35).get (by rw [(s_34).1]; exact q50)
  have fH56 : Mo H56 r.2 := by
    have hm := Mo.rf H56
    have hr := Option.some.inj hG; subst hr
    exact hm
  have b_36m := (fH56).len
  have b_36n := (fH56).2
  have b_36p : H56.sh.length ≤ c0 + C := by omega
  have b_36q : H56.sl ≤ s0 + Sl := by omega
  refine hp_callV_v (H1 := H56) (As := [.int x28, .int v52, .int v9]) (rest := []) d_Body_readHear_87 (k_Body_turns ho hmo z54 (C := H56.sh.length - H53.sh.length) (Sl := H56.sl - H53.sl) (by show H56.sh.length ≤ _; omega) (by show H56.sl ≤ _; omega)) (ab_mkC s_Body_turns (show (fr + 2) + 1 ≤ fr + 3 from by have := ho.1; omega) (show 8 + (4 + 11) + (lo + 42) ≤ lo + 65 from by have := ho.2.1; omega) (show (H53.sh.length - c0) + (H56.sh.length - H53.sh.length) ≤ C from by omega) (show (H53.sl - s0) + (H56.sl - H53.sl) ≤ Sl from by omega)) (k6 22 rfl rfl) i_Body_turns v_Body_turns (by rw [(s_34).1]; exact q_5) (by decide) rfl rfl (Nat.le_of_ble_eq_true rfl) ?_
  refine ab_widen (cells' := H56.sh.length - c0) (slots' := H56.sl - s0) (by show _ + (H56.sh.length - H53.sh.length) ≤ _; omega) (by show _ + (H56.sl - H53.sl) ≤ _; omega) ?_
  clear b_36l b_36s b_36m b_36n b_36e b_36f b_4c b_4d b_4p b_4q
  exact ab_vret d_Body_readHear_90 rfl (by show _ ≤ C; omega) (by show _ ≤ Sl; omega) (by have hr := Option.some.inj hG; subst hr; exact ⟨rfl, rfl⟩)
def y_Body_readFor : ab_Y := (⟨"WorldEngine$Body", "readFor", "()V"⟩, prog_2_method_11_code, 6, none, [])
theorem d_Body_readFor_0 : decode y_Body_readFor.2.1 0 = .ok (.aload_n 0, 1) := by decide +kernel
theorem d_Body_readFor_1 : decode y_Body_readFor.2.1 1 = .ok (.getfield 7, 3) := by decide +kernel
theorem d_Body_readFor_4 : decode y_Body_readFor.2.1 4 = .ok (.invokevirtual 93, 3) := by decide +kernel
theorem d_Body_readFor_7 : decode y_Body_readFor.2.1 7 = .ok (.aload_n 0, 1) := by decide +kernel
theorem d_Body_readFor_8 : decode y_Body_readFor.2.1 8 = .ok (.invokevirtual 130, 3) := by decide +kernel
theorem d_Body_readFor_11 : decode y_Body_readFor.2.1 11 = .ok (.astore_n 1, 1) := by decide +kernel
theorem d_Body_readFor_12 : decode y_Body_readFor.2.1 12 = .ok (.aload_n 0, 1) := by decide +kernel
theorem d_Body_readFor_13 : decode y_Body_readFor.2.1 13 = .ok (.getfield 7, 3) := by decide +kernel
theorem d_Body_readFor_16 : decode y_Body_readFor.2.1 16 = .ok (.bipush 59, 2) := by decide +kernel
theorem d_Body_readFor_18 : decode y_Body_readFor.2.1 18 = .ok (.invokevirtual 41, 3) := by decide +kernel
theorem d_Body_readFor_21 : decode y_Body_readFor.2.1 21 = .ok (.aload_n 0, 1) := by decide +kernel
theorem d_Body_readFor_22 : decode y_Body_readFor.2.1 22 = .ok (.iconst 0, 1) := by decide +kernel
theorem d_Body_readFor_23 : decode y_Body_readFor.2.1 23 = .ok (.invokevirtual 134, 3) := by decide +kernel
theorem d_Body_readFor_26 : decode y_Body_readFor.2.1 26 = .ok (.istore_n 2, 1) := by decide +kernel
theorem d_Body_readFor_27 : decode y_Body_readFor.2.1 27 = .ok (.bipush 8, 2) := by decide +kernel
theorem d_Body_readFor_29 : decode y_Body_readFor.2.1 29 = .ok (.istore_n 3, 1) := by decide +kernel
theorem d_Body_readFor_30 : decode y_Body_readFor.2.1 30 = .ok (.aload_n 0, 1) := by decide +kernel
theorem d_Body_readFor_31 : decode y_Body_readFor.2.1 31 = .ok (.getfield 7, 3) := by decide +kernel
theorem d_Body_readFor_34 : decode y_Body_readFor.2.1 34 = .ok (.getfield 45, 3) := by decide +kernel
theorem d_Body_readFor_37 : decode y_Body_readFor.2.1 37 = .ok (.bipush 60, 2) := by decide +kernel
theorem d_Body_readFor_39 : decode y_Body_readFor.2.1 39 = .ok (.if_icmp .ne 64, 3) := by decide +kernel
theorem d_Body_readFor_42 : decode y_Body_readFor.2.1 42 = .ok (.aload_n 0, 1) := by decide +kernel
theorem d_Body_readFor_43 : decode y_Body_readFor.2.1 43 = .ok (.iload_n 2, 1) := by decide +kernel
theorem d_Body_readFor_44 : decode y_Body_readFor.2.1 44 = .ok (.invokevirtual 137, 3) := by decide +kernel
theorem d_Body_readFor_47 : decode y_Body_readFor.2.1 47 = .ok (.ifCond .ne 18, 3) := by decide +kernel
theorem d_Body_readFor_50 : decode y_Body_readFor.2.1 50 = .ok (.aload_n 0, 1) := by decide +kernel
theorem d_Body_readFor_51 : decode y_Body_readFor.2.1 51 = .ok (.getfield 7, 3) := by decide +kernel
theorem d_Body_readFor_54 : decode y_Body_readFor.2.1 54 = .ok (.iconst 5, 1) := by decide +kernel
theorem d_Body_readFor_55 : decode y_Body_readFor.2.1 55 = .ok (.aload_n 0, 1) := by decide +kernel
theorem d_Body_readFor_56 : decode y_Body_readFor.2.1 56 = .ok (.getfield 7, 3) := by decide +kernel
theorem d_Body_readFor_59 : decode y_Body_readFor.2.1 59 = .ok (.getfield 96, 3) := by decide +kernel
theorem d_Body_readFor_62 : decode y_Body_readFor.2.1 62 = .ok (.invokevirtual 99, 3) := by decide +kernel
theorem d_Body_readFor_65 : decode y_Body_readFor.2.1 65 = .ok (.aload_n 0, 1) := by decide +kernel
theorem d_Body_readFor_66 : decode y_Body_readFor.2.1 66 = .ok (.getfield 7, 3) := by decide +kernel
theorem d_Body_readFor_69 : decode y_Body_readFor.2.1 69 = .ok (.invokevirtual 93, 3) := by decide +kernel
theorem d_Body_readFor_72 : decode y_Body_readFor.2.1 72 = .ok (.aload_n 0, 1) := by decide +kernel
theorem d_Body_readFor_73 : decode y_Body_readFor.2.1 73 = .ok (.iconst 2, 1) := by decide +kernel
theorem d_Body_readFor_74 : decode y_Body_readFor.2.1 74 = .ok (.invokevirtual 141, 3) := by decide +kernel
theorem d_Body_readFor_77 : decode y_Body_readFor.2.1 77 = .ok (.pop, 1) := by decide +kernel
theorem d_Body_readFor_78 : decode y_Body_readFor.2.1 78 = .ok (.aload_n 0, 1) := by decide +kernel
theorem d_Body_readFor_79 : decode y_Body_readFor.2.1 79 = .ok (.getfield 17, 3) := by decide +kernel
theorem d_Body_readFor_82 : decode y_Body_readFor.2.1 82 = .ok (.bipush 7, 2) := by decide +kernel
theorem d_Body_readFor_84 : decode y_Body_readFor.2.1 84 = .ok (.invokevirtual 50, 3) := by decide +kernel
theorem d_Body_readFor_87 : decode y_Body_readFor.2.1 87 = .ok (.pop, 1) := by decide +kernel
theorem d_Body_readFor_88 : decode y_Body_readFor.2.1 88 = .ok (.aload_n 0, 1) := by decide +kernel
theorem d_Body_readFor_89 : decode y_Body_readFor.2.1 89 = .ok (.getfield 17, 3) := by decide +kernel
theorem d_Body_readFor_92 : decode y_Body_readFor.2.1 92 = .ok (.aload_n 0, 1) := by decide +kernel
theorem d_Body_readFor_93 : decode y_Body_readFor.2.1 93 = .ok (.getfield 33, 3) := by decide +kernel
theorem d_Body_readFor_96 : decode y_Body_readFor.2.1 96 = .ok (.invokevirtual 50, 3) := by decide +kernel
theorem d_Body_readFor_99 : decode y_Body_readFor.2.1 99 = .ok (.pop, 1) := by decide +kernel
theorem d_Body_readFor_100 : decode y_Body_readFor.2.1 100 = .ok (.bipush 9, 2) := by decide +kernel
theorem d_Body_readFor_102 : decode y_Body_readFor.2.1 102 = .ok (.istore_n 3, 1) := by decide +kernel
theorem d_Body_readFor_103 : decode y_Body_readFor.2.1 103 = .ok (.aload_n 0, 1) := by decide +kernel
theorem d_Body_readFor_104 : decode y_Body_readFor.2.1 104 = .ok (.getfield 17, 3) := by decide +kernel
theorem d_Body_readFor_107 : decode y_Body_readFor.2.1 107 = .ok (.bipush 6, 2) := by decide +kernel
theorem d_Body_readFor_109 : decode y_Body_readFor.2.1 109 = .ok (.invokevirtual 50, 3) := by decide +kernel
theorem d_Body_readFor_112 : decode y_Body_readFor.2.1 112 = .ok (.pop, 1) := by decide +kernel
theorem d_Body_readFor_113 : decode y_Body_readFor.2.1 113 = .ok (.aload_n 0, 1) := by decide +kernel
theorem d_Body_readFor_114 : decode y_Body_readFor.2.1 114 = .ok (.getfield 17, 3) := by decide +kernel
theorem d_Body_readFor_117 : decode y_Body_readFor.2.1 117 = .ok (.aload_n 0, 1) := by decide +kernel
theorem d_Body_readFor_118 : decode y_Body_readFor.2.1 118 = .ok (.getfield 33, 3) := by decide +kernel
theorem d_Body_readFor_121 : decode y_Body_readFor.2.1 121 = .ok (.invokevirtual 50, 3) := by decide +kernel
theorem d_Body_readFor_124 : decode y_Body_readFor.2.1 124 = .ok (.pop, 1) := by decide +kernel
theorem d_Body_readFor_125 : decode y_Body_readFor.2.1 125 = .ok (.aload_n 0, 1) := by decide +kernel
theorem d_Body_readFor_126 : decode y_Body_readFor.2.1 126 = .ok (.getfield 17, 3) := by decide +kernel
theorem d_Body_readFor_129 : decode y_Body_readFor.2.1 129 = .ok (.getfield 123, 3) := by decide +kernel
theorem d_Body_readFor_132 : decode y_Body_readFor.2.1 132 = .ok (.istore 4, 2) := by decide +kernel
theorem d_Body_readFor_134 : decode y_Body_readFor.2.1 134 = .ok (.aload_n 0, 1) := by decide +kernel
theorem d_Body_readFor_135 : decode y_Body_readFor.2.1 135 = .ok (.getfield 17, 3) := by decide +kernel
theorem d_Body_readFor_138 : decode y_Body_readFor.2.1 138 = .ok (.iload_n 3, 1) := by decide +kernel
theorem d_Body_readFor_139 : decode y_Body_readFor.2.1 139 = .ok (.invokevirtual 50, 3) := by decide +kernel
theorem d_Body_readFor_142 : decode y_Body_readFor.2.1 142 = .ok (.pop, 1) := by decide +kernel
theorem d_Body_readFor_143 : decode y_Body_readFor.2.1 143 = .ok (.aload_n 0, 1) := by decide +kernel
theorem d_Body_readFor_144 : decode y_Body_readFor.2.1 144 = .ok (.getfield 17, 3) := by decide +kernel
theorem d_Body_readFor_147 : decode y_Body_readFor.2.1 147 = .ok (.aload_n 0, 1) := by decide +kernel
theorem d_Body_readFor_148 : decode y_Body_readFor.2.1 148 = .ok (.getfield 33, 3) := by decide +kernel
theorem d_Body_readFor_151 : decode y_Body_readFor.2.1 151 = .ok (.invokevirtual 50, 3) := by decide +kernel
theorem d_Body_readFor_154 : decode y_Body_readFor.2.1 154 = .ok (.pop, 1) := by decide +kernel
theorem d_Body_readFor_155 : decode y_Body_readFor.2.1 155 = .ok (.aload_n 0, 1) := by decide +kernel
theorem d_Body_readFor_156 : decode y_Body_readFor.2.1 156 = .ok (.getfield 17, 3) := by decide +kernel
theorem d_Body_readFor_159 : decode y_Body_readFor.2.1 159 = .ok (.iload_n 2, 1) := by decide +kernel
theorem d_Body_readFor_160 : decode y_Body_readFor.2.1 160 = .ok (.invokevirtual 50, 3) := by decide +kernel
theorem d_Body_readFor_163 : decode y_Body_readFor.2.1 163 = .ok (.pop, 1) := by decide +kernel
theorem d_Body_readFor_164 : decode y_Body_readFor.2.1 164 = .ok (.aload_n 0, 1) := by decide +kernel
theorem d_Body_readFor_165 : decode y_Body_readFor.2.1 165 = .ok (.getfield 17, 3) := by decide +kernel
theorem d_Body_readFor_168 : decode y_Body_readFor.2.1 168 = .ok (.aload_n 0, 1) := by decide +kernel
theorem d_Body_readFor_169 : decode y_Body_readFor.2.1 169 = .ok (.getfield 30, 3) := by decide +kernel
theorem d_Body_readFor_172 : decode y_Body_readFor.2.1 172 = .ok (.invokevirtual 50, 3) := by decide +kernel
theorem d_Body_readFor_175 : decode y_Body_readFor.2.1 175 = .ok (.pop, 1) := by decide +kernel
theorem d_Body_readFor_176 : decode y_Body_readFor.2.1 176 = .ok (.aload_n 0, 1) := by decide +kernel
theorem d_Body_readFor_177 : decode y_Body_readFor.2.1 177 = .ok (.getfield 17, 3) := by decide +kernel
theorem d_Body_readFor_180 : decode y_Body_readFor.2.1 180 = .ok (.iconst 0, 1) := by decide +kernel
theorem d_Body_readFor_181 : decode y_Body_readFor.2.1 181 = .ok (.invokevirtual 50, 3) := by decide +kernel
theorem d_Body_readFor_184 : decode y_Body_readFor.2.1 184 = .ok (.istore 5, 2) := by decide +kernel
theorem d_Body_readFor_186 : decode y_Body_readFor.2.1 186 = .ok (.aload_n 0, 1) := by decide +kernel
theorem d_Body_readFor_187 : decode y_Body_readFor.2.1 187 = .ok (.aload_n 1, 1) := by decide +kernel
theorem d_Body_readFor_188 : decode y_Body_readFor.2.1 188 = .ok (.bipush 6, 2) := by decide +kernel
theorem d_Body_readFor_190 : decode y_Body_readFor.2.1 190 = .ok (.iconst 4, 1) := by decide +kernel
theorem d_Body_readFor_191 : decode y_Body_readFor.2.1 191 = .ok (.invokevirtual 144, 3) := by decide +kernel
theorem d_Body_readFor_194 : decode y_Body_readFor.2.1 194 = .ok (.aload_n 0, 1) := by decide +kernel
theorem d_Body_readFor_195 : decode y_Body_readFor.2.1 195 = .ok (.iload 4, 2) := by decide +kernel
theorem d_Body_readFor_197 : decode y_Body_readFor.2.1 197 = .ok (.iload 5, 2) := by decide +kernel
theorem d_Body_readFor_199 : decode y_Body_readFor.2.1 199 = .ok (.iconst (-1), 1) := by decide +kernel
theorem d_Body_readFor_200 : decode y_Body_readFor.2.1 200 = .ok (.invokevirtual 126, 3) := by decide +kernel
theorem d_Body_readFor_203 : decode y_Body_readFor.2.1 203 = .ok (.aload_n 0, 1) := by decide +kernel
theorem d_Body_readFor_204 : decode y_Body_readFor.2.1 204 = .ok (.getfield 17, 3) := by decide +kernel
theorem d_Body_readFor_207 : decode y_Body_readFor.2.1 207 = .ok (.iconst 1, 1) := by decide +kernel
theorem d_Body_readFor_208 : decode y_Body_readFor.2.1 208 = .ok (.invokevirtual 57, 3) := by decide +kernel
theorem d_Body_readFor_211 : decode y_Body_readFor.2.1 211 = .ok (.aload_n 0, 1) := by decide +kernel
theorem d_Body_readFor_212 : decode y_Body_readFor.2.1 212 = .ok (.dup, 1) := by decide +kernel
theorem d_Body_readFor_213 : decode y_Body_readFor.2.1 213 = .ok (.getfield 30, 3) := by decide +kernel
theorem d_Body_readFor_216 : decode y_Body_readFor.2.1 216 = .ok (.iconst 1, 1) := by decide +kernel
theorem d_Body_readFor_217 : decode y_Body_readFor.2.1 217 = .ok (.isub, 1) := by decide +kernel
theorem d_Body_readFor_218 : decode y_Body_readFor.2.1 218 = .ok (.putfield 30, 3) := by decide +kernel
theorem d_Body_readFor_221 : decode y_Body_readFor.2.1 221 = .ok (.return_, 1) := by decide +kernel
theorem s_Body_readFor : ab_Stat y_Body_readFor 0 := ⟨(k6 29 rfl rfl), (k1 8 rfl rfl), ⟨by decide, by decide⟩, by decide +kernel⟩
theorem i_Body_readFor : Cond.instanceMethod y_Body_readFor.1 ∈ ab_T := (k6 28 rfl rfl)
theorem v_Body_readFor : Cond.selects "WorldEngine$Body" y_Body_readFor.1 y_Body_readFor.1 ∈ ab_T := ab_s (List.mem_of_getElem? (i := 52) rfl) rfl
def B_Body_readFor_103 (N : Nat) (o : Orc_BodyS) (p0 : Nat) (l1 : Nat) (l2 : Int32) (l3 : Int32) (H : Hp) : Option ((Ot Unit) × Hp) :=
    ck (H.sh[p0]? = some (6, 0)) <|
    rf (H.P p0 1) fun a69 =>
    ck (H.sh[a69]? = some (4, 0)) <|
    bC (F_Program_add N a69 (6 : Int32) H) fun v73 H74 =>
    rf (H74.P p0 1) fun a75 =>
    bnd ((H74.D p0 5)) fun x77 =>
    ck (H74.sh[a75]? = some (4, 0)) <|
    bC (F_Program_add N a75 x77 H74) fun v80 H81 =>
    rf (H81.P p0 1) fun a82 =>
    ck (H81.sh[a82]? = some (4, 0)) <|
    bnd ((H81.D a82 17)) fun x85 =>
    rf (H81.P p0 1) fun a86 =>
    ck (H81.sh[a86]? = some (4, 0)) <|
    bC (F_Program_add N a86 l3 H81) fun v90 H91 =>
    rf (H91.P p0 1) fun a92 =>
    bnd ((H91.D p0 5)) fun x94 =>
    ck (H91.sh[a92]? = some (4, 0)) <|
    bC (F_Program_add N a92 x94 H91) fun v97 H98 =>
    rf (H98.P p0 1) fun a99 =>
    ck (H98.sh[a99]? = some (4, 0)) <|
    bC (F_Program_add N a99 l2 H98) fun v103 H104 =>
    rf (H104.P p0 1) fun a105 =>
    bnd ((H104.D p0 3)) fun x107 =>
    ck (H104.sh[a105]? = some (4, 0)) <|
    bC (F_Program_add N a105 x107 H104) fun v110 H111 =>
    rf (H111.P p0 1) fun a112 =>
    ck (H111.sh[a112]? = some (4, 0)) <|
    bC (F_Program_add N a112 (0 : Int32) H111) fun v116 H117 =>
    bC (F_Body_tellLocal N p0 l1 (6 : Int32) (4 : Int32) H117) fun v119 H120 =>
    bT (F_Body_turns N o p0 x85 v116 ((-1) : Int32) H120) fun v122 H123 =>
    rf (H123.P p0 1) fun a125 =>
    ck (H123.sh[a125]? = some (4, 0)) <|
    bC (F_Program_forget N a125 (1 : Int32) H123) fun v129 H130 =>
    bnd ((H130.D p0 3)) fun x131 =>
    bnd (H130.sD p0 3 (x131 - (1 : Int32))) fun H132 =>
    some (.inl (), H132)
set_option maxRecDepth 20000 in
set_option maxHeartbeats 2000000 in
theorem mB_Body_readFor_103 {N : Nat} {o : Orc_BodyS} (hmo : mo_BodyS o) {p0 : Nat} {l1 : Nat} {l2 : Int32} {l3 : Int32} {H : Hp} {r : (Ot Unit) × Hp} (hF : B_Body_readFor_103 N o p0 l1 l2 l3 H = some r) : Mo H r.2 := by
  unfold B_Body_readFor_103 at hF
  have hm := Mo.rf H
  obtain ⟨q133, hG⟩ := ck_s hF; clear hF
  obtain ⟨a134, e135, hF⟩ := rf_s hG; clear hG
  obtain ⟨q136, hG⟩ := ck_s hF; clear hF
  obtain ⟨v138, H139, z137, hF⟩ := bC_s hG; clear hG
  replace hm : Mo H H139 := hm.tr ((m_Program_add z137)).mo
  obtain ⟨a140, e141, hG⟩ := rf_s hF; clear hF
  obtain ⟨x142, -, hF⟩ := bnd_g hG; clear hG
  obtain ⟨q143, hG⟩ := ck_s hF; clear hF
  obtain ⟨v145, H146, z144, hF⟩ := bC_s hG; clear hG
  replace hm : Mo H H146 := hm.tr ((m_Program_add z144)).mo
  obtain ⟨a147, e148, hG⟩ := rf_s hF; clear hF
  obtain ⟨q149, hF⟩ := ck_s hG; clear hG
  obtain ⟨x150, -, hG⟩ := bnd_g hF; clear hF
  obtain ⟨a151, e152, hF⟩ := rf_s hG; clear hG
  obtain ⟨q153, hG⟩ := ck_s hF; clear hF
  obtain ⟨v155, H156, z154, hF⟩ := bC_s hG; clear hG
  replace hm : Mo H H156 := hm.tr ((m_Program_add z154)).mo
  obtain ⟨a157, e158, hG⟩ := rf_s hF; clear hF
  obtain ⟨x159, -, hF⟩ := bnd_g hG; clear hG
  obtain ⟨q160, hG⟩ := ck_s hF; clear hF
  obtain ⟨v162, H163, z161, hF⟩ := bC_s hG; clear hG
  replace hm : Mo H H163 := hm.tr ((m_Program_add z161)).mo
  obtain ⟨a164, e165, hG⟩ := rf_s hF; clear hF
  obtain ⟨q166, hF⟩ := ck_s hG; clear hG
  obtain ⟨v168, H169, z167, hG⟩ := bC_s hF; clear hF
  replace hm : Mo H H169 := hm.tr ((m_Program_add z167)).mo
  obtain ⟨a170, e171, hF⟩ := rf_s hG; clear hG
  obtain ⟨x172, -, hG⟩ := bnd_g hF; clear hF
  obtain ⟨q173, hF⟩ := ck_s hG; clear hG
  obtain ⟨v175, H176, z174, hG⟩ := bC_s hF; clear hF
  replace hm : Mo H H176 := hm.tr ((m_Program_add z174)).mo
  obtain ⟨a177, e178, hF⟩ := rf_s hG; clear hG
  obtain ⟨q179, hG⟩ := ck_s hF; clear hF
  obtain ⟨v181, H182, z180, hF⟩ := bC_s hG; clear hG
  replace hm : Mo H H182 := hm.tr ((m_Program_add z180)).mo
  obtain ⟨v184, H185, z183, hG⟩ := bC_s hF; clear hF
  replace hm : Mo H H185 := hm.tr ((m_Body_tellLocal z183)).mo
  refine bT_c hG (fun x189 H188 z186 er => ?_) (fun v187 H188 z186 hF => ?_)
  · subst er; exact hm.tr (m_Body_turns hmo z186)
  clear hG
  replace hm : Mo H H188 := hm.tr (m_Body_turns hmo z186)
  obtain ⟨a190, e191, hG⟩ := rf_s hF; clear hF
  obtain ⟨q192, hF⟩ := ck_s hG; clear hG
  obtain ⟨v194, H195, z193, hG⟩ := bC_s hF; clear hF
  replace hm : Mo H H195 := hm.tr ((m_Program_forget z193)).mo
  obtain ⟨x196, -, hF⟩ := bnd_g hG; clear hG
  obtain ⟨H197, eH197, hG⟩ := bnd_g hF; clear hF
  replace hm : Mo H H197 := by rw [eH197]; exact hm
  have hr := Option.some.inj hG; subst hr
  exact hm
set_option maxRecDepth 20000 in
set_option maxHeartbeats 2000000 in
theorem kB_Body_readFor_103 {N : Nat} {o : Orc_BodyS} {fr lo : Nat} (ho : ok_BodyS o fr lo) (hmo : mo_BodyS o) {p0 : Nat} {c0 s0 C Sl : Nat} {l1 : Nat} {l2 : Int32} {l3 : Int32} {H : Hp} {r : (Ot Unit) × Hp} (hF : B_Body_readFor_103 N o p0 l1 l2 l3 H = some r) (hc0 : c0 ≤ H.sh.length) (hs0 : s0 ≤ H.sl) (hcc : H.sh.length ≤ c0 + C) (hss : H.sl ≤ s0 + Sl) (hC : r.2.sh.length ≤ c0 + C) (hS : r.2.sl ≤ s0 + Sl) : ab_V y_Body_readFor { frames := fr + 3, cells := C, slots := Sl, locals := lo + 65 } (po (oV r.1) r.2) C Sl (H.sh.length - c0) (H.sl - s0) 103 [some (.ref p0), some (.ref l1), some (.int l2), some (.int l3), none, none] [] (hpw H) := by
  unfold B_Body_readFor_103 at hF
  refine ab_aload_n d_Body_readFor_103 rfl rfl rfl ?_
  obtain ⟨q68, hG⟩ := ck_s hF; clear hF
  obtain ⟨a69, e70, hF⟩ := rf_s hG; clear hG
  refine hp_getR (f := 1) d_Body_readFor_104 q68 (by decide) rfl (by decide) (k1 158 rfl rfl) rfl e70 ?_
  refine ab_bipush (v := 6) d_Body_readFor_107 (by decide) ?_
  obtain ⟨q71, hG⟩ := ck_s hF; clear hF
  obtain ⟨v73, H74, z72, hF⟩ := bC_s hG; clear hG
  refine hp_callV_a (v := .int v73) (H1 := H74) (As := [.int 6]) (rest := []) d_Body_readFor_109 (k_Program_add z72) (ab_mkC s_Program_add (show 0 + 1 ≤ fr + 3 from by have := ho.1; omega) (show 8 + (2 + 11) + 0 ≤ lo + 65 from by have := ho.2.1; omega) (show (H.sh.length - c0) + 0 ≤ C from by omega) (show (H.sl - s0) + 0 ≤ Sl from by omega)) (k5 117 rfl rfl) i_Program_add v_Program_add q71 (by decide) rfl rfl (Nat.le_of_ble_eq_true rfl) ?_
  have s_34 : Sa H H74 := (m_Program_add z72)
  refine ab_widen (cells' := H.sh.length - c0) (slots' := H.sl - s0) (by show (H.sh.length - c0) + 0 ≤ _; omega) (by show (H.sl - s0) + 0 ≤ _; omega) ?_
  refine ab_pop d_Body_readFor_112 rfl ?_
  refine ab_aload_n d_Body_readFor_113 rfl rfl rfl ?_
  obtain ⟨a75, e76, hG⟩ := rf_s hF; clear hF
  refine hp_getR (f := 1) d_Body_readFor_114 (by rw [(s_34).1]; exact q68) (by decide) rfl (by decide) (k1 158 rfl rfl) rfl e76 ?_
  refine ab_aload_n d_Body_readFor_117 rfl rfl rfl ?_
  refine hp_getI (f := 5) d_Body_readFor_118 (by rw [(s_34).1]; exact q68) (by decide) rfl (by decide) (k1 162 rfl rfl) rfl ?_
  refine ab_topi (fun x77 ex77 => ?_)
  replace hG := bnd_s ex77 hG
  obtain ⟨q78, hF⟩ := ck_s hG; clear hG
  rw [(s_34).1] at q78
  obtain ⟨v80, H81, z79, hG⟩ := bC_s hF; clear hF
  refine ab_widen (cells' := H74.sh.length - c0) (slots' := H74.sl - s0) (by rw [(s_34).1]; exact Nat.le_refl _) (by rw [(s_34).2]; exact Nat.le_refl _) ?_
  have b_35e := congrArg List.length (s_34).1
  have b_35f := (s_34).2
  refine hp_callV_a (v := .int v80) (H1 := H81) (As := [.int x77]) (rest := []) d_Body_readFor_121 (k_Program_add z79) (ab_mkC s_Program_add (show 0 + 1 ≤ fr + 3 from by have := ho.1; omega) (show 8 + (2 + 11) + 0 ≤ lo + 65 from by have := ho.2.1; omega) (show (H74.sh.length - c0) + 0 ≤ C from by omega) (show (H74.sl - s0) + 0 ≤ Sl from by omega)) (k5 117 rfl rfl) i_Program_add v_Program_add (by rw [(s_34).1]; exact q78) (by decide) rfl rfl (Nat.le_of_ble_eq_true rfl) ?_
  have s_36 : Sa H H81 := (s_34).tr (m_Program_add z79)
  refine ab_widen (cells' := H.sh.length - c0) (slots' := H.sl - s0) (by show (H74.sh.length - c0) + 0 ≤ _; omega) (by show (H74.sl - s0) + 0 ≤ _; omega) ?_
  clear b_35e b_35f
  refine ab_pop d_Body_readFor_124 rfl ?_
  refine ab_aload_n d_Body_readFor_125 rfl rfl rfl ?_
  obtain ⟨a82, e83, hF⟩ := rf_s hG; clear hG
  refine hp_getR (f := 1) d_Body_readFor_126 (by rw [(s_36).1]; exact q68) (by decide) rfl (by decide) (k1 158 rfl rfl) rfl e83 ?_
  obtain ⟨q84, hG⟩ := ck_s hF; clear hF
  rw [(s_36).1] at q84
  refine hp_getI (f := 17) d_Body_readFor_129 (by rw [(s_36).1]; exact q84) (by decide) rfl (by decide) (k3 114 rfl rfl) rfl ?_
  refine ab_topi (fun x85 ex85 => ?_)
  replace hG := bnd_s ex85 hG
  refine ab_istore (lv' := [some (.ref p0), some (.ref l1), some (.int l2), some (.int l3), some (.int x85), none]) d_Body_readFor_132 (by decide) rfl ?_
  refine ab_aload_n d_Body_readFor_134 rfl rfl rfl ?_
  obtain ⟨a86, e87, hF⟩ := rf_s hG; clear hG
  refine hp_getR (f := 1) d_Body_readFor_135 (by rw [(s_36).1]; exact q68) (by decide) rfl (by decide) (k1 158 rfl rfl) rfl e87 ?_
  refine ab_iload_n d_Body_readFor_138 rfl rfl ?_
  obtain ⟨q88, hG⟩ := ck_s hF; clear hF
  rw [(s_36).1] at q88
  obtain ⟨v90, H91, z89, hF⟩ := bC_s hG; clear hG
  refine ab_widen (cells' := H81.sh.length - c0) (slots' := H81.sl - s0) (by rw [(s_36).1]; exact Nat.le_refl _) (by rw [(s_36).2]; exact Nat.le_refl _) ?_
  have b_37e := congrArg List.length (s_36).1
  have b_37f := (s_36).2
  refine hp_callV_a (v := .int v90) (H1 := H91) (As := [.int l3]) (rest := []) d_Body_readFor_139 (k_Program_add z89) (ab_mkC s_Program_add (show 0 + 1 ≤ fr + 3 from by have := ho.1; omega) (show 8 + (2 + 11) + 0 ≤ lo + 65 from by have := ho.2.1; omega) (show (H81.sh.length - c0) + 0 ≤ C from by omega) (show (H81.sl - s0) + 0 ≤ Sl from by omega)) (k5 117 rfl rfl) i_Program_add v_Program_add (by rw [(s_36).1]; exact q88) (by decide) rfl rfl (Nat.le_of_ble_eq_true rfl) ?_
  have s_38 : Sa H H91 := (s_36).tr (m_Program_add z89)
  refine ab_widen (cells' := H.sh.length - c0) (slots' := H.sl - s0) (by show (H81.sh.length - c0) + 0 ≤ _; omega) (by show (H81.sl - s0) + 0 ≤ _; omega) ?_
  clear b_37e b_37f
  refine ab_pop d_Body_readFor_142 rfl ?_
  refine ab_aload_n d_Body_readFor_143 rfl rfl rfl ?_
  obtain ⟨a92, e93, hG⟩ := rf_s hF; clear hF
  refine hp_getR (f := 1) d_Body_readFor_144 (by rw [(s_38).1]; exact q68) (by decide) rfl (by decide) (k1 158 rfl rfl) rfl e93 ?_
  refine ab_aload_n d_Body_readFor_147 rfl rfl rfl ?_
  refine hp_getI (f := 5) d_Body_readFor_148 (by rw [(s_38).1]; exact q68) (by decide) rfl (by decide) (k1 162 rfl rfl) rfl ?_
  refine ab_topi (fun x94 ex94 => ?_)
  replace hG := bnd_s ex94 hG
  obtain ⟨q95, hF⟩ := ck_s hG; clear hG
  rw [(s_38).1] at q95
  obtain ⟨v97, H98, z96, hG⟩ := bC_s hF; clear hF
  refine ab_widen (cells' := H91.sh.length - c0) (slots' := H91.sl - s0) (by rw [(s_38).1]; exact Nat.le_refl _) (by rw [(s_38).2]; exact Nat.le_refl _) ?_
  have b_39e := congrArg List.length (s_38).1
  have b_39f := (s_38).2
  refine hp_callV_a (v := .int v97) (H1 := H98) (As := [.int x94]) (rest := []) d_Body_readFor_151 (k_Program_add z96) (ab_mkC s_Program_add (show 0 + 1 ≤ fr + 3 from by have := ho.1; omega) (show 8 + (2 + 11) + 0 ≤ lo + 65 from by have := ho.2.1; omega) (show (H91.sh.length - c0) + 0 ≤ C from by omega) (show (H91.sl - s0) + 0 ≤ Sl from by omega)) (k5 117 rfl rfl) i_Program_add v_Program_add (by rw [(s_38).1]; exact q95) (by decide) rfl rfl (Nat.le_of_ble_eq_true rfl) ?_
  have s_40 : Sa H H98 := (s_38).tr (m_Program_add z96)
  refine ab_widen (cells' := H.sh.length - c0) (slots' := H.sl - s0) (by show (H91.sh.length - c0) + 0 ≤ _; omega) (by show (H91.sl - s0) + 0 ≤ _; omega) ?_
  clear b_39e b_39f
  refine ab_pop d_Body_readFor_154 rfl ?_
  refine ab_aload_n d_Body_readFor_155 rfl rfl rfl ?_
  obtain ⟨a99, e100, hF⟩ := rf_s hG; clear hG
  refine hp_getR (f := 1) d_Body_readFor_156 (by rw [(s_40).1]; exact q68) (by decide) rfl (by decide) (k1 158 rfl rfl) rfl e100 ?_
  refine ab_iload_n d_Body_readFor_159 rfl rfl ?_
  obtain ⟨q101, hG⟩ := ck_s hF; clear hF
  rw [(s_40).1] at q101
  obtain ⟨v103, H104, z102, hF⟩ := bC_s hG; clear hG
  refine ab_widen (cells' := H98.sh.length - c0) (slots' := H98.sl - s0) (by rw [(s_40).1]; exact Nat.le_refl _) (by rw [(s_40).2]; exact Nat.le_refl _) ?_
  have b_41e := congrArg List.length (s_40).1
  have b_41f := (s_40).2
  refine hp_callV_a (v := .int v103) (H1 := H104) (As := [.int l2]) (rest := []) d_Body_readFor_160 (k_Program_add z102) (ab_mkC s_Program_add (show 0 + 1 ≤ fr + 3 from by have := ho.1; omega) (show 8 + (2 + 11) + 0 ≤ lo + 65 from by have := ho.2.1; omega) (show (H98.sh.length - c0) + 0 ≤ C from by omega) (show (H98.sl - s0) + 0 ≤ Sl from by omega)) (k5 117 rfl rfl) i_Program_add v_Program_add (by rw [(s_40).1]; exact q101) (by decide) rfl rfl (Nat.le_of_ble_eq_true rfl) ?_
  have s_42 : Sa H H104 := (s_40).tr (m_Program_add z102)
  refine ab_widen (cells' := H.sh.length - c0) (slots' := H.sl - s0) (by show (H98.sh.length - c0) + 0 ≤ _; omega) (by show (H98.sl - s0) + 0 ≤ _; omega) ?_
  clear b_41e b_41f
  refine ab_pop d_Body_readFor_163 rfl ?_
  refine ab_aload_n d_Body_readFor_164 rfl rfl rfl ?_
  obtain ⟨a105, e106, hG⟩ := rf_s hF; clear hF
  refine hp_getR (f := 1) d_Body_readFor_165 (by rw [(s_42).1]; exact q68) (by decide) rfl (by decide) (k1 158 rfl rfl) rfl e106 ?_
  refine ab_aload_n d_Body_readFor_168 rfl rfl rfl ?_
  refine hp_getI (f := 3) d_Body_readFor_169 (by rw [(s_42).1]; exact q68) (by decide) rfl (by decide) (k1 160 rfl rfl) rfl ?_
  refine ab_topi (fun x107 ex107 => ?_)
  replace hG := bnd_s ex107 hG
  obtain ⟨q108, hF⟩ := ck_s hG; clear hG
  rw [(s_42).1] at q108
  obtain ⟨v110, H111, z109, hG⟩ := bC_s hF; clear hF
  refine ab_widen (cells' := H104.sh.length - c0) (slots' := H104.sl - s0) (by rw [(s_42).1]; exact Nat.le_refl _) (by rw [(s_42).2]; exact Nat.le_refl _) ?_
  have b_43e := congrArg List.length (s_42).1
  have b_43f := (s_42).2
  refine hp_callV_a (v := .int v110) (H1 := H111) (As := [.int x107]) (rest := []) d_Body_readFor_172 (k_Program_add z109) (ab_mkC s_Program_add (show 0 + 1 ≤ fr + 3 from by have := ho.1; omega) (show 8 + (2 + 11) + 0 ≤ lo + 65 from by have := ho.2.1; omega) (show (H104.sh.length - c0) + 0 ≤ C from by omega) (show (H104.sl - s0) + 0 ≤ Sl from by omega)) (k5 117 rfl rfl) i_Program_add v_Program_add (by rw [(s_42).1]; exact q108) (by decide) rfl rfl (Nat.le_of_ble_eq_true rfl) ?_
  have s_44 : Sa H H111 := (s_42).tr (m_Program_add z109)
  refine ab_widen (cells' := H.sh.length - c0) (slots' := H.sl - s0) (by show (H104.sh.length - c0) + 0 ≤ _; omega) (by show (H104.sl - s0) + 0 ≤ _; omega) ?_
  clear b_43e b_43f
  refine ab_pop d_Body_readFor_175 rfl ?_
  refine ab_aload_n d_Body_readFor_176 rfl rfl rfl ?_
  obtain ⟨a112, e113, hF⟩ := rf_s hG; clear hG
  refine hp_getR (f := 1) d_Body_readFor_177 (by rw [(s_44).1]; exact q68) (by decide) rfl (by decide) (k1 158 rfl rfl) rfl e113 ?_
  refine ab_iconst (v := 0) d_Body_readFor_180 (by decide) ?_
  obtain ⟨q114, hG⟩ := ck_s hF; clear hF
  rw [(s_44).1] at q114
  obtain ⟨v116, H117, z115, hF⟩ := bC_s hG; clear hG
  refine ab_widen (cells' := H111.sh.length - c0) (slots' := H111.sl - s0) (by rw [(s_44).1]; exact Nat.le_refl _) (by rw [(s_44).2]; exact Nat.le_refl _) ?_
  have b_45e := congrArg List.length (s_44).1
  have b_45f := (s_44).2
  refine hp_callV_a (v := .int v116) (H1 := H117) (As := [.int 0]) (rest := []) d_Body_readFor_181 (k_Program_add z115) (ab_mkC s_Program_add (show 0 + 1 ≤ fr + 3 from by have := ho.1; omega) (show 8 + (2 + 11) + 0 ≤ lo + 65 from by have := ho.2.1; omega) (show (H111.sh.length - c0) + 0 ≤ C from by omega) (show (H111.sl - s0) + 0 ≤ Sl from by omega)) (k5 117 rfl rfl) i_Program_add v_Program_add (by rw [(s_44).1]; exact q114) (by decide) rfl rfl (Nat.le_of_ble_eq_true rfl) ?_
  have s_46 : Sa H H117 := (s_44).tr (m_Program_add z115)
  refine ab_widen (cells' := H.sh.length - c0) (slots' := H.sl - s0) (by show (H111.sh.length - c0) + 0 ≤ _; omega) (by show (H111.sl - s0) + 0 ≤ _; omega) ?_
  clear b_45e b_45f
  refine ab_istore (lv' := [some (.ref p0), some (.ref l1), some (.int l2), some (.int l3), some (.int x85), some (.int v116)]) d_Body_readFor_184 (by decide) rfl ?_
  refine ab_aload_n d_Body_readFor_186 rfl rfl rfl ?_
  refine ab_aload_n d_Body_readFor_187 rfl rfl rfl ?_
  refine ab_bipush (v := 6) d_Body_readFor_188 (by decide) ?_
  refine ab_iconst (v := 4) d_Body_readFor_190 (by decide) ?_
  obtain ⟨v119, H120, z118, hG⟩ := bC_s hF; clear hF
  refine ab_widen (cells' := H117.sh.length - c0) (slots' := H117.sl - s0) (by rw [(s_46).1]; exact Nat.le_refl _) (by rw [(s_46).2]; exact Nat.le_refl _) ?_
  have b_47e := congrArg List.length (s_46).1
  have b_47f := (s_46).2
  refine hp_callV_v (H1 := H120) (As := [.ref l1, .int 6, .int 4]) (rest := []) d_Body_readFor_191 (k_Body_tellLocal z118) (ab_mkC s_Body_tellLocal (show 2 + 1 ≤ fr + 3 from by have := ho.1; omega) (show 8 + (4 + 11) + 48 ≤ lo + 65 from by have := ho.2.1; omega) (show (H117.sh.length - c0) + 0 ≤ C from by omega) (show (H117.sl - s0) + 0 ≤ Sl from by omega)) (k5 236 rfl rfl) i_Body_tellLocal v_Body_tellLocal (by rw [(s_46).1]; exact q68) (by decide) rfl rfl (Nat.le_of_ble_eq_true rfl) ?_
  have s_48 : Sa H H120 := (s_46).tr (m_Body_tellLocal z118)
  refine ab_widen (cells' := H.sh.length - c0) (slots' := H.sl - s0) (by show (H117.sh.length - c0) + 0 ≤ _; omega) (by show (H117.sl - s0) + 0 ≤ _; omega) ?_
  clear b_47e b_47f
  refine ab_aload_n d_Body_readFor_194 rfl rfl rfl ?_
  refine ab_iload d_Body_readFor_195 rfl ?_
  refine ab_iload d_Body_readFor_197 rfl ?_
  refine ab_iconst (v := (-1)) d_Body_readFor_199 (by decide) ?_
  refine bT_c hG (fun x124 H123 z121 er => ?_) (fun v122 H123 z121 hF => ?_)
  · subst er
    refine ab_widen (cells' := H120.sh.length - c0) (slots' := H120.sl - s0) (by rw [(s_48).1]; exact Nat.le_refl _) (by rw [(s_48).2]; exact Nat.le_refl _) ?_
    have mz : Mo H120 H123 := (m_Body_turns hmo z121)
    have ml := mz.len
    have m2 := mz.2
    have be := congrArg List.length (s_48).1
    have bfx := (s_48).2
    have hC9 : H123.sh.length ≤ c0 + C := hC
    have hS9 : H123.sl ≤ s0 + Sl := hS
    refine hp_callV_t (x := x124) (H1 := H123) (As := [.int x85, .int v116, .int (-1)]) (rest := []) d_Body_readFor_200 (k_Body_turns ho hmo z121 (C := H123.sh.length - H120.sh.length) (Sl := H123.sl - H120.sl) (by show H123.sh.length ≤ _; omega) (by show H123.sl ≤ _; omega)) (ab_mkC s_Body_turns (show (fr + 2) + 1 ≤ fr + 3 from by have := ho.1; omega) (show 8 + (4 + 11) + (lo + 42) ≤ lo + 65 from by have := ho.2.1; omega) (show (H120.sh.length - c0) + (H123.sh.length - H120.sh.length) ≤ C from by omega) (show (H120.sl - s0) + (H123.sl - H120.sl) ≤ Sl from by omega)) (k6 22 rfl rfl) i_Body_turns v_Body_turns (by rw [(s_48).1]; exact q68) (by decide) rfl rfl (Nat.le_of_ble_eq_true rfl) ?_
    exact ab_U_out rfl (by show _ + (H123.sh.length - H120.sh.length) ≤ C; omega) (by show _ + (H123.sl - H120.sl) ≤ Sl; omega) ⟨rfl, rfl⟩
  clear hG
  refine ab_widen (cells' := H120.sh.length - c0) (slots' := H120.sl - s0) (by rw [(s_48).1]; exact Nat.le_refl _) (by rw [(s_48).2]; exact Nat.le_refl _) ?_
  have mz_49 : Mo H120 H123 := (m_Body_turns hmo z121)
  have b_50l := (mz_49).len
  have b_50s := (mz_49).2
  have b_50e := congrArg List.length (s_48).1
  have b_50f := (s_48).2
  have b_50c : c0 ≤ H123.sh.length := by omega
  have b_50d : s0 ≤ H123.sl := by omega
  have q_51 := (mz_49).get (by rw [(s_48).1]; exact q68)
  have q_52 := (mz_49).get (by rw [(s_48).1]; exact q71)
  have q_53 := (mz_49).get (by rw [(s_48).1]; exact q78)
  have q_54 := (mz_49).get (by rw [(s_48).1]; exact q84)
  have q_55 := (mz_49).get (by rw [(s_48).1]; exact q88)
  have q_56 := (mz_49).get (by rw [(s_48).1]; exact q95)
  have q_57 := (mz_49).get (by rw [(s_48).1]; exact q101)
  have q_58 := (mz_49).get (by rw [(s_48).1]; exact q108)
  have q_59 := (mz_49).get (by rw [(s_48).1]; exact q114)
  obtain ⟨a125, e126, hG⟩ := rf_s hF; clear hF
  obtain ⟨q127, hF⟩ := ck_s hG; clear hG
  obtain ⟨v129, H130, z128, hG⟩ := bC_s hF; clear hF
  have jH130 : Mo H123 H130 := ((m_Program_forget z128)).mo
  obtain ⟨x131, ex131, hF⟩ := bnd_g hG; clear hG
  obtain ⟨H132, eH132, hG⟩ := bnd_g hF; clear hF
  have jH132 : Mo H130 H132 := by rw [eH132]; exact Mo.rf _
  have fH132 : Mo H132 r.2 := by
    have hm := Mo.rf H132
    have hr := Option.some.inj hG; subst hr
    exact hm
  have fH130 : Mo H130 r.2 := jH132.tr fH132
  have fH123 : Mo H123 r.2 := jH130.tr fH130
  have b_50m := (fH123).len
  have b_50n := (fH123).2
  have b_50p : H123.sh.length ≤ c0 + C := by omega
  have b_50q : H123.sl ≤ s0 + Sl := by omega
  refine hp_callV_v (H1 := H123) (As := [.int x85, .int v116, .int (-1)]) (rest := []) d_Body_readFor_200 (k_Body_turns ho hmo z121 (C := H123.sh.length - H120.sh.length) (Sl := H123.sl - H120.sl) (by show H123.sh.length ≤ _; omega) (by show H123.sl ≤ _; omega)) (ab_mkC s_Body_turns (show (fr + 2) + 1 ≤ fr + 3 from by have := ho.1; omega) (show 8 + (4 + 11) + (lo + 42) ≤ lo + 65 from by have := ho.2.1; omega) (show (H120.sh.length - c0) + (H123.sh.length - H120.sh.length) ≤ C from by omega) (show (H120.sl - s0) + (H123.sl - H120.sl) ≤ Sl from by omega)) (k6 22 rfl rfl) i_Body_turns v_Body_turns (by rw [(s_48).1]; exact q68) (by decide) rfl rfl (Nat.le_of_ble_eq_true rfl) ?_
  refine ab_widen (cells' := H123.sh.length - c0) (slots' := H123.sl - s0) (by show _ + (H123.sh.length - H120.sh.length) ≤ _; omega) (by show _ + (H123.sl - H120.sl) ≤ _; omega) ?_
  clear b_50l b_50s b_50m b_50n b_50e b_50f
  refine ab_aload_n d_Body_readFor_203 rfl rfl rfl ?_
  refine hp_getR (f := 1) d_Body_readFor_204 q_51 (by decide) rfl (by decide) (k1 158 rfl rfl) rfl e126 ?_
  refine ab_iconst (v := 1) d_Body_readFor_207 (by decide) ?_
  refine hp_callV_v (H1 := H130) (As := [.int 1]) (rest := []) d_Body_readFor_208 (k_Program_forget z128) (ab_mkC s_Program_forget (show 1 + 1 ≤ fr + 3 from by have := ho.1; omega) (show 8 + (2 + 11) + 21 ≤ lo + 65 from by have := ho.2.1; omega) (show (H123.sh.length - c0) + 0 ≤ C from by omega) (show (H123.sl - s0) + 0 ≤ Sl from by omega)) (k6 35 rfl rfl) i_Program_forget v_Program_forget q127 (by decide) rfl rfl (Nat.le_of_ble_eq_true rfl) ?_
  have s_63 : Sa H123 H130 := (m_Program_forget z128)
  refine ab_widen (cells' := H123.sh.length - c0) (slots' := H123.sl - s0) (by show (H123.sh.length - c0) + 0 ≤ _; omega) (by show (H123.sl - s0) + 0 ≤ _; omega) ?_
  refine ab_aload_n d_Body_readFor_211 rfl rfl rfl ?_
  refine ab_dup d_Body_readFor_212 rfl ?_
  refine hp_getI (f := 3) d_Body_readFor_213 (by rw [(s_63).1]; exact q_51) (by decide) rfl (by decide) (k1 160 rfl rfl) rfl ?_
  refine ab_topxi ex131 ?_
  refine ab_iconst (v := 1) d_Body_readFor_216 (by decide) ?_
  refine ab_isub d_Body_readFor_217 ?_
  refine hp_putI (v := x131 - (1 : Int32)) (f := 3) d_Body_readFor_218 (by rw [(s_63).1]; exact q_51) (by decide) rfl (by decide) (k1 160 rfl rfl) rfl rfl (fun _ => rfl) (fun _ => rfl) rfl ?_
  refine hp_genx eH132 ?_
  have s_64 : Sa H123 H132 := by rw [eH132]; exact s_63
  exact ab_vret d_Body_readFor_221 rfl (by show _ ≤ C; omega) (by show _ ≤ Sl; omega) (by have hr := Option.some.inj hG; subst hr; exact ⟨rfl, rfl⟩)
def B_Body_readFor_65 (N : Nat) (o : Orc_BodyS) (p0 : Nat) (l1 : Nat) (l2 : Int32) (H : Hp) : Option ((Ot Unit) × Hp) :=
    ck (H.sh[p0]? = some (6, 0)) <|
    rf (H.P p0 0) fun a45 =>
    ck (H.sh[a45]? = some (1, 0)) <|
    bC (F_Lexer_advance N a45 H) fun v49 H50 =>
    bT (F_Body_inParens N (X_BodyE N 140) p0 (2 : Int32) H50) fun v52 H53 =>
    rf (H53.P p0 1) fun a55 =>
    ck (H53.sh[a55]? = some (4, 0)) <|
    bC (F_Program_add N a55 (7 : Int32) H53) fun v59 H60 =>
    rf (H60.P p0 1) fun a61 =>
    bnd ((H60.D p0 5)) fun x63 =>
    ck (H60.sh[a61]? = some (4, 0)) <|
    bC (F_Program_add N a61 x63 H60) fun v66 H67 =>
    B_Body_readFor_103 N o p0 l1 l2 9 H67
set_option maxRecDepth 20000 in
set_option maxHeartbeats 2000000 in
theorem mB_Body_readFor_65 {N : Nat} {o : Orc_BodyS} (hmo : mo_BodyS o) {p0 : Nat} {l1 : Nat} {l2 : Int32} {H : Hp} {r : (Ot Unit) × Hp} (hF : B_Body_readFor_65 N o p0 l1 l2 H = some r) : Mo H r.2 := by
  unfold B_Body_readFor_65 at hF
  have hm := Mo.rf H
  obtain ⟨q68, hG⟩ := ck_s hF; clear hF
  obtain ⟨a69, e70, hF⟩ := rf_s hG; clear hG
  obtain ⟨q71, hG⟩ := ck_s hF; clear hF
  obtain ⟨v73, H74, z72, hF⟩ := bC_s hG; clear hG
  replace hm : Mo H H74 := hm.tr ((m_Lexer_advance z72)).mo
  refine bT_c hF (fun x78 H77 z75 er => ?_) (fun v76 H77 z75 hG => ?_)
  · subst er; exact hm.tr (m_Body_inParens (moX_BodyE 140) z75)
  clear hF
  replace hm : Mo H H77 := hm.tr (m_Body_inParens (moX_BodyE 140) z75)
  obtain ⟨a79, e80, hF⟩ := rf_s hG; clear hG
  obtain ⟨q81, hG⟩ := ck_s hF; clear hF
  obtain ⟨v83, H84, z82, hF⟩ := bC_s hG; clear hG
  replace hm : Mo H H84 := hm.tr ((m_Program_add z82)).mo
  obtain ⟨a85, e86, hG⟩ := rf_s hF; clear hF
  obtain ⟨x87, -, hF⟩ := bnd_g hG; clear hG
  obtain ⟨q88, hG⟩ := ck_s hF; clear hF
  obtain ⟨v90, H91, z89, hF⟩ := bC_s hG; clear hG
  replace hm : Mo H H91 := hm.tr ((m_Program_add z89)).mo
  exact hm.tr (mB_Body_readFor_103 hmo hF)
set_option maxRecDepth 20000 in
set_option maxHeartbeats 2000000 in
theorem kB_Body_readFor_65 {N : Nat} {o : Orc_BodyS} {fr lo : Nat} (ho : ok_BodyS o fr lo) (hmo : mo_BodyS o) {p0 : Nat} {c0 s0 C Sl : Nat} {l1 : Nat} {l2 : Int32} {H : Hp} {r : (Ot Unit) × Hp} (hF : B_Body_readFor_65 N o p0 l1 l2 H = some r) (hc0 : c0 ≤ H.sh.length) (hs0 : s0 ≤ H.sl) (hcc : H.sh.length ≤ c0 + C) (hss : H.sl ≤ s0 + Sl) (hC : r.2.sh.length ≤ c0 + C) (hS : r.2.sl ≤ s0 + Sl) : ab_V y_Body_readFor { frames := fr + 3, cells := C, slots := Sl, locals := lo + 65 } (po (oV r.1) r.2) C Sl (H.sh.length - c0) (H.sl - s0) 65 [some (.ref p0), some (.ref l1), some (.int l2), none, none, none] [] (hpw H) := by
  unfold B_Body_readFor_65 at hF
  refine ab_aload_n d_Body_readFor_65 rfl rfl rfl ?_
  obtain ⟨q44, hG⟩ := ck_s hF; clear hF
  obtain ⟨a45, e46, hF⟩ := rf_s hG; clear hG
  refine hp_getR (f := 0) d_Body_readFor_66 q44 (by decide) rfl (by decide) (k1 157 rfl rfl) rfl e46 ?_
  obtain ⟨q47, hG⟩ := ck_s hF; clear hF
  obtain ⟨v49, H50, z48, hF⟩ := bC_s hG; clear hG
  refine hp_callV_v (H1 := H50) (As := []) (rest := []) d_Body_readFor_69 (k_Lexer_advance z48) (ab_mkC s_Lexer_advance (show 0 + 1 ≤ fr + 3 from by have := ho.1; omega) (show 8 + (1 + 11) + 0 ≤ lo + 65 from by have := ho.2.1; omega) (show (H.sh.length - c0) + 0 ≤ C from by omega) (show (H.sl - s0) + 0 ≤ Sl from by omega)) (k5 129 rfl rfl) i_Lexer_advance v_Lexer_advance q47 (by decide) rfl rfl (Nat.le_of_ble_eq_true rfl) ?_
  have s_26 : Sa H H50 := (m_Lexer_advance z48)
  refine ab_widen (cells' := H.sh.length - c0) (slots' := H.sl - s0) (by show (H.sh.length - c0) + 0 ≤ _; omega) (by show (H.sl - s0) + 0 ≤ _; omega) ?_
  refine ab_aload_n d_Body_readFor_72 rfl rfl rfl ?_
  refine ab_iconst (v := 2) d_Body_readFor_73 (by decide) ?_
  refine bT_c hF (fun x54 H53 z51 er => ?_) (fun v52 H53 z51 hG => ?_)
  · subst er
    refine ab_widen (cells' := H50.sh.length - c0) (slots' := H50.sl - s0) (by rw [(s_26).1]; exact Nat.le_refl _) (by rw [(s_26).2]; exact Nat.le_refl _) ?_
    have mz : Mo H50 H53 := (m_Body_inParens (moX_BodyE 140) z51)
    have ml := mz.len
    have m2 := mz.2
    have be := congrArg List.length (s_26).1
    have bfx := (s_26).2
    have hC9 : H53.sh.length ≤ c0 + C := hC
    have hS9 : H53.sl ≤ s0 + Sl := hS
    refine hp_callV_t (x := x54) (H1 := H53) (As := [.int 2]) (rest := []) d_Body_readFor_74 (k_Body_inParens (okX_BodyE 140) (moX_BodyE 140) z51 (C := H53.sh.length - H50.sh.length) (Sl := H53.sl - H50.sl) (by show H53.sh.length ≤ _; omega) (by show H53.sl ≤ _; omega)) (ab_mkC s_Body_inParens (show (8 + 4 * 140 + 2) + 1 ≤ fr + 3 from by have := ho.1; omega) (show 8 + (3 + 11) + (152 + 95 * 140 + 50) ≤ lo + 65 from by have := ho.2.1; omega) (show (H50.sh.length - c0) + (H53.sh.length - H50.sh.length) ≤ C from by omega) (show (H50.sl - s0) + (H53.sl - H50.sl) ≤ Sl from by omega)) (k5 157 rfl rfl) i_Body_inParens v_Body_inParens (by rw [(s_26).1]; exact q44) (by decide) rfl rfl (Nat.le_of_ble_eq_true rfl) ?_
    exact ab_U_out rfl (by show _ + (H53.sh.length - H50.sh.length) ≤ C; omega) (by show _ + (H53.sl - H50.sl) ≤ Sl; omega) ⟨rfl, rfl⟩
  clear hF
  refine ab_widen (cells' := H50.sh.length - c0) (slots' := H50.sl - s0) (by rw [(s_26).1]; exact Nat.le_refl _) (by rw [(s_26).2]; exact Nat.le_refl _) ?_
  have mz_27 : Mo H50 H53 := (m_Body_inParens (moX_BodyE 140) z51)
  have b_28l := (mz_27).len
  have b_28s := (mz_27).2
  have b_28e := congrArg List.length (s_26).1
  have b_28f := (s_26).2
  have b_28c : c0 ≤ H53.sh.length := by omega
  have b_28d : s0 ≤ H53.sl := by omega
  have q_29 := (mz_27).get (by rw [(s_26).1]; exact q44)
  have q_30 := (mz_27).get (by rw [(s_26).1]; exact q47)
  obtain ⟨a55, e56, hF⟩ := rf_s hG; clear hG
  obtain ⟨q57, hG⟩ := ck_s hF; clear hF
  obtain ⟨v59, H60, z58, hF⟩ := bC_s hG; clear hG
  have jH60 : Mo H53 H60 := ((m_Program_add z58)).mo
  obtain ⟨a61, e62, hG⟩ := rf_s hF; clear hF
  obtain ⟨x63, ex63, hF⟩ := bnd_g hG; clear hG
  obtain ⟨q64, hG⟩ := ck_s hF; clear hF
  obtain ⟨v66, H67, z65, hF⟩ := bC_s hG; clear hG
  have jH67 : Mo H60 H67 := ((m_Program_add z65)).mo
  have fH67 : Mo H67 r.2 := by
    have hm := Mo.rf H67
    exact hm.tr (mB_Body_readFor_103 hmo hF)
  have fH60 : Mo H60 r.2 := jH67.tr fH67
  have fH53 : Mo H53 r.2 := jH60.tr fH60
  have b_28m := (fH53).len
  have b_28n := (fH53).2
  have b_28p : H53.sh.length ≤ c0 + C := by omega
  have b_28q : H53.sl ≤ s0 + Sl := by omega
  refine hp_callV_a (v := .int v52) (H1 := H53) (As := [.int 2]) (rest := []) d_Body_readFor_74 (k_Body_inParens (okX_BodyE 140) (moX_BodyE 140) z51 (C := H53.sh.length - H50.sh.length) (Sl := H53.sl - H50.sl) (by show H53.sh.length ≤ _; omega) (by show H53.sl ≤ _; omega)) (ab_mkC s_Body_inParens (show (8 + 4 * 140 + 2) + 1 ≤ fr + 3 from by have := ho.1; omega) (show 8 + (3 + 11) + (152 + 95 * 140 + 50) ≤ lo + 65 from by have := ho.2.1; omega) (show (H50.sh.length - c0) + (H53.sh.length - H50.sh.length) ≤ C from by omega) (show (H50.sl - s0) + (H53.sl - H50.sl) ≤ Sl from by omega)) (k5 157 rfl rfl) i_Body_inParens v_Body_inParens (by rw [(s_26).1]; exact q44) (by decide) rfl rfl (Nat.le_of_ble_eq_true rfl) ?_
  refine ab_widen (cells' := H53.sh.length - c0) (slots' := H53.sl - s0) (by show _ + (H53.sh.length - H50.sh.length) ≤ _; omega) (by show _ + (H53.sl - H50.sl) ≤ _; omega) ?_
  clear b_28l b_28s b_28m b_28n b_28e b_28f
  refine ab_pop d_Body_readFor_77 rfl ?_
  refine ab_aload_n d_Body_readFor_78 rfl rfl rfl ?_
  refine hp_getR (f := 1) d_Body_readFor_79 q_29 (by decide) rfl (by decide) (k1 158 rfl rfl) rfl e56 ?_
  refine ab_bipush (v := 7) d_Body_readFor_82 (by decide) ?_
  refine hp_callV_a (v := .int v59) (H1 := H60) (As := [.int 7]) (rest := []) d_Body_readFor_84 (k_Program_add z58) (ab_mkC s_Program_add (show 0 + 1 ≤ fr + 3 from by have := ho.1; omega) (show 8 + (2 + 11) + 0 ≤ lo + 65 from by have := ho.2.1; omega) (show (H53.sh.length - c0) + 0 ≤ C from by omega) (show (H53.sl - s0) + 0 ≤ Sl from by omega)) (k5 117 rfl rfl) i_Program_add v_Program_add q57 (by decide) rfl rfl (Nat.le_of_ble_eq_true rfl) ?_
  have s_77 : Sa H53 H60 := (m_Program_add z58)
  refine ab_widen (cells' := H53.sh.length - c0) (slots' := H53.sl - s0) (by show (H53.sh.length - c0) + 0 ≤ _; omega) (by show (H53.sl - s0) + 0 ≤ _; omega) ?_
  refine ab_pop d_Body_readFor_87 rfl ?_
  refine ab_aload_n d_Body_readFor_88 rfl rfl rfl ?_
  refine hp_getR (f := 1) d_Body_readFor_89 (by rw [(s_77).1]; exact q_29) (by decide) rfl (by decide) (k1 158 rfl rfl) rfl e62 ?_
  refine ab_aload_n d_Body_readFor_92 rfl rfl rfl ?_
  refine hp_getI (f := 5) d_Body_readFor_93 (by rw [(s_77).1]; exact q_29) (by decide) rfl (by decide) (k1 162 rfl rfl) rfl ?_
  refine ab_topxi ex63 ?_
  rw [(s_77).1] at q64
  refine ab_widen (cells' := H60.sh.length - c0) (slots' := H60.sl - s0) (by rw [(s_77).1]; exact Nat.le_refl _) (by rw [(s_77).2]; exact Nat.le_refl _) ?_
  have b_78e := congrArg List.length (s_77).1
  have b_78f := (s_77).2
  refine hp_callV_a (v := .int v66) (H1 := H67) (As := [.int x63]) (rest := []) d_Body_readFor_96 (k_Program_add z65) (ab_mkC s_Program_add (show 0 + 1 ≤ fr + 3 from by have := ho.1; omega) (show 8 + (2 + 11) + 0 ≤ lo + 65 from by have := ho.2.1; omega) (show (H60.sh.length - c0) + 0 ≤ C from by omega) (show (H60.sl - s0) + 0 ≤ Sl from by omega)) (k5 117 rfl rfl) i_Program_add v_Program_add (by rw [(s_77).1]; exact q64) (by decide) rfl rfl (Nat.le_of_ble_eq_true rfl) ?_
  have s_79 : Sa H53 H67 := (s_77).tr (m_Program_add z65)
  refine ab_widen (cells' := H53.sh.length - c0) (slots' := H53.sl - s0) (by show (H60.sh.length - c0) + 0 ≤ _; omega) (by show (H60.sl - s0) + 0 ≤ _; omega) ?_
  clear b_78e b_78f
  refine ab_pop d_Body_readFor_99 rfl ?_
  refine ab_bipush (v := 9) d_Body_readFor_100 (by decide) ?_
  refine ab_istore_n (lv' := [some (.ref p0), some (.ref l1), some (.int l2), some (.int 9), none, none]) d_Body_readFor_102 rfl (by decide) rfl ?_
  refine ab_widen (cells' := H67.sh.length - c0) (slots' := H67.sl - s0) (by rw [(s_79).1]; exact Nat.le_refl _) (by rw [(s_79).2]; exact Nat.le_refl _) ?_
  exact kB_Body_readFor_103 ho hmo hF (by rw [(s_79).1]; exact b_28c) (by rw [(s_79).2]; exact b_28d) (by rw [(s_79).1]; exact b_28p) (by rw [(s_79).2]; exact b_28q) hC hS
def F_Body_readFor (N : Nat) (o : Orc_BodyS) (p0 : Nat) (H : Hp) : Option ((Ot Unit) × Hp) :=
    ck (H.sh[p0]? = some (6, 0)) <|
    rf (H.P p0 0) fun a2 =>
    ck (H.sh[a2]? = some (1, 0)) <|
    bC (F_Lexer_advance N a2 H) fun v6 H7 =>
    bT (F_Body_newLocal N p0 H7) fun v9 H10 =>
    on v9 fun a12 =>
    rf (H10.P p0 0) fun a13 =>
    ck (H10.sh[a13]? = some (1, 0)) <|
    bT (F_Lexer_take N a13 (59 : Int32) H10) fun v17 H18 =>
    bT (F_Body_numberHere N p0 (0 : Int32) H18) fun v21 H22 =>
    rf (H22.P p0 0) fun a24 =>
    ck (H22.sh[a24]? = some (1, 0)) <|
    bnd ((H22.D a24 2)) fun x27 =>
    if x27 = (60 : Int32) then
    bC (F_Body_canBeNear N p0 v21 H22) fun v30 H31 =>
    if v30 = (0 : Int32) then
    rf (H31.P p0 0) fun a33 =>
    rf (H31.P p0 0) fun a35 =>
    ck (H31.sh[a35]? = some (1, 0)) <|
    bnd ((H31.D a35 3)) fun x38 =>
    ck (H31.sh[a33]? = some (1, 0)) <|
    bT (F_Lexer_refuse N a33 (5 : Int32) x38 H31) fun v41 H42 =>
    B_Body_readFor_65 N o p0 a12 v21 H42
    else
    B_Body_readFor_65 N o p0 a12 v21 H31
    else
    B_Body_readFor_103 N o p0 a12 v21 8 H22
set_option maxRecDepth 20000 in
set_option maxHeartbeats 2000000 in
theorem m_Body_readFor {N : Nat} {o : Orc_BodyS} (hmo : mo_BodyS o) {p0 : Nat} {H : Hp} {r : (Ot Unit) × Hp} (hF : F_Body_readFor N o p0 H = some r) : Mo H r.2 := by
  unfold F_Body_readFor at hF
  have hm := Mo.rf H
  obtain ⟨q44, hG⟩ := ck_s hF; clear hF
  obtain ⟨a45, e46, hF⟩ := rf_s hG; clear hG
  obtain ⟨q47, hG⟩ := ck_s hF; clear hF
  obtain ⟨v49, H50, z48, hF⟩ := bC_s hG; clear hG
  replace hm : Mo H H50 := hm.tr ((m_Lexer_advance z48)).mo
  refine bT_c hF (fun x54 H53 z51 er => ?_) (fun v52 H53 z51 hG => ?_)
  · subst er; exact hm.tr (m_Body_newLocal z51)
  clear hF
  replace hm : Mo H H53 := hm.tr (m_Body_newLocal z51)
  obtain ⟨a55, ea55, hF⟩ := on_s hG; clear hG
  subst ea55
  obtain ⟨a56, e57, hG⟩ := rf_s hF; clear hF
  obtain ⟨q58, hF⟩ := ck_s hG; clear hG
  refine bT_c hF (fun x62 H61 z59 er => ?_) (fun v60 H61 z59 hG => ?_)
  · subst er; exact hm.tr (m_Lexer_take z59)
  clear hF
  replace hm : Mo H H61 := hm.tr (m_Lexer_take z59)
  refine bT_c hG (fun x66 H65 z63 er => ?_) (fun v64 H65 z63 hF => ?_)
  · subst er; exact hm.tr (m_Body_numberHere z63)
  clear hG
  replace hm : Mo H H65 := hm.tr (m_Body_numberHere z63)
  obtain ⟨a67, e68, hG⟩ := rf_s hF; clear hF
  obtain ⟨q69, hF⟩ := ck_s hG; clear hG
  obtain ⟨x70, -, hG⟩ := bnd_g hF; clear hF
  rcases ite_s hG with ⟨q_136, hF⟩ | ⟨q_136, hF⟩
  · clear hG
    obtain ⟨v73, H74, z72, hG⟩ := bC_s hF; clear hF
    replace hm : Mo H H74 := hm.tr ((m_Body_canBeNear z72)).mo
    rcases ite_s hG with ⟨q_137, hF⟩ | ⟨q_137, hF⟩
    · clear hG
      obtain ⟨a76, e77, hG⟩ := rf_s hF; clear hF
      obtain ⟨a78, e79, hF⟩ := rf_s hG; clear hG
      obtain ⟨q80, hG⟩ := ck_s hF; clear hF
      obtain ⟨x81, -, hF⟩ := bnd_g hG; clear hG
      obtain ⟨q82, hG⟩ := ck_s hF; clear hF
      refine bT_c hG (fun x86 H85 z83 er => ?_) (fun v84 H85 z83 hF => ?_)
      · subst er; exact hm.tr (m_Lexer_refuse z83)
      clear hG
      replace hm : Mo H H85 := hm.tr (m_Lexer_refuse z83)
      exact hm.tr (mB_Body_readFor_65 hmo hF)
    · clear hG
      exact hm.tr (mB_Body_readFor_65 hmo hF)
  · clear hG
    exact hm.tr (mB_Body_readFor_103 hmo hF)
set_option maxRecDepth 20000 in
set_option maxHeartbeats 2000000 in
theorem k_Body_readFor {N : Nat} {o : Orc_BodyS} {fr lo : Nat} (ho : ok_BodyS o fr lo) (hmo : mo_BodyS o) {p0 : Nat} {H : Hp} {r : (Ot Unit) × Hp} {C Sl : Nat} (hF : F_Body_readFor N o p0 H = some r) (hC : r.2.sh.length ≤ H.sh.length + C) (hS : r.2.sl ≤ H.sl + Sl) : ab_M y_Body_readFor { frames := fr + 3, cells := C, slots := Sl, locals := lo + 65 } [.ref p0] (hpw H) (po (oV r.1) r.2) := by
  unfold F_Body_readFor at hF
  obtain ⟨c0, e0⟩ : ∃ q, q = H.sh.length := ⟨_, rfl⟩
  obtain ⟨s0, e1⟩ : ∃ q, q = H.sl := ⟨_, rfl⟩
  rw [← e0] at hC
  rw [← e1] at hS
  have hc0 : c0 ≤ H.sh.length := Nat.le_of_eq e0
  have hs0 : s0 ≤ H.sl := Nat.le_of_eq e1
  have hcc : H.sh.length ≤ c0 + C := by omega
  have hss : H.sl ≤ s0 + Sl := by omega
  refine ab_of2 (lv := [some (.ref p0), none, none, none, none, none]) 5 rfl rfl (Nat.le_of_ble_eq_true rfl) ?_
  refine ab_widen (cells' := H.sh.length - c0) (slots' := H.sl - s0) (Nat.zero_le _) (Nat.zero_le _) ?_
  refine ab_aload_n d_Body_readFor_0 rfl rfl rfl ?_
  obtain ⟨q1, hG⟩ := ck_s hF; clear hF
  obtain ⟨a2, e3, hF⟩ := rf_s hG; clear hG
  refine hp_getR (f := 0) d_Body_readFor_1 q1 (by decide) rfl (by decide) (k1 157 rfl rfl) rfl e3 ?_
  obtain ⟨q4, hG⟩ := ck_s hF; clear hF
  obtain ⟨v6, H7, z5, hF⟩ := bC_s hG; clear hG
  refine hp_callV_v (H1 := H7) (As := []) (rest := []) d_Body_readFor_4 (k_Lexer_advance z5) (ab_mkC s_Lexer_advance (show 0 + 1 ≤ fr + 3 from by have := ho.1; omega) (show 8 + (1 + 11) + 0 ≤ lo + 65 from by have := ho.2.1; omega) (show (H.sh.length - c0) + 0 ≤ C from by omega) (show (H.sl - s0) + 0 ≤ Sl from by omega)) (k5 129 rfl rfl) i_Lexer_advance v_Lexer_advance q4 (by decide) rfl rfl (Nat.le_of_ble_eq_true rfl) ?_
  have s_2 : Sa H H7 := (m_Lexer_advance z5)
  refine ab_widen (cells' := H.sh.length - c0) (slots' := H.sl - s0) (by show (H.sh.length - c0) + 0 ≤ _; omega) (by show (H.sl - s0) + 0 ≤ _; omega) ?_
  refine ab_aload_n d_Body_readFor_7 rfl rfl rfl ?_
  refine bT_c hF (fun x11 H10 z8 er => ?_) (fun v9 H10 z8 hG => ?_)
  · subst er
    refine ab_widen (cells' := H7.sh.length - c0) (slots' := H7.sl - s0) (by rw [(s_2).1]; exact Nat.le_refl _) (by rw [(s_2).2]; exact Nat.le_refl _) ?_
    have mz : Mo H7 H10 := (m_Body_newLocal z8)
    have ml := mz.len
    have m2 := mz.2
    have be := congrArg List.length (s_2).1
    have bfx := (s_2).2
    have hC9 : H10.sh.length ≤ c0 + C := hC
    have hS9 : H10.sl ≤ s0 + Sl := hS
    refine hp_callV_t (x := x11) (H1 := H10) (As := []) (rest := []) d_Body_readFor_8 (k_Body_newLocal z8 (C := H10.sh.length - H7.sh.length) (Sl := H10.sl - H7.sl) (by show H10.sh.length ≤ _; omega) (by show H10.sl ≤ _; omega)) (ab_mkC s_Body_newLocal (show 7 + 1 ≤ fr + 3 from by have := ho.1; omega) (show 8 + (3 + 11) + 128 ≤ lo + 65 from by have := ho.2.1; omega) (show (H7.sh.length - c0) + (H10.sh.length - H7.sh.length) ≤ C from by omega) (show (H7.sl - s0) + (H10.sl - H7.sl) ≤ Sl from by omega)) (k5 130 rfl rfl) i_Body_newLocal v_Body_newLocal (by rw [(s_2).1]; exact q1) (by decide) rfl rfl (Nat.le_of_ble_eq_true rfl) ?_
    exact ab_U_out rfl (by show _ + (H10.sh.length - H7.sh.length) ≤ C; omega) (by show _ + (H10.sl - H7.sl) ≤ Sl; omega) ⟨rfl, rfl⟩
  clear hF
  refine ab_widen (cells' := H7.sh.length - c0) (slots' := H7.sl - s0) (by rw [(s_2).1]; exact Nat.le_refl _) (by rw [(s_2).2]; exact Nat.le_refl _) ?_
  have mz_3 : Mo H7 H10 := (m_Body_newLocal z8)
  have b_4l := (mz_3).len
  have b_4s := (mz_3).2
  have b_4e := congrArg List.length (s_2).1
  have b_4f := (s_2).2
  have b_4c : c0 ≤ H10.sh.length := by omega
  have b_4d : s0 ≤ H10.sl := by omega
  have q_5 := (mz_3).get (by rw [(s_2).1]; exact q1)
  have q_6 := (mz_3).get (by rw [(s_2).1]; exact q4)
  have mf_7 : Mo H10 r.2 := by
    have hm := Mo.rf H10
    obtain ⟨a12, ea12, hF⟩ := on_s hG; clear hG
    subst ea12
    obtain ⟨a13, e14, hG⟩ := rf_s hF; clear hF
    obtain ⟨q15, hF⟩ := ck_s hG; clear hG
    refine bT_c hF (fun x19 H18 z16 er => ?_) (fun v17 H18 z16 hG => ?_)
    · subst er; exact hm.tr (m_Lexer_take z16)
    clear hF
    replace hm : Mo H10 H18 := hm.tr (m_Lexer_take z16)
    refine bT_c hG (fun x23 H22 z20 er => ?_) (fun v21 H22 z20 hF => ?_)
    · subst er; exact hm.tr (m_Body_numberHere z20)
    clear hG
    replace hm : Mo H10 H22 := hm.tr (m_Body_numberHere z20)
    obtain ⟨a24, e25, hG⟩ := rf_s hF; clear hF
    obtain ⟨q26, hF⟩ := ck_s hG; clear hG
    obtain ⟨x27, -, hG⟩ := bnd_g hF; clear hF
    rcases ite_s hG with ⟨q_16, hF⟩ | ⟨q_16, hF⟩
    · clear hG
      obtain ⟨v30, H31, z29, hG⟩ := bC_s hF; clear hF
      replace hm : Mo H10 H31 := hm.tr ((m_Body_canBeNear z29)).mo
      rcases ite_s hG with ⟨q_17, hF⟩ | ⟨q_17, hF⟩
      · clear hG
        obtain ⟨a33, e34, hG⟩ := rf_s hF; clear hF
        obtain ⟨a35, e36, hF⟩ := rf_s hG; clear hG
        obtain ⟨q37, hG⟩ := ck_s hF; clear hF
        obtain ⟨x38, -, hF⟩ := bnd_g hG; clear hG
        obtain ⟨q39, hG⟩ := ck_s hF; clear hF
        refine bT_c hG (fun x43 H42 z40 er => ?_) (fun v41 H42 z40 hF => ?_)
        · subst er; exact hm.tr (m_Lexer_refuse z40)
        clear hG
        replace hm : Mo H10 H42 := hm.tr (m_Lexer_refuse z40)
        exact hm.tr (mB_Body_readFor_65 hmo hF)
      · clear hG
        exact hm.tr (mB_Body_readFor_65 hmo hF)
    · clear hG
      exact hm.tr (mB_Body_readFor_103 hmo hF)
  have b_4m := (mf_7).len
  have b_4n := (mf_7).2
  have b_4p : H10.sh.length ≤ c0 + C := by omega
  have b_4q : H10.sl ≤ s0 + Sl := by omega
  refine hp_callV_a (v := ab_rf v9) (H1 := H10) (As := []) (rest := []) d_Body_readFor_8 (k_Body_newLocal z8 (C := H10.sh.length - H7.sh.length) (Sl := H10.sl - H7.sl) (by show H10.sh.length ≤ _; omega) (by show H10.sl ≤ _; omega)) (ab_mkC s_Body_newLocal (show 7 + 1 ≤ fr + 3 from by have := ho.1; omega) (show 8 + (3 + 11) + 128 ≤ lo + 65 from by have := ho.2.1; omega) (show (H7.sh.length - c0) + (H10.sh.length - H7.sh.length) ≤ C from by omega) (show (H7.sl - s0) + (H10.sl - H7.sl) ≤ Sl from by omega)) (k5 130 rfl rfl) i_Body_newLocal v_Body_newLocal (by rw [(s_2).1]; exact q1) (by decide) rfl rfl (Nat.le_of_ble_eq_true rfl) ?_
  refine ab_widen (cells' := H10.sh.length - c0) (slots' := H10.sl - s0) (by show _ + (H10.sh.length - H7.sh.length) ≤ _; omega) (by show _ + (H10.sl - H7.sl) ≤ _; omega) ?_
  clear b_4l b_4s b_4m b_4n b_4e b_4f
  obtain ⟨a12, ea12, hF⟩ := on_s hG; clear hG
  subst ea12
  refine ab_astore_n (lv' := [some (.ref p0), some (.ref a12), none, none, none, none]) d_Body_readFor_11 rfl (by decide) rfl rfl ?_
  refine ab_aload_n d_Body_readFor_12 rfl rfl rfl ?_
  obtain ⟨a13, e14, hG⟩ := rf_s hF; clear hF
  refine hp_getR (f := 0) d_Body_readFor_13 q_5 (by decide) rfl (by decide) (k1 157 rfl rfl) rfl e14 ?_
  refine ab_bipush (v := 59) d_Body_readFor_16 (by decide) ?_
  obtain ⟨q15, hF⟩ := ck_s hG; clear hG
  refine bT_c hF (fun x19 H18 z16 er => ?_) (fun v17 H18 z16 hG => ?_)
  · subst er
    have mz : Mo H10 H18 := (m_Lexer_take z16)
    have ml := mz.len
    have m2 := mz.2
    have hC9 : H18.sh.length ≤ c0 + C := hC
    have hS9 : H18.sl ≤ s0 + Sl := hS
    refine hp_callV_t (x := x19) (H1 := H18) (As := [.int 59]) (rest := []) d_Body_readFor_18 (k_Lexer_take z16 (C := H18.sh.length - H10.sh.length) (Sl := H18.sl - H10.sl) (by show H18.sh.length ≤ _; omega) (by show H18.sl ≤ _; omega)) (ab_mkC s_Lexer_take (show 7 + 1 ≤ fr + 3 from by have := ho.1; omega) (show 8 + (2 + 11) + 122 ≤ lo + 65 from by have := ho.2.1; omega) (show (H10.sh.length - c0) + (H18.sh.length - H10.sh.length) ≤ C from by omega) (show (H10.sl - s0) + (H18.sl - H10.sl) ≤ Sl from by omega)) (k5 116 rfl rfl) i_Lexer_take v_Lexer_take q15 (by decide) rfl rfl (Nat.le_of_ble_eq_true rfl) ?_
    exact ab_U_out rfl (by show _ + (H18.sh.length - H10.sh.length) ≤ C; omega) (by show _ + (H18.sl - H10.sl) ≤ Sl; omega) ⟨rfl, rfl⟩
  clear hF
  have mz_83 : Mo H10 H18 := (m_Lexer_take z16)
  have b_84l := (mz_83).len
  have b_84s := (mz_83).2
  have b_84c : c0 ≤ H18.sh.length := by omega
  have b_84d : s0 ≤ H18.sl := by omega
  have q_85 := (mz_83).get q_5
  have q_86 := (mz_83).get q_6
  have q_87 := (mz_83).get q15
  have fH18 : Mo H18 r.2 := by
    have hm := Mo.rf H18
    refine bT_c hG (fun x23 H22 z20 er => ?_) (fun v21 H22 z20 hF => ?_)
    · subst er; exact hm.tr (m_Body_numberHere z20)
    clear hG
    replace hm : Mo H18 H22 := hm.tr (m_Body_numberHere z20)
    obtain ⟨a24, e25, hG⟩ := rf_s hF; clear hF
    obtain ⟨q26, hF⟩ := ck_s hG; clear hG
    obtain ⟨x27, -, hG⟩ := bnd_g hF; clear hF
    rcases ite_s hG with ⟨q_92, hF⟩ | ⟨q_92, hF⟩
    · clear hG
      obtain ⟨v30, H31, z29, hG⟩ := bC_s hF; clear hF
      replace hm : Mo H18 H31 := hm.tr ((m_Body_canBeNear z29)).mo
      rcases ite_s hG with ⟨q_93, hF⟩ | ⟨q_93, hF⟩
      · clear hG
        obtain ⟨a33, e34, hG⟩ := rf_s hF; clear hF
        obtain ⟨a35, e36, hF⟩ := rf_s hG; clear hG
        obtain ⟨q37, hG⟩ := ck_s hF; clear hF
        obtain ⟨x38, -, hF⟩ := bnd_g hG; clear hG
        obtain ⟨q39, hG⟩ := ck_s hF; clear hF
        refine bT_c hG (fun x43 H42 z40 er => ?_) (fun v41 H42 z40 hF => ?_)
        · subst er; exact hm.tr (m_Lexer_refuse z40)
        clear hG
        replace hm : Mo H18 H42 := hm.tr (m_Lexer_refuse z40)
        exact hm.tr (mB_Body_readFor_65 hmo hF)
      · clear hG
        exact hm.tr (mB_Body_readFor_65 hmo hF)
    · clear hG
      exact hm.tr (mB_Body_readFor_103 hmo hF)
  have b_84m := (fH18).len
  have b_84n := (fH18).2
  have b_84p : H18.sh.length ≤ c0 + C := by omega
  have b_84q : H18.sl ≤ s0 + Sl := by omega
  refine hp_callV_v (H1 := H18) (As := [.int 59]) (rest := []) d_Body_readFor_18 (k_Lexer_take z16 (C := H18.sh.length - H10.sh.length) (Sl := H18.sl - H10.sl) (by show H18.sh.length ≤ _; omega) (by show H18.sl ≤ _; omega)) (ab_mkC s_Lexer_take (show 7 + 1 ≤ fr + 3 from by have := ho.1; omega) (show 8 + (2 + 11) + 122 ≤ lo + 65 from by have := ho.2.1; omega) (show (H10.sh.length - c0) + (H18.sh.length - H10.sh.length) ≤ C from by omega) (show (H10.sl - s0) + (H18.sl - H10.sl) ≤ Sl from by omega)) (k5 116 rfl rfl) i_Lexer_take v_Lexer_take q15 (by decide) rfl rfl (Nat.le_of_ble_eq_true rfl) ?_
  refine ab_widen (cells' := H18.sh.length - c0) (slots' := H18.sl - s0) (by show _ + (H18.sh.length - H10.sh.length) ≤ _; omega) (by show _ + (H18.sl - H10.sl) ≤ _; omega) ?_
  clear b_84l b_84s b_84m b_84n b_4c b_4d b_4p b_4q
  refine ab_aload_n d_Body_readFor_21 rfl rfl rfl ?_
  refine ab_iconst (v := 0) d_Body_readFor_22 (by decide) ?_
  refine bT_c hG (fun x23 H22 z20 er => ?_) (fun v21 H22 z20 hF => ?_)
  · subst er
    have mz : Mo H18 H22 := (m_Body_numberHere z20)
    have ml := mz.len
    have m2 := mz.2
    have hC9 : H22.sh.length ≤ c0 + C := hC
    have hS9 : H22.sl ≤ s0 + Sl := hS
    refine hp_callV_t (x := x23) (H1 := H22) (As := [.int 0]) (rest := []) d_Body_readFor_23 (k_Body_numberHere z20 (C := H22.sh.length - H18.sh.length) (Sl := H22.sl - H18.sl) (by show H22.sh.length ≤ _; omega) (by show H22.sl ≤ _; omega)) (ab_mkC s_Body_numberHere (show 8 + 1 ≤ fr + 3 from by have := ho.1; omega) (show 8 + (4 + 11) + 150 ≤ lo + 65 from by have := ho.2.1; omega) (show (H18.sh.length - c0) + (H22.sh.length - H18.sh.length) ≤ C from by omega) (show (H18.sl - s0) + (H22.sl - H18.sl) ≤ Sl from by omega)) (k5 177 rfl rfl) i_Body_numberHere v_Body_numberHere q_85 (by decide) rfl rfl (Nat.le_of_ble_eq_true rfl) ?_
    exact ab_U_out rfl (by show _ + (H22.sh.length - H18.sh.length) ≤ C; omega) (by show _ + (H22.sl - H18.sl) ≤ Sl; omega) ⟨rfl, rfl⟩
  clear hG
  have mz_101 : Mo H18 H22 := (m_Body_numberHere z20)
  have b_102l := (mz_101).len
  have b_102s := (mz_101).2
  have b_102c : c0 ≤ H22.sh.length := by omega
  have b_102d : s0 ≤ H22.sl := by omega
  have q_103 := (mz_101).get q_85
  have q_104 := (mz_101).get q_86
  have q_105 := (mz_101).get q_87
  obtain ⟨a24, e25, hG⟩ := rf_s hF; clear hF
  obtain ⟨q26, hF⟩ := ck_s hG; clear hG
  obtain ⟨x27, ex27, hG⟩ := bnd_g hF; clear hF
  have fH22 : Mo H22 r.2 := by
    have hm := Mo.rf H22
    rcases ite_s hG with ⟨q_106, hF⟩ | ⟨q_106, hF⟩
    · clear hG
      obtain ⟨v30, H31, z29, hG⟩ := bC_s hF; clear hF
      replace hm : Mo H22 H31 := hm.tr ((m_Body_canBeNear z29)).mo
      rcases ite_s hG with ⟨q_107, hF⟩ | ⟨q_107, hF⟩
      · clear hG
        obtain ⟨a33, e34, hG⟩ := rf_s hF; clear hF
        obtain ⟨a35, e36, hF⟩ := rf_s hG; clear hG
        obtain ⟨q37, hG⟩ := ck_s hF; clear hF
        obtain ⟨x38, -, hF⟩ := bnd_g hG; clear hG
        obtain ⟨q39, hG⟩ := ck_s hF; clear hF
        refine bT_c hG (fun x43 H42 z40 er => ?_) (fun v41 H42 z40 hF => ?_)
        · subst er; exact hm.tr (m_Lexer_refuse z40)
        clear hG
        replace hm : Mo H22 H42 := hm.tr (m_Lexer_refuse z40)
        exact hm.tr (mB_Body_readFor_65 hmo hF)
      · clear hG
        exact hm.tr (mB_Body_readFor_65 hmo hF)
    · clear hG
      exact hm.tr (mB_Body_readFor_103 hmo hF)
  have b_102m := (fH22).len
  have b_102n := (fH22).2
  have b_102p : H22.sh.length ≤ c0 + C := by omega
  have b_102q : H22.sl ≤ s0 + Sl := by omega
  refine hp_callV_a (v := .int v21) (H1 := H22) (As := [.int 0]) (rest := []) d_Body_readFor_23 (k_Body_numberHere z20 (C := H22.sh.length - H18.sh.length) (Sl := H22.sl - H18.sl) (by show H22.sh.length ≤ _; omega) (by show H22.sl ≤ _; omega)) (ab_mkC s_Body_numberHere (show 8 + 1 ≤ fr + 3 from by have := ho.1; omega) (show 8 + (4 + 11) + 150 ≤ lo + 65 from by have := ho.2.1; omega) (show (H18.sh.length - c0) + (H22.sh.length - H18.sh.length) ≤ C from by omega) (show (H18.sl - s0) + (H22.sl - H18.sl) ≤ Sl from by omega)) (k5 177 rfl rfl) i_Body_numberHere v_Body_numberHere q_85 (by decide) rfl rfl (Nat.le_of_ble_eq_true rfl) ?_
  refine ab_widen (cells' := H22.sh.length - c0) (slots' := H22.sl - s0) (by show _ + (H22.sh.length - H18.sh.length) ≤ _; omega) (by show _ + (H22.sl - H18.sl) ≤ _; omega) ?_
  clear b_102l b_102s b_102m b_102n b_84c b_84d b_84p b_84q
  refine ab_istore_n (lv' := [some (.ref p0), some (.ref a12), some (.int v21), none, none, none]) d_Body_readFor_26 rfl (by decide) rfl ?_
  refine ab_bipush (v := 8) d_Body_readFor_27 (by decide) ?_
  refine ab_istore_n (lv' := [some (.ref p0), some (.ref a12), some (.int v21), some (.int 8), none, none]) d_Body_readFor_29 rfl (by decide) rfl ?_
  refine ab_aload_n d_Body_readFor_30 rfl rfl rfl ?_
  refine hp_getR (f := 0) d_Body_readFor_31 q_103 (by decide) rfl (by decide) (k1 157 rfl rfl) rfl e25 ?_
  refine hp_getI (f := 2) d_Body_readFor_34 q26 (by decide) rfl (by decide) (k1 99 rfl rfl) rfl ?_
  refine ab_topxi ex27 ?_
  refine ab_bipush (v := 60) d_Body_readFor_37 (by decide) ?_
  refine ab_icmp_ne (tgt := 103) d_Body_readFor_39 (by decide) (fun q28 => ?_) (fun q28 => ?_)
  · rw [if_neg q28] at hG
    exact kB_Body_readFor_103 ho hmo hG b_102c b_102d b_102p b_102q hC hS
  · rw [if_pos q28] at hG
    refine ab_aload_n d_Body_readFor_42 rfl rfl rfl ?_
    refine ab_iload_n d_Body_readFor_43 rfl rfl ?_
    obtain ⟨v30, H31, z29, hF⟩ := bC_s hG; clear hG
    refine hp_callV_a (v := .int v30) (H1 := H31) (As := [.int v21]) (rest := []) d_Body_readFor_44 (k_Body_canBeNear z29) (ab_mkC s_Body_canBeNear (show 1 + 1 ≤ fr + 3 from by have := ho.1; omega) (show 8 + (3 + 11) + 21 ≤ lo + 65 from by have := ho.2.1; omega) (show (H22.sh.length - c0) + 0 ≤ C from by omega) (show (H22.sl - s0) + 0 ≤ Sl from by omega)) (k6 30 rfl rfl) i_Body_canBeNear v_Body_canBeNear q_103 (by decide) rfl rfl (Nat.le_of_ble_eq_true rfl) ?_
    have s_116 : Sa H22 H31 := (m_Body_canBeNear z29)
    refine ab_widen (cells' := H22.sh.length - c0) (slots' := H22.sl - s0) (by show (H22.sh.length - c0) + 0 ≤ _; omega) (by show (H22.sl - s0) + 0 ≤ _; omega) ?_
    refine ab_if_ne (tgt := 65) d_Body_readFor_47 (by decide) (fun q32 => ?_) (fun q32 => ?_)
    · rw [if_neg q32] at hF
      refine ab_le (lv' := [some (.ref p0), some (.ref a12), some (.int v21), none, none, none]) ⟨rfl, ⟨rfl, ⟨rfl, trivial⟩⟩⟩ ?_
      refine ab_widen (cells' := H31.sh.length - c0) (slots' := H31.sl - s0) (by rw [(s_116).1]; exact Nat.le_refl _) (by rw [(s_116).2]; exact Nat.le_refl _) ?_
      exact kB_Body_readFor_65 ho hmo hF (by rw [(s_116).1]; exact b_102c) (by rw [(s_116).2]; exact b_102d) (by rw [(s_116).1]; exact b_102p) (by rw [(s_116).2]; exact b_102q) hC hS
    · rw [if_pos q32] at hF
      refine ab_aload_n d_Body_readFor_50 rfl rfl rfl ?_
      obtain ⟨a33, e34, hG⟩ := rf_s hF; clear hF
      refine hp_getR (f := 0) d_Body_readFor_51 (by rw [(s_116).1]; exact q_103) (by decide) rfl (by decide) (k1 157 rfl rfl) rfl e34 ?_
      refine ab_iconst (v := 5) d_Body_readFor_54 (by decide) ?_
      refine ab_aload_n d_Body_readFor_55 rfl rfl rfl ?_
      obtain ⟨a35, e36, hF⟩ := rf_s hG; clear hG
      refine hp_getR (f := 0) d_Body_readFor_56 (by rw [(s_116).1]; exact q_103) (by decide) rfl (by decide) (k1 157 rfl rfl) rfl e36 ?_
      obtain ⟨q37, hG⟩ := ck_s hF; clear hF
      rw [(s_116).1] at q37
      refine hp_getI (f := 3) d_Body_readFor_59 (by rw [(s_116).1]; exact q37) (by decide) rfl (by decide) (k1 103 rfl rfl) rfl ?_
      refine ab_topi (fun x38 ex38 => ?_)
      replace hG := bnd_s ex38 hG
      obtain ⟨q39, hF⟩ := ck_s hG; clear hG
      rw [(s_116).1] at q39
      refine bT_c hF (fun x43 H42 z40 er => ?_) (fun v41 H42 z40 hG => ?_)
      · subst er
        refine ab_widen (cells' := H31.sh.length - c0) (slots' := H31.sl - s0) (by rw [(s_116).1]; exact Nat.le_refl _) (by rw [(s_116).2]; exact Nat.le_refl _) ?_
        have mz : Mo H31 H42 := (m_Lexer_refuse z40)
        have ml := mz.len
        have m2 := mz.2
        have be := congrArg List.length (s_116).1
        have bfx := (s_116).2
        have hC9 : H42.sh.length ≤ c0 + C := hC
        have hS9 : H42.sl ≤ s0 + Sl := hS
        refine hp_callV_t (x := x43) (H1 := H42) (As := [.int 5, .int x38]) (rest := []) d_Body_readFor_62 (k_Lexer_refuse z40 (C := H42.sh.length - H31.sh.length) (Sl := H42.sl - H31.sl) (by show H42.sh.length ≤ _; omega) (by show H42.sl ≤ _; omega)) (ab_mkC s_Lexer_refuse (show 6 + 1 ≤ fr + 3 from by have := ho.1; omega) (show 8 + (3 + 11) + 100 ≤ lo + 65 from by have := ho.2.1; omega) (show (H31.sh.length - c0) + (H42.sh.length - H31.sh.length) ≤ C from by omega) (show (H31.sl - s0) + (H42.sl - H31.sl) ≤ Sl from by omega)) (k5 135 rfl rfl) i_Lexer_refuse v_Lexer_refuse (by rw [(s_116).1]; exact q39) (by decide) rfl rfl (Nat.le_of_ble_eq_true rfl) ?_
        exact ab_U_out rfl (by show _ + (H42.sh.length - H31.sh.length) ≤ C; omega) (by show _ + (H42.sl - H31.sl) ≤ Sl; omega) ⟨rfl, rfl⟩
      clear hF
      refine ab_widen (cells' := H31.sh.length - c0) (slots' := H31.sl - s0) (by rw [(s_116).1]; exact Nat.le_refl _) (by rw [(s_116).2]; exact Nat.le_refl _) ?_
      have mz_117 : Mo H31 H42 := (m_Lexer_refuse z40)
      have b_118l := (mz_117).len
      have b_118s := (mz_117).2
      have b_118e := congrArg List.length (s_116).1
      have b_118f := (s_116).2
      have b_118c : c0 ≤ H42.sh.length := by omega
      have b_118d : s0 ≤ H42.sl := by omega
      have q_119 := (mz_117).get (by rw [(s_116).1]; exact q_103)
      have q_120 := (mz_117).get (by rw [(s_116).1]; exact q_104)
      have q_121 := (mz_117).get (by rw [(s_116).1]; exact q_105)
      have q_122 := (mz_117).get (by rw [(s_116).1]; exact q26)
      have q_123 := (mz_117).get (by rw [(s_116).1]; exact q37)
      have q_124 := (mz_117).get (by rw [(s_116).1]; exact q39)
      have fH42 : Mo H42 r.2 := by
        have hm := Mo.rf H42
        exact hm.tr (mB_Body_readFor_65 hmo hG)
      have b_118m := (fH42).len
      have b_118n := (fH42).2
      have b_118p : H42.sh.length ≤ c0 + C := by omega
      have b_118q : H42.sl ≤ s0 + Sl := by omega
      refine hp_callV_v (H1 := H42) (As := [.int 5, .int x38]) (rest := []) d_Body_readFor_62 (k_Lexer_refuse z40 (C := H42.sh.length - H31.sh.length) (Sl := H42.sl - H31.sl) (by show H42.sh.length ≤ _; omega) (by show H42.sl ≤ _; omega)) (ab_mkC s_Lexer_refuse (show 6 + 1 ≤ fr + 3 from by have := ho.1; omega) (show 8 + (3 + 11) + 100 ≤ lo + 65 from by have := ho.2.1; omega) (show (H31.sh.length - c0) + (H42.sh.length - H31.sh.length) ≤ C from by omega) (show (H31.sl - s0) + (H42.sl - H31.sl) ≤ Sl from by omega)) (k5 135 rfl rfl) i_Lexer_refuse v_Lexer_refuse (by rw [(s_116).1]; exact q39) (by decide) rfl rfl (Nat.le_of_ble_eq_true rfl) ?_
      refine ab_widen (cells' := H42.sh.length - c0) (slots' := H42.sl - s0) (by show _ + (H42.sh.length - H31.sh.length) ≤ _; omega) (by show _ + (H42.sl - H31.sl) ≤ _; omega) ?_
      clear b_118l b_118s b_118m b_118n b_118e b_118f b_102c b_102d b_102p b_102q
      refine ab_le (lv' := [some (.ref p0), some (.ref a12), some (.int v21), none, none, none]) ⟨rfl, ⟨rfl, ⟨rfl, trivial⟩⟩⟩ ?_
      exact kB_Body_readFor_65 ho hmo hG b_118c b_118d b_118p b_118q hC hS
