theorem pos1 {t : Int32} (h : ¬ t < 1) : ¬ t ≤ 0 := fun z => by
  rw [Int32.lt_iff_toInt_lt] at h
  rw [Int32.le_iff_toInt_le] at z
  have e1 : (1 : Int32).toInt = 1 := by decide
  have e0 : (0 : Int32).toInt = 0 := by decide
  omega
theorem pos2 {t : Int32} (h : ¬ t < 1) : 0 < t := Int32.not_le.mp (pos1 h)
theorem in8 {n : Int32} (h0 : ¬ n < 0) (h1 : ¬ 7 < n) : vp_in n 8 := in_of (by decide) h0 (fun z => h1 (by
  rw [Int32.lt_iff_toInt_lt]
  rw [Int32.le_iff_toInt_le] at z
  have e1 : (7 : Int32).toInt = 7 := by decide
  have e0 : (nI 8).toInt = 8 := by decide
  omega))
theorem in_sl0 (t : Int32) : vp_in (64 * 0 + (t &&& 63)) 256 := by
  obtain ⟨k, hk, he⟩ := pk_andE t (m := 63) 6 (by decide)
  rw [he, show (64 * 0 : Int32) = nI 0 by decide, nI_add]
  exact vp_in_nI (by omega) (by decide)
def cntu (f : Nat → Int32) : Nat → Nat → Int32 → Int32
  | 0, _, c => c
  | n + 1, i, c => cntu f n (i + 1) (c + if f (nI i).toNatClampNeg = 0 then 0 else 1)
theorem cnt_eq (w : Int32) : cntu (a0_M w 25) 8 0 0 = nI (nwork w) := by
  have e : a0_M w 25 = fun j => if j < nwork w then 1 else 0 := funext (fun j => a0_M_up w j)
  rw [e]
  have h := nwork_le w
  generalize nwork w = k at h
  have : k = 0 ∨ k = 1 ∨ k = 2 ∨ k = 3 ∨ k = 4 ∨ k = 5 ∨ k = 6 ∨ k = 7 ∨ k = 8 := by omega
  rcases this with rfl | rfl | rfl | rfl | rfl | rfl | rfl | rfl | rfl <;> decide
theorem nwork_pos (w : Int32) : 1 ≤ nwork w := by
  unfold nwork
  split
  · omega
  · split
    · rename_i h1 h2
      have h3 : (1 : Int32) ≤ w := Decidable.not_not.mp h1
      rw [Int32.le_iff_toInt_le] at h3
      have e1 : (1 : Int32).toInt = 1 := by decide
      unfold Int32.toNatClampNeg
      omega
    · omega
theorem cnt_ne (w : Int32) : ¬ cntu (a0_M w 25) 8 0 0 = 0 := by
  rw [cnt_eq]
  have h := nwork_le w
  have h' := nwork_pos w
  generalize nwork w = k at h h'
  have : k = 1 ∨ k = 2 ∨ k = 3 ∨ k = 4 ∨ k = 5 ∨ k = 6 ∨ k = 7 ∨ k = 8 := by omega
  rcases this with rfl | rfl | rfl | rfl | rfl | rfl | rfl | rfl <;> decide
set_option maxRecDepth 20000 in
set_option maxHeartbeats 2000000 in
theorem l_r_workers {Po : Outcome → List ab_E → Prop} {mc ms cells slots : Nat} {h : List ab_E} {p0 p1 p2 p3 p4 p5 p6 p7 p8 p9 p10 p11 p12 p13 p14 p15 p16 p17 p18 p19 p20 p21 p22 p23 p24 p27 p28 : Value} {xf : Nat → Int32} {m ua fa : Nat} {b : Int32} (po : h[m]? = some (.inr (12, [p0, p1, p2, p3, p4, p5, p6, p7, p8, p9, p10, p11, p12, p13, p14, p15, p16, p17, p18, p19, p20, p21, p22, p23, p24, .ref ua, .ref fa, p27, p28]))) (xa : h[ua]? = some (.inl (.boolean, 8, .inl xf))) (za : h[fa]? = some (.inl (.boolean, 8, .inl (fun _ => 0))))  (hcl : cells ≤ ({ frames := 0, cells := 0, slots := 0, locals := 0 } : Room).cells) (hsl : slots ≤ ({ frames := 0, cells := 0, slots := 0, locals := 0 } : Room).slots) : ∀ (n i : Nat) (acc : Int32), i + n = 8 → ab_V y_M_workers { frames := 0, cells := 0, slots := 0, locals := 0 } Po mc ms cells slots 46 [some (.ref m), some (.int b), some (.int (cntu xf n i acc)), some (.int (nI 8))] [] h → ab_V y_M_workers { frames := 0, cells := 0, slots := 0, locals := 0 } Po mc ms cells slots 4 [some (.ref m), some (.int b), some (.int acc), some (.int (nI i))] [] h := by
  intro n
  induction n with
  | zero =>
    intro i acc hi hk
    refine ab_iload_n d_M_workers_4 rfl rfl ?_
    refine ab_bipush (v := 8) d_M_workers_5 (by decide) ?_
    refine ab_icmp_ge (tgt := 46) d_M_workers_7 (by decide) (fun q1 => ?_) (fun q1 => ?_)
    · have hiN : i = 8 := (by omega)
      subst hiN
      exact hk
    · exact absurd (nI_le (a := 8) (b := i) (by omega) (by omega)) q1
  | succ n ih =>
    intro i acc hi hk
    refine ab_iload_n d_M_workers_4 rfl rfl ?_
    refine ab_bipush (v := 8) d_M_workers_5 (by decide) ?_
    refine ab_icmp_ge (tgt := 46) d_M_workers_7 (by decide) (fun q1 => ?_) (fun q1 => ?_)
    · exact absurd ((nI_leI (a := 8) (b := i) (by omega) (by omega)).mp q1) (by omega)
    · refine ab_iload_n d_M_workers_10 rfl rfl ?_
      refine ab_aload_n d_M_workers_11 rfl rfl rfl ?_
      refine ab_get (f := 25) d_M_workers_12 po rfl (by decide) (k10 18 rfl rfl) rfl ?_
      refine ab_iload_n d_M_workers_15 rfl rfl ?_
      refine ab_zald d_M_workers_16 tZ xa (vp_in_nI (by omega) (by decide)) ?_
      refine ab_if_eq (tgt := 37) d_M_workers_17 (by decide) (fun q2 => ?_) (fun q2 => ?_)
      · refine ab_iconst (v := 0) d_M_workers_37 (by decide) ?_
        refine ab_iadd d_M_workers_38 ?_
        refine ab_istore_n (lv' := [some (.ref m), some (.int b), some (.int (acc + 0)), some (.int (nI i))]) d_M_workers_39 rfl (by decide) rfl ?_
        obtain ⟨x3, ex3⟩ : ∃ q : Int32, q = nI i + 1 := ⟨_, rfl⟩
        refine ab_iinc (v := x3) (lv' := [some (.ref m), some (.int b), some (.int (acc + 0)), some (.int x3)]) d_M_workers_40 rfl (by rw [ex3]; rfl) (by decide) rfl ?_
        refine ab_goto (tgt := 4) d_M_workers_43 (by decide) ?_
        subst ex3
        rw [nI_1]
        refine ab_widen (cells' := cells) (slots' := slots) (by first | exact Nat.le_refl _ | (show _ ≤ _; omega)) (by first | exact Nat.le_refl _ | (show _ ≤ _; omega)) ?_
        exact ih (i + 1) _ (by omega) (by have z := hk; rw [show cntu xf (n + 1) i acc = cntu xf n (i + 1) (acc + 0) from (by show cntu xf n (i + 1) (acc + if _ then _ else _) = _; rw [if_pos q2])] at z; exact z)
      · refine ab_iload_n d_M_workers_20 rfl rfl ?_
        refine ab_if_ne (tgt := 33) d_M_workers_21 (by decide) (fun q4 => ?_) (fun q4 => ?_)
        · refine ab_iconst (v := 1) d_M_workers_33 (by decide) ?_
          refine ab_goto (tgt := 38) d_M_workers_34 (by decide) ?_
          refine ab_iadd d_M_workers_38 ?_
          refine ab_istore_n (lv' := [some (.ref m), some (.int b), some (.int (acc + 1)), some (.int (nI i))]) d_M_workers_39 rfl (by decide) rfl ?_
          obtain ⟨x5, ex5⟩ : ∃ q : Int32, q = nI i + 1 := ⟨_, rfl⟩
          refine ab_iinc (v := x5) (lv' := [some (.ref m), some (.int b), some (.int (acc + 1)), some (.int x5)]) d_M_workers_40 rfl (by rw [ex5]; rfl) (by decide) rfl ?_
          refine ab_goto (tgt := 4) d_M_workers_43 (by decide) ?_
          subst ex5
          rw [nI_1]
          refine ab_widen (cells' := cells) (slots' := slots) (by first | exact Nat.le_refl _ | (show _ ≤ _; omega)) (by first | exact Nat.le_refl _ | (show _ ≤ _; omega)) ?_
          exact ih (i + 1) _ (by omega) (by have z := hk; rw [show cntu xf (n + 1) i acc = cntu xf n (i + 1) (acc + 1) from (by show cntu xf n (i + 1) (acc + if _ then _ else _) = _; rw [if_neg q2])] at z; exact z)
        · refine ab_aload_n d_M_workers_24 rfl rfl rfl ?_
          refine ab_get (f := 26) d_M_workers_25 po rfl (by decide) (k10 19 rfl rfl) rfl ?_
          refine ab_iload_n d_M_workers_28 rfl rfl ?_
          refine ab_zald d_M_workers_29 tZ za (vp_in_nI (by omega) (by decide)) ?_
          refine ab_topi (fun x6 ex6 => ?_)
          obtain rfl : x6 = 0 := ex6.trans rfl
          clear ex6
          refine ab_if_ne (tgt := 37) d_M_workers_30 (by decide) (fun q7 => by exact absurd q7 (by decide)) (fun q7 => ?_)
          refine ab_iconst (v := 1) d_M_workers_33 (by decide) ?_
          refine ab_goto (tgt := 38) d_M_workers_34 (by decide) ?_
          refine ab_iadd d_M_workers_38 ?_
          refine ab_istore_n (lv' := [some (.ref m), some (.int b), some (.int (acc + 1)), some (.int (nI i))]) d_M_workers_39 rfl (by decide) rfl ?_
          obtain ⟨x8, ex8⟩ : ∃ q : Int32, q = nI i + 1 := ⟨_, rfl⟩
          refine ab_iinc (v := x8) (lv' := [some (.ref m), some (.int b), some (.int (acc + 1)), some (.int x8)]) d_M_workers_40 rfl (by rw [ex8]; rfl) (by decide) rfl ?_
          refine ab_goto (tgt := 4) d_M_workers_43 (by decide) ?_
          subst ex8
          rw [nI_1]
          refine ab_widen (cells' := cells) (slots' := slots) (by first | exact Nat.le_refl _ | (show _ ≤ _; omega)) (by first | exact Nat.le_refl _ | (show _ ≤ _; omega)) ?_
          exact ih (i + 1) _ (by omega) (by have z := hk; rw [show cntu xf (n + 1) i acc = cntu xf n (i + 1) (acc + 1) from (by show cntu xf n (i + 1) (acc + if _ then _ else _) = _; rw [if_neg q2])] at z; exact z)
set_option maxRecDepth 20000 in
set_option maxHeartbeats 2000000 in
theorem r_M_workers {h : List ab_E}  {p0 p1 p2 p3 p4 p5 p6 p7 p8 p9 p10 p11 p12 p13 p14 p15 p16 p17 p18 p19 p20 p21 p22 p23 p24 p27 p28 : Value} {xf : Nat → Int32} {m ua fa : Nat} {b : Int32}  (po : h[m]? = some (.inr (12, [p0, p1, p2, p3, p4, p5, p6, p7, p8, p9, p10, p11, p12, p13, p14, p15, p16, p17, p18, p19, p20, p21, p22, p23, p24, .ref ua, .ref fa, p27, p28]))) (xa : h[ua]? = some (.inl (.boolean, 8, .inl xf))) (za : h[fa]? = some (.inl (.boolean, 8, .inl (fun _ => 0))))  : ab_M y_M_workers { frames := 0, cells := 0, slots := 0, locals := 0 } [.ref m, .int b] h (ab_A (some (.int (cntu xf 8 0 0))) (fun h1 => h = h1)) := by
  refine ab_of2 (lv := [some (.ref m), some (.int b), none, none]) 2 rfl rfl (Nat.le_of_ble_eq_true rfl) ?_
  refine ab_iconst (v := 0) d_M_workers_0 (by decide) ?_
  refine ab_istore_n (lv' := [some (.ref m), some (.int b), some (.int 0), none]) d_M_workers_1 rfl (by decide) rfl ?_
  refine ab_iconst (v := 0) d_M_workers_2 (by decide) ?_
  refine ab_istore_n (lv' := [some (.ref m), some (.int b), some (.int 0), some (.int 0)]) d_M_workers_3 rfl (by decide) rfl ?_
  refine l_r_workers po xa za (Nat.le_refl _) (Nat.le_refl _) 8 0 0 (by omega) ?_
  refine ab_iload_n d_M_workers_46 rfl rfl ?_
  exact ab_iret d_M_workers_47 rfl (Nat.le_refl _) (Nat.le_refl _) (by exact ⟨rfl, rfl⟩)
def sq_M_step  : Int32 := ((-3))
set_option maxRecDepth 20000 in
set_option maxHeartbeats 2000000 in
theorem f_M_step {h : List ab_E}    {m : Nat} {w : Int32}    (h0 : at_M0 h m w) : ab_M y_M_step { frames := 1, cells := 0, slots := 0, locals := 40 } [.ref m] h (ab_A (some (.int (sq_M_step ))) (fun h1 => True)) := by
  obtain ⟨hM, hT, hO, hS, hN, hD, hR⟩ := h0
  have hM0 := hM; obtain ⟨gmo, gm1, gm14, gm15, gm16, gm17, gm18, gm19, gm21, gm25, gm26⟩ := hM
  replace gmo : h[m]? = some (.inr (12, [.int 0, .ref (m + 1), .int 0, .ref (m + 2), .ref (m + 33), .int 0, .int (-1), .int (-1), .ref (m + 64), .ref (m + 74), .ref (m + 84), .ref (m + 94), .int 1, .int 0, .ref (m + 99), .ref (m + 100), .ref (m + 101), .ref (m + 102), .ref (m + 103), .ref (m + 104), .int 0, .ref (m + 105), .int 0, .int 0, .int 0, .ref (m + 106), .ref (m + 107), .int 0, .int 0])) := gmo
  replace gm1 : h[m + 1]? = some (.inl (.byte, 6000, .inl (fun _ => 0))) := (by rw [a0_M_0 w (by decide)] at gm1; exact gm1)
  replace gm14 : h[m + 99]? = some (.inl (.int, 256, .inl (fun _ => 0))) := (by rw [a0_M_0 w (by decide)] at gm14; exact gm14)
  replace gm15 : h[m + 100]? = some (.inl (.boolean, 256, .inl (fun _ => 0))) := (by rw [a0_M_0 w (by decide)] at gm15; exact gm15)
  replace gm16 : h[m + 101]? = some (.inl (.int, 64, .inl (fun _ => 0))) := (by rw [a0_M_0 w (by decide)] at gm16; exact gm16)
  replace gm17 : h[m + 102]? = some (.inl (.int, 4, .inl (fun _ => 0))) := (by rw [a0_M_0 w (by decide)] at gm17; exact gm17)
  replace gm18 : h[m + 103]? = some (.inl (.int, 4, .inl (fun _ => 0))) := (by rw [a0_M_0 w (by decide)] at gm18; exact gm18)
  replace gm19 : h[m + 104]? = some (.inl (.int, 256, .inl (fun _ => 0))) := (by rw [a0_M_0 w (by decide)] at gm19; exact gm19)
  replace gm21 : h[m + 105]? = some (.inl (.byte, 58000, .inl (fun _ => 0))) := (by rw [a0_M_0 w (by decide)] at gm21; exact gm21)
  replace gm25 : h[m + 106]? = some (.inl (.boolean, 8, .inl (a0_M w 25))) := gm25
  replace gm26 : h[m + 107]? = some (.inl (.boolean, 8, .inl (fun _ => 0))) := (by rw [a0_M_0 w (by decide)] at gm26; exact gm26)
  have hS0 := hS; obtain ⟨gso, gs4, gs5, gs6, gs7, gs9, gs10, gs11, gs12, gs17⟩ := hS
  replace gso : h[m + 64]? = some (.inr (13, [.int 0, .int 0, .int 0, .int 0, .ref (m + 64 + 1), .ref (m + 64 + 2), .ref (m + 64 + 3), .ref (m + 64 + 4), .int 0, .ref (m + 64 + 5), .ref (m + 64 + 6), .ref (m + 64 + 7), .ref (m + 64 + 8), .int (-1), .int 0, .int 0, .int 0, .ref (m + 64 + 9)])) := gso
  replace gs4 : h[m + 64 + 1]? = some (.inl (.int, 256, .inl (fun _ => 0))) := gs4
  replace gs5 : h[m + 64 + 2]? = some (.inl (.boolean, 256, .inl (fun _ => 0))) := gs5
  replace gs6 : h[m + 64 + 3]? = some (.inl (.int, 256, .inl (fun _ => 0))) := gs6
  replace gs7 : h[m + 64 + 4]? = some (.inl (.int, 12288, .inl (fun _ => 0))) := gs7
  replace gs9 : h[m + 64 + 5]? = some (.inl (.int, 256, .inl (fun _ => 0))) := gs9
  replace gs10 : h[m + 64 + 6]? = some (.inl (.int, 256, .inl (fun _ => 0))) := gs10
  replace gs11 : h[m + 64 + 7]? = some (.inl (.int, 256, .inl (fun _ => 0))) := gs11
  replace gs12 : h[m + 64 + 8]? = some (.inl (.int, 1024, .inl (fun _ => 0))) := gs12
  replace gs17 : h[m + 64 + 9]? = some (.inl (.int, 32, .inl (fun _ => 0))) := gs17
  have hN0 := hN; obtain ⟨gno, gn4, gn5, gn6, gn7, gn9, gn10, gn11, gn12, gn17⟩ := hN
  replace gno : h[m + 74]? = some (.inr (13, [.int 0, .int 0, .int 0, .int 0, .ref (m + 74 + 1), .ref (m + 74 + 2), .ref (m + 74 + 3), .ref (m + 74 + 4), .int 0, .ref (m + 74 + 5), .ref (m + 74 + 6), .ref (m + 74 + 7), .ref (m + 74 + 8), .int (-1), .int 0, .int 0, .int 0, .ref (m + 74 + 9)])) := gno
  replace gn4 : h[m + 74 + 1]? = some (.inl (.int, 256, .inl (fun _ => 0))) := gn4
  replace gn5 : h[m + 74 + 2]? = some (.inl (.boolean, 256, .inl (fun _ => 0))) := gn5
  replace gn6 : h[m + 74 + 3]? = some (.inl (.int, 256, .inl (fun _ => 0))) := gn6
  replace gn7 : h[m + 74 + 4]? = some (.inl (.int, 12288, .inl (fun _ => 0))) := gn7
  replace gn9 : h[m + 74 + 5]? = some (.inl (.int, 256, .inl (fun _ => 0))) := gn9
  replace gn10 : h[m + 74 + 6]? = some (.inl (.int, 256, .inl (fun _ => 0))) := gn10
  replace gn11 : h[m + 74 + 7]? = some (.inl (.int, 256, .inl (fun _ => 0))) := gn11
  replace gn12 : h[m + 74 + 8]? = some (.inl (.int, 1024, .inl (fun _ => 0))) := gn12
  replace gn17 : h[m + 74 + 9]? = some (.inl (.int, 32, .inl (fun _ => 0))) := gn17
  refine ab_of2 (lv := [some (.ref m), none]) 1 rfl rfl (Nat.le_of_ble_eq_true rfl) ?_
  refine ab_aload_n d_M_step_0 rfl rfl rfl ?_
  refine ab_iconst (v := 0) d_M_step_1 (by decide) ?_
  refine ab_put (f := 0) d_M_step_2 gmo rfl (by decide) (k9 233 rfl rfl) rfl rfl (fun _ => rfl) (fun _ => rfl) (Nat.le_of_ble_eq_true rfl) ?_
  show ab_V _ _ _ _ _ _ _ 5 [some (.ref m), none] [] (h.set m (.inr (12, [.int 0, .ref (m + 1), .int 0, .ref (m + 2), .ref (m + 33), .int 0, .int (-1), .int (-1), .ref (m + 64), .ref (m + 74), .ref (m + 84), .ref (m + 94), .int 1, .int 0, .ref (m + 99), .ref (m + 100), .ref (m + 101), .ref (m + 102), .ref (m + 103), .ref (m + 104), .int 0, .ref (m + 105), .int 0, .int 0, .int 0, .ref (m + 106), .ref (m + 107), .int 0, .int 0])))
  refine ab_gen (fun h1 e2 => ?_)
  have c3 : h1[m]? = some (.inr (12, [.int 0, .ref (m + 1), .int 0, .ref (m + 2), .ref (m + 33), .int 0, .int (-1), .int (-1), .ref (m + 64), .ref (m + 74), .ref (m + 84), .ref (m + 94), .int 1, .int 0, .ref (m + 99), .ref (m + 100), .ref (m + 101), .ref (m + 102), .ref (m + 103), .ref (m + 104), .int 0, .ref (m + 105), .int 0, .int 0, .int 0, .ref (m + 106), .ref (m + 107), .int 0, .int 0])) := ab_self e2 gmo
  have c4 : h1[m+1]? = some (.inl (.byte, 6000, .inl (fun _ => 0))) := ab_other e2 (by omega) gm1
  have c5 : h1[m+99]? = some (.inl (.int, 256, .inl (fun _ => 0))) := ab_other e2 (by omega) gm14
  have c6 : h1[m+100]? = some (.inl (.boolean, 256, .inl (fun _ => 0))) := ab_other e2 (by omega) gm15
  have c7 : h1[m+101]? = some (.inl (.int, 64, .inl (fun _ => 0))) := ab_other e2 (by omega) gm16
  have c8 : h1[m+102]? = some (.inl (.int, 4, .inl (fun _ => 0))) := ab_other e2 (by omega) gm17
  have c9 : h1[m+103]? = some (.inl (.int, 4, .inl (fun _ => 0))) := ab_other e2 (by omega) gm18
  have c10 : h1[m+104]? = some (.inl (.int, 256, .inl (fun _ => 0))) := ab_other e2 (by omega) gm19
  have c11 : h1[m+105]? = some (.inl (.byte, 58000, .inl (fun _ => 0))) := ab_other e2 (by omega) gm21
  have c12 : h1[m+106]? = some (.inl (.boolean, 8, .inl (a0_M w 25))) := ab_other e2 (by omega) gm25
  have c13 : h1[m+107]? = some (.inl (.boolean, 8, .inl (fun _ => 0))) := ab_other e2 (by omega) gm26
  have c14 : h1[m+64]? = some (.inr (13, [.int 0, .int 0, .int 0, .int 0, .ref (m + 64 + 1), .ref (m + 64 + 2), .ref (m + 64 + 3), .ref (m + 64 + 4), .int 0, .ref (m + 64 + 5), .ref (m + 64 + 6), .ref (m + 64 + 7), .ref (m + 64 + 8), .int (-1), .int 0, .int 0, .int 0, .ref (m + 64 + 9)])) := ab_other e2 (by omega) gso
  have c15 : h1[m+64+1]? = some (.inl (.int, 256, .inl (fun _ => 0))) := ab_other e2 (by omega) gs4
  have c16 : h1[m+64+2]? = some (.inl (.boolean, 256, .inl (fun _ => 0))) := ab_other e2 (by omega) gs5
  have c17 : h1[m+64+3]? = some (.inl (.int, 256, .inl (fun _ => 0))) := ab_other e2 (by omega) gs6
  have c18 : h1[m+64+4]? = some (.inl (.int, 12288, .inl (fun _ => 0))) := ab_other e2 (by omega) gs7
  have c19 : h1[m+64+5]? = some (.inl (.int, 256, .inl (fun _ => 0))) := ab_other e2 (by omega) gs9
  have c20 : h1[m+64+6]? = some (.inl (.int, 256, .inl (fun _ => 0))) := ab_other e2 (by omega) gs10
  have c21 : h1[m+64+7]? = some (.inl (.int, 256, .inl (fun _ => 0))) := ab_other e2 (by omega) gs11
  have c22 : h1[m+64+8]? = some (.inl (.int, 1024, .inl (fun _ => 0))) := ab_other e2 (by omega) gs12
  have c23 : h1[m+64+9]? = some (.inl (.int, 32, .inl (fun _ => 0))) := ab_other e2 (by omega) gs17
  have c24 : h1[m+74]? = some (.inr (13, [.int 0, .int 0, .int 0, .int 0, .ref (m + 74 + 1), .ref (m + 74 + 2), .ref (m + 74 + 3), .ref (m + 74 + 4), .int 0, .ref (m + 74 + 5), .ref (m + 74 + 6), .ref (m + 74 + 7), .ref (m + 74 + 8), .int (-1), .int 0, .int 0, .int 0, .ref (m + 74 + 9)])) := ab_other e2 (by omega) gno
  have c25 : h1[m+74+1]? = some (.inl (.int, 256, .inl (fun _ => 0))) := ab_other e2 (by omega) gn4
  have c26 : h1[m+74+2]? = some (.inl (.boolean, 256, .inl (fun _ => 0))) := ab_other e2 (by omega) gn5
  have c27 : h1[m+74+3]? = some (.inl (.int, 256, .inl (fun _ => 0))) := ab_other e2 (by omega) gn6
  have c28 : h1[m+74+4]? = some (.inl (.int, 12288, .inl (fun _ => 0))) := ab_other e2 (by omega) gn7
  have c29 : h1[m+74+5]? = some (.inl (.int, 256, .inl (fun _ => 0))) := ab_other e2 (by omega) gn9
  have c30 : h1[m+74+6]? = some (.inl (.int, 256, .inl (fun _ => 0))) := ab_other e2 (by omega) gn10
  have c31 : h1[m+74+7]? = some (.inl (.int, 256, .inl (fun _ => 0))) := ab_other e2 (by omega) gn11
  have c32 : h1[m+74+8]? = some (.inl (.int, 1024, .inl (fun _ => 0))) := ab_other e2 (by omega) gn12
  have c33 : h1[m+74+9]? = some (.inl (.int, 32, .inl (fun _ => 0))) := ab_other e2 (by omega) gn17
  have fr34 : ab_fr (fun _ => True) h h1 := ab_fr_set (ab_fr_rf _ _) e2 (by trivial)
  clear e2
  refine ab_aload_n d_M_step_5 rfl rfl rfl ?_
  refine ab_get (f := 9) d_M_step_6 c3 rfl (by decide) (k10 2 rfl rfl) rfl ?_
  refine ab_getN (f := 0) d_M_step_9 c24 rfl (by decide) (k9 89 rfl rfl) rfl ?_
  refine ab_aload_n d_M_step_12 rfl rfl rfl ?_
  refine ab_get (f := 8) d_M_step_13 c3 rfl (by decide) (k10 1 rfl rfl) rfl ?_
  refine ab_getN (f := 0) d_M_step_16 c14 rfl (by decide) (k9 89 rfl rfl) rfl ?_
  refine ab_isub d_M_step_19 ?_
  refine ab_topi (fun x35 ex35 => ?_)
  obtain rfl : x35 = 0 := ex35.trans (by decide)
  clear ex35
  refine ab_bipush (v := 16) d_M_step_20 (by decide) ?_
  refine ab_icmp_ne (tgt := 27) d_M_step_22 (by decide) (fun q36 => ?_) (fun q36 => by exact absurd q36 (by decide))
  refine ab_aload_n d_M_step_27 rfl rfl rfl ?_
  refine ab_iconst (v := 0) d_M_step_28 (by decide) ?_
  refine ab_callV_a (As := [.int 0]) (rest := []) d_M_step_29 (r_M_workers c3 c12 c13) (ab_mkC s_M_workers (Nat.le_of_ble_eq_true rfl) (Nat.le_of_ble_eq_true rfl) (by decide) (by decide)) (k11 197 rfl rfl) i_M_workers v_M_workers c3 rfl rfl (Nat.le_of_ble_eq_true rfl) (fun h38 q37 => ?_)
  subst q37
  refine ab_if_ne (tgt := 38) d_M_step_32 (by decide) (fun q39 => ?_) (fun q39 => ?_)
  · refine ab_aload_n d_M_step_38 rfl rfl rfl ?_
    refine ab_get (f := 5) d_M_step_39 c3 rfl (by decide) (k9 238 rfl rfl) rfl ?_
    refine ab_if_ne (tgt := 48) d_M_step_42 (by decide) (fun q40 => by exact absurd q40 (by decide)) (fun q40 => ?_)
    refine ab_bipush (v := (-3)) d_M_step_45 (by decide) ?_
    exact ab_iret d_M_step_47 rfl (Nat.le_refl _) (Nat.le_refl _) (by unfold sq_M_step; exact ⟨rfl, trivial⟩)
  · exact absurd q39 (cnt_ne w)
def sq_M_look (n : Int32) (w : Int32) : Int32 := if n = (0 : Int32) then (0) else if n = (1 : Int32) then (0) else if n = (2 : Int32) then (0) else if n = (3 : Int32) then (0) else if n = (4 : Int32) then (0) else if n = (5 : Int32) then (0) else if n = (6 : Int32) then (0) else if n = (7 : Int32) then (0) else if n = (8 : Int32) then (0) else if n = (9 : Int32) then (0) else if n = (10 : Int32) then (0) else if n = (11 : Int32) then (cntu (a0_M w 25) 8 0 0) else if n = (12 : Int32) then (0) else if n = (13 : Int32) then (0) else if n = (14 : Int32) then (1) else ((-1))
set_option maxRecDepth 20000 in
set_option maxHeartbeats 2000000 in
theorem f_M_look {h : List ab_E}     {m : Nat} {w n : Int32}     (h0 : at_M0 h m w) : ab_M y_M_look { frames := 1, cells := 0, slots := 0, locals := 40 } [.ref m, .int n] h (ab_A (some (.int (sq_M_look n w))) (fun h1 => True)) := by
  obtain ⟨hM, hT, hO, hS, hN, hD, hR⟩ := h0
  have hM0 := hM; obtain ⟨gmo, gm1, gm14, gm15, gm16, gm17, gm18, gm19, gm21, gm25, gm26⟩ := hM
  replace gmo : h[m]? = some (.inr (12, [.int 0, .ref (m + 1), .int 0, .ref (m + 2), .ref (m + 33), .int 0, .int (-1), .int (-1), .ref (m + 64), .ref (m + 74), .ref (m + 84), .ref (m + 94), .int 1, .int 0, .ref (m + 99), .ref (m + 100), .ref (m + 101), .ref (m + 102), .ref (m + 103), .ref (m + 104), .int 0, .ref (m + 105), .int 0, .int 0, .int 0, .ref (m + 106), .ref (m + 107), .int 0, .int 0])) := gmo
  replace gm1 : h[m + 1]? = some (.inl (.byte, 6000, .inl (fun _ => 0))) := (by rw [a0_M_0 w (by decide)] at gm1; exact gm1)
  replace gm14 : h[m + 99]? = some (.inl (.int, 256, .inl (fun _ => 0))) := (by rw [a0_M_0 w (by decide)] at gm14; exact gm14)
  replace gm15 : h[m + 100]? = some (.inl (.boolean, 256, .inl (fun _ => 0))) := (by rw [a0_M_0 w (by decide)] at gm15; exact gm15)
  replace gm16 : h[m + 101]? = some (.inl (.int, 64, .inl (fun _ => 0))) := (by rw [a0_M_0 w (by decide)] at gm16; exact gm16)
  replace gm17 : h[m + 102]? = some (.inl (.int, 4, .inl (fun _ => 0))) := (by rw [a0_M_0 w (by decide)] at gm17; exact gm17)
  replace gm18 : h[m + 103]? = some (.inl (.int, 4, .inl (fun _ => 0))) := (by rw [a0_M_0 w (by decide)] at gm18; exact gm18)
  replace gm19 : h[m + 104]? = some (.inl (.int, 256, .inl (fun _ => 0))) := (by rw [a0_M_0 w (by decide)] at gm19; exact gm19)
  replace gm21 : h[m + 105]? = some (.inl (.byte, 58000, .inl (fun _ => 0))) := (by rw [a0_M_0 w (by decide)] at gm21; exact gm21)
  replace gm25 : h[m + 106]? = some (.inl (.boolean, 8, .inl (a0_M w 25))) := gm25
  replace gm26 : h[m + 107]? = some (.inl (.boolean, 8, .inl (fun _ => 0))) := (by rw [a0_M_0 w (by decide)] at gm26; exact gm26)
  have hT0 := hT; obtain ⟨gto, gt0, gt3, gt4, gt5, gt6, gt7, gt8, gt13, gt14, gt15, gt17, gt18, gt19, gt20, gt22, gt23, gt24, gt25, gt27, gt28, gt30, gt31, gt32, gt33, gt34, gt35, gt36, gt38, gt39, gt40⟩ := hT
  replace gto : h[m + 2]? = some (.inr (14, [.ref (m + 2 + 1), .int 0, .int 0, .ref (m + 2 + 2), .ref (m + 2 + 3), .ref (m + 2 + 4), .ref (m + 2 + 5), .ref (m + 2 + 6), .ref (m + 2 + 7), .int 0, .int 0, .int 0, .int 0, .ref (m + 2 + 8), .ref (m + 2 + 9), .ref (m + 2 + 10), .int 0, .ref (m + 2 + 11), .ref (m + 2 + 12), .ref (m + 2 + 13), .ref (m + 2 + 14), .int 0, .ref (m + 2 + 15), .ref (m + 2 + 16), .ref (m + 2 + 17), .ref (m + 2 + 18), .int 0, .ref (m + 2 + 19), .ref (m + 2 + 20), .int 0, .ref (m + 2 + 21), .ref (m + 2 + 22), .ref (m + 2 + 23), .ref (m + 2 + 24), .ref (m + 2 + 25), .ref (m + 2 + 26), .ref (m + 2 + 27), .int 0, .ref (m + 2 + 28), .ref (m + 2 + 29), .ref (m + 2 + 30), .int 0, .int 0])) := gto
  replace gt0 : h[m + 2 + 1]? = some (.inl (.byte, 6000, .inl (fun _ => 0))) := gt0
  replace gt3 : h[m + 2 + 2]? = some (.inl (.int, 6002, .inl (fun _ => 0))) := gt3
  replace gt4 : h[m + 2 + 3]? = some (.inl (.int, 6002, .inl (fun _ => 0))) := gt4
  replace gt5 : h[m + 2 + 4]? = some (.inl (.int, 6002, .inl (fun _ => 0))) := gt5
  replace gt6 : h[m + 2 + 5]? = some (.inl (.int, 6002, .inl (fun _ => 0))) := gt6
  replace gt7 : h[m + 2 + 6]? = some (.inl (.boolean, 6002, .inl (fun _ => 0))) := gt7
  replace gt8 : h[m + 2 + 7]? = some (.inl (.int, 6002, .inl (fun _ => 0))) := gt8
  replace gt13 : h[m + 2 + 8]? = some (.inl (.int, 56, .inl (fun _ => 0))) := gt13
  replace gt14 : h[m + 2 + 9]? = some (.inl (.int, 56, .inl (fun _ => 0))) := gt14
  replace gt15 : h[m + 2 + 10]? = some (.inl (.int, 56, .inl (fun _ => 0))) := gt15
  replace gt17 : h[m + 2 + 11]? = some (.inl (.int, 16, .inl (fun _ => 0))) := gt17
  replace gt18 : h[m + 2 + 12]? = some (.inl (.int, 17, .inl (fun _ => 0))) := gt18
  replace gt19 : h[m + 2 + 13]? = some (.inl (.int, 48, .inl (fun _ => 0))) := gt19
  replace gt20 : h[m + 2 + 14]? = some (.inl (.int, 48, .inl (fun _ => 0))) := gt20
  replace gt22 : h[m + 2 + 15]? = some (.inl (.int, 8, .inl (fun _ => 0))) := gt22
  replace gt23 : h[m + 2 + 16]? = some (.inl (.int, 8, .inl (fun _ => 0))) := gt23
  replace gt24 : h[m + 2 + 17]? = some (.inl (.int, 32, .inl (fun _ => 0))) := gt24
  replace gt25 : h[m + 2 + 18]? = some (.inl (.int, 32, .inl (fun _ => 0))) := gt25
  replace gt27 : h[m + 2 + 19]? = some (.inl (.int, 16, .inl (fun _ => 0))) := gt27
  replace gt28 : h[m + 2 + 20]? = some (.inl (.int, 768, .inl (fun _ => 0))) := gt28
  replace gt30 : h[m + 2 + 21]? = some (.inl (.int, 16, .inl (fun _ => 0))) := gt30
  replace gt31 : h[m + 2 + 22]? = some (.inl (.int, 16, .inl (fun _ => 0))) := gt31
  replace gt32 : h[m + 2 + 23]? = some (.inl (.int, 16, .inl (fun _ => 0))) := gt32
  replace gt33 : h[m + 2 + 24]? = some (.inl (.int, 16, .inl (fun _ => 0))) := gt33
  replace gt34 : h[m + 2 + 25]? = some (.inl (.int, 16, .inl (fun _ => 0))) := gt34
  replace gt35 : h[m + 2 + 26]? = some (.inl (.int, 16, .inl (fun _ => 0))) := gt35
  replace gt36 : h[m + 2 + 27]? = some (.inl (.int, 16, .inl (fun _ => 0))) := gt36
  replace gt38 : h[m + 2 + 28]? = some (.inl (.int, 12, .inl (fun _ => 0))) := gt38
  replace gt39 : h[m + 2 + 29]? = some (.inl (.int, 12, .inl (fun _ => 0))) := gt39
  replace gt40 : h[m + 2 + 30]? = some (.inl (.boolean, 12, .inl (fun _ => 0))) := gt40
  have hS0 := hS; obtain ⟨gso, gs4, gs5, gs6, gs7, gs9, gs10, gs11, gs12, gs17⟩ := hS
  replace gso : h[m + 64]? = some (.inr (13, [.int 0, .int 0, .int 0, .int 0, .ref (m + 64 + 1), .ref (m + 64 + 2), .ref (m + 64 + 3), .ref (m + 64 + 4), .int 0, .ref (m + 64 + 5), .ref (m + 64 + 6), .ref (m + 64 + 7), .ref (m + 64 + 8), .int (-1), .int 0, .int 0, .int 0, .ref (m + 64 + 9)])) := gso
  replace gs4 : h[m + 64 + 1]? = some (.inl (.int, 256, .inl (fun _ => 0))) := gs4
  replace gs5 : h[m + 64 + 2]? = some (.inl (.boolean, 256, .inl (fun _ => 0))) := gs5
  replace gs6 : h[m + 64 + 3]? = some (.inl (.int, 256, .inl (fun _ => 0))) := gs6
  replace gs7 : h[m + 64 + 4]? = some (.inl (.int, 12288, .inl (fun _ => 0))) := gs7
  replace gs9 : h[m + 64 + 5]? = some (.inl (.int, 256, .inl (fun _ => 0))) := gs9
  replace gs10 : h[m + 64 + 6]? = some (.inl (.int, 256, .inl (fun _ => 0))) := gs10
  replace gs11 : h[m + 64 + 7]? = some (.inl (.int, 256, .inl (fun _ => 0))) := gs11
  replace gs12 : h[m + 64 + 8]? = some (.inl (.int, 1024, .inl (fun _ => 0))) := gs12
  replace gs17 : h[m + 64 + 9]? = some (.inl (.int, 32, .inl (fun _ => 0))) := gs17
  have hN0 := hN; obtain ⟨gno, gn4, gn5, gn6, gn7, gn9, gn10, gn11, gn12, gn17⟩ := hN
  replace gno : h[m + 74]? = some (.inr (13, [.int 0, .int 0, .int 0, .int 0, .ref (m + 74 + 1), .ref (m + 74 + 2), .ref (m + 74 + 3), .ref (m + 74 + 4), .int 0, .ref (m + 74 + 5), .ref (m + 74 + 6), .ref (m + 74 + 7), .ref (m + 74 + 8), .int (-1), .int 0, .int 0, .int 0, .ref (m + 74 + 9)])) := gno
  replace gn4 : h[m + 74 + 1]? = some (.inl (.int, 256, .inl (fun _ => 0))) := gn4
  replace gn5 : h[m + 74 + 2]? = some (.inl (.boolean, 256, .inl (fun _ => 0))) := gn5
  replace gn6 : h[m + 74 + 3]? = some (.inl (.int, 256, .inl (fun _ => 0))) := gn6
  replace gn7 : h[m + 74 + 4]? = some (.inl (.int, 12288, .inl (fun _ => 0))) := gn7
  replace gn9 : h[m + 74 + 5]? = some (.inl (.int, 256, .inl (fun _ => 0))) := gn9
  replace gn10 : h[m + 74 + 6]? = some (.inl (.int, 256, .inl (fun _ => 0))) := gn10
  replace gn11 : h[m + 74 + 7]? = some (.inl (.int, 256, .inl (fun _ => 0))) := gn11
  replace gn12 : h[m + 74 + 8]? = some (.inl (.int, 1024, .inl (fun _ => 0))) := gn12
  replace gn17 : h[m + 74 + 9]? = some (.inl (.int, 32, .inl (fun _ => 0))) := gn17
  refine ab_of2 (lv := [some (.ref m), some (.int n)]) 0 rfl rfl (Nat.le_of_ble_eq_true rfl) ?_
  refine ab_aload_n d_M_look_0 rfl rfl rfl ?_
  refine ab_iconst (v := 0) d_M_look_1 (by decide) ?_
  refine ab_put (f := 0) d_M_look_2 gmo rfl (by decide) (k9 233 rfl rfl) rfl rfl (fun _ => rfl) (fun _ => rfl) (Nat.le_of_ble_eq_true rfl) ?_
  show ab_V _ _ _ _ _ _ _ 5 [some (.ref m), some (.int n)] [] (h.set m (.inr (12, [.int 0, .ref (m + 1), .int 0, .ref (m + 2), .ref (m + 33), .int 0, .int (-1), .int (-1), .ref (m + 64), .ref (m + 74), .ref (m + 84), .ref (m + 94), .int 1, .int 0, .ref (m + 99), .ref (m + 100), .ref (m + 101), .ref (m + 102), .ref (m + 103), .ref (m + 104), .int 0, .ref (m + 105), .int 0, .int 0, .int 0, .ref (m + 106), .ref (m + 107), .int 0, .int 0])))
  refine ab_gen (fun h1 e2 => ?_)
  have c3 : h1[m]? = some (.inr (12, [.int 0, .ref (m + 1), .int 0, .ref (m + 2), .ref (m + 33), .int 0, .int (-1), .int (-1), .ref (m + 64), .ref (m + 74), .ref (m + 84), .ref (m + 94), .int 1, .int 0, .ref (m + 99), .ref (m + 100), .ref (m + 101), .ref (m + 102), .ref (m + 103), .ref (m + 104), .int 0, .ref (m + 105), .int 0, .int 0, .int 0, .ref (m + 106), .ref (m + 107), .int 0, .int 0])) := ab_self e2 gmo
  have c4 : h1[m+1]? = some (.inl (.byte, 6000, .inl (fun _ => 0))) := ab_other e2 (by omega) gm1
  have c5 : h1[m+99]? = some (.inl (.int, 256, .inl (fun _ => 0))) := ab_other e2 (by omega) gm14
  have c6 : h1[m+100]? = some (.inl (.boolean, 256, .inl (fun _ => 0))) := ab_other e2 (by omega) gm15
  have c7 : h1[m+101]? = some (.inl (.int, 64, .inl (fun _ => 0))) := ab_other e2 (by omega) gm16
  have c8 : h1[m+102]? = some (.inl (.int, 4, .inl (fun _ => 0))) := ab_other e2 (by omega) gm17
  have c9 : h1[m+103]? = some (.inl (.int, 4, .inl (fun _ => 0))) := ab_other e2 (by omega) gm18
  have c10 : h1[m+104]? = some (.inl (.int, 256, .inl (fun _ => 0))) := ab_other e2 (by omega) gm19
  have c11 : h1[m+105]? = some (.inl (.byte, 58000, .inl (fun _ => 0))) := ab_other e2 (by omega) gm21
  have c12 : h1[m+106]? = some (.inl (.boolean, 8, .inl (a0_M w 25))) := ab_other e2 (by omega) gm25
  have c13 : h1[m+107]? = some (.inl (.boolean, 8, .inl (fun _ => 0))) := ab_other e2 (by omega) gm26
  have c14 : h1[m+2]? = some (.inr (14, [.ref (m + 2 + 1), .int 0, .int 0, .ref (m + 2 + 2), .ref (m + 2 + 3), .ref (m + 2 + 4), .ref (m + 2 + 5), .ref (m + 2 + 6), .ref (m + 2 + 7), .int 0, .int 0, .int 0, .int 0, .ref (m + 2 + 8), .ref (m + 2 + 9), .ref (m + 2 + 10), .int 0, .ref (m + 2 + 11), .ref (m + 2 + 12), .ref (m + 2 + 13), .ref (m + 2 + 14), .int 0, .ref (m + 2 + 15), .ref (m + 2 + 16), .ref (m + 2 + 17), .ref (m + 2 + 18), .int 0, .ref (m + 2 + 19), .ref (m + 2 + 20), .int 0, .ref (m + 2 + 21), .ref (m + 2 + 22), .ref (m + 2 + 23), .ref (m + 2 + 24), .ref (m + 2 + 25), .ref (m + 2 + 26), .ref (m + 2 + 27), .int 0, .ref (m + 2 + 28), .ref (m + 2 + 29), .ref (m + 2 + 30), .int 0, .int 0])) := ab_other e2 (by omega) gto
  have c15 : h1[m+2+1]? = some (.inl (.byte, 6000, .inl (fun _ => 0))) := ab_other e2 (by omega) gt0
  have c16 : h1[m+2+2]? = some (.inl (.int, 6002, .inl (fun _ => 0))) := ab_other e2 (by omega) gt3
  have c17 : h1[m+2+3]? = some (.inl (.int, 6002, .inl (fun _ => 0))) := ab_other e2 (by omega) gt4
  have c18 : h1[m+2+4]? = some (.inl (.int, 6002, .inl (fun _ => 0))) := ab_other e2 (by omega) gt5
  have c19 : h1[m+2+5]? = some (.inl (.int, 6002, .inl (fun _ => 0))) := ab_other e2 (by omega) gt6
  have c20 : h1[m+2+6]? = some (.inl (.boolean, 6002, .inl (fun _ => 0))) := ab_other e2 (by omega) gt7
  have c21 : h1[m+2+7]? = some (.inl (.int, 6002, .inl (fun _ => 0))) := ab_other e2 (by omega) gt8
  have c22 : h1[m+2+8]? = some (.inl (.int, 56, .inl (fun _ => 0))) := ab_other e2 (by omega) gt13
  have c23 : h1[m+2+9]? = some (.inl (.int, 56, .inl (fun _ => 0))) := ab_other e2 (by omega) gt14
  have c24 : h1[m+2+10]? = some (.inl (.int, 56, .inl (fun _ => 0))) := ab_other e2 (by omega) gt15
  have c25 : h1[m+2+11]? = some (.inl (.int, 16, .inl (fun _ => 0))) := ab_other e2 (by omega) gt17
  have c26 : h1[m+2+12]? = some (.inl (.int, 17, .inl (fun _ => 0))) := ab_other e2 (by omega) gt18
  have c27 : h1[m+2+13]? = some (.inl (.int, 48, .inl (fun _ => 0))) := ab_other e2 (by omega) gt19
  have c28 : h1[m+2+14]? = some (.inl (.int, 48, .inl (fun _ => 0))) := ab_other e2 (by omega) gt20
  have c29 : h1[m+2+15]? = some (.inl (.int, 8, .inl (fun _ => 0))) := ab_other e2 (by omega) gt22
  have c30 : h1[m+2+16]? = some (.inl (.int, 8, .inl (fun _ => 0))) := ab_other e2 (by omega) gt23
  have c31 : h1[m+2+17]? = some (.inl (.int, 32, .inl (fun _ => 0))) := ab_other e2 (by omega) gt24
  have c32 : h1[m+2+18]? = some (.inl (.int, 32, .inl (fun _ => 0))) := ab_other e2 (by omega) gt25
  have c33 : h1[m+2+19]? = some (.inl (.int, 16, .inl (fun _ => 0))) := ab_other e2 (by omega) gt27
  have c34 : h1[m+2+20]? = some (.inl (.int, 768, .inl (fun _ => 0))) := ab_other e2 (by omega) gt28
  have c35 : h1[m+2+21]? = some (.inl (.int, 16, .inl (fun _ => 0))) := ab_other e2 (by omega) gt30
  have c36 : h1[m+2+22]? = some (.inl (.int, 16, .inl (fun _ => 0))) := ab_other e2 (by omega) gt31
  have c37 : h1[m+2+23]? = some (.inl (.int, 16, .inl (fun _ => 0))) := ab_other e2 (by omega) gt32
  have c38 : h1[m+2+24]? = some (.inl (.int, 16, .inl (fun _ => 0))) := ab_other e2 (by omega) gt33
  have c39 : h1[m+2+25]? = some (.inl (.int, 16, .inl (fun _ => 0))) := ab_other e2 (by omega) gt34
  have c40 : h1[m+2+26]? = some (.inl (.int, 16, .inl (fun _ => 0))) := ab_other e2 (by omega) gt35
  have c41 : h1[m+2+27]? = some (.inl (.int, 16, .inl (fun _ => 0))) := ab_other e2 (by omega) gt36
  have c42 : h1[m+2+28]? = some (.inl (.int, 12, .inl (fun _ => 0))) := ab_other e2 (by omega) gt38
  have c43 : h1[m+2+29]? = some (.inl (.int, 12, .inl (fun _ => 0))) := ab_other e2 (by omega) gt39
  have c44 : h1[m+2+30]? = some (.inl (.boolean, 12, .inl (fun _ => 0))) := ab_other e2 (by omega) gt40
  have c45 : h1[m+64]? = some (.inr (13, [.int 0, .int 0, .int 0, .int 0, .ref (m + 64 + 1), .ref (m + 64 + 2), .ref (m + 64 + 3), .ref (m + 64 + 4), .int 0, .ref (m + 64 + 5), .ref (m + 64 + 6), .ref (m + 64 + 7), .ref (m + 64 + 8), .int (-1), .int 0, .int 0, .int 0, .ref (m + 64 + 9)])) := ab_other e2 (by omega) gso
  have c46 : h1[m+64+1]? = some (.inl (.int, 256, .inl (fun _ => 0))) := ab_other e2 (by omega) gs4
  have c47 : h1[m+64+2]? = some (.inl (.boolean, 256, .inl (fun _ => 0))) := ab_other e2 (by omega) gs5
  have c48 : h1[m+64+3]? = some (.inl (.int, 256, .inl (fun _ => 0))) := ab_other e2 (by omega) gs6
  have c49 : h1[m+64+4]? = some (.inl (.int, 12288, .inl (fun _ => 0))) := ab_other e2 (by omega) gs7
  have c50 : h1[m+64+5]? = some (.inl (.int, 256, .inl (fun _ => 0))) := ab_other e2 (by omega) gs9
  have c51 : h1[m+64+6]? = some (.inl (.int, 256, .inl (fun _ => 0))) := ab_other e2 (by omega) gs10
  have c52 : h1[m+64+7]? = some (.inl (.int, 256, .inl (fun _ => 0))) := ab_other e2 (by omega) gs11
  have c53 : h1[m+64+8]? = some (.inl (.int, 1024, .inl (fun _ => 0))) := ab_other e2 (by omega) gs12
  have c54 : h1[m+64+9]? = some (.inl (.int, 32, .inl (fun _ => 0))) := ab_other e2 (by omega) gs17
  have c55 : h1[m+74]? = some (.inr (13, [.int 0, .int 0, .int 0, .int 0, .ref (m + 74 + 1), .ref (m + 74 + 2), .ref (m + 74 + 3), .ref (m + 74 + 4), .int 0, .ref (m + 74 + 5), .ref (m + 74 + 6), .ref (m + 74 + 7), .ref (m + 74 + 8), .int (-1), .int 0, .int 0, .int 0, .ref (m + 74 + 9)])) := ab_other e2 (by omega) gno
  have c56 : h1[m+74+1]? = some (.inl (.int, 256, .inl (fun _ => 0))) := ab_other e2 (by omega) gn4
  have c57 : h1[m+74+2]? = some (.inl (.boolean, 256, .inl (fun _ => 0))) := ab_other e2 (by omega) gn5
  have c58 : h1[m+74+3]? = some (.inl (.int, 256, .inl (fun _ => 0))) := ab_other e2 (by omega) gn6
  have c59 : h1[m+74+4]? = some (.inl (.int, 12288, .inl (fun _ => 0))) := ab_other e2 (by omega) gn7
  have c60 : h1[m+74+5]? = some (.inl (.int, 256, .inl (fun _ => 0))) := ab_other e2 (by omega) gn9
  have c61 : h1[m+74+6]? = some (.inl (.int, 256, .inl (fun _ => 0))) := ab_other e2 (by omega) gn10
  have c62 : h1[m+74+7]? = some (.inl (.int, 256, .inl (fun _ => 0))) := ab_other e2 (by omega) gn11
  have c63 : h1[m+74+8]? = some (.inl (.int, 1024, .inl (fun _ => 0))) := ab_other e2 (by omega) gn12
  have c64 : h1[m+74+9]? = some (.inl (.int, 32, .inl (fun _ => 0))) := ab_other e2 (by omega) gn17
  have fr65 : ab_fr (fun _ => True) h h1 := ab_fr_set (ab_fr_rf _ _) e2 (by trivial)
  clear e2
  refine ab_iload_n d_M_look_5 rfl rfl ?_
  by_cases t66 : n = 0
  · refine ab_tableIn (off := 74) (tgt := 80) d_M_look_6 (by rw [t66]; decide) (by rw [t66]; decide) (by rw [t66]; decide) (by decide) ?_
    refine ab_aload_n d_M_look_80 rfl rfl rfl ?_
    refine ab_get (f := 3) d_M_look_81 c3 rfl (by decide) (k9 236 rfl rfl) rfl ?_
    refine ab_getN (f := 29) d_M_look_84 c14 rfl (by decide) (k8 212 rfl rfl) rfl ?_
    exact ab_iret d_M_look_87 rfl (Nat.le_refl _) (Nat.le_refl _) (by unfold sq_M_look; rw [if_pos t66]; exact ⟨rfl, trivial⟩)
  by_cases t67 : n = 1
  · refine ab_tableIn (off := 82) (tgt := 88) d_M_look_6 (by rw [t67]; decide) (by rw [t67]; decide) (by rw [t67]; decide) (by decide) ?_
    refine ab_aload_n d_M_look_88 rfl rfl rfl ?_
    refine ab_get (f := 3) d_M_look_89 c3 rfl (by decide) (k9 236 rfl rfl) rfl ?_
    refine ab_getN (f := 16) d_M_look_92 c14 rfl (by decide) (k8 180 rfl rfl) rfl ?_
    exact ab_iret d_M_look_95 rfl (Nat.le_refl _) (Nat.le_refl _) (by unfold sq_M_look; rw [if_neg t66]; rw [if_pos t67]; exact ⟨rfl, trivial⟩)
  by_cases t68 : n = 2
  · refine ab_tableIn (off := 90) (tgt := 96) d_M_look_6 (by rw [t68]; decide) (by rw [t68]; decide) (by rw [t68]; decide) (by decide) ?_
    refine ab_aload_n d_M_look_96 rfl rfl rfl ?_
    refine ab_get (f := 9) d_M_look_97 c3 rfl (by decide) (k10 2 rfl rfl) rfl ?_
    refine ab_getN (f := 0) d_M_look_100 c55 rfl (by decide) (k9 89 rfl rfl) rfl ?_
    exact ab_iret d_M_look_103 rfl (Nat.le_refl _) (Nat.le_refl _) (by unfold sq_M_look; rw [if_neg t66]; rw [if_neg t67]; rw [if_pos t68]; exact ⟨rfl, trivial⟩)
  by_cases t69 : n = 3
  · refine ab_tableIn (off := 98) (tgt := 104) d_M_look_6 (by rw [t69]; decide) (by rw [t69]; decide) (by rw [t69]; decide) (by decide) ?_
    refine ab_aload_n d_M_look_104 rfl rfl rfl ?_
    refine ab_get (f := 8) d_M_look_105 c3 rfl (by decide) (k10 1 rfl rfl) rfl ?_
    refine ab_getN (f := 0) d_M_look_108 c45 rfl (by decide) (k9 89 rfl rfl) rfl ?_
    exact ab_iret d_M_look_111 rfl (Nat.le_refl _) (Nat.le_refl _) (by unfold sq_M_look; rw [if_neg t66]; rw [if_neg t67]; rw [if_neg t68]; rw [if_pos t69]; exact ⟨rfl, trivial⟩)
  by_cases t70 : n = 4
  · refine ab_tableIn (off := 106) (tgt := 112) d_M_look_6 (by rw [t70]; decide) (by rw [t70]; decide) (by rw [t70]; decide) (by decide) ?_
    refine ab_aload_n d_M_look_112 rfl rfl rfl ?_
    refine ab_get (f := 9) d_M_look_113 c3 rfl (by decide) (k10 2 rfl rfl) rfl ?_
    refine ab_callV_a (As := []) (rest := []) d_M_look_116 (r_MWorld_entities c55 c57) (ab_mkC s_MWorld_entities (Nat.le_of_ble_eq_true rfl) (Nat.le_of_ble_eq_true rfl) (by decide) (by decide)) (k13 3 rfl rfl) i_MWorld_entities v_MWorld_entities c55 rfl rfl (Nat.le_of_ble_eq_true rfl) (fun h72 q71 => ?_)
    subst q71
    exact ab_iret d_M_look_119 rfl (Nat.le_refl _) (Nat.le_refl _) (by unfold sq_M_look; rw [if_neg t66]; rw [if_neg t67]; rw [if_neg t68]; rw [if_neg t69]; rw [if_pos t70]; exact ⟨rfl, trivial⟩)
  by_cases t73 : n = 5
  · refine ab_tableIn (off := 114) (tgt := 120) d_M_look_6 (by rw [t73]; decide) (by rw [t73]; decide) (by rw [t73]; decide) (by decide) ?_
    refine ab_aload_n d_M_look_120 rfl rfl rfl ?_
    refine ab_get (f := 9) d_M_look_121 c3 rfl (by decide) (k10 2 rfl rfl) rfl ?_
    refine ab_getN (f := 8) d_M_look_124 c55 rfl (by decide) (k9 112 rfl rfl) rfl ?_
    exact ab_iret d_M_look_127 rfl (Nat.le_refl _) (Nat.le_refl _) (by unfold sq_M_look; rw [if_neg t66]; rw [if_neg t67]; rw [if_neg t68]; rw [if_neg t69]; rw [if_neg t70]; rw [if_pos t73]; exact ⟨rfl, trivial⟩)
  by_cases t74 : n = 6
  · refine ab_tableIn (off := 122) (tgt := 128) d_M_look_6 (by rw [t74]; decide) (by rw [t74]; decide) (by rw [t74]; decide) (by decide) ?_
    refine ab_aload_n d_M_look_128 rfl rfl rfl ?_
    refine ab_get (f := 9) d_M_look_129 c3 rfl (by decide) (k10 2 rfl rfl) rfl ?_
    refine ab_getN (f := 2) d_M_look_132 c55 rfl (by decide) (k9 94 rfl rfl) rfl ?_
    exact ab_iret d_M_look_135 rfl (Nat.le_refl _) (Nat.le_refl _) (by unfold sq_M_look; rw [if_neg t66]; rw [if_neg t67]; rw [if_neg t68]; rw [if_neg t69]; rw [if_neg t70]; rw [if_neg t73]; rw [if_pos t74]; exact ⟨rfl, trivial⟩)
  by_cases t75 : n = 7
  · refine ab_tableIn (off := 130) (tgt := 136) d_M_look_6 (by rw [t75]; decide) (by rw [t75]; decide) (by rw [t75]; decide) (by decide) ?_
    refine ab_aload_n d_M_look_136 rfl rfl rfl ?_
    refine ab_get (f := 9) d_M_look_137 c3 rfl (by decide) (k10 2 rfl rfl) rfl ?_
    refine ab_getN (f := 3) d_M_look_140 c55 rfl (by decide) (k9 97 rfl rfl) rfl ?_
    exact ab_iret d_M_look_143 rfl (Nat.le_refl _) (Nat.le_refl _) (by unfold sq_M_look; rw [if_neg t66]; rw [if_neg t67]; rw [if_neg t68]; rw [if_neg t69]; rw [if_neg t70]; rw [if_neg t73]; rw [if_neg t74]; rw [if_pos t75]; exact ⟨rfl, trivial⟩)
  by_cases t76 : n = 8
  · refine ab_tableIn (off := 138) (tgt := 144) d_M_look_6 (by rw [t76]; decide) (by rw [t76]; decide) (by rw [t76]; decide) (by decide) ?_
    refine ab_aload_n d_M_look_144 rfl rfl rfl ?_
    refine ab_get (f := 20) d_M_look_145 c3 rfl (by decide) (k10 13 rfl rfl) rfl ?_
    exact ab_iret d_M_look_148 rfl (Nat.le_refl _) (Nat.le_refl _) (by unfold sq_M_look; rw [if_neg t66]; rw [if_neg t67]; rw [if_neg t68]; rw [if_neg t69]; rw [if_neg t70]; rw [if_neg t73]; rw [if_neg t74]; rw [if_neg t75]; rw [if_pos t76]; exact ⟨rfl, trivial⟩)
  by_cases t77 : n = 9
  · refine ab_tableIn (off := 143) (tgt := 149) d_M_look_6 (by rw [t77]; decide) (by rw [t77]; decide) (by rw [t77]; decide) (by decide) ?_
    refine ab_aload_n d_M_look_149 rfl rfl rfl ?_
    refine ab_get (f := 22) d_M_look_150 c3 rfl (by decide) (k10 15 rfl rfl) rfl ?_
    exact ab_iret d_M_look_153 rfl (Nat.le_refl _) (Nat.le_refl _) (by unfold sq_M_look; rw [if_neg t66]; rw [if_neg t67]; rw [if_neg t68]; rw [if_neg t69]; rw [if_neg t70]; rw [if_neg t73]; rw [if_neg t74]; rw [if_neg t75]; rw [if_neg t76]; rw [if_pos t77]; exact ⟨rfl, trivial⟩)
  by_cases t78 : n = 10
  · refine ab_tableIn (off := 148) (tgt := 154) d_M_look_6 (by rw [t78]; decide) (by rw [t78]; decide) (by rw [t78]; decide) (by decide) ?_
    refine ab_aload_n d_M_look_154 rfl rfl rfl ?_
    refine ab_get (f := 3) d_M_look_155 c3 rfl (by decide) (k9 236 rfl rfl) rfl ?_
    refine ab_callV_a (As := []) (rest := []) d_M_look_158 (r_MText_groups c14) (ab_mkC s_MText_groups (Nat.le_of_ble_eq_true rfl) (Nat.le_of_ble_eq_true rfl) (by decide) (by decide)) (k13 7 rfl rfl) i_MText_groups v_MText_groups c14 rfl rfl (Nat.le_of_ble_eq_true rfl) (fun h80 q79 => ?_)
    subst q79
    exact ab_iret d_M_look_161 rfl (Nat.le_refl _) (Nat.le_refl _) (by unfold sq_M_look; rw [if_neg t66]; rw [if_neg t67]; rw [if_neg t68]; rw [if_neg t69]; rw [if_neg t70]; rw [if_neg t73]; rw [if_neg t74]; rw [if_neg t75]; rw [if_neg t76]; rw [if_neg t77]; rw [if_pos t78]; exact ⟨rfl, trivial⟩)
  by_cases t81 : n = 11
  · refine ab_tableIn (off := 156) (tgt := 162) d_M_look_6 (by rw [t81]; decide) (by rw [t81]; decide) (by rw [t81]; decide) (by decide) ?_
    refine ab_aload_n d_M_look_162 rfl rfl rfl ?_
    refine ab_iconst (v := 1) d_M_look_163 (by decide) ?_
    refine ab_callV_a (As := [.int 1]) (rest := []) d_M_look_164 (r_M_workers c3 c12 c13) (ab_mkC s_M_workers (Nat.le_of_ble_eq_true rfl) (Nat.le_of_ble_eq_true rfl) (by decide) (by decide)) (k11 197 rfl rfl) i_M_workers v_M_workers c3 rfl rfl (Nat.le_of_ble_eq_true rfl) (fun h83 q82 => ?_)
    subst q82
    exact ab_iret d_M_look_167 rfl (Nat.le_refl _) (Nat.le_refl _) (by unfold sq_M_look; rw [if_neg t66]; rw [if_neg t67]; rw [if_neg t68]; rw [if_neg t69]; rw [if_neg t70]; rw [if_neg t73]; rw [if_neg t74]; rw [if_neg t75]; rw [if_neg t76]; rw [if_neg t77]; rw [if_neg t78]; rw [if_pos t81]; exact ⟨rfl, trivial⟩)
  by_cases t84 : n = 12
  · refine ab_tableIn (off := 162) (tgt := 168) d_M_look_6 (by rw [t84]; decide) (by rw [t84]; decide) (by rw [t84]; decide) (by decide) ?_
    refine ab_aload_n d_M_look_168 rfl rfl rfl ?_
    refine ab_get (f := 13) d_M_look_169 c3 rfl (by decide) (k10 6 rfl rfl) rfl ?_
    exact ab_iret d_M_look_172 rfl (Nat.le_refl _) (Nat.le_refl _) (by unfold sq_M_look; rw [if_neg t66]; rw [if_neg t67]; rw [if_neg t68]; rw [if_neg t69]; rw [if_neg t70]; rw [if_neg t73]; rw [if_neg t74]; rw [if_neg t75]; rw [if_neg t76]; rw [if_neg t77]; rw [if_neg t78]; rw [if_neg t81]; rw [if_pos t84]; exact ⟨rfl, trivial⟩)
  by_cases t85 : n = 13
  · refine ab_tableIn (off := 167) (tgt := 173) d_M_look_6 (by rw [t85]; decide) (by rw [t85]; decide) (by rw [t85]; decide) (by decide) ?_
    refine ab_aload_n d_M_look_173 rfl rfl rfl ?_
    refine ab_get (f := 2) d_M_look_174 c3 rfl (by decide) (k9 235 rfl rfl) rfl ?_
    exact ab_iret d_M_look_177 rfl (Nat.le_refl _) (Nat.le_refl _) (by unfold sq_M_look; rw [if_neg t66]; rw [if_neg t67]; rw [if_neg t68]; rw [if_neg t69]; rw [if_neg t70]; rw [if_neg t73]; rw [if_neg t74]; rw [if_neg t75]; rw [if_neg t76]; rw [if_neg t77]; rw [if_neg t78]; rw [if_neg t81]; rw [if_neg t84]; rw [if_pos t85]; exact ⟨rfl, trivial⟩)
  by_cases t86 : n = 14
  · refine ab_tableIn (off := 172) (tgt := 178) d_M_look_6 (by rw [t86]; decide) (by rw [t86]; decide) (by rw [t86]; decide) (by decide) ?_
    refine ab_aload_n d_M_look_178 rfl rfl rfl ?_
    refine ab_get (f := 12) d_M_look_179 c3 rfl (by decide) (k10 5 rfl rfl) rfl ?_
    exact ab_iret d_M_look_182 rfl (Nat.le_refl _) (Nat.le_refl _) (by unfold sq_M_look; rw [if_neg t66]; rw [if_neg t67]; rw [if_neg t68]; rw [if_neg t69]; rw [if_neg t70]; rw [if_neg t73]; rw [if_neg t74]; rw [if_neg t75]; rw [if_neg t76]; rw [if_neg t77]; rw [if_neg t78]; rw [if_neg t81]; rw [if_neg t84]; rw [if_neg t85]; rw [if_pos t86]; exact ⟨rfl, trivial⟩)
  have ut66 : (n).toInt ≠ 0 := fun z => t66 (Int32.toInt_inj.mp (z.trans (by decide)))
  have ut67 : (n).toInt ≠ 1 := fun z => t67 (Int32.toInt_inj.mp (z.trans (by decide)))
  have ut68 : (n).toInt ≠ 2 := fun z => t68 (Int32.toInt_inj.mp (z.trans (by decide)))
  have ut69 : (n).toInt ≠ 3 := fun z => t69 (Int32.toInt_inj.mp (z.trans (by decide)))
  have ut70 : (n).toInt ≠ 4 := fun z => t70 (Int32.toInt_inj.mp (z.trans (by decide)))
  have ut73 : (n).toInt ≠ 5 := fun z => t73 (Int32.toInt_inj.mp (z.trans (by decide)))
  have ut74 : (n).toInt ≠ 6 := fun z => t74 (Int32.toInt_inj.mp (z.trans (by decide)))
  have ut75 : (n).toInt ≠ 7 := fun z => t75 (Int32.toInt_inj.mp (z.trans (by decide)))
  have ut76 : (n).toInt ≠ 8 := fun z => t76 (Int32.toInt_inj.mp (z.trans (by decide)))
  have ut77 : (n).toInt ≠ 9 := fun z => t77 (Int32.toInt_inj.mp (z.trans (by decide)))
  have ut78 : (n).toInt ≠ 10 := fun z => t78 (Int32.toInt_inj.mp (z.trans (by decide)))
  have ut81 : (n).toInt ≠ 11 := fun z => t81 (Int32.toInt_inj.mp (z.trans (by decide)))
  have ut84 : (n).toInt ≠ 12 := fun z => t84 (Int32.toInt_inj.mp (z.trans (by decide)))
  have ut85 : (n).toInt ≠ 13 := fun z => t85 (Int32.toInt_inj.mp (z.trans (by decide)))
  have ut86 : (n).toInt ≠ 14 := fun z => t86 (Int32.toInt_inj.mp (z.trans (by decide)))
  refine ab_tableOut (tgt := 183) d_M_look_6 (by omega) (by decide) ?_
  refine ab_iconst (v := (-1)) d_M_look_183 (by decide) ?_
  exact ab_iret d_M_look_184 rfl (Nat.le_refl _) (Nat.le_refl _) (by unfold sq_M_look; rw [if_neg t66]; rw [if_neg t67]; rw [if_neg t68]; rw [if_neg t69]; rw [if_neg t70]; rw [if_neg t73]; rw [if_neg t74]; rw [if_neg t75]; rw [if_neg t76]; rw [if_neg t77]; rw [if_neg t78]; rw [if_neg t81]; rw [if_neg t84]; rw [if_neg t85]; rw [if_neg t86]; exact ⟨rfl, trivial⟩)
def sq_M_fall (n : Int32) (w : Int32) : Int32 := if n < 0 then (0) else if 7 < n then (0) else if ((a0_M w 25) (n).toNatClampNeg) = (0 : Int32) then (0) else (1)
set_option maxRecDepth 20000 in
set_option maxHeartbeats 2000000 in
theorem f_M_fall {h : List ab_E}  {m : Nat} {w n : Int32}  (h0 : at_M0 h m w) : ab_M y_M_fall { frames := 1, cells := 0, slots := 0, locals := 40 } [.ref m, .int n] h (ab_A (some (.int (sq_M_fall n w))) (fun h1 => True)) := by
  obtain ⟨hM, hT, hO, hS, hN, hD, hR⟩ := h0
  have hM0 := hM; obtain ⟨gmo, gm1, gm14, gm15, gm16, gm17, gm18, gm19, gm21, gm25, gm26⟩ := hM
  replace gmo : h[m]? = some (.inr (12, [.int 0, .ref (m + 1), .int 0, .ref (m + 2), .ref (m + 33), .int 0, .int (-1), .int (-1), .ref (m + 64), .ref (m + 74), .ref (m + 84), .ref (m + 94), .int 1, .int 0, .ref (m + 99), .ref (m + 100), .ref (m + 101), .ref (m + 102), .ref (m + 103), .ref (m + 104), .int 0, .ref (m + 105), .int 0, .int 0, .int 0, .ref (m + 106), .ref (m + 107), .int 0, .int 0])) := gmo
  replace gm1 : h[m + 1]? = some (.inl (.byte, 6000, .inl (fun _ => 0))) := (by rw [a0_M_0 w (by decide)] at gm1; exact gm1)
  replace gm14 : h[m + 99]? = some (.inl (.int, 256, .inl (fun _ => 0))) := (by rw [a0_M_0 w (by decide)] at gm14; exact gm14)
  replace gm15 : h[m + 100]? = some (.inl (.boolean, 256, .inl (fun _ => 0))) := (by rw [a0_M_0 w (by decide)] at gm15; exact gm15)
  replace gm16 : h[m + 101]? = some (.inl (.int, 64, .inl (fun _ => 0))) := (by rw [a0_M_0 w (by decide)] at gm16; exact gm16)
  replace gm17 : h[m + 102]? = some (.inl (.int, 4, .inl (fun _ => 0))) := (by rw [a0_M_0 w (by decide)] at gm17; exact gm17)
  replace gm18 : h[m + 103]? = some (.inl (.int, 4, .inl (fun _ => 0))) := (by rw [a0_M_0 w (by decide)] at gm18; exact gm18)
  replace gm19 : h[m + 104]? = some (.inl (.int, 256, .inl (fun _ => 0))) := (by rw [a0_M_0 w (by decide)] at gm19; exact gm19)
  replace gm21 : h[m + 105]? = some (.inl (.byte, 58000, .inl (fun _ => 0))) := (by rw [a0_M_0 w (by decide)] at gm21; exact gm21)
  replace gm25 : h[m + 106]? = some (.inl (.boolean, 8, .inl (a0_M w 25))) := gm25
  replace gm26 : h[m + 107]? = some (.inl (.boolean, 8, .inl (fun _ => 0))) := (by rw [a0_M_0 w (by decide)] at gm26; exact gm26)
  refine ab_of2 (lv := [some (.ref m), some (.int n)]) 0 rfl rfl (Nat.le_of_ble_eq_true rfl) ?_
  refine ab_aload_n d_M_fall_0 rfl rfl rfl ?_
  refine ab_iconst (v := 0) d_M_fall_1 (by decide) ?_
  refine ab_put (f := 0) d_M_fall_2 gmo rfl (by decide) (k9 233 rfl rfl) rfl rfl (fun _ => rfl) (fun _ => rfl) (Nat.le_of_ble_eq_true rfl) ?_
  show ab_V _ _ _ _ _ _ _ 5 [some (.ref m), some (.int n)] [] (h.set m (.inr (12, [.int 0, .ref (m + 1), .int 0, .ref (m + 2), .ref (m + 33), .int 0, .int (-1), .int (-1), .ref (m + 64), .ref (m + 74), .ref (m + 84), .ref (m + 94), .int 1, .int 0, .ref (m + 99), .ref (m + 100), .ref (m + 101), .ref (m + 102), .ref (m + 103), .ref (m + 104), .int 0, .ref (m + 105), .int 0, .int 0, .int 0, .ref (m + 106), .ref (m + 107), .int 0, .int 0])))
  refine ab_gen (fun h1 e2 => ?_)
  have c3 : h1[m]? = some (.inr (12, [.int 0, .ref (m + 1), .int 0, .ref (m + 2), .ref (m + 33), .int 0, .int (-1), .int (-1), .ref (m + 64), .ref (m + 74), .ref (m + 84), .ref (m + 94), .int 1, .int 0, .ref (m + 99), .ref (m + 100), .ref (m + 101), .ref (m + 102), .ref (m + 103), .ref (m + 104), .int 0, .ref (m + 105), .int 0, .int 0, .int 0, .ref (m + 106), .ref (m + 107), .int 0, .int 0])) := ab_self e2 gmo
  have c4 : h1[m+1]? = some (.inl (.byte, 6000, .inl (fun _ => 0))) := ab_other e2 (by omega) gm1
  have c5 : h1[m+99]? = some (.inl (.int, 256, .inl (fun _ => 0))) := ab_other e2 (by omega) gm14
  have c6 : h1[m+100]? = some (.inl (.boolean, 256, .inl (fun _ => 0))) := ab_other e2 (by omega) gm15
  have c7 : h1[m+101]? = some (.inl (.int, 64, .inl (fun _ => 0))) := ab_other e2 (by omega) gm16
  have c8 : h1[m+102]? = some (.inl (.int, 4, .inl (fun _ => 0))) := ab_other e2 (by omega) gm17
  have c9 : h1[m+103]? = some (.inl (.int, 4, .inl (fun _ => 0))) := ab_other e2 (by omega) gm18
  have c10 : h1[m+104]? = some (.inl (.int, 256, .inl (fun _ => 0))) := ab_other e2 (by omega) gm19
  have c11 : h1[m+105]? = some (.inl (.byte, 58000, .inl (fun _ => 0))) := ab_other e2 (by omega) gm21
  have c12 : h1[m+106]? = some (.inl (.boolean, 8, .inl (a0_M w 25))) := ab_other e2 (by omega) gm25
  have c13 : h1[m+107]? = some (.inl (.boolean, 8, .inl (fun _ => 0))) := ab_other e2 (by omega) gm26
  have fr14 : ab_fr (fun _ => True) h h1 := ab_fr_set (ab_fr_rf _ _) e2 (by trivial)
  clear e2
  refine ab_iload_n d_M_fall_5 rfl rfl ?_
  refine ab_i2l d_M_fall_6 ?_
  refine ab_lconst (v := 0) d_M_fall_7 (by decide) ?_
  refine ab_ldc2 d_M_fall_8 (k13 15 rfl rfl) ?_
  refine ab_callS_a (As := [.long ((n : Int32).toInt64), .long 0, .long 7]) (rest := []) d_M_fall_11 (c_M_in) (ab_mkC s_M_in (Nat.le_of_ble_eq_true rfl) (Nat.le_of_ble_eq_true rfl) (by decide) (by decide)) (k10 93 rfl rfl) t_M_in rfl (Nat.le_of_ble_eq_true rfl) (fun h16 q15 => ?_)
  subst q15
  by_cases t17 : n < 0
  · refine ab_topi (fun x18 ex18 => ?_)
    obtain rfl : x18 = 0 := ex18.trans (in_1 (lo := 0) (hi := 7) (by decide) (by decide) t17)
    clear ex18
    refine ab_if_eq (tgt := 35) d_M_fall_14 (by decide) (fun q19 => ?_) (fun q19 => by exact absurd (by decide) q19)
    refine ab_iconst (v := 0) d_M_fall_35 (by decide) ?_
    exact ab_zret d_M_fall_36 rfl rfl (Nat.le_refl _) (Nat.le_refl _) (by unfold sq_M_fall; rw [if_pos t17]; exact ⟨rfl, trivial⟩)
  by_cases t20 : 7 < n
  · refine ab_topi (fun x21 ex21 => ?_)
    obtain rfl : x21 = 0 := ex21.trans (in_2 (lo := 0) (hi := 7) (by decide) (by decide) t20)
    clear ex21
    refine ab_if_eq (tgt := 35) d_M_fall_14 (by decide) (fun q22 => ?_) (fun q22 => by exact absurd (by decide) q22)
    refine ab_iconst (v := 0) d_M_fall_35 (by decide) ?_
    exact ab_zret d_M_fall_36 rfl rfl (Nat.le_refl _) (Nat.le_refl _) (by unfold sq_M_fall; rw [if_neg t17]; rw [if_pos t20]; exact ⟨rfl, trivial⟩)
  refine ab_topi (fun x23 ex23 => ?_)
  obtain rfl : x23 = 1 := ex23.trans (in_3 (lo := 0) (hi := 7) (by decide) (by decide) t17 t20)
  clear ex23
  refine ab_if_eq (tgt := 35) d_M_fall_14 (by decide) (fun q24 => by exact absurd q24 (by decide)) (fun q24 => ?_)
  refine ab_aload_n d_M_fall_17 rfl rfl rfl ?_
  refine ab_get (f := 25) d_M_fall_18 c3 rfl (by decide) (k10 18 rfl rfl) rfl ?_
  refine ab_iload_n d_M_fall_21 rfl rfl ?_
  refine ab_zald d_M_fall_22 tZ c12 (in8 t17 t20) ?_
  refine ab_if_eq (tgt := 35) d_M_fall_23 (by decide) (fun q25 => ?_) (fun q25 => ?_)
  · refine ab_iconst (v := 0) d_M_fall_35 (by decide) ?_
    exact ab_zret d_M_fall_36 rfl rfl (Nat.le_refl _) (Nat.le_refl _) (by unfold sq_M_fall; rw [if_neg t17]; rw [if_neg t20]; rw [if_pos q25]; exact ⟨rfl, trivial⟩)
  · refine ab_aload_n d_M_fall_26 rfl rfl rfl ?_
    refine ab_get (f := 26) d_M_fall_27 c3 rfl (by decide) (k10 19 rfl rfl) rfl ?_
    refine ab_iload_n d_M_fall_30 rfl rfl ?_
    refine ab_zald d_M_fall_31 tZ c13 (in8 t17 t20) ?_
    refine ab_topi (fun x26 ex26 => ?_)
    obtain rfl : x26 = 0 := ex26.trans rfl
    clear ex26
    refine ab_if_eq (tgt := 37) d_M_fall_32 (by decide) (fun q27 => ?_) (fun q27 => by exact absurd (by decide) q27)
    refine ab_aload_n d_M_fall_37 rfl rfl rfl ?_
    refine ab_get (f := 26) d_M_fall_38 c3 rfl (by decide) (k10 19 rfl rfl) rfl ?_
    refine ab_iload_n d_M_fall_41 rfl rfl ?_
    refine ab_iconst (v := 1) d_M_fall_42 (by decide) ?_
    refine ab_zast d_M_fall_43 tZ c13 (in8 t17 t20) ?_
    refine ab_gen (fun h28 e29 => ?_)
    have c30 : h28[m]? = some (.inr (12, [.int 0, .ref (m + 1), .int 0, .ref (m + 2), .ref (m + 33), .int 0, .int (-1), .int (-1), .ref (m + 64), .ref (m + 74), .ref (m + 84), .ref (m + 94), .int 1, .int 0, .ref (m + 99), .ref (m + 100), .ref (m + 101), .ref (m + 102), .ref (m + 103), .ref (m + 104), .int 0, .ref (m + 105), .int 0, .int 0, .int 0, .ref (m + 106), .ref (m + 107), .int 0, .int 0])) := ab_other e29 (by omega) c3
    have c31 : h28[m+1]? = some (.inl (.byte, 6000, .inl (fun _ => 0))) := ab_other e29 (by omega) c4
    have c32 : h28[m+99]? = some (.inl (.int, 256, .inl (fun _ => 0))) := ab_other e29 (by omega) c5
    have c33 : h28[m+100]? = some (.inl (.boolean, 256, .inl (fun _ => 0))) := ab_other e29 (by omega) c6
    have c34 : h28[m+101]? = some (.inl (.int, 64, .inl (fun _ => 0))) := ab_other e29 (by omega) c7
    have c35 : h28[m+102]? = some (.inl (.int, 4, .inl (fun _ => 0))) := ab_other e29 (by omega) c8
    have c36 : h28[m+103]? = some (.inl (.int, 4, .inl (fun _ => 0))) := ab_other e29 (by omega) c9
    have c37 : h28[m+104]? = some (.inl (.int, 256, .inl (fun _ => 0))) := ab_other e29 (by omega) c10
    have c38 : h28[m+105]? = some (.inl (.byte, 58000, .inl (fun _ => 0))) := ab_other e29 (by omega) c11
    have c39 : h28[m+106]? = some (.inl (.boolean, 8, .inl (a0_M w 25))) := ab_other e29 (by omega) c12
    have c40 : h28[m+107]? = some (.inl (.boolean, 8, .inl (upd (fun _ => 0) (n).toNatClampNeg (vp_nar .boolean 1)))) := ab_self e29 c13
    have fr41 : ab_fr (fun _ => True) h h28 := ab_fr_set fr14 e29 (by trivial)
    clear c3 c4 c5 c6 c7 c8 c9 c10 c11 c12 c13 fr14 e29
    try clear h1
    obtain ⟨y42, c43⟩ : ∃ f : Nat → Int32, h28[m+107]? = some (.inl (.boolean, 8, .inl f)) := ⟨_, c40⟩
    clear c40
    refine ab_iconst (v := 1) d_M_fall_44 (by decide) ?_
    exact ab_zret d_M_fall_45 rfl rfl (Nat.le_refl _) (Nat.le_refl _) (by unfold sq_M_fall; rw [if_neg t17]; rw [if_neg t20]; rw [if_neg q25]; exact ⟨rfl, trivial⟩)
def sq_M_stand (n : Int32) (w : Int32) : Int32 := if n < 0 then (0) else if 7 < n then (0) else if ((a0_M w 25) (n).toNatClampNeg) = (0 : Int32) then (1) else (0)
set_option maxRecDepth 20000 in
set_option maxHeartbeats 2000000 in
theorem f_M_stand {h : List ab_E}  {m : Nat} {w n : Int32}  (h0 : at_M0 h m w) : ab_M y_M_stand { frames := 1, cells := 0, slots := 0, locals := 40 } [.ref m, .int n] h (ab_A (some (.int (sq_M_stand n w))) (fun h1 => True)) := by
  obtain ⟨hM, hT, hO, hS, hN, hD, hR⟩ := h0
  have hM0 := hM; obtain ⟨gmo, gm1, gm14, gm15, gm16, gm17, gm18, gm19, gm21, gm25, gm26⟩ := hM
  replace gmo : h[m]? = some (.inr (12, [.int 0, .ref (m + 1), .int 0, .ref (m + 2), .ref (m + 33), .int 0, .int (-1), .int (-1), .ref (m + 64), .ref (m + 74), .ref (m + 84), .ref (m + 94), .int 1, .int 0, .ref (m + 99), .ref (m + 100), .ref (m + 101), .ref (m + 102), .ref (m + 103), .ref (m + 104), .int 0, .ref (m + 105), .int 0, .int 0, .int 0, .ref (m + 106), .ref (m + 107), .int 0, .int 0])) := gmo
  replace gm1 : h[m + 1]? = some (.inl (.byte, 6000, .inl (fun _ => 0))) := (by rw [a0_M_0 w (by decide)] at gm1; exact gm1)
  replace gm14 : h[m + 99]? = some (.inl (.int, 256, .inl (fun _ => 0))) := (by rw [a0_M_0 w (by decide)] at gm14; exact gm14)
  replace gm15 : h[m + 100]? = some (.inl (.boolean, 256, .inl (fun _ => 0))) := (by rw [a0_M_0 w (by decide)] at gm15; exact gm15)
  replace gm16 : h[m + 101]? = some (.inl (.int, 64, .inl (fun _ => 0))) := (by rw [a0_M_0 w (by decide)] at gm16; exact gm16)
  replace gm17 : h[m + 102]? = some (.inl (.int, 4, .inl (fun _ => 0))) := (by rw [a0_M_0 w (by decide)] at gm17; exact gm17)
  replace gm18 : h[m + 103]? = some (.inl (.int, 4, .inl (fun _ => 0))) := (by rw [a0_M_0 w (by decide)] at gm18; exact gm18)
  replace gm19 : h[m + 104]? = some (.inl (.int, 256, .inl (fun _ => 0))) := (by rw [a0_M_0 w (by decide)] at gm19; exact gm19)
  replace gm21 : h[m + 105]? = some (.inl (.byte, 58000, .inl (fun _ => 0))) := (by rw [a0_M_0 w (by decide)] at gm21; exact gm21)
  replace gm25 : h[m + 106]? = some (.inl (.boolean, 8, .inl (a0_M w 25))) := gm25
  replace gm26 : h[m + 107]? = some (.inl (.boolean, 8, .inl (fun _ => 0))) := (by rw [a0_M_0 w (by decide)] at gm26; exact gm26)
  refine ab_of2 (lv := [some (.ref m), some (.int n)]) 0 rfl rfl (Nat.le_of_ble_eq_true rfl) ?_
  refine ab_aload_n d_M_stand_0 rfl rfl rfl ?_
  refine ab_iconst (v := 0) d_M_stand_1 (by decide) ?_
  refine ab_put (f := 0) d_M_stand_2 gmo rfl (by decide) (k9 233 rfl rfl) rfl rfl (fun _ => rfl) (fun _ => rfl) (Nat.le_of_ble_eq_true rfl) ?_
  show ab_V _ _ _ _ _ _ _ 5 [some (.ref m), some (.int n)] [] (h.set m (.inr (12, [.int 0, .ref (m + 1), .int 0, .ref (m + 2), .ref (m + 33), .int 0, .int (-1), .int (-1), .ref (m + 64), .ref (m + 74), .ref (m + 84), .ref (m + 94), .int 1, .int 0, .ref (m + 99), .ref (m + 100), .ref (m + 101), .ref (m + 102), .ref (m + 103), .ref (m + 104), .int 0, .ref (m + 105), .int 0, .int 0, .int 0, .ref (m + 106), .ref (m + 107), .int 0, .int 0])))
  refine ab_gen (fun h1 e2 => ?_)
  have c3 : h1[m]? = some (.inr (12, [.int 0, .ref (m + 1), .int 0, .ref (m + 2), .ref (m + 33), .int 0, .int (-1), .int (-1), .ref (m + 64), .ref (m + 74), .ref (m + 84), .ref (m + 94), .int 1, .int 0, .ref (m + 99), .ref (m + 100), .ref (m + 101), .ref (m + 102), .ref (m + 103), .ref (m + 104), .int 0, .ref (m + 105), .int 0, .int 0, .int 0, .ref (m + 106), .ref (m + 107), .int 0, .int 0])) := ab_self e2 gmo
  have c4 : h1[m+1]? = some (.inl (.byte, 6000, .inl (fun _ => 0))) := ab_other e2 (by omega) gm1
  have c5 : h1[m+99]? = some (.inl (.int, 256, .inl (fun _ => 0))) := ab_other e2 (by omega) gm14
  have c6 : h1[m+100]? = some (.inl (.boolean, 256, .inl (fun _ => 0))) := ab_other e2 (by omega) gm15
  have c7 : h1[m+101]? = some (.inl (.int, 64, .inl (fun _ => 0))) := ab_other e2 (by omega) gm16
  have c8 : h1[m+102]? = some (.inl (.int, 4, .inl (fun _ => 0))) := ab_other e2 (by omega) gm17
  have c9 : h1[m+103]? = some (.inl (.int, 4, .inl (fun _ => 0))) := ab_other e2 (by omega) gm18
  have c10 : h1[m+104]? = some (.inl (.int, 256, .inl (fun _ => 0))) := ab_other e2 (by omega) gm19
  have c11 : h1[m+105]? = some (.inl (.byte, 58000, .inl (fun _ => 0))) := ab_other e2 (by omega) gm21
  have c12 : h1[m+106]? = some (.inl (.boolean, 8, .inl (a0_M w 25))) := ab_other e2 (by omega) gm25
  have c13 : h1[m+107]? = some (.inl (.boolean, 8, .inl (fun _ => 0))) := ab_other e2 (by omega) gm26
  have fr14 : ab_fr (fun _ => True) h h1 := ab_fr_set (ab_fr_rf _ _) e2 (by trivial)
  clear e2
  refine ab_iload_n d_M_stand_5 rfl rfl ?_
  refine ab_i2l d_M_stand_6 ?_
  refine ab_lconst (v := 0) d_M_stand_7 (by decide) ?_
  refine ab_ldc2 d_M_stand_8 (k13 15 rfl rfl) ?_
  refine ab_callS_a (As := [.long ((n : Int32).toInt64), .long 0, .long 7]) (rest := []) d_M_stand_11 (c_M_in) (ab_mkC s_M_in (Nat.le_of_ble_eq_true rfl) (Nat.le_of_ble_eq_true rfl) (by decide) (by decide)) (k10 93 rfl rfl) t_M_in rfl (Nat.le_of_ble_eq_true rfl) (fun h16 q15 => ?_)
  subst q15
  by_cases t17 : n < 0
  · refine ab_topi (fun x18 ex18 => ?_)
    obtain rfl : x18 = 0 := ex18.trans (in_1 (lo := 0) (hi := 7) (by decide) (by decide) t17)
    clear ex18
    refine ab_if_eq (tgt := 35) d_M_stand_14 (by decide) (fun q19 => ?_) (fun q19 => by exact absurd (by decide) q19)
    refine ab_iconst (v := 0) d_M_stand_35 (by decide) ?_
    exact ab_zret d_M_stand_36 rfl rfl (Nat.le_refl _) (Nat.le_refl _) (by unfold sq_M_stand; rw [if_pos t17]; exact ⟨rfl, trivial⟩)
  by_cases t20 : 7 < n
  · refine ab_topi (fun x21 ex21 => ?_)
    obtain rfl : x21 = 0 := ex21.trans (in_2 (lo := 0) (hi := 7) (by decide) (by decide) t20)
    clear ex21
    refine ab_if_eq (tgt := 35) d_M_stand_14 (by decide) (fun q22 => ?_) (fun q22 => by exact absurd (by decide) q22)
    refine ab_iconst (v := 0) d_M_stand_35 (by decide) ?_
    exact ab_zret d_M_stand_36 rfl rfl (Nat.le_refl _) (Nat.le_refl _) (by unfold sq_M_stand; rw [if_neg t17]; rw [if_pos t20]; exact ⟨rfl, trivial⟩)
  refine ab_topi (fun x23 ex23 => ?_)
  obtain rfl : x23 = 1 := ex23.trans (in_3 (lo := 0) (hi := 7) (by decide) (by decide) t17 t20)
  clear ex23
  refine ab_if_eq (tgt := 35) d_M_stand_14 (by decide) (fun q24 => by exact absurd q24 (by decide)) (fun q24 => ?_)
  refine ab_aload_n d_M_stand_17 rfl rfl rfl ?_
  refine ab_get (f := 25) d_M_stand_18 c3 rfl (by decide) (k10 18 rfl rfl) rfl ?_
  refine ab_iload_n d_M_stand_21 rfl rfl ?_
  refine ab_zald d_M_stand_22 tZ c12 (in8 t17 t20) ?_
  refine ab_if_eq (tgt := 37) d_M_stand_23 (by decide) (fun q25 => ?_) (fun q25 => ?_)
  · refine ab_aload_n d_M_stand_37 rfl rfl rfl ?_
    refine ab_get (f := 25) d_M_stand_38 c3 rfl (by decide) (k10 18 rfl rfl) rfl ?_
    refine ab_iload_n d_M_stand_41 rfl rfl ?_
    refine ab_iconst (v := 1) d_M_stand_42 (by decide) ?_
    refine ab_zast d_M_stand_43 tZ c12 (in8 t17 t20) ?_
    refine ab_gen (fun h26 e27 => ?_)
    have c28 : h26[m]? = some (.inr (12, [.int 0, .ref (m + 1), .int 0, .ref (m + 2), .ref (m + 33), .int 0, .int (-1), .int (-1), .ref (m + 64), .ref (m + 74), .ref (m + 84), .ref (m + 94), .int 1, .int 0, .ref (m + 99), .ref (m + 100), .ref (m + 101), .ref (m + 102), .ref (m + 103), .ref (m + 104), .int 0, .ref (m + 105), .int 0, .int 0, .int 0, .ref (m + 106), .ref (m + 107), .int 0, .int 0])) := ab_other e27 (by omega) c3
    have c29 : h26[m+1]? = some (.inl (.byte, 6000, .inl (fun _ => 0))) := ab_other e27 (by omega) c4
    have c30 : h26[m+99]? = some (.inl (.int, 256, .inl (fun _ => 0))) := ab_other e27 (by omega) c5
    have c31 : h26[m+100]? = some (.inl (.boolean, 256, .inl (fun _ => 0))) := ab_other e27 (by omega) c6
    have c32 : h26[m+101]? = some (.inl (.int, 64, .inl (fun _ => 0))) := ab_other e27 (by omega) c7
    have c33 : h26[m+102]? = some (.inl (.int, 4, .inl (fun _ => 0))) := ab_other e27 (by omega) c8
    have c34 : h26[m+103]? = some (.inl (.int, 4, .inl (fun _ => 0))) := ab_other e27 (by omega) c9
    have c35 : h26[m+104]? = some (.inl (.int, 256, .inl (fun _ => 0))) := ab_other e27 (by omega) c10
    have c36 : h26[m+105]? = some (.inl (.byte, 58000, .inl (fun _ => 0))) := ab_other e27 (by omega) c11
    have c37 : h26[m+106]? = some (.inl (.boolean, 8, .inl (upd (a0_M w 25) (n).toNatClampNeg (vp_nar .boolean 1)))) := ab_self e27 c12
    have c38 : h26[m+107]? = some (.inl (.boolean, 8, .inl (fun _ => 0))) := ab_other e27 (by omega) c13
    have fr39 : ab_fr (fun _ => True) h h26 := ab_fr_set fr14 e27 (by trivial)
    clear c3 c4 c5 c6 c7 c8 c9 c10 c11 c12 c13 fr14 e27
    try clear h1
    obtain ⟨y40, c41⟩ : ∃ f : Nat → Int32, h26[m+106]? = some (.inl (.boolean, 8, .inl f)) := ⟨_, c37⟩
    clear c37
    refine ab_aload_n d_M_stand_44 rfl rfl rfl ?_
    refine ab_get (f := 26) d_M_stand_45 c28 rfl (by decide) (k10 19 rfl rfl) rfl ?_
    refine ab_iload_n d_M_stand_48 rfl rfl ?_
    refine ab_iconst (v := 0) d_M_stand_49 (by decide) ?_
    refine ab_zast d_M_stand_50 tZ c38 (in8 t17 t20) ?_
    refine ab_gen (fun h42 e43 => ?_)
    have c44 : h42[m]? = some (.inr (12, [.int 0, .ref (m + 1), .int 0, .ref (m + 2), .ref (m + 33), .int 0, .int (-1), .int (-1), .ref (m + 64), .ref (m + 74), .ref (m + 84), .ref (m + 94), .int 1, .int 0, .ref (m + 99), .ref (m + 100), .ref (m + 101), .ref (m + 102), .ref (m + 103), .ref (m + 104), .int 0, .ref (m + 105), .int 0, .int 0, .int 0, .ref (m + 106), .ref (m + 107), .int 0, .int 0])) := ab_other e43 (by omega) c28
    have c45 : h42[m+1]? = some (.inl (.byte, 6000, .inl (fun _ => 0))) := ab_other e43 (by omega) c29
    have c46 : h42[m+99]? = some (.inl (.int, 256, .inl (fun _ => 0))) := ab_other e43 (by omega) c30
    have c47 : h42[m+100]? = some (.inl (.boolean, 256, .inl (fun _ => 0))) := ab_other e43 (by omega) c31
    have c48 : h42[m+101]? = some (.inl (.int, 64, .inl (fun _ => 0))) := ab_other e43 (by omega) c32
    have c49 : h42[m+102]? = some (.inl (.int, 4, .inl (fun _ => 0))) := ab_other e43 (by omega) c33
    have c50 : h42[m+103]? = some (.inl (.int, 4, .inl (fun _ => 0))) := ab_other e43 (by omega) c34
    have c51 : h42[m+104]? = some (.inl (.int, 256, .inl (fun _ => 0))) := ab_other e43 (by omega) c35
    have c52 : h42[m+105]? = some (.inl (.byte, 58000, .inl (fun _ => 0))) := ab_other e43 (by omega) c36
    have c53 : h42[m+106]? = some (.inl (.boolean, 8, .inl y40)) := ab_other e43 (by omega) c41
    have c54 : h42[m+107]? = some (.inl (.boolean, 8, .inl (upd (fun _ => 0) (n).toNatClampNeg (vp_nar .boolean 0)))) := ab_self e43 c38
    have fr55 : ab_fr (fun _ => True) h h42 := ab_fr_set fr39 e43 (by trivial)
    clear c28 c29 c30 c31 c32 c33 c34 c35 c36 c41 c38 fr39 e43
    try clear h26
    obtain ⟨y56, c57⟩ : ∃ f : Nat → Int32, h42[m+107]? = some (.inl (.boolean, 8, .inl f)) := ⟨_, c54⟩
    clear c54
    refine ab_iconst (v := 1) d_M_stand_51 (by decide) ?_
    exact ab_zret d_M_stand_52 rfl rfl (Nat.le_refl _) (Nat.le_refl _) (by unfold sq_M_stand; rw [if_neg t17]; rw [if_neg t20]; rw [if_pos q25]; exact ⟨rfl, trivial⟩)
  · refine ab_aload_n d_M_stand_26 rfl rfl rfl ?_
    refine ab_get (f := 26) d_M_stand_27 c3 rfl (by decide) (k10 19 rfl rfl) rfl ?_
    refine ab_iload_n d_M_stand_30 rfl rfl ?_
    refine ab_zald d_M_stand_31 tZ c13 (in8 t17 t20) ?_
    refine ab_topi (fun x58 ex58 => ?_)
    obtain rfl : x58 = 0 := ex58.trans rfl
    clear ex58
    refine ab_if_ne (tgt := 37) d_M_stand_32 (by decide) (fun q59 => by exact absurd q59 (by decide)) (fun q59 => ?_)
    refine ab_iconst (v := 0) d_M_stand_35 (by decide) ?_
    exact ab_zret d_M_stand_36 rfl rfl (Nat.le_refl _) (Nat.le_refl _) (by unfold sq_M_stand; rw [if_neg t17]; rw [if_neg t20]; rw [if_neg q25]; exact ⟨rfl, trivial⟩)
set_option maxRecDepth 20000 in
set_option maxHeartbeats 2000000 in
theorem r_M_slot {h : List ab_E}  {p0 p1 p2 p3 p4 p5 p6 p7 p8 p9 p10 p11 p12 p13 p14 p15 p16 p17 p18 p19 p20 p21 p22 p23 p24 p25 p26 p27 p28 : Value} {m : Nat} {q t : Int32}  (po : h[m]? = some (.inr (12, [p0, p1, p2, p3, p4, p5, p6, p7, p8, p9, p10, p11, p12, p13, p14, p15, p16, p17, p18, p19, p20, p21, p22, p23, p24, p25, p26, p27, p28])))  : ab_M y_M_slot { frames := 0, cells := 0, slots := 0, locals := 0 } [.ref m, .int q, .int t] h (ab_A (some (.int (64 * q + (t &&& 63)))) (fun h1 => h = h1)) := by
  refine ab_of2 (lv := [some (.ref m), some (.int q), some (.int t)]) 0 rfl rfl (Nat.le_of_ble_eq_true rfl) ?_
  refine ab_bipush (v := 64) d_M_slot_0 (by decide) ?_
  refine ab_iload_n d_M_slot_2 rfl rfl ?_
  refine ab_imul d_M_slot_3 ?_
  refine ab_iload_n d_M_slot_4 rfl rfl ?_
  refine ab_bipush (v := 63) d_M_slot_5 (by decide) ?_
  refine ab_iand d_M_slot_7 ?_
  refine ab_iadd d_M_slot_8 ?_
  exact ab_iret d_M_slot_9 rfl (Nat.le_refl _) (Nat.le_refl _) (by exact ⟨rfl, rfl⟩)
set_option maxRecDepth 20000 in
set_option maxHeartbeats 2000000 in
theorem r_M_confirms {h : List ab_E}  {p0 p1 p2 p3 p4 p5 p6 p7 p10 p11 p12 p13 p14 p15 p16 p17 p18 p19 p20 p21 p22 p23 p24 p25 p26 p27 p28 : Value} {n1 n2 n3 n4 n5 n6 n7 n8 n9 n10 n11 n12 n13 n14 n15 n16 n17 : Value} {u1 u2 u3 u4 u5 u6 u7 u8 u9 u10 u11 u12 u13 u14 u15 u16 u17 : Value} {m nw su : Nat}  (po : h[m]? = some (.inr (12, [p0, p1, p2, p3, p4, p5, p6, p7, .ref su, .ref nw, p10, p11, p12, p13, p14, p15, p16, p17, p18, p19, p20, p21, p22, p23, p24, p25, p26, p27, p28]))) (no : h[nw]? = some (.inr (13, [.int 0, n1, n2, n3, n4, n5, n6, n7, n8, n9, n10, n11, n12, n13, n14, n15, n16, n17]))) (uo : h[su]? = some (.inr (13, [.int 0, u1, u2, u3, u4, u5, u6, u7, u8, u9, u10, u11, u12, u13, u14, u15, u16, u17])))  : ab_M y_M_confirms { frames := 0, cells := 0, slots := 0, locals := 0 } [.ref m] h (ab_A none (fun h1 => h = h1)) := by
  refine ab_of2 (lv := [some (.ref m), none, none, none]) 3 rfl rfl (Nat.le_of_ble_eq_true rfl) ?_
  refine ab_iconst (v := 1) d_M_confirms_0 (by decide) ?_
  refine ab_istore_n (lv' := [some (.ref m), some (.int 1), none, none]) d_M_confirms_1 rfl (by decide) rfl ?_
  refine ab_iload_n d_M_confirms_2 rfl rfl ?_
  refine ab_if_eq (tgt := 209) d_M_confirms_3 (by decide) (fun q1 => by exact absurd q1 (by decide)) (fun q1 => ?_)
  refine ab_aload_n d_M_confirms_6 rfl rfl rfl ?_
  refine ab_get (f := 8) d_M_confirms_7 po rfl (by decide) (k10 1 rfl rfl) rfl ?_
  refine ab_getN (f := 0) d_M_confirms_10 uo rfl (by decide) (k9 89 rfl rfl) rfl ?_
  refine ab_aload_n d_M_confirms_13 rfl rfl rfl ?_
  refine ab_get (f := 9) d_M_confirms_14 po rfl (by decide) (k10 2 rfl rfl) rfl ?_
  refine ab_getN (f := 0) d_M_confirms_17 no rfl (by decide) (k9 89 rfl rfl) rfl ?_
  refine ab_icmp_ge (tgt := 209) d_M_confirms_20 (by decide) (fun q2 => ?_) (fun q2 => by exact absurd (by decide) q2)
  exact ab_vret d_M_confirms_209 rfl (Nat.le_refl _) (Nat.le_refl _) (by exact ⟨rfl, rfl⟩)
def sq_M_input_0 (t : Int32) (v : Int32) : Int32 := if t < 1 then ((-2)) else if 16 < t then ((-2)) else (0)
set_option maxRecDepth 20000 in
set_option maxHeartbeats 2000000 in
theorem f_M_input_0 {h : List ab_E}    {m : Nat} {w t v : Int32}    (h0 : at_M0 h m w) : ab_M y_M_input { frames := 1, cells := 0, slots := 0, locals := 40 } [.ref m, .int 0, .int t, .int v] h (ab_A (some (.int (sq_M_input_0 t v))) (fun h1 => True)) := by
  obtain ⟨hM, hT, hO, hS, hN, hD, hR⟩ := h0
  have hM0 := hM; obtain ⟨gmo, gm1, gm14, gm15, gm16, gm17, gm18, gm19, gm21, gm25, gm26⟩ := hM
  replace gmo : h[m]? = some (.inr (12, [.int 0, .ref (m + 1), .int 0, .ref (m + 2), .ref (m + 33), .int 0, .int (-1), .int (-1), .ref (m + 64), .ref (m + 74), .ref (m + 84), .ref (m + 94), .int 1, .int 0, .ref (m + 99), .ref (m + 100), .ref (m + 101), .ref (m + 102), .ref (m + 103), .ref (m + 104), .int 0, .ref (m + 105), .int 0, .int 0, .int 0, .ref (m + 106), .ref (m + 107), .int 0, .int 0])) := gmo
  replace gm1 : h[m + 1]? = some (.inl (.byte, 6000, .inl (fun _ => 0))) := (by rw [a0_M_0 w (by decide)] at gm1; exact gm1)
  replace gm14 : h[m + 99]? = some (.inl (.int, 256, .inl (fun _ => 0))) := (by rw [a0_M_0 w (by decide)] at gm14; exact gm14)
  replace gm15 : h[m + 100]? = some (.inl (.boolean, 256, .inl (fun _ => 0))) := (by rw [a0_M_0 w (by decide)] at gm15; exact gm15)
  replace gm16 : h[m + 101]? = some (.inl (.int, 64, .inl (fun _ => 0))) := (by rw [a0_M_0 w (by decide)] at gm16; exact gm16)
  replace gm17 : h[m + 102]? = some (.inl (.int, 4, .inl (fun _ => 0))) := (by rw [a0_M_0 w (by decide)] at gm17; exact gm17)
  replace gm18 : h[m + 103]? = some (.inl (.int, 4, .inl (fun _ => 0))) := (by rw [a0_M_0 w (by decide)] at gm18; exact gm18)
  replace gm19 : h[m + 104]? = some (.inl (.int, 256, .inl (fun _ => 0))) := (by rw [a0_M_0 w (by decide)] at gm19; exact gm19)
  replace gm21 : h[m + 105]? = some (.inl (.byte, 58000, .inl (fun _ => 0))) := (by rw [a0_M_0 w (by decide)] at gm21; exact gm21)
  replace gm25 : h[m + 106]? = some (.inl (.boolean, 8, .inl (a0_M w 25))) := gm25
  replace gm26 : h[m + 107]? = some (.inl (.boolean, 8, .inl (fun _ => 0))) := (by rw [a0_M_0 w (by decide)] at gm26; exact gm26)
  have hS0 := hS; obtain ⟨gso, gs4, gs5, gs6, gs7, gs9, gs10, gs11, gs12, gs17⟩ := hS
  replace gso : h[m + 64]? = some (.inr (13, [.int 0, .int 0, .int 0, .int 0, .ref (m + 64 + 1), .ref (m + 64 + 2), .ref (m + 64 + 3), .ref (m + 64 + 4), .int 0, .ref (m + 64 + 5), .ref (m + 64 + 6), .ref (m + 64 + 7), .ref (m + 64 + 8), .int (-1), .int 0, .int 0, .int 0, .ref (m + 64 + 9)])) := gso
  replace gs4 : h[m + 64 + 1]? = some (.inl (.int, 256, .inl (fun _ => 0))) := gs4
  replace gs5 : h[m + 64 + 2]? = some (.inl (.boolean, 256, .inl (fun _ => 0))) := gs5
  replace gs6 : h[m + 64 + 3]? = some (.inl (.int, 256, .inl (fun _ => 0))) := gs6
  replace gs7 : h[m + 64 + 4]? = some (.inl (.int, 12288, .inl (fun _ => 0))) := gs7
  replace gs9 : h[m + 64 + 5]? = some (.inl (.int, 256, .inl (fun _ => 0))) := gs9
  replace gs10 : h[m + 64 + 6]? = some (.inl (.int, 256, .inl (fun _ => 0))) := gs10
  replace gs11 : h[m + 64 + 7]? = some (.inl (.int, 256, .inl (fun _ => 0))) := gs11
  replace gs12 : h[m + 64 + 8]? = some (.inl (.int, 1024, .inl (fun _ => 0))) := gs12
  replace gs17 : h[m + 64 + 9]? = some (.inl (.int, 32, .inl (fun _ => 0))) := gs17
  have hN0 := hN; obtain ⟨gno, gn4, gn5, gn6, gn7, gn9, gn10, gn11, gn12, gn17⟩ := hN
  replace gno : h[m + 74]? = some (.inr (13, [.int 0, .int 0, .int 0, .int 0, .ref (m + 74 + 1), .ref (m + 74 + 2), .ref (m + 74 + 3), .ref (m + 74 + 4), .int 0, .ref (m + 74 + 5), .ref (m + 74 + 6), .ref (m + 74 + 7), .ref (m + 74 + 8), .int (-1), .int 0, .int 0, .int 0, .ref (m + 74 + 9)])) := gno
  replace gn4 : h[m + 74 + 1]? = some (.inl (.int, 256, .inl (fun _ => 0))) := gn4
  replace gn5 : h[m + 74 + 2]? = some (.inl (.boolean, 256, .inl (fun _ => 0))) := gn5
  replace gn6 : h[m + 74 + 3]? = some (.inl (.int, 256, .inl (fun _ => 0))) := gn6
  replace gn7 : h[m + 74 + 4]? = some (.inl (.int, 12288, .inl (fun _ => 0))) := gn7
  replace gn9 : h[m + 74 + 5]? = some (.inl (.int, 256, .inl (fun _ => 0))) := gn9
  replace gn10 : h[m + 74 + 6]? = some (.inl (.int, 256, .inl (fun _ => 0))) := gn10
  replace gn11 : h[m + 74 + 7]? = some (.inl (.int, 256, .inl (fun _ => 0))) := gn11
  replace gn12 : h[m + 74 + 8]? = some (.inl (.int, 1024, .inl (fun _ => 0))) := gn12
  replace gn17 : h[m + 74 + 9]? = some (.inl (.int, 32, .inl (fun _ => 0))) := gn17
  refine ab_of2 (lv := [some (.ref m), some (.int 0), some (.int t), some (.int v), none, none]) 2 rfl rfl (Nat.le_of_ble_eq_true rfl) ?_
  refine ab_aload_n d_M_input_0 rfl rfl rfl ?_
  refine ab_iconst (v := 0) d_M_input_1 (by decide) ?_
  refine ab_put (f := 0) d_M_input_2 gmo rfl (by decide) (k9 233 rfl rfl) rfl rfl (fun _ => rfl) (fun _ => rfl) (Nat.le_of_ble_eq_true rfl) ?_
  show ab_V _ _ _ _ _ _ _ 5 [some (.ref m), some (.int 0), some (.int t), some (.int v), none, none] [] (h.set m (.inr (12, [.int 0, .ref (m + 1), .int 0, .ref (m + 2), .ref (m + 33), .int 0, .int (-1), .int (-1), .ref (m + 64), .ref (m + 74), .ref (m + 84), .ref (m + 94), .int 1, .int 0, .ref (m + 99), .ref (m + 100), .ref (m + 101), .ref (m + 102), .ref (m + 103), .ref (m + 104), .int 0, .ref (m + 105), .int 0, .int 0, .int 0, .ref (m + 106), .ref (m + 107), .int 0, .int 0])))
  refine ab_gen (fun h1 e2 => ?_)
  have c3 : h1[m]? = some (.inr (12, [.int 0, .ref (m + 1), .int 0, .ref (m + 2), .ref (m + 33), .int 0, .int (-1), .int (-1), .ref (m + 64), .ref (m + 74), .ref (m + 84), .ref (m + 94), .int 1, .int 0, .ref (m + 99), .ref (m + 100), .ref (m + 101), .ref (m + 102), .ref (m + 103), .ref (m + 104), .int 0, .ref (m + 105), .int 0, .int 0, .int 0, .ref (m + 106), .ref (m + 107), .int 0, .int 0])) := ab_self e2 gmo
  have c4 : h1[m+1]? = some (.inl (.byte, 6000, .inl (fun _ => 0))) := ab_other e2 (by omega) gm1
  have c5 : h1[m+99]? = some (.inl (.int, 256, .inl (fun _ => 0))) := ab_other e2 (by omega) gm14
  have c6 : h1[m+100]? = some (.inl (.boolean, 256, .inl (fun _ => 0))) := ab_other e2 (by omega) gm15
  have c7 : h1[m+101]? = some (.inl (.int, 64, .inl (fun _ => 0))) := ab_other e2 (by omega) gm16
  have c8 : h1[m+102]? = some (.inl (.int, 4, .inl (fun _ => 0))) := ab_other e2 (by omega) gm17
  have c9 : h1[m+103]? = some (.inl (.int, 4, .inl (fun _ => 0))) := ab_other e2 (by omega) gm18
  have c10 : h1[m+104]? = some (.inl (.int, 256, .inl (fun _ => 0))) := ab_other e2 (by omega) gm19
  have c11 : h1[m+105]? = some (.inl (.byte, 58000, .inl (fun _ => 0))) := ab_other e2 (by omega) gm21
  have c12 : h1[m+106]? = some (.inl (.boolean, 8, .inl (a0_M w 25))) := ab_other e2 (by omega) gm25
  have c13 : h1[m+107]? = some (.inl (.boolean, 8, .inl (fun _ => 0))) := ab_other e2 (by omega) gm26
  have c14 : h1[m+64]? = some (.inr (13, [.int 0, .int 0, .int 0, .int 0, .ref (m + 64 + 1), .ref (m + 64 + 2), .ref (m + 64 + 3), .ref (m + 64 + 4), .int 0, .ref (m + 64 + 5), .ref (m + 64 + 6), .ref (m + 64 + 7), .ref (m + 64 + 8), .int (-1), .int 0, .int 0, .int 0, .ref (m + 64 + 9)])) := ab_other e2 (by omega) gso
  have c15 : h1[m+64+1]? = some (.inl (.int, 256, .inl (fun _ => 0))) := ab_other e2 (by omega) gs4
  have c16 : h1[m+64+2]? = some (.inl (.boolean, 256, .inl (fun _ => 0))) := ab_other e2 (by omega) gs5
  have c17 : h1[m+64+3]? = some (.inl (.int, 256, .inl (fun _ => 0))) := ab_other e2 (by omega) gs6
  have c18 : h1[m+64+4]? = some (.inl (.int, 12288, .inl (fun _ => 0))) := ab_other e2 (by omega) gs7
  have c19 : h1[m+64+5]? = some (.inl (.int, 256, .inl (fun _ => 0))) := ab_other e2 (by omega) gs9
  have c20 : h1[m+64+6]? = some (.inl (.int, 256, .inl (fun _ => 0))) := ab_other e2 (by omega) gs10
  have c21 : h1[m+64+7]? = some (.inl (.int, 256, .inl (fun _ => 0))) := ab_other e2 (by omega) gs11
  have c22 : h1[m+64+8]? = some (.inl (.int, 1024, .inl (fun _ => 0))) := ab_other e2 (by omega) gs12
  have c23 : h1[m+64+9]? = some (.inl (.int, 32, .inl (fun _ => 0))) := ab_other e2 (by omega) gs17
  have c24 : h1[m+74]? = some (.inr (13, [.int 0, .int 0, .int 0, .int 0, .ref (m + 74 + 1), .ref (m + 74 + 2), .ref (m + 74 + 3), .ref (m + 74 + 4), .int 0, .ref (m + 74 + 5), .ref (m + 74 + 6), .ref (m + 74 + 7), .ref (m + 74 + 8), .int (-1), .int 0, .int 0, .int 0, .ref (m + 74 + 9)])) := ab_other e2 (by omega) gno
  have c25 : h1[m+74+1]? = some (.inl (.int, 256, .inl (fun _ => 0))) := ab_other e2 (by omega) gn4
  have c26 : h1[m+74+2]? = some (.inl (.boolean, 256, .inl (fun _ => 0))) := ab_other e2 (by omega) gn5
  have c27 : h1[m+74+3]? = some (.inl (.int, 256, .inl (fun _ => 0))) := ab_other e2 (by omega) gn6
  have c28 : h1[m+74+4]? = some (.inl (.int, 12288, .inl (fun _ => 0))) := ab_other e2 (by omega) gn7
  have c29 : h1[m+74+5]? = some (.inl (.int, 256, .inl (fun _ => 0))) := ab_other e2 (by omega) gn9
  have c30 : h1[m+74+6]? = some (.inl (.int, 256, .inl (fun _ => 0))) := ab_other e2 (by omega) gn10
  have c31 : h1[m+74+7]? = some (.inl (.int, 256, .inl (fun _ => 0))) := ab_other e2 (by omega) gn11
  have c32 : h1[m+74+8]? = some (.inl (.int, 1024, .inl (fun _ => 0))) := ab_other e2 (by omega) gn12
  have c33 : h1[m+74+9]? = some (.inl (.int, 32, .inl (fun _ => 0))) := ab_other e2 (by omega) gn17
  have fr34 : ab_fr (fun _ => True) h h1 := ab_fr_set (ab_fr_rf _ _) e2 (by trivial)
  clear e2
  refine ab_iload_n d_M_input_5 rfl rfl ?_
  refine ab_i2l d_M_input_6 ?_
  refine ab_topl (fun x35 ex35 => ?_)
  obtain rfl : x35 = 0 := ex35.trans (by decide)
  clear ex35
  refine ab_lconst (v := 0) d_M_input_7 (by decide) ?_
  refine ab_ldc2 d_M_input_8 (k12 168 rfl rfl) ?_
  refine ab_callS_a (As := [.long 0, .long 0, .long 3]) (rest := []) d_M_input_11 (c_M_in) (ab_mkC s_M_in (Nat.le_of_ble_eq_true rfl) (Nat.le_of_ble_eq_true rfl) (by decide) (by decide)) (k10 93 rfl rfl) t_M_in rfl (Nat.le_of_ble_eq_true rfl) (fun h37 q36 => ?_)
  subst q36
  refine ab_topi (fun x38 ex38 => ?_)
  obtain rfl : x38 = 1 := ex38.trans (by decide)
  clear ex38
  refine ab_if_ne (tgt := 19) d_M_input_14 (by decide) (fun q39 => ?_) (fun q39 => by exact absurd q39 (by decide))
  refine ab_iload_n d_M_input_19 rfl rfl ?_
  refine ab_i2l d_M_input_20 ?_
  refine ab_aload_n d_M_input_21 rfl rfl rfl ?_
  refine ab_get (f := 8) d_M_input_22 c3 rfl (by decide) (k10 1 rfl rfl) rfl ?_
  refine ab_getN (f := 0) d_M_input_25 c14 rfl (by decide) (k9 89 rfl rfl) rfl ?_
  refine ab_i2l d_M_input_28 ?_
  refine ab_topl (fun x40 ex40 => ?_)
  obtain rfl : x40 = 0 := ex40.trans (by decide)
  clear ex40
  refine ab_lconst (v := 1) d_M_input_29 (by decide) ?_
  refine ab_ladd d_M_input_30 ?_
  refine ab_topl (fun x41 ex41 => ?_)
  obtain rfl : x41 = 1 := ex41.trans (by decide)
  clear ex41
  refine ab_aload_n d_M_input_31 rfl rfl rfl ?_
  refine ab_get (f := 9) d_M_input_32 c3 rfl (by decide) (k10 2 rfl rfl) rfl ?_
  refine ab_getN (f := 0) d_M_input_35 c24 rfl (by decide) (k9 89 rfl rfl) rfl ?_
  refine ab_i2l d_M_input_38 ?_
  refine ab_topl (fun x42 ex42 => ?_)
  obtain rfl : x42 = 0 := ex42.trans (by decide)
  clear ex42
  refine ab_ldc2 d_M_input_39 (k12 169 rfl rfl) ?_
  refine ab_ladd d_M_input_42 ?_
  refine ab_topl (fun x43 ex43 => ?_)
  obtain rfl : x43 = 16 := ex43.trans (by decide)
  clear ex43
  refine ab_callS_a (As := [.long ((t : Int32).toInt64), .long 1, .long 16]) (rest := []) d_M_input_43 (c_M_in) (ab_mkC s_M_in (Nat.le_of_ble_eq_true rfl) (Nat.le_of_ble_eq_true rfl) (by decide) (by decide)) (k10 93 rfl rfl) t_M_in rfl (Nat.le_of_ble_eq_true rfl) (fun h45 q44 => ?_)
  subst q44
  by_cases t46 : t < 1
  · refine ab_topi (fun x47 ex47 => ?_)
    obtain rfl : x47 = 0 := ex47.trans (in_1 (lo := 1) (hi := 16) (by decide) (by decide) t46)
    clear ex47
    refine ab_if_ne (tgt := 52) d_M_input_46 (by decide) (fun q48 => by exact absurd q48 (by decide)) (fun q48 => ?_)
    refine ab_bipush (v := (-2)) d_M_input_49 (by decide) ?_
    exact ab_iret d_M_input_51 rfl (Nat.le_refl _) (Nat.le_refl _) (by unfold sq_M_input_0; rw [if_pos t46]; exact ⟨rfl, trivial⟩)
  by_cases t49 : 16 < t
  · refine ab_topi (fun x50 ex50 => ?_)
    obtain rfl : x50 = 0 := ex50.trans (in_2 (lo := 1) (hi := 16) (by decide) (by decide) t49)
    clear ex50
    refine ab_if_ne (tgt := 52) d_M_input_46 (by decide) (fun q51 => by exact absurd q51 (by decide)) (fun q51 => ?_)
    refine ab_bipush (v := (-2)) d_M_input_49 (by decide) ?_
    exact ab_iret d_M_input_51 rfl (Nat.le_refl _) (Nat.le_refl _) (by unfold sq_M_input_0; rw [if_neg t46]; rw [if_pos t49]; exact ⟨rfl, trivial⟩)
  refine ab_topi (fun x52 ex52 => ?_)
  obtain rfl : x52 = 1 := ex52.trans (in_3 (lo := 1) (hi := 16) (by decide) (by decide) t46 t49)
  clear ex52
  refine ab_if_ne (tgt := 52) d_M_input_46 (by decide) (fun q53 => ?_) (fun q53 => by exact absurd q53 (by decide))
  refine ab_iload_n d_M_input_52 rfl rfl ?_
  refine ab_aload_n d_M_input_53 rfl rfl rfl ?_
  refine ab_get (f := 9) d_M_input_54 c3 rfl (by decide) (k10 2 rfl rfl) rfl ?_
  refine ab_getN (f := 0) d_M_input_57 c24 rfl (by decide) (k9 89 rfl rfl) rfl ?_
  refine ab_icmp_le (tgt := 70) d_M_input_60 (by decide) (fun q54 => ?_) (fun q54 => ?_)
  · exact absurd q54 (pos1 t46)
  · refine ab_aload_n d_M_input_63 rfl rfl rfl ?_
    refine ab_get (f := 12) d_M_input_64 c3 rfl (by decide) (k10 5 rfl rfl) rfl ?_
    refine ab_goto (tgt := 79) d_M_input_67 (by decide) ?_
    refine ab_istore (lv' := [some (.ref m), some (.int 0), some (.int t), some (.int v), some (.int 1), none]) d_M_input_79 (by decide) rfl ?_
    refine ab_iload d_M_input_81 rfl ?_
    refine ab_iload_n d_M_input_83 rfl rfl ?_
    refine ab_ishr d_M_input_84 ?_
    refine ab_topi (fun x55 ex55 => ?_)
    obtain rfl : x55 = 1 := ex55.trans (by decide)
    clear ex55
    refine ab_iconst (v := 1) d_M_input_85 (by decide) ?_
    refine ab_iand d_M_input_86 ?_
    refine ab_topi (fun x56 ex56 => ?_)
    obtain rfl : x56 = 1 := ex56.trans (by decide)
    clear ex56
    refine ab_if_ne (tgt := 93) d_M_input_87 (by decide) (fun q57 => ?_) (fun q57 => by exact absurd q57 (by decide))
    refine ab_aload_n d_M_input_93 rfl rfl rfl ?_
    refine ab_get (f := 15) d_M_input_94 c3 rfl (by decide) (k10 8 rfl rfl) rfl ?_
    refine ab_aload_n d_M_input_97 rfl rfl rfl ?_
    refine ab_iload_n d_M_input_98 rfl rfl ?_
    refine ab_iload_n d_M_input_99 rfl rfl ?_
    refine ab_callV_a (As := [.int 0, .int t]) (rest := [.ref (m + 100)]) d_M_input_100 (r_M_slot c3) (ab_mkC s_M_slot (Nat.le_of_ble_eq_true rfl) (Nat.le_of_ble_eq_true rfl) (by decide) (by decide)) (k11 210 rfl rfl) i_M_slot v_M_slot c3 rfl rfl (Nat.le_of_ble_eq_true rfl) (fun h59 q58 => ?_)
    subst q58
    refine ab_zald d_M_input_103 tZ c6 (in_sl0 t) ?_
    refine ab_topi (fun x60 ex60 => ?_)
    obtain rfl : x60 = 0 := ex60.trans rfl
    clear ex60
    refine ab_if_eq (tgt := 110) d_M_input_104 (by decide) (fun q61 => ?_) (fun q61 => by exact absurd (by decide) q61)
    refine ab_iconst (v := 0) d_M_input_110 (by decide) ?_
    refine ab_istore (lv' := [some (.ref m), some (.int 0), some (.int t), some (.int v), some (.int 1), some (.int 0)]) d_M_input_111 (by decide) rfl ?_
    refine ab_iload_n d_M_input_113 rfl rfl ?_
    refine ab_aload_n d_M_input_114 rfl rfl rfl ?_
    refine ab_get (f := 9) d_M_input_115 c3 rfl (by decide) (k10 2 rfl rfl) rfl ?_
    refine ab_getN (f := 0) d_M_input_118 c24 rfl (by decide) (k9 89 rfl rfl) rfl ?_
    refine ab_icmp_gt (tgt := 156) d_M_input_121 (by decide) (fun q62 => ?_) (fun q62 => ?_)
    · refine ab_aload_n d_M_input_156 rfl rfl rfl ?_
      refine ab_get (f := 14) d_M_input_157 c3 rfl (by decide) (k10 7 rfl rfl) rfl ?_
      refine ab_aload_n d_M_input_160 rfl rfl rfl ?_
      refine ab_iload_n d_M_input_161 rfl rfl ?_
      refine ab_iload_n d_M_input_162 rfl rfl ?_
      refine ab_callV_a (As := [.int 0, .int t]) (rest := [.ref (m + 99)]) d_M_input_163 (r_M_slot c3) (ab_mkC s_M_slot (Nat.le_of_ble_eq_true rfl) (Nat.le_of_ble_eq_true rfl) (by decide) (by decide)) (k11 210 rfl rfl) i_M_slot v_M_slot c3 rfl rfl (Nat.le_of_ble_eq_true rfl) (fun h64 q63 => ?_)
      subst q63
      refine ab_iload_n d_M_input_166 rfl rfl ?_
      refine ab_iast d_M_input_167 tI c5 (in_sl0 t) ?_
      refine ab_gen (fun h65 e66 => ?_)
      have c67 : h65[m]? = some (.inr (12, [.int 0, .ref (m + 1), .int 0, .ref (m + 2), .ref (m + 33), .int 0, .int (-1), .int (-1), .ref (m + 64), .ref (m + 74), .ref (m + 84), .ref (m + 94), .int 1, .int 0, .ref (m + 99), .ref (m + 100), .ref (m + 101), .ref (m + 102), .ref (m + 103), .ref (m + 104), .int 0, .ref (m + 105), .int 0, .int 0, .int 0, .ref (m + 106), .ref (m + 107), .int 0, .int 0])) := ab_other e66 (by omega) c3
      have c68 : h65[m+1]? = some (.inl (.byte, 6000, .inl (fun _ => 0))) := ab_other e66 (by omega) c4
      have c69 : h65[m+99]? = some (.inl (.int, 256, .inl (upd (fun _ => 0) ((64 * 0 + (t &&& 63))).toNatClampNeg v))) := ab_self e66 c5
      have c70 : h65[m+100]? = some (.inl (.boolean, 256, .inl (fun _ => 0))) := ab_other e66 (by omega) c6
      have c71 : h65[m+101]? = some (.inl (.int, 64, .inl (fun _ => 0))) := ab_other e66 (by omega) c7
      have c72 : h65[m+102]? = some (.inl (.int, 4, .inl (fun _ => 0))) := ab_other e66 (by omega) c8
      have c73 : h65[m+103]? = some (.inl (.int, 4, .inl (fun _ => 0))) := ab_other e66 (by omega) c9
      have c74 : h65[m+104]? = some (.inl (.int, 256, .inl (fun _ => 0))) := ab_other e66 (by omega) c10
      have c75 : h65[m+105]? = some (.inl (.byte, 58000, .inl (fun _ => 0))) := ab_other e66 (by omega) c11
      have c76 : h65[m+106]? = some (.inl (.boolean, 8, .inl (a0_M w 25))) := ab_other e66 (by omega) c12
      have c77 : h65[m+107]? = some (.inl (.boolean, 8, .inl (fun _ => 0))) := ab_other e66 (by omega) c13
      have c78 : h65[m+64]? = some (.inr (13, [.int 0, .int 0, .int 0, .int 0, .ref (m + 64 + 1), .ref (m + 64 + 2), .ref (m + 64 + 3), .ref (m + 64 + 4), .int 0, .ref (m + 64 + 5), .ref (m + 64 + 6), .ref (m + 64 + 7), .ref (m + 64 + 8), .int (-1), .int 0, .int 0, .int 0, .ref (m + 64 + 9)])) := ab_other e66 (by omega) c14
      have c79 : h65[m+64+1]? = some (.inl (.int, 256, .inl (fun _ => 0))) := ab_other e66 (by omega) c15
      have c80 : h65[m+64+2]? = some (.inl (.boolean, 256, .inl (fun _ => 0))) := ab_other e66 (by omega) c16
      have c81 : h65[m+64+3]? = some (.inl (.int, 256, .inl (fun _ => 0))) := ab_other e66 (by omega) c17
      have c82 : h65[m+64+4]? = some (.inl (.int, 12288, .inl (fun _ => 0))) := ab_other e66 (by omega) c18
      have c83 : h65[m+64+5]? = some (.inl (.int, 256, .inl (fun _ => 0))) := ab_other e66 (by omega) c19
      have c84 : h65[m+64+6]? = some (.inl (.int, 256, .inl (fun _ => 0))) := ab_other e66 (by omega) c20
      have c85 : h65[m+64+7]? = some (.inl (.int, 256, .inl (fun _ => 0))) := ab_other e66 (by omega) c21
      have c86 : h65[m+64+8]? = some (.inl (.int, 1024, .inl (fun _ => 0))) := ab_other e66 (by omega) c22
      have c87 : h65[m+64+9]? = some (.inl (.int, 32, .inl (fun _ => 0))) := ab_other e66 (by omega) c23
      have c88 : h65[m+74]? = some (.inr (13, [.int 0, .int 0, .int 0, .int 0, .ref (m + 74 + 1), .ref (m + 74 + 2), .ref (m + 74 + 3), .ref (m + 74 + 4), .int 0, .ref (m + 74 + 5), .ref (m + 74 + 6), .ref (m + 74 + 7), .ref (m + 74 + 8), .int (-1), .int 0, .int 0, .int 0, .ref (m + 74 + 9)])) := ab_other e66 (by omega) c24
      have c89 : h65[m+74+1]? = some (.inl (.int, 256, .inl (fun _ => 0))) := ab_other e66 (by omega) c25
      have c90 : h65[m+74+2]? = some (.inl (.boolean, 256, .inl (fun _ => 0))) := ab_other e66 (by omega) c26
      have c91 : h65[m+74+3]? = some (.inl (.int, 256, .inl (fun _ => 0))) := ab_other e66 (by omega) c27
      have c92 : h65[m+74+4]? = some (.inl (.int, 12288, .inl (fun _ => 0))) := ab_other e66 (by omega) c28
      have c93 : h65[m+74+5]? = some (.inl (.int, 256, .inl (fun _ => 0))) := ab_other e66 (by omega) c29
      have c94 : h65[m+74+6]? = some (.inl (.int, 256, .inl (fun _ => 0))) := ab_other e66 (by omega) c30
      have c95 : h65[m+74+7]? = some (.inl (.int, 256, .inl (fun _ => 0))) := ab_other e66 (by omega) c31
      have c96 : h65[m+74+8]? = some (.inl (.int, 1024, .inl (fun _ => 0))) := ab_other e66 (by omega) c32
      have c97 : h65[m+74+9]? = some (.inl (.int, 32, .inl (fun _ => 0))) := ab_other e66 (by omega) c33
      have fr98 : ab_fr (fun _ => True) h h65 := ab_fr_set fr34 e66 (by trivial)
      clear c3 c4 c5 c6 c7 c8 c9 c10 c11 c12 c13 c14 c15 c16 c17 c18 c19 c20 c21 c22 c23 c24 c25 c26 c27 c28 c29 c30 c31 c32 c33 fr34 e66
      try clear h1
      obtain ⟨y99, c100⟩ : ∃ f : Nat → Int32, h65[m+99]? = some (.inl (.int, 256, .inl f)) := ⟨_, c69⟩
      clear c69
      refine ab_aload_n d_M_input_168 rfl rfl rfl ?_
      refine ab_get (f := 15) d_M_input_169 c67 rfl (by decide) (k10 8 rfl rfl) rfl ?_
      refine ab_aload_n d_M_input_172 rfl rfl rfl ?_
      refine ab_iload_n d_M_input_173 rfl rfl ?_
      refine ab_iload_n d_M_input_174 rfl rfl ?_
      refine ab_callV_a (As := [.int 0, .int t]) (rest := [.ref (m + 100)]) d_M_input_175 (r_M_slot c67) (ab_mkC s_M_slot (Nat.le_of_ble_eq_true rfl) (Nat.le_of_ble_eq_true rfl) (by decide) (by decide)) (k11 210 rfl rfl) i_M_slot v_M_slot c67 rfl rfl (Nat.le_of_ble_eq_true rfl) (fun h102 q101 => ?_)
      subst q101
      refine ab_iconst (v := 1) d_M_input_178 (by decide) ?_
      refine ab_zast d_M_input_179 tZ c70 (in_sl0 t) ?_
      refine ab_gen (fun h103 e104 => ?_)
      have c105 : h103[m]? = some (.inr (12, [.int 0, .ref (m + 1), .int 0, .ref (m + 2), .ref (m + 33), .int 0, .int (-1), .int (-1), .ref (m + 64), .ref (m + 74), .ref (m + 84), .ref (m + 94), .int 1, .int 0, .ref (m + 99), .ref (m + 100), .ref (m + 101), .ref (m + 102), .ref (m + 103), .ref (m + 104), .int 0, .ref (m + 105), .int 0, .int 0, .int 0, .ref (m + 106), .ref (m + 107), .int 0, .int 0])) := ab_other e104 (by omega) c67
      have c106 : h103[m+1]? = some (.inl (.byte, 6000, .inl (fun _ => 0))) := ab_other e104 (by omega) c68
      have c107 : h103[m+99]? = some (.inl (.int, 256, .inl y99)) := ab_other e104 (by omega) c100
      have c108 : h103[m+100]? = some (.inl (.boolean, 256, .inl (upd (fun _ => 0) ((64 * 0 + (t &&& 63))).toNatClampNeg (vp_nar .boolean 1)))) := ab_self e104 c70
      have c109 : h103[m+101]? = some (.inl (.int, 64, .inl (fun _ => 0))) := ab_other e104 (by omega) c71
      have c110 : h103[m+102]? = some (.inl (.int, 4, .inl (fun _ => 0))) := ab_other e104 (by omega) c72
      have c111 : h103[m+103]? = some (.inl (.int, 4, .inl (fun _ => 0))) := ab_other e104 (by omega) c73
      have c112 : h103[m+104]? = some (.inl (.int, 256, .inl (fun _ => 0))) := ab_other e104 (by omega) c74
      have c113 : h103[m+105]? = some (.inl (.byte, 58000, .inl (fun _ => 0))) := ab_other e104 (by omega) c75
      have c114 : h103[m+106]? = some (.inl (.boolean, 8, .inl (a0_M w 25))) := ab_other e104 (by omega) c76
      have c115 : h103[m+107]? = some (.inl (.boolean, 8, .inl (fun _ => 0))) := ab_other e104 (by omega) c77
      have c116 : h103[m+64]? = some (.inr (13, [.int 0, .int 0, .int 0, .int 0, .ref (m + 64 + 1), .ref (m + 64 + 2), .ref (m + 64 + 3), .ref (m + 64 + 4), .int 0, .ref (m + 64 + 5), .ref (m + 64 + 6), .ref (m + 64 + 7), .ref (m + 64 + 8), .int (-1), .int 0, .int 0, .int 0, .ref (m + 64 + 9)])) := ab_other e104 (by omega) c78
      have c117 : h103[m+64+1]? = some (.inl (.int, 256, .inl (fun _ => 0))) := ab_other e104 (by omega) c79
      have c118 : h103[m+64+2]? = some (.inl (.boolean, 256, .inl (fun _ => 0))) := ab_other e104 (by omega) c80
      have c119 : h103[m+64+3]? = some (.inl (.int, 256, .inl (fun _ => 0))) := ab_other e104 (by omega) c81
      have c120 : h103[m+64+4]? = some (.inl (.int, 12288, .inl (fun _ => 0))) := ab_other e104 (by omega) c82
      have c121 : h103[m+64+5]? = some (.inl (.int, 256, .inl (fun _ => 0))) := ab_other e104 (by omega) c83
      have c122 : h103[m+64+6]? = some (.inl (.int, 256, .inl (fun _ => 0))) := ab_other e104 (by omega) c84
      have c123 : h103[m+64+7]? = some (.inl (.int, 256, .inl (fun _ => 0))) := ab_other e104 (by omega) c85
      have c124 : h103[m+64+8]? = some (.inl (.int, 1024, .inl (fun _ => 0))) := ab_other e104 (by omega) c86
      have c125 : h103[m+64+9]? = some (.inl (.int, 32, .inl (fun _ => 0))) := ab_other e104 (by omega) c87
      have c126 : h103[m+74]? = some (.inr (13, [.int 0, .int 0, .int 0, .int 0, .ref (m + 74 + 1), .ref (m + 74 + 2), .ref (m + 74 + 3), .ref (m + 74 + 4), .int 0, .ref (m + 74 + 5), .ref (m + 74 + 6), .ref (m + 74 + 7), .ref (m + 74 + 8), .int (-1), .int 0, .int 0, .int 0, .ref (m + 74 + 9)])) := ab_other e104 (by omega) c88
      have c127 : h103[m+74+1]? = some (.inl (.int, 256, .inl (fun _ => 0))) := ab_other e104 (by omega) c89
      have c128 : h103[m+74+2]? = some (.inl (.boolean, 256, .inl (fun _ => 0))) := ab_other e104 (by omega) c90
      have c129 : h103[m+74+3]? = some (.inl (.int, 256, .inl (fun _ => 0))) := ab_other e104 (by omega) c91
      have c130 : h103[m+74+4]? = some (.inl (.int, 12288, .inl (fun _ => 0))) := ab_other e104 (by omega) c92
      have c131 : h103[m+74+5]? = some (.inl (.int, 256, .inl (fun _ => 0))) := ab_other e104 (by omega) c93
      have c132 : h103[m+74+6]? = some (.inl (.int, 256, .inl (fun _ => 0))) := ab_other e104 (by omega) c94
      have c133 : h103[m+74+7]? = some (.inl (.int, 256, .inl (fun _ => 0))) := ab_other e104 (by omega) c95
      have c134 : h103[m+74+8]? = some (.inl (.int, 1024, .inl (fun _ => 0))) := ab_other e104 (by omega) c96
      have c135 : h103[m+74+9]? = some (.inl (.int, 32, .inl (fun _ => 0))) := ab_other e104 (by omega) c97
      have fr136 : ab_fr (fun _ => True) h h103 := ab_fr_set fr98 e104 (by trivial)
      clear c67 c68 c100 c70 c71 c72 c73 c74 c75 c76 c77 c78 c79 c80 c81 c82 c83 c84 c85 c86 c87 c88 c89 c90 c91 c92 c93 c94 c95 c96 c97 fr98 e104
      try clear h65
      obtain ⟨y137, c138⟩ : ∃ f : Nat → Int32, h103[m+100]? = some (.inl (.boolean, 256, .inl f)) := ⟨_, c108⟩
      clear c108
      refine ab_iload d_M_input_180 rfl ?_
      refine ab_if_le (tgt := 189) d_M_input_182 (by decide) (fun q139 => ?_) (fun q139 => by exact absurd (by decide) q139)
      refine ab_aload_n d_M_input_189 rfl rfl rfl ?_
      refine ab_dup d_M_input_190 rfl ?_
      refine ab_get (f := 13) d_M_input_191 c105 rfl (by decide) (k10 6 rfl rfl) rfl ?_
      refine ab_iload d_M_input_194 rfl ?_
      refine ab_iadd d_M_input_196 ?_
      refine ab_topi (fun x140 ex140 => ?_)
      obtain rfl : x140 = 0 := ex140.trans (by decide)
      clear ex140
      refine ab_put (f := 13) d_M_input_197 c105 rfl (by decide) (k10 6 rfl rfl) rfl rfl (fun _ => rfl) (fun _ => rfl) (Nat.le_of_ble_eq_true rfl) ?_
      show ab_V _ _ _ _ _ _ _ 200 [some (.ref m), some (.int 0), some (.int t), some (.int v), some (.int 1), some (.int 0)] [] (h103.set m (.inr (12, [.int 0, .ref (m + 1), .int 0, .ref (m + 2), .ref (m + 33), .int 0, .int (-1), .int (-1), .ref (m + 64), .ref (m + 74), .ref (m + 84), .ref (m + 94), .int 1, .int 0, .ref (m + 99), .ref (m + 100), .ref (m + 101), .ref (m + 102), .ref (m + 103), .ref (m + 104), .int 0, .ref (m + 105), .int 0, .int 0, .int 0, .ref (m + 106), .ref (m + 107), .int 0, .int 0])))
      refine ab_gen (fun h141 e142 => ?_)
      have c143 : h141[m]? = some (.inr (12, [.int 0, .ref (m + 1), .int 0, .ref (m + 2), .ref (m + 33), .int 0, .int (-1), .int (-1), .ref (m + 64), .ref (m + 74), .ref (m + 84), .ref (m + 94), .int 1, .int 0, .ref (m + 99), .ref (m + 100), .ref (m + 101), .ref (m + 102), .ref (m + 103), .ref (m + 104), .int 0, .ref (m + 105), .int 0, .int 0, .int 0, .ref (m + 106), .ref (m + 107), .int 0, .int 0])) := ab_self e142 c105
      have c144 : h141[m+1]? = some (.inl (.byte, 6000, .inl (fun _ => 0))) := ab_other e142 (by omega) c106
      have c145 : h141[m+99]? = some (.inl (.int, 256, .inl y99)) := ab_other e142 (by omega) c107
      have c146 : h141[m+100]? = some (.inl (.boolean, 256, .inl y137)) := ab_other e142 (by omega) c138
      have c147 : h141[m+101]? = some (.inl (.int, 64, .inl (fun _ => 0))) := ab_other e142 (by omega) c109
      have c148 : h141[m+102]? = some (.inl (.int, 4, .inl (fun _ => 0))) := ab_other e142 (by omega) c110
      have c149 : h141[m+103]? = some (.inl (.int, 4, .inl (fun _ => 0))) := ab_other e142 (by omega) c111
      have c150 : h141[m+104]? = some (.inl (.int, 256, .inl (fun _ => 0))) := ab_other e142 (by omega) c112
      have c151 : h141[m+105]? = some (.inl (.byte, 58000, .inl (fun _ => 0))) := ab_other e142 (by omega) c113
      have c152 : h141[m+106]? = some (.inl (.boolean, 8, .inl (a0_M w 25))) := ab_other e142 (by omega) c114
      have c153 : h141[m+107]? = some (.inl (.boolean, 8, .inl (fun _ => 0))) := ab_other e142 (by omega) c115
      have c154 : h141[m+64]? = some (.inr (13, [.int 0, .int 0, .int 0, .int 0, .ref (m + 64 + 1), .ref (m + 64 + 2), .ref (m + 64 + 3), .ref (m + 64 + 4), .int 0, .ref (m + 64 + 5), .ref (m + 64 + 6), .ref (m + 64 + 7), .ref (m + 64 + 8), .int (-1), .int 0, .int 0, .int 0, .ref (m + 64 + 9)])) := ab_other e142 (by omega) c116
      have c155 : h141[m+64+1]? = some (.inl (.int, 256, .inl (fun _ => 0))) := ab_other e142 (by omega) c117
      have c156 : h141[m+64+2]? = some (.inl (.boolean, 256, .inl (fun _ => 0))) := ab_other e142 (by omega) c118
      have c157 : h141[m+64+3]? = some (.inl (.int, 256, .inl (fun _ => 0))) := ab_other e142 (by omega) c119
      have c158 : h141[m+64+4]? = some (.inl (.int, 12288, .inl (fun _ => 0))) := ab_other e142 (by omega) c120
      have c159 : h141[m+64+5]? = some (.inl (.int, 256, .inl (fun _ => 0))) := ab_other e142 (by omega) c121
      have c160 : h141[m+64+6]? = some (.inl (.int, 256, .inl (fun _ => 0))) := ab_other e142 (by omega) c122
      have c161 : h141[m+64+7]? = some (.inl (.int, 256, .inl (fun _ => 0))) := ab_other e142 (by omega) c123
      have c162 : h141[m+64+8]? = some (.inl (.int, 1024, .inl (fun _ => 0))) := ab_other e142 (by omega) c124
      have c163 : h141[m+64+9]? = some (.inl (.int, 32, .inl (fun _ => 0))) := ab_other e142 (by omega) c125
      have c164 : h141[m+74]? = some (.inr (13, [.int 0, .int 0, .int 0, .int 0, .ref (m + 74 + 1), .ref (m + 74 + 2), .ref (m + 74 + 3), .ref (m + 74 + 4), .int 0, .ref (m + 74 + 5), .ref (m + 74 + 6), .ref (m + 74 + 7), .ref (m + 74 + 8), .int (-1), .int 0, .int 0, .int 0, .ref (m + 74 + 9)])) := ab_other e142 (by omega) c126
      have c165 : h141[m+74+1]? = some (.inl (.int, 256, .inl (fun _ => 0))) := ab_other e142 (by omega) c127
      have c166 : h141[m+74+2]? = some (.inl (.boolean, 256, .inl (fun _ => 0))) := ab_other e142 (by omega) c128
      have c167 : h141[m+74+3]? = some (.inl (.int, 256, .inl (fun _ => 0))) := ab_other e142 (by omega) c129
      have c168 : h141[m+74+4]? = some (.inl (.int, 12288, .inl (fun _ => 0))) := ab_other e142 (by omega) c130
      have c169 : h141[m+74+5]? = some (.inl (.int, 256, .inl (fun _ => 0))) := ab_other e142 (by omega) c131
      have c170 : h141[m+74+6]? = some (.inl (.int, 256, .inl (fun _ => 0))) := ab_other e142 (by omega) c132
      have c171 : h141[m+74+7]? = some (.inl (.int, 256, .inl (fun _ => 0))) := ab_other e142 (by omega) c133
      have c172 : h141[m+74+8]? = some (.inl (.int, 1024, .inl (fun _ => 0))) := ab_other e142 (by omega) c134
      have c173 : h141[m+74+9]? = some (.inl (.int, 32, .inl (fun _ => 0))) := ab_other e142 (by omega) c135
      have fr174 : ab_fr (fun _ => True) h h141 := ab_fr_set fr136 e142 (by trivial)
      clear c105 c106 c107 c138 c109 c110 c111 c112 c113 c114 c115 c116 c117 c118 c119 c120 c121 c122 c123 c124 c125 c126 c127 c128 c129 c130 c131 c132 c133 c134 c135 fr136 e142
      try clear h103
      refine ab_aload_n d_M_input_200 rfl rfl rfl ?_
      refine ab_callV_v (As := []) (rest := []) d_M_input_201 (r_M_confirms c143 c164 c154) (ab_mkC s_M_confirms (Nat.le_of_ble_eq_true rfl) (Nat.le_of_ble_eq_true rfl) (by decide) (by decide)) (k12 160 rfl rfl) i_M_confirms v_M_confirms c143 rfl rfl (Nat.le_of_ble_eq_true rfl) (fun h176 q175 => ?_)
      subst q175
      refine ab_iload d_M_input_204 rfl ?_
      exact ab_iret d_M_input_206 rfl (Nat.le_refl _) (Nat.le_refl _) (by unfold sq_M_input_0; rw [if_neg t46]; rw [if_neg t49]; exact ⟨rfl, trivial⟩)
    · exact absurd (pos2 t46) q62
def sq_M_seat_00  : Int32 := (1)
set_option maxRecDepth 20000 in
set_option maxHeartbeats 2000000 in
theorem f_M_seat_00 {h : List ab_E}   {m : Nat} {w : Int32}   (h0 : at_M0 h m w) : ab_M y_M_seat { frames := 1, cells := 0, slots := 0, locals := 40 } [.ref m, .int 0, .int 0] h (ab_A (some (.int (sq_M_seat_00 ))) (fun h1 => True)) := by
  obtain ⟨hM, hT, hO, hS, hN, hD, hR⟩ := h0
  have hM0 := hM; obtain ⟨gmo, gm1, gm14, gm15, gm16, gm17, gm18, gm19, gm21, gm25, gm26⟩ := hM
  replace gmo : h[m]? = some (.inr (12, [.int 0, .ref (m + 1), .int 0, .ref (m + 2), .ref (m + 33), .int 0, .int (-1), .int (-1), .ref (m + 64), .ref (m + 74), .ref (m + 84), .ref (m + 94), .int 1, .int 0, .ref (m + 99), .ref (m + 100), .ref (m + 101), .ref (m + 102), .ref (m + 103), .ref (m + 104), .int 0, .ref (m + 105), .int 0, .int 0, .int 0, .ref (m + 106), .ref (m + 107), .int 0, .int 0])) := gmo
  replace gm1 : h[m + 1]? = some (.inl (.byte, 6000, .inl (fun _ => 0))) := (by rw [a0_M_0 w (by decide)] at gm1; exact gm1)
  replace gm14 : h[m + 99]? = some (.inl (.int, 256, .inl (fun _ => 0))) := (by rw [a0_M_0 w (by decide)] at gm14; exact gm14)
  replace gm15 : h[m + 100]? = some (.inl (.boolean, 256, .inl (fun _ => 0))) := (by rw [a0_M_0 w (by decide)] at gm15; exact gm15)
  replace gm16 : h[m + 101]? = some (.inl (.int, 64, .inl (fun _ => 0))) := (by rw [a0_M_0 w (by decide)] at gm16; exact gm16)
  replace gm17 : h[m + 102]? = some (.inl (.int, 4, .inl (fun _ => 0))) := (by rw [a0_M_0 w (by decide)] at gm17; exact gm17)
  replace gm18 : h[m + 103]? = some (.inl (.int, 4, .inl (fun _ => 0))) := (by rw [a0_M_0 w (by decide)] at gm18; exact gm18)
  replace gm19 : h[m + 104]? = some (.inl (.int, 256, .inl (fun _ => 0))) := (by rw [a0_M_0 w (by decide)] at gm19; exact gm19)
  replace gm21 : h[m + 105]? = some (.inl (.byte, 58000, .inl (fun _ => 0))) := (by rw [a0_M_0 w (by decide)] at gm21; exact gm21)
  replace gm25 : h[m + 106]? = some (.inl (.boolean, 8, .inl (a0_M w 25))) := gm25
  replace gm26 : h[m + 107]? = some (.inl (.boolean, 8, .inl (fun _ => 0))) := (by rw [a0_M_0 w (by decide)] at gm26; exact gm26)
  have hN0 := hN; obtain ⟨gno, gn4, gn5, gn6, gn7, gn9, gn10, gn11, gn12, gn17⟩ := hN
  replace gno : h[m + 74]? = some (.inr (13, [.int 0, .int 0, .int 0, .int 0, .ref (m + 74 + 1), .ref (m + 74 + 2), .ref (m + 74 + 3), .ref (m + 74 + 4), .int 0, .ref (m + 74 + 5), .ref (m + 74 + 6), .ref (m + 74 + 7), .ref (m + 74 + 8), .int (-1), .int 0, .int 0, .int 0, .ref (m + 74 + 9)])) := gno
  replace gn4 : h[m + 74 + 1]? = some (.inl (.int, 256, .inl (fun _ => 0))) := gn4
  replace gn5 : h[m + 74 + 2]? = some (.inl (.boolean, 256, .inl (fun _ => 0))) := gn5
  replace gn6 : h[m + 74 + 3]? = some (.inl (.int, 256, .inl (fun _ => 0))) := gn6
  replace gn7 : h[m + 74 + 4]? = some (.inl (.int, 12288, .inl (fun _ => 0))) := gn7
  replace gn9 : h[m + 74 + 5]? = some (.inl (.int, 256, .inl (fun _ => 0))) := gn9
  replace gn10 : h[m + 74 + 6]? = some (.inl (.int, 256, .inl (fun _ => 0))) := gn10
  replace gn11 : h[m + 74 + 7]? = some (.inl (.int, 256, .inl (fun _ => 0))) := gn11
  replace gn12 : h[m + 74 + 8]? = some (.inl (.int, 1024, .inl (fun _ => 0))) := gn12
  replace gn17 : h[m + 74 + 9]? = some (.inl (.int, 32, .inl (fun _ => 0))) := gn17
  refine ab_of2 (lv := [some (.ref m), some (.int 0), some (.int 0), none]) 1 rfl rfl (Nat.le_of_ble_eq_true rfl) ?_
  refine ab_aload_n d_M_seat_0 rfl rfl rfl ?_
  refine ab_iconst (v := 0) d_M_seat_1 (by decide) ?_
  refine ab_put (f := 0) d_M_seat_2 gmo rfl (by decide) (k9 233 rfl rfl) rfl rfl (fun _ => rfl) (fun _ => rfl) (Nat.le_of_ble_eq_true rfl) ?_
  show ab_V _ _ _ _ _ _ _ 5 [some (.ref m), some (.int 0), some (.int 0), none] [] (h.set m (.inr (12, [.int 0, .ref (m + 1), .int 0, .ref (m + 2), .ref (m + 33), .int 0, .int (-1), .int (-1), .ref (m + 64), .ref (m + 74), .ref (m + 84), .ref (m + 94), .int 1, .int 0, .ref (m + 99), .ref (m + 100), .ref (m + 101), .ref (m + 102), .ref (m + 103), .ref (m + 104), .int 0, .ref (m + 105), .int 0, .int 0, .int 0, .ref (m + 106), .ref (m + 107), .int 0, .int 0])))
  refine ab_gen (fun h1 e2 => ?_)
  have c3 : h1[m]? = some (.inr (12, [.int 0, .ref (m + 1), .int 0, .ref (m + 2), .ref (m + 33), .int 0, .int (-1), .int (-1), .ref (m + 64), .ref (m + 74), .ref (m + 84), .ref (m + 94), .int 1, .int 0, .ref (m + 99), .ref (m + 100), .ref (m + 101), .ref (m + 102), .ref (m + 103), .ref (m + 104), .int 0, .ref (m + 105), .int 0, .int 0, .int 0, .ref (m + 106), .ref (m + 107), .int 0, .int 0])) := ab_self e2 gmo
  have c4 : h1[m+1]? = some (.inl (.byte, 6000, .inl (fun _ => 0))) := ab_other e2 (by omega) gm1
  have c5 : h1[m+99]? = some (.inl (.int, 256, .inl (fun _ => 0))) := ab_other e2 (by omega) gm14
  have c6 : h1[m+100]? = some (.inl (.boolean, 256, .inl (fun _ => 0))) := ab_other e2 (by omega) gm15
  have c7 : h1[m+101]? = some (.inl (.int, 64, .inl (fun _ => 0))) := ab_other e2 (by omega) gm16
  have c8 : h1[m+102]? = some (.inl (.int, 4, .inl (fun _ => 0))) := ab_other e2 (by omega) gm17
  have c9 : h1[m+103]? = some (.inl (.int, 4, .inl (fun _ => 0))) := ab_other e2 (by omega) gm18
  have c10 : h1[m+104]? = some (.inl (.int, 256, .inl (fun _ => 0))) := ab_other e2 (by omega) gm19
  have c11 : h1[m+105]? = some (.inl (.byte, 58000, .inl (fun _ => 0))) := ab_other e2 (by omega) gm21
  have c12 : h1[m+106]? = some (.inl (.boolean, 8, .inl (a0_M w 25))) := ab_other e2 (by omega) gm25
  have c13 : h1[m+107]? = some (.inl (.boolean, 8, .inl (fun _ => 0))) := ab_other e2 (by omega) gm26
  have c14 : h1[m+74]? = some (.inr (13, [.int 0, .int 0, .int 0, .int 0, .ref (m + 74 + 1), .ref (m + 74 + 2), .ref (m + 74 + 3), .ref (m + 74 + 4), .int 0, .ref (m + 74 + 5), .ref (m + 74 + 6), .ref (m + 74 + 7), .ref (m + 74 + 8), .int (-1), .int 0, .int 0, .int 0, .ref (m + 74 + 9)])) := ab_other e2 (by omega) gno
  have c15 : h1[m+74+1]? = some (.inl (.int, 256, .inl (fun _ => 0))) := ab_other e2 (by omega) gn4
  have c16 : h1[m+74+2]? = some (.inl (.boolean, 256, .inl (fun _ => 0))) := ab_other e2 (by omega) gn5
  have c17 : h1[m+74+3]? = some (.inl (.int, 256, .inl (fun _ => 0))) := ab_other e2 (by omega) gn6
  have c18 : h1[m+74+4]? = some (.inl (.int, 12288, .inl (fun _ => 0))) := ab_other e2 (by omega) gn7
  have c19 : h1[m+74+5]? = some (.inl (.int, 256, .inl (fun _ => 0))) := ab_other e2 (by omega) gn9
  have c20 : h1[m+74+6]? = some (.inl (.int, 256, .inl (fun _ => 0))) := ab_other e2 (by omega) gn10
  have c21 : h1[m+74+7]? = some (.inl (.int, 256, .inl (fun _ => 0))) := ab_other e2 (by omega) gn11
  have c22 : h1[m+74+8]? = some (.inl (.int, 1024, .inl (fun _ => 0))) := ab_other e2 (by omega) gn12
  have c23 : h1[m+74+9]? = some (.inl (.int, 32, .inl (fun _ => 0))) := ab_other e2 (by omega) gn17
  have fr24 : ab_fr (fun _ => True) h h1 := ab_fr_set (ab_fr_rf _ _) e2 (by trivial)
  clear e2
  refine ab_iload_n d_M_seat_5 rfl rfl ?_
  refine ab_i2l d_M_seat_6 ?_
  refine ab_topl (fun x25 ex25 => ?_)
  obtain rfl : x25 = 0 := ex25.trans (by decide)
  clear ex25
  refine ab_lconst (v := 0) d_M_seat_7 (by decide) ?_
  refine ab_ldc2 d_M_seat_8 (k12 168 rfl rfl) ?_
  refine ab_callS_a (As := [.long 0, .long 0, .long 3]) (rest := []) d_M_seat_11 (c_M_in) (ab_mkC s_M_in (Nat.le_of_ble_eq_true rfl) (Nat.le_of_ble_eq_true rfl) (by decide) (by decide)) (k10 93 rfl rfl) t_M_in rfl (Nat.le_of_ble_eq_true rfl) (fun h27 q26 => ?_)
  subst q26
  refine ab_topi (fun x28 ex28 => ?_)
  obtain rfl : x28 = 1 := ex28.trans (by decide)
  clear ex28
  refine ab_if_eq (tgt := 38) d_M_seat_14 (by decide) (fun q29 => by exact absurd q29 (by decide)) (fun q29 => ?_)
  refine ab_aload_n d_M_seat_17 rfl rfl rfl ?_
  refine ab_get (f := 12) d_M_seat_18 c3 rfl (by decide) (k10 5 rfl rfl) rfl ?_
  refine ab_iload_n d_M_seat_21 rfl rfl ?_
  refine ab_ishr d_M_seat_22 ?_
  refine ab_topi (fun x30 ex30 => ?_)
  obtain rfl : x30 = 1 := ex30.trans (by decide)
  clear ex30
  refine ab_iconst (v := 1) d_M_seat_23 (by decide) ?_
  refine ab_iand d_M_seat_24 ?_
  refine ab_topi (fun x31 ex31 => ?_)
  obtain rfl : x31 = 1 := ex31.trans (by decide)
  clear ex31
  refine ab_iconst (v := 1) d_M_seat_25 (by decide) ?_
  refine ab_icmp_ne (tgt := 33) d_M_seat_26 (by decide) (fun q32 => by exact absurd q32 (by decide)) (fun q32 => ?_)
  refine ab_iconst (v := 1) d_M_seat_29 (by decide) ?_
  refine ab_goto (tgt := 34) d_M_seat_30 (by decide) ?_
  refine ab_iload_n d_M_seat_34 rfl rfl ?_
  refine ab_icmp_ne (tgt := 40) d_M_seat_35 (by decide) (fun q33 => ?_) (fun q33 => by exact absurd q33 (by decide))
  refine ab_aload_n d_M_seat_40 rfl rfl rfl ?_
  refine ab_dup d_M_seat_41 rfl ?_
  refine ab_get (f := 12) d_M_seat_42 c3 rfl (by decide) (k10 5 rfl rfl) rfl ?_
  refine ab_iconst (v := 1) d_M_seat_45 (by decide) ?_
  refine ab_iload_n d_M_seat_46 rfl rfl ?_
  refine ab_ishl d_M_seat_47 ?_
  refine ab_topi (fun x34 ex34 => ?_)
  obtain rfl : x34 = 1 := ex34.trans (by decide)
  clear ex34
  refine ab_ixor d_M_seat_48 ?_
  refine ab_topi (fun x35 ex35 => ?_)
  obtain rfl : x35 = 0 := ex35.trans (by decide)
  clear ex35
  refine ab_put (f := 12) d_M_seat_49 c3 rfl (by decide) (k10 5 rfl rfl) rfl rfl (fun _ => rfl) (fun _ => rfl) (Nat.le_of_ble_eq_true rfl) ?_
  show ab_V _ _ _ _ _ _ _ 52 [some (.ref m), some (.int 0), some (.int 0), none] [] (h1.set m (.inr (12, [.int 0, .ref (m + 1), .int 0, .ref (m + 2), .ref (m + 33), .int 0, .int (-1), .int (-1), .ref (m + 64), .ref (m + 74), .ref (m + 84), .ref (m + 94), .int 0, .int 0, .ref (m + 99), .ref (m + 100), .ref (m + 101), .ref (m + 102), .ref (m + 103), .ref (m + 104), .int 0, .ref (m + 105), .int 0, .int 0, .int 0, .ref (m + 106), .ref (m + 107), .int 0, .int 0])))
  refine ab_gen (fun h36 e37 => ?_)
  have c38 : h36[m]? = some (.inr (12, [.int 0, .ref (m + 1), .int 0, .ref (m + 2), .ref (m + 33), .int 0, .int (-1), .int (-1), .ref (m + 64), .ref (m + 74), .ref (m + 84), .ref (m + 94), .int 0, .int 0, .ref (m + 99), .ref (m + 100), .ref (m + 101), .ref (m + 102), .ref (m + 103), .ref (m + 104), .int 0, .ref (m + 105), .int 0, .int 0, .int 0, .ref (m + 106), .ref (m + 107), .int 0, .int 0])) := ab_self e37 c3
  have c39 : h36[m+1]? = some (.inl (.byte, 6000, .inl (fun _ => 0))) := ab_other e37 (by omega) c4
  have c40 : h36[m+99]? = some (.inl (.int, 256, .inl (fun _ => 0))) := ab_other e37 (by omega) c5
  have c41 : h36[m+100]? = some (.inl (.boolean, 256, .inl (fun _ => 0))) := ab_other e37 (by omega) c6
  have c42 : h36[m+101]? = some (.inl (.int, 64, .inl (fun _ => 0))) := ab_other e37 (by omega) c7
  have c43 : h36[m+102]? = some (.inl (.int, 4, .inl (fun _ => 0))) := ab_other e37 (by omega) c8
  have c44 : h36[m+103]? = some (.inl (.int, 4, .inl (fun _ => 0))) := ab_other e37 (by omega) c9
  have c45 : h36[m+104]? = some (.inl (.int, 256, .inl (fun _ => 0))) := ab_other e37 (by omega) c10
  have c46 : h36[m+105]? = some (.inl (.byte, 58000, .inl (fun _ => 0))) := ab_other e37 (by omega) c11
  have c47 : h36[m+106]? = some (.inl (.boolean, 8, .inl (a0_M w 25))) := ab_other e37 (by omega) c12
  have c48 : h36[m+107]? = some (.inl (.boolean, 8, .inl (fun _ => 0))) := ab_other e37 (by omega) c13
  have c49 : h36[m+74]? = some (.inr (13, [.int 0, .int 0, .int 0, .int 0, .ref (m + 74 + 1), .ref (m + 74 + 2), .ref (m + 74 + 3), .ref (m + 74 + 4), .int 0, .ref (m + 74 + 5), .ref (m + 74 + 6), .ref (m + 74 + 7), .ref (m + 74 + 8), .int (-1), .int 0, .int 0, .int 0, .ref (m + 74 + 9)])) := ab_other e37 (by omega) c14
  have c50 : h36[m+74+1]? = some (.inl (.int, 256, .inl (fun _ => 0))) := ab_other e37 (by omega) c15
  have c51 : h36[m+74+2]? = some (.inl (.boolean, 256, .inl (fun _ => 0))) := ab_other e37 (by omega) c16
  have c52 : h36[m+74+3]? = some (.inl (.int, 256, .inl (fun _ => 0))) := ab_other e37 (by omega) c17
  have c53 : h36[m+74+4]? = some (.inl (.int, 12288, .inl (fun _ => 0))) := ab_other e37 (by omega) c18
  have c54 : h36[m+74+5]? = some (.inl (.int, 256, .inl (fun _ => 0))) := ab_other e37 (by omega) c19
  have c55 : h36[m+74+6]? = some (.inl (.int, 256, .inl (fun _ => 0))) := ab_other e37 (by omega) c20
  have c56 : h36[m+74+7]? = some (.inl (.int, 256, .inl (fun _ => 0))) := ab_other e37 (by omega) c21
  have c57 : h36[m+74+8]? = some (.inl (.int, 1024, .inl (fun _ => 0))) := ab_other e37 (by omega) c22
  have c58 : h36[m+74+9]? = some (.inl (.int, 32, .inl (fun _ => 0))) := ab_other e37 (by omega) c23
  have fr59 : ab_fr (fun _ => True) h h36 := ab_fr_set fr24 e37 (by trivial)
  clear c3 c4 c5 c6 c7 c8 c9 c10 c11 c12 c13 c14 c15 c16 c17 c18 c19 c20 c21 c22 c23 fr24 e37
  try clear h1
  refine ab_aload_n d_M_seat_52 rfl rfl rfl ?_
  refine ab_get (f := 9) d_M_seat_53 c38 rfl (by decide) (k10 2 rfl rfl) rfl ?_
  refine ab_getN (f := 0) d_M_seat_56 c49 rfl (by decide) (k9 89 rfl rfl) rfl ?_
  refine ab_iconst (v := 1) d_M_seat_59 (by decide) ?_
  refine ab_iadd d_M_seat_60 ?_
  refine ab_topi (fun x60 ex60 => ?_)
  obtain rfl : x60 = 1 := ex60.trans (by decide)
  clear ex60
  refine ab_istore_n (lv' := [some (.ref m), some (.int 0), some (.int 0), some (.int 1)]) d_M_seat_61 rfl (by decide) rfl ?_
  refine ab_iload_n d_M_seat_62 rfl rfl ?_
  refine ab_if_ne (tgt := 98) d_M_seat_63 (by decide) (fun q61 => by exact absurd q61 (by decide)) (fun q61 => ?_)
  refine ab_iload_n d_M_seat_66 rfl rfl ?_
  refine ab_aload_n d_M_seat_67 rfl rfl rfl ?_
  refine ab_get (f := 9) d_M_seat_68 c38 rfl (by decide) (k10 2 rfl rfl) rfl ?_
  refine ab_getN (f := 0) d_M_seat_71 c49 rfl (by decide) (k9 89 rfl rfl) rfl ?_
  refine ab_bipush (v := 16) d_M_seat_74 (by decide) ?_
  refine ab_iadd d_M_seat_76 ?_
  refine ab_topi (fun x62 ex62 => ?_)
  obtain rfl : x62 = 16 := ex62.trans (by decide)
  clear ex62
  refine ab_icmp_gt (tgt := 98) d_M_seat_77 (by decide) (fun q63 => by exact absurd q63 (by decide)) (fun q63 => ?_)
  refine ab_aload_n d_M_seat_80 rfl rfl rfl ?_
  refine ab_get (f := 15) d_M_seat_81 c38 rfl (by decide) (k10 8 rfl rfl) rfl ?_
  refine ab_aload_n d_M_seat_84 rfl rfl rfl ?_
  refine ab_iload_n d_M_seat_85 rfl rfl ?_
  refine ab_iload_n d_M_seat_86 rfl rfl ?_
  refine ab_callV_a (As := [.int 0, .int 1]) (rest := [.ref (m + 100)]) d_M_seat_87 (r_M_slot c38) (ab_mkC s_M_slot (Nat.le_of_ble_eq_true rfl) (Nat.le_of_ble_eq_true rfl) (by decide) (by decide)) (k11 210 rfl rfl) i_M_slot v_M_slot c38 rfl rfl (Nat.le_of_ble_eq_true rfl) (fun h65 q64 => ?_)
  subst q64
  refine ab_topi (fun x66 ex66 => ?_)
  obtain rfl : x66 = 1 := ex66.trans (by decide)
  clear ex66
  refine ab_iconst (v := 0) d_M_seat_90 (by decide) ?_
  refine ab_zast d_M_seat_91 tZ c41 (in_of (by decide) (by decide) (by decide)) ?_
  refine ab_gen (fun h67 e68 => ?_)
  have c69 : h67[m]? = some (.inr (12, [.int 0, .ref (m + 1), .int 0, .ref (m + 2), .ref (m + 33), .int 0, .int (-1), .int (-1), .ref (m + 64), .ref (m + 74), .ref (m + 84), .ref (m + 94), .int 0, .int 0, .ref (m + 99), .ref (m + 100), .ref (m + 101), .ref (m + 102), .ref (m + 103), .ref (m + 104), .int 0, .ref (m + 105), .int 0, .int 0, .int 0, .ref (m + 106), .ref (m + 107), .int 0, .int 0])) := ab_other e68 (by omega) c38
  have c70 : h67[m+1]? = some (.inl (.byte, 6000, .inl (fun _ => 0))) := ab_other e68 (by omega) c39
  have c71 : h67[m+99]? = some (.inl (.int, 256, .inl (fun _ => 0))) := ab_other e68 (by omega) c40
  have c72 : h67[m+100]? = some (.inl (.boolean, 256, .inl (upd (fun _ => 0) (1 : Int32).toNatClampNeg (vp_nar .boolean 0)))) := ab_self e68 c41
  have c73 : h67[m+101]? = some (.inl (.int, 64, .inl (fun _ => 0))) := ab_other e68 (by omega) c42
  have c74 : h67[m+102]? = some (.inl (.int, 4, .inl (fun _ => 0))) := ab_other e68 (by omega) c43
  have c75 : h67[m+103]? = some (.inl (.int, 4, .inl (fun _ => 0))) := ab_other e68 (by omega) c44
  have c76 : h67[m+104]? = some (.inl (.int, 256, .inl (fun _ => 0))) := ab_other e68 (by omega) c45
  have c77 : h67[m+105]? = some (.inl (.byte, 58000, .inl (fun _ => 0))) := ab_other e68 (by omega) c46
  have c78 : h67[m+106]? = some (.inl (.boolean, 8, .inl (a0_M w 25))) := ab_other e68 (by omega) c47
  have c79 : h67[m+107]? = some (.inl (.boolean, 8, .inl (fun _ => 0))) := ab_other e68 (by omega) c48
  have c80 : h67[m+74]? = some (.inr (13, [.int 0, .int 0, .int 0, .int 0, .ref (m + 74 + 1), .ref (m + 74 + 2), .ref (m + 74 + 3), .ref (m + 74 + 4), .int 0, .ref (m + 74 + 5), .ref (m + 74 + 6), .ref (m + 74 + 7), .ref (m + 74 + 8), .int (-1), .int 0, .int 0, .int 0, .ref (m + 74 + 9)])) := ab_other e68 (by omega) c49
  have c81 : h67[m+74+1]? = some (.inl (.int, 256, .inl (fun _ => 0))) := ab_other e68 (by omega) c50
  have c82 : h67[m+74+2]? = some (.inl (.boolean, 256, .inl (fun _ => 0))) := ab_other e68 (by omega) c51
  have c83 : h67[m+74+3]? = some (.inl (.int, 256, .inl (fun _ => 0))) := ab_other e68 (by omega) c52
  have c84 : h67[m+74+4]? = some (.inl (.int, 12288, .inl (fun _ => 0))) := ab_other e68 (by omega) c53
  have c85 : h67[m+74+5]? = some (.inl (.int, 256, .inl (fun _ => 0))) := ab_other e68 (by omega) c54
  have c86 : h67[m+74+6]? = some (.inl (.int, 256, .inl (fun _ => 0))) := ab_other e68 (by omega) c55
  have c87 : h67[m+74+7]? = some (.inl (.int, 256, .inl (fun _ => 0))) := ab_other e68 (by omega) c56
  have c88 : h67[m+74+8]? = some (.inl (.int, 1024, .inl (fun _ => 0))) := ab_other e68 (by omega) c57
  have c89 : h67[m+74+9]? = some (.inl (.int, 32, .inl (fun _ => 0))) := ab_other e68 (by omega) c58
  have fr90 : ab_fr (fun _ => True) h h67 := ab_fr_set fr59 e68 (by trivial)
  clear c38 c39 c40 c41 c42 c43 c44 c45 c46 c47 c48 c49 c50 c51 c52 c53 c54 c55 c56 c57 c58 fr59 e68
  try clear h36
  obtain ⟨y91, c92⟩ : ∃ f : Nat → Int32, h67[m+100]? = some (.inl (.boolean, 256, .inl f)) := ⟨_, c72⟩
  clear c72
  refine ab_iinc (v := 2) (lv' := [some (.ref m), some (.int 0), some (.int 0), some (.int 2)]) d_M_seat_92 rfl (by decide) (by decide) rfl ?_
  refine ab_goto (tgt := 62) d_M_seat_95 (by decide) ?_
  refine ab_iload_n d_M_seat_62 rfl rfl ?_
  refine ab_if_ne (tgt := 98) d_M_seat_63 (by decide) (fun q93 => by exact absurd q93 (by decide)) (fun q93 => ?_)
  refine ab_iload_n d_M_seat_66 rfl rfl ?_
  refine ab_aload_n d_M_seat_67 rfl rfl rfl ?_
  refine ab_get (f := 9) d_M_seat_68 c69 rfl (by decide) (k10 2 rfl rfl) rfl ?_
  refine ab_getN (f := 0) d_M_seat_71 c80 rfl (by decide) (k9 89 rfl rfl) rfl ?_
  refine ab_bipush (v := 16) d_M_seat_74 (by decide) ?_
  refine ab_iadd d_M_seat_76 ?_
  refine ab_topi (fun x94 ex94 => ?_)
  obtain rfl : x94 = 16 := ex94.trans (by decide)
  clear ex94
  refine ab_icmp_gt (tgt := 98) d_M_seat_77 (by decide) (fun q95 => by exact absurd q95 (by decide)) (fun q95 => ?_)
  refine ab_aload_n d_M_seat_80 rfl rfl rfl ?_
  refine ab_get (f := 15) d_M_seat_81 c69 rfl (by decide) (k10 8 rfl rfl) rfl ?_
  refine ab_aload_n d_M_seat_84 rfl rfl rfl ?_
  refine ab_iload_n d_M_seat_85 rfl rfl ?_
  refine ab_iload_n d_M_seat_86 rfl rfl ?_
  refine ab_callV_a (As := [.int 0, .int 2]) (rest := [.ref (m + 100)]) d_M_seat_87 (r_M_slot c69) (ab_mkC s_M_slot (Nat.le_of_ble_eq_true rfl) (Nat.le_of_ble_eq_true rfl) (by decide) (by decide)) (k11 210 rfl rfl) i_M_slot v_M_slot c69 rfl rfl (Nat.le_of_ble_eq_true rfl) (fun h97 q96 => ?_)
  subst q96
  refine ab_topi (fun x98 ex98 => ?_)
  obtain rfl : x98 = 2 := ex98.trans (by decide)
  clear ex98
  refine ab_iconst (v := 0) d_M_seat_90 (by decide) ?_
  refine ab_zast d_M_seat_91 tZ c92 (in_of (by decide) (by decide) (by decide)) ?_
  refine ab_gen (fun h99 e100 => ?_)
  have c101 : h99[m]? = some (.inr (12, [.int 0, .ref (m + 1), .int 0, .ref (m + 2), .ref (m + 33), .int 0, .int (-1), .int (-1), .ref (m + 64), .ref (m + 74), .ref (m + 84), .ref (m + 94), .int 0, .int 0, .ref (m + 99), .ref (m + 100), .ref (m + 101), .ref (m + 102), .ref (m + 103), .ref (m + 104), .int 0, .ref (m + 105), .int 0, .int 0, .int 0, .ref (m + 106), .ref (m + 107), .int 0, .int 0])) := ab_other e100 (by omega) c69
  have c102 : h99[m+1]? = some (.inl (.byte, 6000, .inl (fun _ => 0))) := ab_other e100 (by omega) c70
  have c103 : h99[m+99]? = some (.inl (.int, 256, .inl (fun _ => 0))) := ab_other e100 (by omega) c71
  have c104 : h99[m+100]? = some (.inl (.boolean, 256, .inl (upd y91 (2 : Int32).toNatClampNeg (vp_nar .boolean 0)))) := ab_self e100 c92
  have c105 : h99[m+101]? = some (.inl (.int, 64, .inl (fun _ => 0))) := ab_other e100 (by omega) c73
  have c106 : h99[m+102]? = some (.inl (.int, 4, .inl (fun _ => 0))) := ab_other e100 (by omega) c74
  have c107 : h99[m+103]? = some (.inl (.int, 4, .inl (fun _ => 0))) := ab_other e100 (by omega) c75
  have c108 : h99[m+104]? = some (.inl (.int, 256, .inl (fun _ => 0))) := ab_other e100 (by omega) c76
  have c109 : h99[m+105]? = some (.inl (.byte, 58000, .inl (fun _ => 0))) := ab_other e100 (by omega) c77
  have c110 : h99[m+106]? = some (.inl (.boolean, 8, .inl (a0_M w 25))) := ab_other e100 (by omega) c78
  have c111 : h99[m+107]? = some (.inl (.boolean, 8, .inl (fun _ => 0))) := ab_other e100 (by omega) c79
  have c112 : h99[m+74]? = some (.inr (13, [.int 0, .int 0, .int 0, .int 0, .ref (m + 74 + 1), .ref (m + 74 + 2), .ref (m + 74 + 3), .ref (m + 74 + 4), .int 0, .ref (m + 74 + 5), .ref (m + 74 + 6), .ref (m + 74 + 7), .ref (m + 74 + 8), .int (-1), .int 0, .int 0, .int 0, .ref (m + 74 + 9)])) := ab_other e100 (by omega) c80
  have c113 : h99[m+74+1]? = some (.inl (.int, 256, .inl (fun _ => 0))) := ab_other e100 (by omega) c81
  have c114 : h99[m+74+2]? = some (.inl (.boolean, 256, .inl (fun _ => 0))) := ab_other e100 (by omega) c82
  have c115 : h99[m+74+3]? = some (.inl (.int, 256, .inl (fun _ => 0))) := ab_other e100 (by omega) c83
  have c116 : h99[m+74+4]? = some (.inl (.int, 12288, .inl (fun _ => 0))) := ab_other e100 (by omega) c84
  have c117 : h99[m+74+5]? = some (.inl (.int, 256, .inl (fun _ => 0))) := ab_other e100 (by omega) c85
  have c118 : h99[m+74+6]? = some (.inl (.int, 256, .inl (fun _ => 0))) := ab_other e100 (by omega) c86
  have c119 : h99[m+74+7]? = some (.inl (.int, 256, .inl (fun _ => 0))) := ab_other e100 (by omega) c87
  have c120 : h99[m+74+8]? = some (.inl (.int, 1024, .inl (fun _ => 0))) := ab_other e100 (by omega) c88
  have c121 : h99[m+74+9]? = some (.inl (.int, 32, .inl (fun _ => 0))) := ab_other e100 (by omega) c89
  have fr122 : ab_fr (fun _ => True) h h99 := ab_fr_set fr90 e100 (by trivial)
  clear c69 c70 c71 c92 c73 c74 c75 c76 c77 c78 c79 c80 c81 c82 c83 c84 c85 c86 c87 c88 c89 fr90 e100
  try clear h67
  obtain ⟨y123, c124⟩ : ∃ f : Nat → Int32, h99[m+100]? = some (.inl (.boolean, 256, .inl f)) := ⟨_, c104⟩
  clear c104
  refine ab_iinc (v := 3) (lv' := [some (.ref m), some (.int 0), some (.int 0), some (.int 3)]) d_M_seat_92 rfl (by decide) (by decide) rfl ?_
  refine ab_goto (tgt := 62) d_M_seat_95 (by decide) ?_
  refine ab_iload_n d_M_seat_62 rfl rfl ?_
  refine ab_if_ne (tgt := 98) d_M_seat_63 (by decide) (fun q125 => by exact absurd q125 (by decide)) (fun q125 => ?_)
  refine ab_iload_n d_M_seat_66 rfl rfl ?_
  refine ab_aload_n d_M_seat_67 rfl rfl rfl ?_
  refine ab_get (f := 9) d_M_seat_68 c101 rfl (by decide) (k10 2 rfl rfl) rfl ?_
  refine ab_getN (f := 0) d_M_seat_71 c112 rfl (by decide) (k9 89 rfl rfl) rfl ?_
  refine ab_bipush (v := 16) d_M_seat_74 (by decide) ?_
  refine ab_iadd d_M_seat_76 ?_
  refine ab_topi (fun x126 ex126 => ?_)
  obtain rfl : x126 = 16 := ex126.trans (by decide)
  clear ex126
  refine ab_icmp_gt (tgt := 98) d_M_seat_77 (by decide) (fun q127 => by exact absurd q127 (by decide)) (fun q127 => ?_)
  refine ab_aload_n d_M_seat_80 rfl rfl rfl ?_
  refine ab_get (f := 15) d_M_seat_81 c101 rfl (by decide) (k10 8 rfl rfl) rfl ?_
  refine ab_aload_n d_M_seat_84 rfl rfl rfl ?_
  refine ab_iload_n d_M_seat_85 rfl rfl ?_
  refine ab_iload_n d_M_seat_86 rfl rfl ?_
  refine ab_callV_a (As := [.int 0, .int 3]) (rest := [.ref (m + 100)]) d_M_seat_87 (r_M_slot c101) (ab_mkC s_M_slot (Nat.le_of_ble_eq_true rfl) (Nat.le_of_ble_eq_true rfl) (by decide) (by decide)) (k11 210 rfl rfl) i_M_slot v_M_slot c101 rfl rfl (Nat.le_of_ble_eq_true rfl) (fun h129 q128 => ?_)
  subst q128
  refine ab_topi (fun x130 ex130 => ?_)
  obtain rfl : x130 = 3 := ex130.trans (by decide)
  clear ex130
  refine ab_iconst (v := 0) d_M_seat_90 (by decide) ?_
  refine ab_zast d_M_seat_91 tZ c124 (in_of (by decide) (by decide) (by decide)) ?_
  refine ab_gen (fun h131 e132 => ?_)
  have c133 : h131[m]? = some (.inr (12, [.int 0, .ref (m + 1), .int 0, .ref (m + 2), .ref (m + 33), .int 0, .int (-1), .int (-1), .ref (m + 64), .ref (m + 74), .ref (m + 84), .ref (m + 94), .int 0, .int 0, .ref (m + 99), .ref (m + 100), .ref (m + 101), .ref (m + 102), .ref (m + 103), .ref (m + 104), .int 0, .ref (m + 105), .int 0, .int 0, .int 0, .ref (m + 106), .ref (m + 107), .int 0, .int 0])) := ab_other e132 (by omega) c101
  have c134 : h131[m+1]? = some (.inl (.byte, 6000, .inl (fun _ => 0))) := ab_other e132 (by omega) c102
  have c135 : h131[m+99]? = some (.inl (.int, 256, .inl (fun _ => 0))) := ab_other e132 (by omega) c103
  have c136 : h131[m+100]? = some (.inl (.boolean, 256, .inl (upd y123 (3 : Int32).toNatClampNeg (vp_nar .boolean 0)))) := ab_self e132 c124
  have c137 : h131[m+101]? = some (.inl (.int, 64, .inl (fun _ => 0))) := ab_other e132 (by omega) c105
  have c138 : h131[m+102]? = some (.inl (.int, 4, .inl (fun _ => 0))) := ab_other e132 (by omega) c106
  have c139 : h131[m+103]? = some (.inl (.int, 4, .inl (fun _ => 0))) := ab_other e132 (by omega) c107
  have c140 : h131[m+104]? = some (.inl (.int, 256, .inl (fun _ => 0))) := ab_other e132 (by omega) c108
  have c141 : h131[m+105]? = some (.inl (.byte, 58000, .inl (fun _ => 0))) := ab_other e132 (by omega) c109
  have c142 : h131[m+106]? = some (.inl (.boolean, 8, .inl (a0_M w 25))) := ab_other e132 (by omega) c110
  have c143 : h131[m+107]? = some (.inl (.boolean, 8, .inl (fun _ => 0))) := ab_other e132 (by omega) c111
  have c144 : h131[m+74]? = some (.inr (13, [.int 0, .int 0, .int 0, .int 0, .ref (m + 74 + 1), .ref (m + 74 + 2), .ref (m + 74 + 3), .ref (m + 74 + 4), .int 0, .ref (m + 74 + 5), .ref (m + 74 + 6), .ref (m + 74 + 7), .ref (m + 74 + 8), .int (-1), .int 0, .int 0, .int 0, .ref (m + 74 + 9)])) := ab_other e132 (by omega) c112
  have c145 : h131[m+74+1]? = some (.inl (.int, 256, .inl (fun _ => 0))) := ab_other e132 (by omega) c113
  have c146 : h131[m+74+2]? = some (.inl (.boolean, 256, .inl (fun _ => 0))) := ab_other e132 (by omega) c114
  have c147 : h131[m+74+3]? = some (.inl (.int, 256, .inl (fun _ => 0))) := ab_other e132 (by omega) c115
  have c148 : h131[m+74+4]? = some (.inl (.int, 12288, .inl (fun _ => 0))) := ab_other e132 (by omega) c116
  have c149 : h131[m+74+5]? = some (.inl (.int, 256, .inl (fun _ => 0))) := ab_other e132 (by omega) c117
  have c150 : h131[m+74+6]? = some (.inl (.int, 256, .inl (fun _ => 0))) := ab_other e132 (by omega) c118
  have c151 : h131[m+74+7]? = some (.inl (.int, 256, .inl (fun _ => 0))) := ab_other e132 (by omega) c119
  have c152 : h131[m+74+8]? = some (.inl (.int, 1024, .inl (fun _ => 0))) := ab_other e132 (by omega) c120
  have c153 : h131[m+74+9]? = some (.inl (.int, 32, .inl (fun _ => 0))) := ab_other e132 (by omega) c121
  have fr154 : ab_fr (fun _ => True) h h131 := ab_fr_set fr122 e132 (by trivial)
  clear c101 c102 c103 c124 c105 c106 c107 c108 c109 c110 c111 c112 c113 c114 c115 c116 c117 c118 c119 c120 c121 fr122 e132
  try clear h99
  obtain ⟨y155, c156⟩ : ∃ f : Nat → Int32, h131[m+100]? = some (.inl (.boolean, 256, .inl f)) := ⟨_, c136⟩
  clear c136
  refine ab_iinc (v := 4) (lv' := [some (.ref m), some (.int 0), some (.int 0), some (.int 4)]) d_M_seat_92 rfl (by decide) (by decide) rfl ?_
  refine ab_goto (tgt := 62) d_M_seat_95 (by decide) ?_
  refine ab_iload_n d_M_seat_62 rfl rfl ?_
  refine ab_if_ne (tgt := 98) d_M_seat_63 (by decide) (fun q157 => by exact absurd q157 (by decide)) (fun q157 => ?_)
  refine ab_iload_n d_M_seat_66 rfl rfl ?_
  refine ab_aload_n d_M_seat_67 rfl rfl rfl ?_
  refine ab_get (f := 9) d_M_seat_68 c133 rfl (by decide) (k10 2 rfl rfl) rfl ?_
  refine ab_getN (f := 0) d_M_seat_71 c144 rfl (by decide) (k9 89 rfl rfl) rfl ?_
  refine ab_bipush (v := 16) d_M_seat_74 (by decide) ?_
  refine ab_iadd d_M_seat_76 ?_
  refine ab_topi (fun x158 ex158 => ?_)
  obtain rfl : x158 = 16 := ex158.trans (by decide)
  clear ex158
  refine ab_icmp_gt (tgt := 98) d_M_seat_77 (by decide) (fun q159 => by exact absurd q159 (by decide)) (fun q159 => ?_)
  refine ab_aload_n d_M_seat_80 rfl rfl rfl ?_
  refine ab_get (f := 15) d_M_seat_81 c133 rfl (by decide) (k10 8 rfl rfl) rfl ?_
  refine ab_aload_n d_M_seat_84 rfl rfl rfl ?_
  refine ab_iload_n d_M_seat_85 rfl rfl ?_
  refine ab_iload_n d_M_seat_86 rfl rfl ?_
  refine ab_callV_a (As := [.int 0, .int 4]) (rest := [.ref (m + 100)]) d_M_seat_87 (r_M_slot c133) (ab_mkC s_M_slot (Nat.le_of_ble_eq_true rfl) (Nat.le_of_ble_eq_true rfl) (by decide) (by decide)) (k11 210 rfl rfl) i_M_slot v_M_slot c133 rfl rfl (Nat.le_of_ble_eq_true rfl) (fun h161 q160 => ?_)
  subst q160
  refine ab_topi (fun x162 ex162 => ?_)
  obtain rfl : x162 = 4 := ex162.trans (by decide)
  clear ex162
  refine ab_iconst (v := 0) d_M_seat_90 (by decide) ?_
  refine ab_zast d_M_seat_91 tZ c156 (in_of (by decide) (by decide) (by decide)) ?_
  refine ab_gen (fun h163 e164 => ?_)
  have c165 : h163[m]? = some (.inr (12, [.int 0, .ref (m + 1), .int 0, .ref (m + 2), .ref (m + 33), .int 0, .int (-1), .int (-1), .ref (m + 64), .ref (m + 74), .ref (m + 84), .ref (m + 94), .int 0, .int 0, .ref (m + 99), .ref (m + 100), .ref (m + 101), .ref (m + 102), .ref (m + 103), .ref (m + 104), .int 0, .ref (m + 105), .int 0, .int 0, .int 0, .ref (m + 106), .ref (m + 107), .int 0, .int 0])) := ab_other e164 (by omega) c133
  have c166 : h163[m+1]? = some (.inl (.byte, 6000, .inl (fun _ => 0))) := ab_other e164 (by omega) c134
  have c167 : h163[m+99]? = some (.inl (.int, 256, .inl (fun _ => 0))) := ab_other e164 (by omega) c135
  have c168 : h163[m+100]? = some (.inl (.boolean, 256, .inl (upd y155 (4 : Int32).toNatClampNeg (vp_nar .boolean 0)))) := ab_self e164 c156
  have c169 : h163[m+101]? = some (.inl (.int, 64, .inl (fun _ => 0))) := ab_other e164 (by omega) c137
  have c170 : h163[m+102]? = some (.inl (.int, 4, .inl (fun _ => 0))) := ab_other e164 (by omega) c138
  have c171 : h163[m+103]? = some (.inl (.int, 4, .inl (fun _ => 0))) := ab_other e164 (by omega) c139
  have c172 : h163[m+104]? = some (.inl (.int, 256, .inl (fun _ => 0))) := ab_other e164 (by omega) c140
  have c173 : h163[m+105]? = some (.inl (.byte, 58000, .inl (fun _ => 0))) := ab_other e164 (by omega) c141
  have c174 : h163[m+106]? = some (.inl (.boolean, 8, .inl (a0_M w 25))) := ab_other e164 (by omega) c142
  have c175 : h163[m+107]? = some (.inl (.boolean, 8, .inl (fun _ => 0))) := ab_other e164 (by omega) c143
  have c176 : h163[m+74]? = some (.inr (13, [.int 0, .int 0, .int 0, .int 0, .ref (m + 74 + 1), .ref (m + 74 + 2), .ref (m + 74 + 3), .ref (m + 74 + 4), .int 0, .ref (m + 74 + 5), .ref (m + 74 + 6), .ref (m + 74 + 7), .ref (m + 74 + 8), .int (-1), .int 0, .int 0, .int 0, .ref (m + 74 + 9)])) := ab_other e164 (by omega) c144
  have c177 : h163[m+74+1]? = some (.inl (.int, 256, .inl (fun _ => 0))) := ab_other e164 (by omega) c145
  have c178 : h163[m+74+2]? = some (.inl (.boolean, 256, .inl (fun _ => 0))) := ab_other e164 (by omega) c146
  have c179 : h163[m+74+3]? = some (.inl (.int, 256, .inl (fun _ => 0))) := ab_other e164 (by omega) c147
  have c180 : h163[m+74+4]? = some (.inl (.int, 12288, .inl (fun _ => 0))) := ab_other e164 (by omega) c148
  have c181 : h163[m+74+5]? = some (.inl (.int, 256, .inl (fun _ => 0))) := ab_other e164 (by omega) c149
  have c182 : h163[m+74+6]? = some (.inl (.int, 256, .inl (fun _ => 0))) := ab_other e164 (by omega) c150
  have c183 : h163[m+74+7]? = some (.inl (.int, 256, .inl (fun _ => 0))) := ab_other e164 (by omega) c151
  have c184 : h163[m+74+8]? = some (.inl (.int, 1024, .inl (fun _ => 0))) := ab_other e164 (by omega) c152
  have c185 : h163[m+74+9]? = some (.inl (.int, 32, .inl (fun _ => 0))) := ab_other e164 (by omega) c153
  have fr186 : ab_fr (fun _ => True) h h163 := ab_fr_set fr154 e164 (by trivial)
  clear c133 c134 c135 c156 c137 c138 c139 c140 c141 c142 c143 c144 c145 c146 c147 c148 c149 c150 c151 c152 c153 fr154 e164
  try clear h131
  obtain ⟨y187, c188⟩ : ∃ f : Nat → Int32, h163[m+100]? = some (.inl (.boolean, 256, .inl f)) := ⟨_, c168⟩
  clear c168
  refine ab_iinc (v := 5) (lv' := [some (.ref m), some (.int 0), some (.int 0), some (.int 5)]) d_M_seat_92 rfl (by decide) (by decide) rfl ?_
  refine ab_goto (tgt := 62) d_M_seat_95 (by decide) ?_
  refine ab_iload_n d_M_seat_62 rfl rfl ?_
  refine ab_if_ne (tgt := 98) d_M_seat_63 (by decide) (fun q189 => by exact absurd q189 (by decide)) (fun q189 => ?_)
  refine ab_iload_n d_M_seat_66 rfl rfl ?_
  refine ab_aload_n d_M_seat_67 rfl rfl rfl ?_
  refine ab_get (f := 9) d_M_seat_68 c165 rfl (by decide) (k10 2 rfl rfl) rfl ?_
  refine ab_getN (f := 0) d_M_seat_71 c176 rfl (by decide) (k9 89 rfl rfl) rfl ?_
  refine ab_bipush (v := 16) d_M_seat_74 (by decide) ?_
  refine ab_iadd d_M_seat_76 ?_
  refine ab_topi (fun x190 ex190 => ?_)
  obtain rfl : x190 = 16 := ex190.trans (by decide)
  clear ex190
  refine ab_icmp_gt (tgt := 98) d_M_seat_77 (by decide) (fun q191 => by exact absurd q191 (by decide)) (fun q191 => ?_)
  refine ab_aload_n d_M_seat_80 rfl rfl rfl ?_
  refine ab_get (f := 15) d_M_seat_81 c165 rfl (by decide) (k10 8 rfl rfl) rfl ?_
  refine ab_aload_n d_M_seat_84 rfl rfl rfl ?_
  refine ab_iload_n d_M_seat_85 rfl rfl ?_
  refine ab_iload_n d_M_seat_86 rfl rfl ?_
  refine ab_callV_a (As := [.int 0, .int 5]) (rest := [.ref (m + 100)]) d_M_seat_87 (r_M_slot c165) (ab_mkC s_M_slot (Nat.le_of_ble_eq_true rfl) (Nat.le_of_ble_eq_true rfl) (by decide) (by decide)) (k11 210 rfl rfl) i_M_slot v_M_slot c165 rfl rfl (Nat.le_of_ble_eq_true rfl) (fun h193 q192 => ?_)
  subst q192
  refine ab_topi (fun x194 ex194 => ?_)
  obtain rfl : x194 = 5 := ex194.trans (by decide)
  clear ex194
  refine ab_iconst (v := 0) d_M_seat_90 (by decide) ?_
  refine ab_zast d_M_seat_91 tZ c188 (in_of (by decide) (by decide) (by decide)) ?_
  refine ab_gen (fun h195 e196 => ?_)
  have c197 : h195[m]? = some (.inr (12, [.int 0, .ref (m + 1), .int 0, .ref (m + 2), .ref (m + 33), .int 0, .int (-1), .int (-1), .ref (m + 64), .ref (m + 74), .ref (m + 84), .ref (m + 94), .int 0, .int 0, .ref (m + 99), .ref (m + 100), .ref (m + 101), .ref (m + 102), .ref (m + 103), .ref (m + 104), .int 0, .ref (m + 105), .int 0, .int 0, .int 0, .ref (m + 106), .ref (m + 107), .int 0, .int 0])) := ab_other e196 (by omega) c165
  have c198 : h195[m+1]? = some (.inl (.byte, 6000, .inl (fun _ => 0))) := ab_other e196 (by omega) c166
  have c199 : h195[m+99]? = some (.inl (.int, 256, .inl (fun _ => 0))) := ab_other e196 (by omega) c167
  have c200 : h195[m+100]? = some (.inl (.boolean, 256, .inl (upd y187 (5 : Int32).toNatClampNeg (vp_nar .boolean 0)))) := ab_self e196 c188
  have c201 : h195[m+101]? = some (.inl (.int, 64, .inl (fun _ => 0))) := ab_other e196 (by omega) c169
  have c202 : h195[m+102]? = some (.inl (.int, 4, .inl (fun _ => 0))) := ab_other e196 (by omega) c170
  have c203 : h195[m+103]? = some (.inl (.int, 4, .inl (fun _ => 0))) := ab_other e196 (by omega) c171
  have c204 : h195[m+104]? = some (.inl (.int, 256, .inl (fun _ => 0))) := ab_other e196 (by omega) c172
  have c205 : h195[m+105]? = some (.inl (.byte, 58000, .inl (fun _ => 0))) := ab_other e196 (by omega) c173
  have c206 : h195[m+106]? = some (.inl (.boolean, 8, .inl (a0_M w 25))) := ab_other e196 (by omega) c174
  have c207 : h195[m+107]? = some (.inl (.boolean, 8, .inl (fun _ => 0))) := ab_other e196 (by omega) c175
  have c208 : h195[m+74]? = some (.inr (13, [.int 0, .int 0, .int 0, .int 0, .ref (m + 74 + 1), .ref (m + 74 + 2), .ref (m + 74 + 3), .ref (m + 74 + 4), .int 0, .ref (m + 74 + 5), .ref (m + 74 + 6), .ref (m + 74 + 7), .ref (m + 74 + 8), .int (-1), .int 0, .int 0, .int 0, .ref (m + 74 + 9)])) := ab_other e196 (by omega) c176
  have c209 : h195[m+74+1]? = some (.inl (.int, 256, .inl (fun _ => 0))) := ab_other e196 (by omega) c177
  have c210 : h195[m+74+2]? = some (.inl (.boolean, 256, .inl (fun _ => 0))) := ab_other e196 (by omega) c178
  have c211 : h195[m+74+3]? = some (.inl (.int, 256, .inl (fun _ => 0))) := ab_other e196 (by omega) c179
  have c212 : h195[m+74+4]? = some (.inl (.int, 12288, .inl (fun _ => 0))) := ab_other e196 (by omega) c180
  have c213 : h195[m+74+5]? = some (.inl (.int, 256, .inl (fun _ => 0))) := ab_other e196 (by omega) c181
  have c214 : h195[m+74+6]? = some (.inl (.int, 256, .inl (fun _ => 0))) := ab_other e196 (by omega) c182
  have c215 : h195[m+74+7]? = some (.inl (.int, 256, .inl (fun _ => 0))) := ab_other e196 (by omega) c183
  have c216 : h195[m+74+8]? = some (.inl (.int, 1024, .inl (fun _ => 0))) := ab_other e196 (by omega) c184
  have c217 : h195[m+74+9]? = some (.inl (.int, 32, .inl (fun _ => 0))) := ab_other e196 (by omega) c185
  have fr218 : ab_fr (fun _ => True) h h195 := ab_fr_set fr186 e196 (by trivial)
  clear c165 c166 c167 c188 c169 c170 c171 c172 c173 c174 c175 c176 c177 c178 c179 c180 c181 c182 c183 c184 c185 fr186 e196
  try clear h163
  obtain ⟨y219, c220⟩ : ∃ f : Nat → Int32, h195[m+100]? = some (.inl (.boolean, 256, .inl f)) := ⟨_, c200⟩
  clear c200
  refine ab_iinc (v := 6) (lv' := [some (.ref m), some (.int 0), some (.int 0), some (.int 6)]) d_M_seat_92 rfl (by decide) (by decide) rfl ?_
  refine ab_goto (tgt := 62) d_M_seat_95 (by decide) ?_
  refine ab_iload_n d_M_seat_62 rfl rfl ?_
  refine ab_if_ne (tgt := 98) d_M_seat_63 (by decide) (fun q221 => by exact absurd q221 (by decide)) (fun q221 => ?_)
  refine ab_iload_n d_M_seat_66 rfl rfl ?_
  refine ab_aload_n d_M_seat_67 rfl rfl rfl ?_
  refine ab_get (f := 9) d_M_seat_68 c197 rfl (by decide) (k10 2 rfl rfl) rfl ?_
  refine ab_getN (f := 0) d_M_seat_71 c208 rfl (by decide) (k9 89 rfl rfl) rfl ?_
  refine ab_bipush (v := 16) d_M_seat_74 (by decide) ?_
  refine ab_iadd d_M_seat_76 ?_
  refine ab_topi (fun x222 ex222 => ?_)
  obtain rfl : x222 = 16 := ex222.trans (by decide)
  clear ex222
  refine ab_icmp_gt (tgt := 98) d_M_seat_77 (by decide) (fun q223 => by exact absurd q223 (by decide)) (fun q223 => ?_)
  refine ab_aload_n d_M_seat_80 rfl rfl rfl ?_
  refine ab_get (f := 15) d_M_seat_81 c197 rfl (by decide) (k10 8 rfl rfl) rfl ?_
  refine ab_aload_n d_M_seat_84 rfl rfl rfl ?_
  refine ab_iload_n d_M_seat_85 rfl rfl ?_
  refine ab_iload_n d_M_seat_86 rfl rfl ?_
  refine ab_callV_a (As := [.int 0, .int 6]) (rest := [.ref (m + 100)]) d_M_seat_87 (r_M_slot c197) (ab_mkC s_M_slot (Nat.le_of_ble_eq_true rfl) (Nat.le_of_ble_eq_true rfl) (by decide) (by decide)) (k11 210 rfl rfl) i_M_slot v_M_slot c197 rfl rfl (Nat.le_of_ble_eq_true rfl) (fun h225 q224 => ?_)
  subst q224
  refine ab_topi (fun x226 ex226 => ?_)
  obtain rfl : x226 = 6 := ex226.trans (by decide)
  clear ex226
  refine ab_iconst (v := 0) d_M_seat_90 (by decide) ?_
  refine ab_zast d_M_seat_91 tZ c220 (in_of (by decide) (by decide) (by decide)) ?_
  refine ab_gen (fun h227 e228 => ?_)
  have c229 : h227[m]? = some (.inr (12, [.int 0, .ref (m + 1), .int 0, .ref (m + 2), .ref (m + 33), .int 0, .int (-1), .int (-1), .ref (m + 64), .ref (m + 74), .ref (m + 84), .ref (m + 94), .int 0, .int 0, .ref (m + 99), .ref (m + 100), .ref (m + 101), .ref (m + 102), .ref (m + 103), .ref (m + 104), .int 0, .ref (m + 105), .int 0, .int 0, .int 0, .ref (m + 106), .ref (m + 107), .int 0, .int 0])) := ab_other e228 (by omega) c197
  have c230 : h227[m+1]? = some (.inl (.byte, 6000, .inl (fun _ => 0))) := ab_other e228 (by omega) c198
  have c231 : h227[m+99]? = some (.inl (.int, 256, .inl (fun _ => 0))) := ab_other e228 (by omega) c199
  have c232 : h227[m+100]? = some (.inl (.boolean, 256, .inl (upd y219 (6 : Int32).toNatClampNeg (vp_nar .boolean 0)))) := ab_self e228 c220
  have c233 : h227[m+101]? = some (.inl (.int, 64, .inl (fun _ => 0))) := ab_other e228 (by omega) c201
  have c234 : h227[m+102]? = some (.inl (.int, 4, .inl (fun _ => 0))) := ab_other e228 (by omega) c202
  have c235 : h227[m+103]? = some (.inl (.int, 4, .inl (fun _ => 0))) := ab_other e228 (by omega) c203
  have c236 : h227[m+104]? = some (.inl (.int, 256, .inl (fun _ => 0))) := ab_other e228 (by omega) c204
  have c237 : h227[m+105]? = some (.inl (.byte, 58000, .inl (fun _ => 0))) := ab_other e228 (by omega) c205
  have c238 : h227[m+106]? = some (.inl (.boolean, 8, .inl (a0_M w 25))) := ab_other e228 (by omega) c206
  have c239 : h227[m+107]? = some (.inl (.boolean, 8, .inl (fun _ => 0))) := ab_other e228 (by omega) c207
  have c240 : h227[m+74]? = some (.inr (13, [.int 0, .int 0, .int 0, .int 0, .ref (m + 74 + 1), .ref (m + 74 + 2), .ref (m + 74 + 3), .ref (m + 74 + 4), .int 0, .ref (m + 74 + 5), .ref (m + 74 + 6), .ref (m + 74 + 7), .ref (m + 74 + 8), .int (-1), .int 0, .int 0, .int 0, .ref (m + 74 + 9)])) := ab_other e228 (by omega) c208
  have c241 : h227[m+74+1]? = some (.inl (.int, 256, .inl (fun _ => 0))) := ab_other e228 (by omega) c209
  have c242 : h227[m+74+2]? = some (.inl (.boolean, 256, .inl (fun _ => 0))) := ab_other e228 (by omega) c210
  have c243 : h227[m+74+3]? = some (.inl (.int, 256, .inl (fun _ => 0))) := ab_other e228 (by omega) c211
  have c244 : h227[m+74+4]? = some (.inl (.int, 12288, .inl (fun _ => 0))) := ab_other e228 (by omega) c212
  have c245 : h227[m+74+5]? = some (.inl (.int, 256, .inl (fun _ => 0))) := ab_other e228 (by omega) c213
  have c246 : h227[m+74+6]? = some (.inl (.int, 256, .inl (fun _ => 0))) := ab_other e228 (by omega) c214
  have c247 : h227[m+74+7]? = some (.inl (.int, 256, .inl (fun _ => 0))) := ab_other e228 (by omega) c215
  have c248 : h227[m+74+8]? = some (.inl (.int, 1024, .inl (fun _ => 0))) := ab_other e228 (by omega) c216
  have c249 : h227[m+74+9]? = some (.inl (.int, 32, .inl (fun _ => 0))) := ab_other e228 (by omega) c217
  have fr250 : ab_fr (fun _ => True) h h227 := ab_fr_set fr218 e228 (by trivial)
  clear c197 c198 c199 c220 c201 c202 c203 c204 c205 c206 c207 c208 c209 c210 c211 c212 c213 c214 c215 c216 c217 fr218 e228
  try clear h195
  obtain ⟨y251, c252⟩ : ∃ f : Nat → Int32, h227[m+100]? = some (.inl (.boolean, 256, .inl f)) := ⟨_, c232⟩
  clear c232
  refine ab_iinc (v := 7) (lv' := [some (.ref m), some (.int 0), some (.int 0), some (.int 7)]) d_M_seat_92 rfl (by decide) (by decide) rfl ?_
  refine ab_goto (tgt := 62) d_M_seat_95 (by decide) ?_
  refine ab_iload_n d_M_seat_62 rfl rfl ?_
  refine ab_if_ne (tgt := 98) d_M_seat_63 (by decide) (fun q253 => by exact absurd q253 (by decide)) (fun q253 => ?_)
  refine ab_iload_n d_M_seat_66 rfl rfl ?_
  refine ab_aload_n d_M_seat_67 rfl rfl rfl ?_
  refine ab_get (f := 9) d_M_seat_68 c229 rfl (by decide) (k10 2 rfl rfl) rfl ?_
  refine ab_getN (f := 0) d_M_seat_71 c240 rfl (by decide) (k9 89 rfl rfl) rfl ?_
  refine ab_bipush (v := 16) d_M_seat_74 (by decide) ?_
  refine ab_iadd d_M_seat_76 ?_
  refine ab_topi (fun x254 ex254 => ?_)
  obtain rfl : x254 = 16 := ex254.trans (by decide)
  clear ex254
  refine ab_icmp_gt (tgt := 98) d_M_seat_77 (by decide) (fun q255 => by exact absurd q255 (by decide)) (fun q255 => ?_)
  refine ab_aload_n d_M_seat_80 rfl rfl rfl ?_
  refine ab_get (f := 15) d_M_seat_81 c229 rfl (by decide) (k10 8 rfl rfl) rfl ?_
  refine ab_aload_n d_M_seat_84 rfl rfl rfl ?_
  refine ab_iload_n d_M_seat_85 rfl rfl ?_
  refine ab_iload_n d_M_seat_86 rfl rfl ?_
  refine ab_callV_a (As := [.int 0, .int 7]) (rest := [.ref (m + 100)]) d_M_seat_87 (r_M_slot c229) (ab_mkC s_M_slot (Nat.le_of_ble_eq_true rfl) (Nat.le_of_ble_eq_true rfl) (by decide) (by decide)) (k11 210 rfl rfl) i_M_slot v_M_slot c229 rfl rfl (Nat.le_of_ble_eq_true rfl) (fun h257 q256 => ?_)
  subst q256
  refine ab_topi (fun x258 ex258 => ?_)
  obtain rfl : x258 = 7 := ex258.trans (by decide)
  clear ex258
  refine ab_iconst (v := 0) d_M_seat_90 (by decide) ?_
  refine ab_zast d_M_seat_91 tZ c252 (in_of (by decide) (by decide) (by decide)) ?_
  refine ab_gen (fun h259 e260 => ?_)
  have c261 : h259[m]? = some (.inr (12, [.int 0, .ref (m + 1), .int 0, .ref (m + 2), .ref (m + 33), .int 0, .int (-1), .int (-1), .ref (m + 64), .ref (m + 74), .ref (m + 84), .ref (m + 94), .int 0, .int 0, .ref (m + 99), .ref (m + 100), .ref (m + 101), .ref (m + 102), .ref (m + 103), .ref (m + 104), .int 0, .ref (m + 105), .int 0, .int 0, .int 0, .ref (m + 106), .ref (m + 107), .int 0, .int 0])) := ab_other e260 (by omega) c229
  have c262 : h259[m+1]? = some (.inl (.byte, 6000, .inl (fun _ => 0))) := ab_other e260 (by omega) c230
  have c263 : h259[m+99]? = some (.inl (.int, 256, .inl (fun _ => 0))) := ab_other e260 (by omega) c231
  have c264 : h259[m+100]? = some (.inl (.boolean, 256, .inl (upd y251 (7 : Int32).toNatClampNeg (vp_nar .boolean 0)))) := ab_self e260 c252
  have c265 : h259[m+101]? = some (.inl (.int, 64, .inl (fun _ => 0))) := ab_other e260 (by omega) c233
  have c266 : h259[m+102]? = some (.inl (.int, 4, .inl (fun _ => 0))) := ab_other e260 (by omega) c234
  have c267 : h259[m+103]? = some (.inl (.int, 4, .inl (fun _ => 0))) := ab_other e260 (by omega) c235
  have c268 : h259[m+104]? = some (.inl (.int, 256, .inl (fun _ => 0))) := ab_other e260 (by omega) c236
  have c269 : h259[m+105]? = some (.inl (.byte, 58000, .inl (fun _ => 0))) := ab_other e260 (by omega) c237
  have c270 : h259[m+106]? = some (.inl (.boolean, 8, .inl (a0_M w 25))) := ab_other e260 (by omega) c238
  have c271 : h259[m+107]? = some (.inl (.boolean, 8, .inl (fun _ => 0))) := ab_other e260 (by omega) c239
  have c272 : h259[m+74]? = some (.inr (13, [.int 0, .int 0, .int 0, .int 0, .ref (m + 74 + 1), .ref (m + 74 + 2), .ref (m + 74 + 3), .ref (m + 74 + 4), .int 0, .ref (m + 74 + 5), .ref (m + 74 + 6), .ref (m + 74 + 7), .ref (m + 74 + 8), .int (-1), .int 0, .int 0, .int 0, .ref (m + 74 + 9)])) := ab_other e260 (by omega) c240
  have c273 : h259[m+74+1]? = some (.inl (.int, 256, .inl (fun _ => 0))) := ab_other e260 (by omega) c241
  have c274 : h259[m+74+2]? = some (.inl (.boolean, 256, .inl (fun _ => 0))) := ab_other e260 (by omega) c242
  have c275 : h259[m+74+3]? = some (.inl (.int, 256, .inl (fun _ => 0))) := ab_other e260 (by omega) c243
  have c276 : h259[m+74+4]? = some (.inl (.int, 12288, .inl (fun _ => 0))) := ab_other e260 (by omega) c244
  have c277 : h259[m+74+5]? = some (.inl (.int, 256, .inl (fun _ => 0))) := ab_other e260 (by omega) c245
  have c278 : h259[m+74+6]? = some (.inl (.int, 256, .inl (fun _ => 0))) := ab_other e260 (by omega) c246
  have c279 : h259[m+74+7]? = some (.inl (.int, 256, .inl (fun _ => 0))) := ab_other e260 (by omega) c247
  have c280 : h259[m+74+8]? = some (.inl (.int, 1024, .inl (fun _ => 0))) := ab_other e260 (by omega) c248
  have c281 : h259[m+74+9]? = some (.inl (.int, 32, .inl (fun _ => 0))) := ab_other e260 (by omega) c249
  have fr282 : ab_fr (fun _ => True) h h259 := ab_fr_set fr250 e260 (by trivial)
  clear c229 c230 c231 c252 c233 c234 c235 c236 c237 c238 c239 c240 c241 c242 c243 c244 c245 c246 c247 c248 c249 fr250 e260
  try clear h227
  obtain ⟨y283, c284⟩ : ∃ f : Nat → Int32, h259[m+100]? = some (.inl (.boolean, 256, .inl f)) := ⟨_, c264⟩
  clear c264
  refine ab_iinc (v := 8) (lv' := [some (.ref m), some (.int 0), some (.int 0), some (.int 8)]) d_M_seat_92 rfl (by decide) (by decide) rfl ?_
  refine ab_goto (tgt := 62) d_M_seat_95 (by decide) ?_
  refine ab_iload_n d_M_seat_62 rfl rfl ?_
  refine ab_if_ne (tgt := 98) d_M_seat_63 (by decide) (fun q285 => by exact absurd q285 (by decide)) (fun q285 => ?_)
  refine ab_iload_n d_M_seat_66 rfl rfl ?_
  refine ab_aload_n d_M_seat_67 rfl rfl rfl ?_
  refine ab_get (f := 9) d_M_seat_68 c261 rfl (by decide) (k10 2 rfl rfl) rfl ?_
  refine ab_getN (f := 0) d_M_seat_71 c272 rfl (by decide) (k9 89 rfl rfl) rfl ?_
  refine ab_bipush (v := 16) d_M_seat_74 (by decide) ?_
  refine ab_iadd d_M_seat_76 ?_
  refine ab_topi (fun x286 ex286 => ?_)
  obtain rfl : x286 = 16 := ex286.trans (by decide)
  clear ex286
  refine ab_icmp_gt (tgt := 98) d_M_seat_77 (by decide) (fun q287 => by exact absurd q287 (by decide)) (fun q287 => ?_)
  refine ab_aload_n d_M_seat_80 rfl rfl rfl ?_
  refine ab_get (f := 15) d_M_seat_81 c261 rfl (by decide) (k10 8 rfl rfl) rfl ?_
  refine ab_aload_n d_M_seat_84 rfl rfl rfl ?_
  refine ab_iload_n d_M_seat_85 rfl rfl ?_
  refine ab_iload_n d_M_seat_86 rfl rfl ?_
  refine ab_callV_a (As := [.int 0, .int 8]) (rest := [.ref (m + 100)]) d_M_seat_87 (r_M_slot c261) (ab_mkC s_M_slot (Nat.le_of_ble_eq_true rfl) (Nat.le_of_ble_eq_true rfl) (by decide) (by decide)) (k11 210 rfl rfl) i_M_slot v_M_slot c261 rfl rfl (Nat.le_of_ble_eq_true rfl) (fun h289 q288 => ?_)
  subst q288
  refine ab_topi (fun x290 ex290 => ?_)
  obtain rfl : x290 = 8 := ex290.trans (by decide)
  clear ex290
  refine ab_iconst (v := 0) d_M_seat_90 (by decide) ?_
  refine ab_zast d_M_seat_91 tZ c284 (in_of (by decide) (by decide) (by decide)) ?_
  refine ab_gen (fun h291 e292 => ?_)
  have c293 : h291[m]? = some (.inr (12, [.int 0, .ref (m + 1), .int 0, .ref (m + 2), .ref (m + 33), .int 0, .int (-1), .int (-1), .ref (m + 64), .ref (m + 74), .ref (m + 84), .ref (m + 94), .int 0, .int 0, .ref (m + 99), .ref (m + 100), .ref (m + 101), .ref (m + 102), .ref (m + 103), .ref (m + 104), .int 0, .ref (m + 105), .int 0, .int 0, .int 0, .ref (m + 106), .ref (m + 107), .int 0, .int 0])) := ab_other e292 (by omega) c261
  have c294 : h291[m+1]? = some (.inl (.byte, 6000, .inl (fun _ => 0))) := ab_other e292 (by omega) c262
  have c295 : h291[m+99]? = some (.inl (.int, 256, .inl (fun _ => 0))) := ab_other e292 (by omega) c263
  have c296 : h291[m+100]? = some (.inl (.boolean, 256, .inl (upd y283 (8 : Int32).toNatClampNeg (vp_nar .boolean 0)))) := ab_self e292 c284
  have c297 : h291[m+101]? = some (.inl (.int, 64, .inl (fun _ => 0))) := ab_other e292 (by omega) c265
  have c298 : h291[m+102]? = some (.inl (.int, 4, .inl (fun _ => 0))) := ab_other e292 (by omega) c266
  have c299 : h291[m+103]? = some (.inl (.int, 4, .inl (fun _ => 0))) := ab_other e292 (by omega) c267
  have c300 : h291[m+104]? = some (.inl (.int, 256, .inl (fun _ => 0))) := ab_other e292 (by omega) c268
  have c301 : h291[m+105]? = some (.inl (.byte, 58000, .inl (fun _ => 0))) := ab_other e292 (by omega) c269
  have c302 : h291[m+106]? = some (.inl (.boolean, 8, .inl (a0_M w 25))) := ab_other e292 (by omega) c270
  have c303 : h291[m+107]? = some (.inl (.boolean, 8, .inl (fun _ => 0))) := ab_other e292 (by omega) c271
  have c304 : h291[m+74]? = some (.inr (13, [.int 0, .int 0, .int 0, .int 0, .ref (m + 74 + 1), .ref (m + 74 + 2), .ref (m + 74 + 3), .ref (m + 74 + 4), .int 0, .ref (m + 74 + 5), .ref (m + 74 + 6), .ref (m + 74 + 7), .ref (m + 74 + 8), .int (-1), .int 0, .int 0, .int 0, .ref (m + 74 + 9)])) := ab_other e292 (by omega) c272
  have c305 : h291[m+74+1]? = some (.inl (.int, 256, .inl (fun _ => 0))) := ab_other e292 (by omega) c273
  have c306 : h291[m+74+2]? = some (.inl (.boolean, 256, .inl (fun _ => 0))) := ab_other e292 (by omega) c274
  have c307 : h291[m+74+3]? = some (.inl (.int, 256, .inl (fun _ => 0))) := ab_other e292 (by omega) c275
  have c308 : h291[m+74+4]? = some (.inl (.int, 12288, .inl (fun _ => 0))) := ab_other e292 (by omega) c276
  have c309 : h291[m+74+5]? = some (.inl (.int, 256, .inl (fun _ => 0))) := ab_other e292 (by omega) c277
  have c310 : h291[m+74+6]? = some (.inl (.int, 256, .inl (fun _ => 0))) := ab_other e292 (by omega) c278
  have c311 : h291[m+74+7]? = some (.inl (.int, 256, .inl (fun _ => 0))) := ab_other e292 (by omega) c279
  have c312 : h291[m+74+8]? = some (.inl (.int, 1024, .inl (fun _ => 0))) := ab_other e292 (by omega) c280
  have c313 : h291[m+74+9]? = some (.inl (.int, 32, .inl (fun _ => 0))) := ab_other e292 (by omega) c281
  have fr314 : ab_fr (fun _ => True) h h291 := ab_fr_set fr282 e292 (by trivial)
  clear c261 c262 c263 c284 c265 c266 c267 c268 c269 c270 c271 c272 c273 c274 c275 c276 c277 c278 c279 c280 c281 fr282 e292
  try clear h259
  obtain ⟨y315, c316⟩ : ∃ f : Nat → Int32, h291[m+100]? = some (.inl (.boolean, 256, .inl f)) := ⟨_, c296⟩
  clear c296
  refine ab_iinc (v := 9) (lv' := [some (.ref m), some (.int 0), some (.int 0), some (.int 9)]) d_M_seat_92 rfl (by decide) (by decide) rfl ?_
  refine ab_goto (tgt := 62) d_M_seat_95 (by decide) ?_
  refine ab_iload_n d_M_seat_62 rfl rfl ?_
  refine ab_if_ne (tgt := 98) d_M_seat_63 (by decide) (fun q317 => by exact absurd q317 (by decide)) (fun q317 => ?_)
  refine ab_iload_n d_M_seat_66 rfl rfl ?_
  refine ab_aload_n d_M_seat_67 rfl rfl rfl ?_
  refine ab_get (f := 9) d_M_seat_68 c293 rfl (by decide) (k10 2 rfl rfl) rfl ?_
  refine ab_getN (f := 0) d_M_seat_71 c304 rfl (by decide) (k9 89 rfl rfl) rfl ?_
  refine ab_bipush (v := 16) d_M_seat_74 (by decide) ?_
  refine ab_iadd d_M_seat_76 ?_
  refine ab_topi (fun x318 ex318 => ?_)
  obtain rfl : x318 = 16 := ex318.trans (by decide)
  clear ex318
  refine ab_icmp_gt (tgt := 98) d_M_seat_77 (by decide) (fun q319 => by exact absurd q319 (by decide)) (fun q319 => ?_)
  refine ab_aload_n d_M_seat_80 rfl rfl rfl ?_
  refine ab_get (f := 15) d_M_seat_81 c293 rfl (by decide) (k10 8 rfl rfl) rfl ?_
  refine ab_aload_n d_M_seat_84 rfl rfl rfl ?_
  refine ab_iload_n d_M_seat_85 rfl rfl ?_
  refine ab_iload_n d_M_seat_86 rfl rfl ?_
  refine ab_callV_a (As := [.int 0, .int 9]) (rest := [.ref (m + 100)]) d_M_seat_87 (r_M_slot c293) (ab_mkC s_M_slot (Nat.le_of_ble_eq_true rfl) (Nat.le_of_ble_eq_true rfl) (by decide) (by decide)) (k11 210 rfl rfl) i_M_slot v_M_slot c293 rfl rfl (Nat.le_of_ble_eq_true rfl) (fun h321 q320 => ?_)
  subst q320
  refine ab_topi (fun x322 ex322 => ?_)
  obtain rfl : x322 = 9 := ex322.trans (by decide)
  clear ex322
  refine ab_iconst (v := 0) d_M_seat_90 (by decide) ?_
  refine ab_zast d_M_seat_91 tZ c316 (in_of (by decide) (by decide) (by decide)) ?_
  refine ab_gen (fun h323 e324 => ?_)
  have c325 : h323[m]? = some (.inr (12, [.int 0, .ref (m + 1), .int 0, .ref (m + 2), .ref (m + 33), .int 0, .int (-1), .int (-1), .ref (m + 64), .ref (m + 74), .ref (m + 84), .ref (m + 94), .int 0, .int 0, .ref (m + 99), .ref (m + 100), .ref (m + 101), .ref (m + 102), .ref (m + 103), .ref (m + 104), .int 0, .ref (m + 105), .int 0, .int 0, .int 0, .ref (m + 106), .ref (m + 107), .int 0, .int 0])) := ab_other e324 (by omega) c293
  have c326 : h323[m+1]? = some (.inl (.byte, 6000, .inl (fun _ => 0))) := ab_other e324 (by omega) c294
  have c327 : h323[m+99]? = some (.inl (.int, 256, .inl (fun _ => 0))) := ab_other e324 (by omega) c295
  have c328 : h323[m+100]? = some (.inl (.boolean, 256, .inl (upd y315 (9 : Int32).toNatClampNeg (vp_nar .boolean 0)))) := ab_self e324 c316
  have c329 : h323[m+101]? = some (.inl (.int, 64, .inl (fun _ => 0))) := ab_other e324 (by omega) c297
  have c330 : h323[m+102]? = some (.inl (.int, 4, .inl (fun _ => 0))) := ab_other e324 (by omega) c298
  have c331 : h323[m+103]? = some (.inl (.int, 4, .inl (fun _ => 0))) := ab_other e324 (by omega) c299
  have c332 : h323[m+104]? = some (.inl (.int, 256, .inl (fun _ => 0))) := ab_other e324 (by omega) c300
  have c333 : h323[m+105]? = some (.inl (.byte, 58000, .inl (fun _ => 0))) := ab_other e324 (by omega) c301
  have c334 : h323[m+106]? = some (.inl (.boolean, 8, .inl (a0_M w 25))) := ab_other e324 (by omega) c302
  have c335 : h323[m+107]? = some (.inl (.boolean, 8, .inl (fun _ => 0))) := ab_other e324 (by omega) c303
  have c336 : h323[m+74]? = some (.inr (13, [.int 0, .int 0, .int 0, .int 0, .ref (m + 74 + 1), .ref (m + 74 + 2), .ref (m + 74 + 3), .ref (m + 74 + 4), .int 0, .ref (m + 74 + 5), .ref (m + 74 + 6), .ref (m + 74 + 7), .ref (m + 74 + 8), .int (-1), .int 0, .int 0, .int 0, .ref (m + 74 + 9)])) := ab_other e324 (by omega) c304
  have c337 : h323[m+74+1]? = some (.inl (.int, 256, .inl (fun _ => 0))) := ab_other e324 (by omega) c305
  have c338 : h323[m+74+2]? = some (.inl (.boolean, 256, .inl (fun _ => 0))) := ab_other e324 (by omega) c306
  have c339 : h323[m+74+3]? = some (.inl (.int, 256, .inl (fun _ => 0))) := ab_other e324 (by omega) c307
  have c340 : h323[m+74+4]? = some (.inl (.int, 12288, .inl (fun _ => 0))) := ab_other e324 (by omega) c308
  have c341 : h323[m+74+5]? = some (.inl (.int, 256, .inl (fun _ => 0))) := ab_other e324 (by omega) c309
  have c342 : h323[m+74+6]? = some (.inl (.int, 256, .inl (fun _ => 0))) := ab_other e324 (by omega) c310
  have c343 : h323[m+74+7]? = some (.inl (.int, 256, .inl (fun _ => 0))) := ab_other e324 (by omega) c311
  have c344 : h323[m+74+8]? = some (.inl (.int, 1024, .inl (fun _ => 0))) := ab_other e324 (by omega) c312
  have c345 : h323[m+74+9]? = some (.inl (.int, 32, .inl (fun _ => 0))) := ab_other e324 (by omega) c313
  have fr346 : ab_fr (fun _ => True) h h323 := ab_fr_set fr314 e324 (by trivial)
  clear c293 c294 c295 c316 c297 c298 c299 c300 c301 c302 c303 c304 c305 c306 c307 c308 c309 c310 c311 c312 c313 fr314 e324
  try clear h291
  obtain ⟨y347, c348⟩ : ∃ f : Nat → Int32, h323[m+100]? = some (.inl (.boolean, 256, .inl f)) := ⟨_, c328⟩
  clear c328
  refine ab_iinc (v := 10) (lv' := [some (.ref m), some (.int 0), some (.int 0), some (.int 10)]) d_M_seat_92 rfl (by decide) (by decide) rfl ?_
  refine ab_goto (tgt := 62) d_M_seat_95 (by decide) ?_
  refine ab_iload_n d_M_seat_62 rfl rfl ?_
  refine ab_if_ne (tgt := 98) d_M_seat_63 (by decide) (fun q349 => by exact absurd q349 (by decide)) (fun q349 => ?_)
  refine ab_iload_n d_M_seat_66 rfl rfl ?_
  refine ab_aload_n d_M_seat_67 rfl rfl rfl ?_
  refine ab_get (f := 9) d_M_seat_68 c325 rfl (by decide) (k10 2 rfl rfl) rfl ?_
  refine ab_getN (f := 0) d_M_seat_71 c336 rfl (by decide) (k9 89 rfl rfl) rfl ?_
  refine ab_bipush (v := 16) d_M_seat_74 (by decide) ?_
  refine ab_iadd d_M_seat_76 ?_
  refine ab_topi (fun x350 ex350 => ?_)
  obtain rfl : x350 = 16 := ex350.trans (by decide)
  clear ex350
  refine ab_icmp_gt (tgt := 98) d_M_seat_77 (by decide) (fun q351 => by exact absurd q351 (by decide)) (fun q351 => ?_)
  refine ab_aload_n d_M_seat_80 rfl rfl rfl ?_
  refine ab_get (f := 15) d_M_seat_81 c325 rfl (by decide) (k10 8 rfl rfl) rfl ?_
  refine ab_aload_n d_M_seat_84 rfl rfl rfl ?_
  refine ab_iload_n d_M_seat_85 rfl rfl ?_
  refine ab_iload_n d_M_seat_86 rfl rfl ?_
  refine ab_callV_a (As := [.int 0, .int 10]) (rest := [.ref (m + 100)]) d_M_seat_87 (r_M_slot c325) (ab_mkC s_M_slot (Nat.le_of_ble_eq_true rfl) (Nat.le_of_ble_eq_true rfl) (by decide) (by decide)) (k11 210 rfl rfl) i_M_slot v_M_slot c325 rfl rfl (Nat.le_of_ble_eq_true rfl) (fun h353 q352 => ?_)
  subst q352
  refine ab_topi (fun x354 ex354 => ?_)
  obtain rfl : x354 = 10 := ex354.trans (by decide)
  clear ex354
  refine ab_iconst (v := 0) d_M_seat_90 (by decide) ?_
  refine ab_zast d_M_seat_91 tZ c348 (in_of (by decide) (by decide) (by decide)) ?_
  refine ab_gen (fun h355 e356 => ?_)
  have c357 : h355[m]? = some (.inr (12, [.int 0, .ref (m + 1), .int 0, .ref (m + 2), .ref (m + 33), .int 0, .int (-1), .int (-1), .ref (m + 64), .ref (m + 74), .ref (m + 84), .ref (m + 94), .int 0, .int 0, .ref (m + 99), .ref (m + 100), .ref (m + 101), .ref (m + 102), .ref (m + 103), .ref (m + 104), .int 0, .ref (m + 105), .int 0, .int 0, .int 0, .ref (m + 106), .ref (m + 107), .int 0, .int 0])) := ab_other e356 (by omega) c325
  have c358 : h355[m+1]? = some (.inl (.byte, 6000, .inl (fun _ => 0))) := ab_other e356 (by omega) c326
  have c359 : h355[m+99]? = some (.inl (.int, 256, .inl (fun _ => 0))) := ab_other e356 (by omega) c327
  have c360 : h355[m+100]? = some (.inl (.boolean, 256, .inl (upd y347 (10 : Int32).toNatClampNeg (vp_nar .boolean 0)))) := ab_self e356 c348
  have c361 : h355[m+101]? = some (.inl (.int, 64, .inl (fun _ => 0))) := ab_other e356 (by omega) c329
  have c362 : h355[m+102]? = some (.inl (.int, 4, .inl (fun _ => 0))) := ab_other e356 (by omega) c330
  have c363 : h355[m+103]? = some (.inl (.int, 4, .inl (fun _ => 0))) := ab_other e356 (by omega) c331
  have c364 : h355[m+104]? = some (.inl (.int, 256, .inl (fun _ => 0))) := ab_other e356 (by omega) c332
  have c365 : h355[m+105]? = some (.inl (.byte, 58000, .inl (fun _ => 0))) := ab_other e356 (by omega) c333
  have c366 : h355[m+106]? = some (.inl (.boolean, 8, .inl (a0_M w 25))) := ab_other e356 (by omega) c334
  have c367 : h355[m+107]? = some (.inl (.boolean, 8, .inl (fun _ => 0))) := ab_other e356 (by omega) c335
  have c368 : h355[m+74]? = some (.inr (13, [.int 0, .int 0, .int 0, .int 0, .ref (m + 74 + 1), .ref (m + 74 + 2), .ref (m + 74 + 3), .ref (m + 74 + 4), .int 0, .ref (m + 74 + 5), .ref (m + 74 + 6), .ref (m + 74 + 7), .ref (m + 74 + 8), .int (-1), .int 0, .int 0, .int 0, .ref (m + 74 + 9)])) := ab_other e356 (by omega) c336
  have c369 : h355[m+74+1]? = some (.inl (.int, 256, .inl (fun _ => 0))) := ab_other e356 (by omega) c337
  have c370 : h355[m+74+2]? = some (.inl (.boolean, 256, .inl (fun _ => 0))) := ab_other e356 (by omega) c338
  have c371 : h355[m+74+3]? = some (.inl (.int, 256, .inl (fun _ => 0))) := ab_other e356 (by omega) c339
  have c372 : h355[m+74+4]? = some (.inl (.int, 12288, .inl (fun _ => 0))) := ab_other e356 (by omega) c340
  have c373 : h355[m+74+5]? = some (.inl (.int, 256, .inl (fun _ => 0))) := ab_other e356 (by omega) c341
  have c374 : h355[m+74+6]? = some (.inl (.int, 256, .inl (fun _ => 0))) := ab_other e356 (by omega) c342
  have c375 : h355[m+74+7]? = some (.inl (.int, 256, .inl (fun _ => 0))) := ab_other e356 (by omega) c343
  have c376 : h355[m+74+8]? = some (.inl (.int, 1024, .inl (fun _ => 0))) := ab_other e356 (by omega) c344
  have c377 : h355[m+74+9]? = some (.inl (.int, 32, .inl (fun _ => 0))) := ab_other e356 (by omega) c345
  have fr378 : ab_fr (fun _ => True) h h355 := ab_fr_set fr346 e356 (by trivial)
  clear c325 c326 c327 c348 c329 c330 c331 c332 c333 c334 c335 c336 c337 c338 c339 c340 c341 c342 c343 c344 c345 fr346 e356
  try clear h323
  obtain ⟨y379, c380⟩ : ∃ f : Nat → Int32, h355[m+100]? = some (.inl (.boolean, 256, .inl f)) := ⟨_, c360⟩
  clear c360
  refine ab_iinc (v := 11) (lv' := [some (.ref m), some (.int 0), some (.int 0), some (.int 11)]) d_M_seat_92 rfl (by decide) (by decide) rfl ?_
  refine ab_goto (tgt := 62) d_M_seat_95 (by decide) ?_
  refine ab_iload_n d_M_seat_62 rfl rfl ?_
  refine ab_if_ne (tgt := 98) d_M_seat_63 (by decide) (fun q381 => by exact absurd q381 (by decide)) (fun q381 => ?_)
  refine ab_iload_n d_M_seat_66 rfl rfl ?_
  refine ab_aload_n d_M_seat_67 rfl rfl rfl ?_
  refine ab_get (f := 9) d_M_seat_68 c357 rfl (by decide) (k10 2 rfl rfl) rfl ?_
  refine ab_getN (f := 0) d_M_seat_71 c368 rfl (by decide) (k9 89 rfl rfl) rfl ?_
  refine ab_bipush (v := 16) d_M_seat_74 (by decide) ?_
  refine ab_iadd d_M_seat_76 ?_
  refine ab_topi (fun x382 ex382 => ?_)
  obtain rfl : x382 = 16 := ex382.trans (by decide)
  clear ex382
  refine ab_icmp_gt (tgt := 98) d_M_seat_77 (by decide) (fun q383 => by exact absurd q383 (by decide)) (fun q383 => ?_)
  refine ab_aload_n d_M_seat_80 rfl rfl rfl ?_
  refine ab_get (f := 15) d_M_seat_81 c357 rfl (by decide) (k10 8 rfl rfl) rfl ?_
  refine ab_aload_n d_M_seat_84 rfl rfl rfl ?_
  refine ab_iload_n d_M_seat_85 rfl rfl ?_
  refine ab_iload_n d_M_seat_86 rfl rfl ?_
  refine ab_callV_a (As := [.int 0, .int 11]) (rest := [.ref (m + 100)]) d_M_seat_87 (r_M_slot c357) (ab_mkC s_M_slot (Nat.le_of_ble_eq_true rfl) (Nat.le_of_ble_eq_true rfl) (by decide) (by decide)) (k11 210 rfl rfl) i_M_slot v_M_slot c357 rfl rfl (Nat.le_of_ble_eq_true rfl) (fun h385 q384 => ?_)
  subst q384
  refine ab_topi (fun x386 ex386 => ?_)
  obtain rfl : x386 = 11 := ex386.trans (by decide)
  clear ex386
  refine ab_iconst (v := 0) d_M_seat_90 (by decide) ?_
  refine ab_zast d_M_seat_91 tZ c380 (in_of (by decide) (by decide) (by decide)) ?_
  refine ab_gen (fun h387 e388 => ?_)
  have c389 : h387[m]? = some (.inr (12, [.int 0, .ref (m + 1), .int 0, .ref (m + 2), .ref (m + 33), .int 0, .int (-1), .int (-1), .ref (m + 64), .ref (m + 74), .ref (m + 84), .ref (m + 94), .int 0, .int 0, .ref (m + 99), .ref (m + 100), .ref (m + 101), .ref (m + 102), .ref (m + 103), .ref (m + 104), .int 0, .ref (m + 105), .int 0, .int 0, .int 0, .ref (m + 106), .ref (m + 107), .int 0, .int 0])) := ab_other e388 (by omega) c357
  have c390 : h387[m+1]? = some (.inl (.byte, 6000, .inl (fun _ => 0))) := ab_other e388 (by omega) c358
  have c391 : h387[m+99]? = some (.inl (.int, 256, .inl (fun _ => 0))) := ab_other e388 (by omega) c359
  have c392 : h387[m+100]? = some (.inl (.boolean, 256, .inl (upd y379 (11 : Int32).toNatClampNeg (vp_nar .boolean 0)))) := ab_self e388 c380
  have c393 : h387[m+101]? = some (.inl (.int, 64, .inl (fun _ => 0))) := ab_other e388 (by omega) c361
  have c394 : h387[m+102]? = some (.inl (.int, 4, .inl (fun _ => 0))) := ab_other e388 (by omega) c362
  have c395 : h387[m+103]? = some (.inl (.int, 4, .inl (fun _ => 0))) := ab_other e388 (by omega) c363
  have c396 : h387[m+104]? = some (.inl (.int, 256, .inl (fun _ => 0))) := ab_other e388 (by omega) c364
  have c397 : h387[m+105]? = some (.inl (.byte, 58000, .inl (fun _ => 0))) := ab_other e388 (by omega) c365
  have c398 : h387[m+106]? = some (.inl (.boolean, 8, .inl (a0_M w 25))) := ab_other e388 (by omega) c366
  have c399 : h387[m+107]? = some (.inl (.boolean, 8, .inl (fun _ => 0))) := ab_other e388 (by omega) c367
  have c400 : h387[m+74]? = some (.inr (13, [.int 0, .int 0, .int 0, .int 0, .ref (m + 74 + 1), .ref (m + 74 + 2), .ref (m + 74 + 3), .ref (m + 74 + 4), .int 0, .ref (m + 74 + 5), .ref (m + 74 + 6), .ref (m + 74 + 7), .ref (m + 74 + 8), .int (-1), .int 0, .int 0, .int 0, .ref (m + 74 + 9)])) := ab_other e388 (by omega) c368
  have c401 : h387[m+74+1]? = some (.inl (.int, 256, .inl (fun _ => 0))) := ab_other e388 (by omega) c369
  have c402 : h387[m+74+2]? = some (.inl (.boolean, 256, .inl (fun _ => 0))) := ab_other e388 (by omega) c370
  have c403 : h387[m+74+3]? = some (.inl (.int, 256, .inl (fun _ => 0))) := ab_other e388 (by omega) c371
  have c404 : h387[m+74+4]? = some (.inl (.int, 12288, .inl (fun _ => 0))) := ab_other e388 (by omega) c372
  have c405 : h387[m+74+5]? = some (.inl (.int, 256, .inl (fun _ => 0))) := ab_other e388 (by omega) c373
  have c406 : h387[m+74+6]? = some (.inl (.int, 256, .inl (fun _ => 0))) := ab_other e388 (by omega) c374
  have c407 : h387[m+74+7]? = some (.inl (.int, 256, .inl (fun _ => 0))) := ab_other e388 (by omega) c375
  have c408 : h387[m+74+8]? = some (.inl (.int, 1024, .inl (fun _ => 0))) := ab_other e388 (by omega) c376
  have c409 : h387[m+74+9]? = some (.inl (.int, 32, .inl (fun _ => 0))) := ab_other e388 (by omega) c377
  have fr410 : ab_fr (fun _ => True) h h387 := ab_fr_set fr378 e388 (by trivial)
  clear c357 c358 c359 c380 c361 c362 c363 c364 c365 c366 c367 c368 c369 c370 c371 c372 c373 c374 c375 c376 c377 fr378 e388
  try clear h355
  obtain ⟨y411, c412⟩ : ∃ f : Nat → Int32, h387[m+100]? = some (.inl (.boolean, 256, .inl f)) := ⟨_, c392⟩
  clear c392
  refine ab_iinc (v := 12) (lv' := [some (.ref m), some (.int 0), some (.int 0), some (.int 12)]) d_M_seat_92 rfl (by decide) (by decide) rfl ?_
  refine ab_goto (tgt := 62) d_M_seat_95 (by decide) ?_
  refine ab_iload_n d_M_seat_62 rfl rfl ?_
  refine ab_if_ne (tgt := 98) d_M_seat_63 (by decide) (fun q413 => by exact absurd q413 (by decide)) (fun q413 => ?_)
  refine ab_iload_n d_M_seat_66 rfl rfl ?_
  refine ab_aload_n d_M_seat_67 rfl rfl rfl ?_
  refine ab_get (f := 9) d_M_seat_68 c389 rfl (by decide) (k10 2 rfl rfl) rfl ?_
  refine ab_getN (f := 0) d_M_seat_71 c400 rfl (by decide) (k9 89 rfl rfl) rfl ?_
  refine ab_bipush (v := 16) d_M_seat_74 (by decide) ?_
  refine ab_iadd d_M_seat_76 ?_
  refine ab_topi (fun x414 ex414 => ?_)
  obtain rfl : x414 = 16 := ex414.trans (by decide)
  clear ex414
  refine ab_icmp_gt (tgt := 98) d_M_seat_77 (by decide) (fun q415 => by exact absurd q415 (by decide)) (fun q415 => ?_)
  refine ab_aload_n d_M_seat_80 rfl rfl rfl ?_
  refine ab_get (f := 15) d_M_seat_81 c389 rfl (by decide) (k10 8 rfl rfl) rfl ?_
  refine ab_aload_n d_M_seat_84 rfl rfl rfl ?_
  refine ab_iload_n d_M_seat_85 rfl rfl ?_
  refine ab_iload_n d_M_seat_86 rfl rfl ?_
  refine ab_callV_a (As := [.int 0, .int 12]) (rest := [.ref (m + 100)]) d_M_seat_87 (r_M_slot c389) (ab_mkC s_M_slot (Nat.le_of_ble_eq_true rfl) (Nat.le_of_ble_eq_true rfl) (by decide) (by decide)) (k11 210 rfl rfl) i_M_slot v_M_slot c389 rfl rfl (Nat.le_of_ble_eq_true rfl) (fun h417 q416 => ?_)
  subst q416
  refine ab_topi (fun x418 ex418 => ?_)
  obtain rfl : x418 = 12 := ex418.trans (by decide)
  clear ex418
  refine ab_iconst (v := 0) d_M_seat_90 (by decide) ?_
  refine ab_zast d_M_seat_91 tZ c412 (in_of (by decide) (by decide) (by decide)) ?_
  refine ab_gen (fun h419 e420 => ?_)
  have c421 : h419[m]? = some (.inr (12, [.int 0, .ref (m + 1), .int 0, .ref (m + 2), .ref (m + 33), .int 0, .int (-1), .int (-1), .ref (m + 64), .ref (m + 74), .ref (m + 84), .ref (m + 94), .int 0, .int 0, .ref (m + 99), .ref (m + 100), .ref (m + 101), .ref (m + 102), .ref (m + 103), .ref (m + 104), .int 0, .ref (m + 105), .int 0, .int 0, .int 0, .ref (m + 106), .ref (m + 107), .int 0, .int 0])) := ab_other e420 (by omega) c389
  have c422 : h419[m+1]? = some (.inl (.byte, 6000, .inl (fun _ => 0))) := ab_other e420 (by omega) c390
  have c423 : h419[m+99]? = some (.inl (.int, 256, .inl (fun _ => 0))) := ab_other e420 (by omega) c391
  have c424 : h419[m+100]? = some (.inl (.boolean, 256, .inl (upd y411 (12 : Int32).toNatClampNeg (vp_nar .boolean 0)))) := ab_self e420 c412
  have c425 : h419[m+101]? = some (.inl (.int, 64, .inl (fun _ => 0))) := ab_other e420 (by omega) c393
  have c426 : h419[m+102]? = some (.inl (.int, 4, .inl (fun _ => 0))) := ab_other e420 (by omega) c394
  have c427 : h419[m+103]? = some (.inl (.int, 4, .inl (fun _ => 0))) := ab_other e420 (by omega) c395
  have c428 : h419[m+104]? = some (.inl (.int, 256, .inl (fun _ => 0))) := ab_other e420 (by omega) c396
  have c429 : h419[m+105]? = some (.inl (.byte, 58000, .inl (fun _ => 0))) := ab_other e420 (by omega) c397
  have c430 : h419[m+106]? = some (.inl (.boolean, 8, .inl (a0_M w 25))) := ab_other e420 (by omega) c398
  have c431 : h419[m+107]? = some (.inl (.boolean, 8, .inl (fun _ => 0))) := ab_other e420 (by omega) c399
  have c432 : h419[m+74]? = some (.inr (13, [.int 0, .int 0, .int 0, .int 0, .ref (m + 74 + 1), .ref (m + 74 + 2), .ref (m + 74 + 3), .ref (m + 74 + 4), .int 0, .ref (m + 74 + 5), .ref (m + 74 + 6), .ref (m + 74 + 7), .ref (m + 74 + 8), .int (-1), .int 0, .int 0, .int 0, .ref (m + 74 + 9)])) := ab_other e420 (by omega) c400
  have c433 : h419[m+74+1]? = some (.inl (.int, 256, .inl (fun _ => 0))) := ab_other e420 (by omega) c401
  have c434 : h419[m+74+2]? = some (.inl (.boolean, 256, .inl (fun _ => 0))) := ab_other e420 (by omega) c402
  have c435 : h419[m+74+3]? = some (.inl (.int, 256, .inl (fun _ => 0))) := ab_other e420 (by omega) c403
  have c436 : h419[m+74+4]? = some (.inl (.int, 12288, .inl (fun _ => 0))) := ab_other e420 (by omega) c404
  have c437 : h419[m+74+5]? = some (.inl (.int, 256, .inl (fun _ => 0))) := ab_other e420 (by omega) c405
  have c438 : h419[m+74+6]? = some (.inl (.int, 256, .inl (fun _ => 0))) := ab_other e420 (by omega) c406
  have c439 : h419[m+74+7]? = some (.inl (.int, 256, .inl (fun _ => 0))) := ab_other e420 (by omega) c407
  have c440 : h419[m+74+8]? = some (.inl (.int, 1024, .inl (fun _ => 0))) := ab_other e420 (by omega) c408
  have c441 : h419[m+74+9]? = some (.inl (.int, 32, .inl (fun _ => 0))) := ab_other e420 (by omega) c409
  have fr442 : ab_fr (fun _ => True) h h419 := ab_fr_set fr410 e420 (by trivial)
  clear c389 c390 c391 c412 c393 c394 c395 c396 c397 c398 c399 c400 c401 c402 c403 c404 c405 c406 c407 c408 c409 fr410 e420
  try clear h387
  obtain ⟨y443, c444⟩ : ∃ f : Nat → Int32, h419[m+100]? = some (.inl (.boolean, 256, .inl f)) := ⟨_, c424⟩
  clear c424
  refine ab_iinc (v := 13) (lv' := [some (.ref m), some (.int 0), some (.int 0), some (.int 13)]) d_M_seat_92 rfl (by decide) (by decide) rfl ?_
  refine ab_goto (tgt := 62) d_M_seat_95 (by decide) ?_
  refine ab_iload_n d_M_seat_62 rfl rfl ?_
  refine ab_if_ne (tgt := 98) d_M_seat_63 (by decide) (fun q445 => by exact absurd q445 (by decide)) (fun q445 => ?_)
  refine ab_iload_n d_M_seat_66 rfl rfl ?_
  refine ab_aload_n d_M_seat_67 rfl rfl rfl ?_
  refine ab_get (f := 9) d_M_seat_68 c421 rfl (by decide) (k10 2 rfl rfl) rfl ?_
  refine ab_getN (f := 0) d_M_seat_71 c432 rfl (by decide) (k9 89 rfl rfl) rfl ?_
  refine ab_bipush (v := 16) d_M_seat_74 (by decide) ?_
  refine ab_iadd d_M_seat_76 ?_
  refine ab_topi (fun x446 ex446 => ?_)
  obtain rfl : x446 = 16 := ex446.trans (by decide)
  clear ex446
  refine ab_icmp_gt (tgt := 98) d_M_seat_77 (by decide) (fun q447 => by exact absurd q447 (by decide)) (fun q447 => ?_)
  refine ab_aload_n d_M_seat_80 rfl rfl rfl ?_
  refine ab_get (f := 15) d_M_seat_81 c421 rfl (by decide) (k10 8 rfl rfl) rfl ?_
  refine ab_aload_n d_M_seat_84 rfl rfl rfl ?_
  refine ab_iload_n d_M_seat_85 rfl rfl ?_
  refine ab_iload_n d_M_seat_86 rfl rfl ?_
  refine ab_callV_a (As := [.int 0, .int 13]) (rest := [.ref (m + 100)]) d_M_seat_87 (r_M_slot c421) (ab_mkC s_M_slot (Nat.le_of_ble_eq_true rfl) (Nat.le_of_ble_eq_true rfl) (by decide) (by decide)) (k11 210 rfl rfl) i_M_slot v_M_slot c421 rfl rfl (Nat.le_of_ble_eq_true rfl) (fun h449 q448 => ?_)
  subst q448
  refine ab_topi (fun x450 ex450 => ?_)
  obtain rfl : x450 = 13 := ex450.trans (by decide)
  clear ex450
  refine ab_iconst (v := 0) d_M_seat_90 (by decide) ?_
  refine ab_zast d_M_seat_91 tZ c444 (in_of (by decide) (by decide) (by decide)) ?_
  refine ab_gen (fun h451 e452 => ?_)
  have c453 : h451[m]? = some (.inr (12, [.int 0, .ref (m + 1), .int 0, .ref (m + 2), .ref (m + 33), .int 0, .int (-1), .int (-1), .ref (m + 64), .ref (m + 74), .ref (m + 84), .ref (m + 94), .int 0, .int 0, .ref (m + 99), .ref (m + 100), .ref (m + 101), .ref (m + 102), .ref (m + 103), .ref (m + 104), .int 0, .ref (m + 105), .int 0, .int 0, .int 0, .ref (m + 106), .ref (m + 107), .int 0, .int 0])) := ab_other e452 (by omega) c421
  have c454 : h451[m+1]? = some (.inl (.byte, 6000, .inl (fun _ => 0))) := ab_other e452 (by omega) c422
  have c455 : h451[m+99]? = some (.inl (.int, 256, .inl (fun _ => 0))) := ab_other e452 (by omega) c423
  have c456 : h451[m+100]? = some (.inl (.boolean, 256, .inl (upd y443 (13 : Int32).toNatClampNeg (vp_nar .boolean 0)))) := ab_self e452 c444
  have c457 : h451[m+101]? = some (.inl (.int, 64, .inl (fun _ => 0))) := ab_other e452 (by omega) c425
  have c458 : h451[m+102]? = some (.inl (.int, 4, .inl (fun _ => 0))) := ab_other e452 (by omega) c426
  have c459 : h451[m+103]? = some (.inl (.int, 4, .inl (fun _ => 0))) := ab_other e452 (by omega) c427
  have c460 : h451[m+104]? = some (.inl (.int, 256, .inl (fun _ => 0))) := ab_other e452 (by omega) c428
  have c461 : h451[m+105]? = some (.inl (.byte, 58000, .inl (fun _ => 0))) := ab_other e452 (by omega) c429
  have c462 : h451[m+106]? = some (.inl (.boolean, 8, .inl (a0_M w 25))) := ab_other e452 (by omega) c430
  have c463 : h451[m+107]? = some (.inl (.boolean, 8, .inl (fun _ => 0))) := ab_other e452 (by omega) c431
  have c464 : h451[m+74]? = some (.inr (13, [.int 0, .int 0, .int 0, .int 0, .ref (m + 74 + 1), .ref (m + 74 + 2), .ref (m + 74 + 3), .ref (m + 74 + 4), .int 0, .ref (m + 74 + 5), .ref (m + 74 + 6), .ref (m + 74 + 7), .ref (m + 74 + 8), .int (-1), .int 0, .int 0, .int 0, .ref (m + 74 + 9)])) := ab_other e452 (by omega) c432
  have c465 : h451[m+74+1]? = some (.inl (.int, 256, .inl (fun _ => 0))) := ab_other e452 (by omega) c433
  have c466 : h451[m+74+2]? = some (.inl (.boolean, 256, .inl (fun _ => 0))) := ab_other e452 (by omega) c434
  have c467 : h451[m+74+3]? = some (.inl (.int, 256, .inl (fun _ => 0))) := ab_other e452 (by omega) c435
  have c468 : h451[m+74+4]? = some (.inl (.int, 12288, .inl (fun _ => 0))) := ab_other e452 (by omega) c436
  have c469 : h451[m+74+5]? = some (.inl (.int, 256, .inl (fun _ => 0))) := ab_other e452 (by omega) c437
  have c470 : h451[m+74+6]? = some (.inl (.int, 256, .inl (fun _ => 0))) := ab_other e452 (by omega) c438
  have c471 : h451[m+74+7]? = some (.inl (.int, 256, .inl (fun _ => 0))) := ab_other e452 (by omega) c439
  have c472 : h451[m+74+8]? = some (.inl (.int, 1024, .inl (fun _ => 0))) := ab_other e452 (by omega) c440
  have c473 : h451[m+74+9]? = some (.inl (.int, 32, .inl (fun _ => 0))) := ab_other e452 (by omega) c441
  have fr474 : ab_fr (fun _ => True) h h451 := ab_fr_set fr442 e452 (by trivial)
  clear c421 c422 c423 c444 c425 c426 c427 c428 c429 c430 c431 c432 c433 c434 c435 c436 c437 c438 c439 c440 c441 fr442 e452
  try clear h419
  obtain ⟨y475, c476⟩ : ∃ f : Nat → Int32, h451[m+100]? = some (.inl (.boolean, 256, .inl f)) := ⟨_, c456⟩
  clear c456
  refine ab_iinc (v := 14) (lv' := [some (.ref m), some (.int 0), some (.int 0), some (.int 14)]) d_M_seat_92 rfl (by decide) (by decide) rfl ?_
  refine ab_goto (tgt := 62) d_M_seat_95 (by decide) ?_
  refine ab_iload_n d_M_seat_62 rfl rfl ?_
  refine ab_if_ne (tgt := 98) d_M_seat_63 (by decide) (fun q477 => by exact absurd q477 (by decide)) (fun q477 => ?_)
  refine ab_iload_n d_M_seat_66 rfl rfl ?_
  refine ab_aload_n d_M_seat_67 rfl rfl rfl ?_
  refine ab_get (f := 9) d_M_seat_68 c453 rfl (by decide) (k10 2 rfl rfl) rfl ?_
  refine ab_getN (f := 0) d_M_seat_71 c464 rfl (by decide) (k9 89 rfl rfl) rfl ?_
  refine ab_bipush (v := 16) d_M_seat_74 (by decide) ?_
  refine ab_iadd d_M_seat_76 ?_
  refine ab_topi (fun x478 ex478 => ?_)
  obtain rfl : x478 = 16 := ex478.trans (by decide)
  clear ex478
  refine ab_icmp_gt (tgt := 98) d_M_seat_77 (by decide) (fun q479 => by exact absurd q479 (by decide)) (fun q479 => ?_)
  refine ab_aload_n d_M_seat_80 rfl rfl rfl ?_
  refine ab_get (f := 15) d_M_seat_81 c453 rfl (by decide) (k10 8 rfl rfl) rfl ?_
  refine ab_aload_n d_M_seat_84 rfl rfl rfl ?_
  refine ab_iload_n d_M_seat_85 rfl rfl ?_
  refine ab_iload_n d_M_seat_86 rfl rfl ?_
  refine ab_callV_a (As := [.int 0, .int 14]) (rest := [.ref (m + 100)]) d_M_seat_87 (r_M_slot c453) (ab_mkC s_M_slot (Nat.le_of_ble_eq_true rfl) (Nat.le_of_ble_eq_true rfl) (by decide) (by decide)) (k11 210 rfl rfl) i_M_slot v_M_slot c453 rfl rfl (Nat.le_of_ble_eq_true rfl) (fun h481 q480 => ?_)
  subst q480
  refine ab_topi (fun x482 ex482 => ?_)
  obtain rfl : x482 = 14 := ex482.trans (by decide)
  clear ex482
  refine ab_iconst (v := 0) d_M_seat_90 (by decide) ?_
  refine ab_zast d_M_seat_91 tZ c476 (in_of (by decide) (by decide) (by decide)) ?_
  refine ab_gen (fun h483 e484 => ?_)
  have c485 : h483[m]? = some (.inr (12, [.int 0, .ref (m + 1), .int 0, .ref (m + 2), .ref (m + 33), .int 0, .int (-1), .int (-1), .ref (m + 64), .ref (m + 74), .ref (m + 84), .ref (m + 94), .int 0, .int 0, .ref (m + 99), .ref (m + 100), .ref (m + 101), .ref (m + 102), .ref (m + 103), .ref (m + 104), .int 0, .ref (m + 105), .int 0, .int 0, .int 0, .ref (m + 106), .ref (m + 107), .int 0, .int 0])) := ab_other e484 (by omega) c453
  have c486 : h483[m+1]? = some (.inl (.byte, 6000, .inl (fun _ => 0))) := ab_other e484 (by omega) c454
  have c487 : h483[m+99]? = some (.inl (.int, 256, .inl (fun _ => 0))) := ab_other e484 (by omega) c455
  have c488 : h483[m+100]? = some (.inl (.boolean, 256, .inl (upd y475 (14 : Int32).toNatClampNeg (vp_nar .boolean 0)))) := ab_self e484 c476
  have c489 : h483[m+101]? = some (.inl (.int, 64, .inl (fun _ => 0))) := ab_other e484 (by omega) c457
  have c490 : h483[m+102]? = some (.inl (.int, 4, .inl (fun _ => 0))) := ab_other e484 (by omega) c458
  have c491 : h483[m+103]? = some (.inl (.int, 4, .inl (fun _ => 0))) := ab_other e484 (by omega) c459
  have c492 : h483[m+104]? = some (.inl (.int, 256, .inl (fun _ => 0))) := ab_other e484 (by omega) c460
  have c493 : h483[m+105]? = some (.inl (.byte, 58000, .inl (fun _ => 0))) := ab_other e484 (by omega) c461
  have c494 : h483[m+106]? = some (.inl (.boolean, 8, .inl (a0_M w 25))) := ab_other e484 (by omega) c462
  have c495 : h483[m+107]? = some (.inl (.boolean, 8, .inl (fun _ => 0))) := ab_other e484 (by omega) c463
  have c496 : h483[m+74]? = some (.inr (13, [.int 0, .int 0, .int 0, .int 0, .ref (m + 74 + 1), .ref (m + 74 + 2), .ref (m + 74 + 3), .ref (m + 74 + 4), .int 0, .ref (m + 74 + 5), .ref (m + 74 + 6), .ref (m + 74 + 7), .ref (m + 74 + 8), .int (-1), .int 0, .int 0, .int 0, .ref (m + 74 + 9)])) := ab_other e484 (by omega) c464
  have c497 : h483[m+74+1]? = some (.inl (.int, 256, .inl (fun _ => 0))) := ab_other e484 (by omega) c465
  have c498 : h483[m+74+2]? = some (.inl (.boolean, 256, .inl (fun _ => 0))) := ab_other e484 (by omega) c466
  have c499 : h483[m+74+3]? = some (.inl (.int, 256, .inl (fun _ => 0))) := ab_other e484 (by omega) c467
  have c500 : h483[m+74+4]? = some (.inl (.int, 12288, .inl (fun _ => 0))) := ab_other e484 (by omega) c468
  have c501 : h483[m+74+5]? = some (.inl (.int, 256, .inl (fun _ => 0))) := ab_other e484 (by omega) c469
  have c502 : h483[m+74+6]? = some (.inl (.int, 256, .inl (fun _ => 0))) := ab_other e484 (by omega) c470
  have c503 : h483[m+74+7]? = some (.inl (.int, 256, .inl (fun _ => 0))) := ab_other e484 (by omega) c471
  have c504 : h483[m+74+8]? = some (.inl (.int, 1024, .inl (fun _ => 0))) := ab_other e484 (by omega) c472
  have c505 : h483[m+74+9]? = some (.inl (.int, 32, .inl (fun _ => 0))) := ab_other e484 (by omega) c473
  have fr506 : ab_fr (fun _ => True) h h483 := ab_fr_set fr474 e484 (by trivial)
  clear c453 c454 c455 c476 c457 c458 c459 c460 c461 c462 c463 c464 c465 c466 c467 c468 c469 c470 c471 c472 c473 fr474 e484
  try clear h451
  obtain ⟨y507, c508⟩ : ∃ f : Nat → Int32, h483[m+100]? = some (.inl (.boolean, 256, .inl f)) := ⟨_, c488⟩
  clear c488
  refine ab_iinc (v := 15) (lv' := [some (.ref m), some (.int 0), some (.int 0), some (.int 15)]) d_M_seat_92 rfl (by decide) (by decide) rfl ?_
  refine ab_goto (tgt := 62) d_M_seat_95 (by decide) ?_
  refine ab_iload_n d_M_seat_62 rfl rfl ?_
  refine ab_if_ne (tgt := 98) d_M_seat_63 (by decide) (fun q509 => by exact absurd q509 (by decide)) (fun q509 => ?_)
  refine ab_iload_n d_M_seat_66 rfl rfl ?_
  refine ab_aload_n d_M_seat_67 rfl rfl rfl ?_
  refine ab_get (f := 9) d_M_seat_68 c485 rfl (by decide) (k10 2 rfl rfl) rfl ?_
  refine ab_getN (f := 0) d_M_seat_71 c496 rfl (by decide) (k9 89 rfl rfl) rfl ?_
  refine ab_bipush (v := 16) d_M_seat_74 (by decide) ?_
  refine ab_iadd d_M_seat_76 ?_
  refine ab_topi (fun x510 ex510 => ?_)
  obtain rfl : x510 = 16 := ex510.trans (by decide)
  clear ex510
  refine ab_icmp_gt (tgt := 98) d_M_seat_77 (by decide) (fun q511 => by exact absurd q511 (by decide)) (fun q511 => ?_)
  refine ab_aload_n d_M_seat_80 rfl rfl rfl ?_
  refine ab_get (f := 15) d_M_seat_81 c485 rfl (by decide) (k10 8 rfl rfl) rfl ?_
  refine ab_aload_n d_M_seat_84 rfl rfl rfl ?_
  refine ab_iload_n d_M_seat_85 rfl rfl ?_
  refine ab_iload_n d_M_seat_86 rfl rfl ?_
  refine ab_callV_a (As := [.int 0, .int 15]) (rest := [.ref (m + 100)]) d_M_seat_87 (r_M_slot c485) (ab_mkC s_M_slot (Nat.le_of_ble_eq_true rfl) (Nat.le_of_ble_eq_true rfl) (by decide) (by decide)) (k11 210 rfl rfl) i_M_slot v_M_slot c485 rfl rfl (Nat.le_of_ble_eq_true rfl) (fun h513 q512 => ?_)
  subst q512
  refine ab_topi (fun x514 ex514 => ?_)
  obtain rfl : x514 = 15 := ex514.trans (by decide)
  clear ex514
  refine ab_iconst (v := 0) d_M_seat_90 (by decide) ?_
  refine ab_zast d_M_seat_91 tZ c508 (in_of (by decide) (by decide) (by decide)) ?_
  refine ab_gen (fun h515 e516 => ?_)
  have c517 : h515[m]? = some (.inr (12, [.int 0, .ref (m + 1), .int 0, .ref (m + 2), .ref (m + 33), .int 0, .int (-1), .int (-1), .ref (m + 64), .ref (m + 74), .ref (m + 84), .ref (m + 94), .int 0, .int 0, .ref (m + 99), .ref (m + 100), .ref (m + 101), .ref (m + 102), .ref (m + 103), .ref (m + 104), .int 0, .ref (m + 105), .int 0, .int 0, .int 0, .ref (m + 106), .ref (m + 107), .int 0, .int 0])) := ab_other e516 (by omega) c485
  have c518 : h515[m+1]? = some (.inl (.byte, 6000, .inl (fun _ => 0))) := ab_other e516 (by omega) c486
  have c519 : h515[m+99]? = some (.inl (.int, 256, .inl (fun _ => 0))) := ab_other e516 (by omega) c487
  have c520 : h515[m+100]? = some (.inl (.boolean, 256, .inl (upd y507 (15 : Int32).toNatClampNeg (vp_nar .boolean 0)))) := ab_self e516 c508
  have c521 : h515[m+101]? = some (.inl (.int, 64, .inl (fun _ => 0))) := ab_other e516 (by omega) c489
  have c522 : h515[m+102]? = some (.inl (.int, 4, .inl (fun _ => 0))) := ab_other e516 (by omega) c490
  have c523 : h515[m+103]? = some (.inl (.int, 4, .inl (fun _ => 0))) := ab_other e516 (by omega) c491
  have c524 : h515[m+104]? = some (.inl (.int, 256, .inl (fun _ => 0))) := ab_other e516 (by omega) c492
  have c525 : h515[m+105]? = some (.inl (.byte, 58000, .inl (fun _ => 0))) := ab_other e516 (by omega) c493
  have c526 : h515[m+106]? = some (.inl (.boolean, 8, .inl (a0_M w 25))) := ab_other e516 (by omega) c494
  have c527 : h515[m+107]? = some (.inl (.boolean, 8, .inl (fun _ => 0))) := ab_other e516 (by omega) c495
  have c528 : h515[m+74]? = some (.inr (13, [.int 0, .int 0, .int 0, .int 0, .ref (m + 74 + 1), .ref (m + 74 + 2), .ref (m + 74 + 3), .ref (m + 74 + 4), .int 0, .ref (m + 74 + 5), .ref (m + 74 + 6), .ref (m + 74 + 7), .ref (m + 74 + 8), .int (-1), .int 0, .int 0, .int 0, .ref (m + 74 + 9)])) := ab_other e516 (by omega) c496
  have c529 : h515[m+74+1]? = some (.inl (.int, 256, .inl (fun _ => 0))) := ab_other e516 (by omega) c497
  have c530 : h515[m+74+2]? = some (.inl (.boolean, 256, .inl (fun _ => 0))) := ab_other e516 (by omega) c498
  have c531 : h515[m+74+3]? = some (.inl (.int, 256, .inl (fun _ => 0))) := ab_other e516 (by omega) c499
  have c532 : h515[m+74+4]? = some (.inl (.int, 12288, .inl (fun _ => 0))) := ab_other e516 (by omega) c500
  have c533 : h515[m+74+5]? = some (.inl (.int, 256, .inl (fun _ => 0))) := ab_other e516 (by omega) c501
  have c534 : h515[m+74+6]? = some (.inl (.int, 256, .inl (fun _ => 0))) := ab_other e516 (by omega) c502
  have c535 : h515[m+74+7]? = some (.inl (.int, 256, .inl (fun _ => 0))) := ab_other e516 (by omega) c503
  have c536 : h515[m+74+8]? = some (.inl (.int, 1024, .inl (fun _ => 0))) := ab_other e516 (by omega) c504
  have c537 : h515[m+74+9]? = some (.inl (.int, 32, .inl (fun _ => 0))) := ab_other e516 (by omega) c505
  have fr538 : ab_fr (fun _ => True) h h515 := ab_fr_set fr506 e516 (by trivial)
  clear c485 c486 c487 c508 c489 c490 c491 c492 c493 c494 c495 c496 c497 c498 c499 c500 c501 c502 c503 c504 c505 fr506 e516
  try clear h483
  obtain ⟨y539, c540⟩ : ∃ f : Nat → Int32, h515[m+100]? = some (.inl (.boolean, 256, .inl f)) := ⟨_, c520⟩
  clear c520
  refine ab_iinc (v := 16) (lv' := [some (.ref m), some (.int 0), some (.int 0), some (.int 16)]) d_M_seat_92 rfl (by decide) (by decide) rfl ?_
  refine ab_goto (tgt := 62) d_M_seat_95 (by decide) ?_
  refine ab_iload_n d_M_seat_62 rfl rfl ?_
  refine ab_if_ne (tgt := 98) d_M_seat_63 (by decide) (fun q541 => by exact absurd q541 (by decide)) (fun q541 => ?_)
  refine ab_iload_n d_M_seat_66 rfl rfl ?_
  refine ab_aload_n d_M_seat_67 rfl rfl rfl ?_
  refine ab_get (f := 9) d_M_seat_68 c517 rfl (by decide) (k10 2 rfl rfl) rfl ?_
  refine ab_getN (f := 0) d_M_seat_71 c528 rfl (by decide) (k9 89 rfl rfl) rfl ?_
  refine ab_bipush (v := 16) d_M_seat_74 (by decide) ?_
  refine ab_iadd d_M_seat_76 ?_
  refine ab_topi (fun x542 ex542 => ?_)
  obtain rfl : x542 = 16 := ex542.trans (by decide)
  clear ex542
  refine ab_icmp_gt (tgt := 98) d_M_seat_77 (by decide) (fun q543 => by exact absurd q543 (by decide)) (fun q543 => ?_)
  refine ab_aload_n d_M_seat_80 rfl rfl rfl ?_
  refine ab_get (f := 15) d_M_seat_81 c517 rfl (by decide) (k10 8 rfl rfl) rfl ?_
  refine ab_aload_n d_M_seat_84 rfl rfl rfl ?_
  refine ab_iload_n d_M_seat_85 rfl rfl ?_
  refine ab_iload_n d_M_seat_86 rfl rfl ?_
  refine ab_callV_a (As := [.int 0, .int 16]) (rest := [.ref (m + 100)]) d_M_seat_87 (r_M_slot c517) (ab_mkC s_M_slot (Nat.le_of_ble_eq_true rfl) (Nat.le_of_ble_eq_true rfl) (by decide) (by decide)) (k11 210 rfl rfl) i_M_slot v_M_slot c517 rfl rfl (Nat.le_of_ble_eq_true rfl) (fun h545 q544 => ?_)
  subst q544
  refine ab_topi (fun x546 ex546 => ?_)
  obtain rfl : x546 = 16 := ex546.trans (by decide)
  clear ex546
  refine ab_iconst (v := 0) d_M_seat_90 (by decide) ?_
  refine ab_zast d_M_seat_91 tZ c540 (in_of (by decide) (by decide) (by decide)) ?_
  refine ab_gen (fun h547 e548 => ?_)
  have c549 : h547[m]? = some (.inr (12, [.int 0, .ref (m + 1), .int 0, .ref (m + 2), .ref (m + 33), .int 0, .int (-1), .int (-1), .ref (m + 64), .ref (m + 74), .ref (m + 84), .ref (m + 94), .int 0, .int 0, .ref (m + 99), .ref (m + 100), .ref (m + 101), .ref (m + 102), .ref (m + 103), .ref (m + 104), .int 0, .ref (m + 105), .int 0, .int 0, .int 0, .ref (m + 106), .ref (m + 107), .int 0, .int 0])) := ab_other e548 (by omega) c517
  have c550 : h547[m+1]? = some (.inl (.byte, 6000, .inl (fun _ => 0))) := ab_other e548 (by omega) c518
  have c551 : h547[m+99]? = some (.inl (.int, 256, .inl (fun _ => 0))) := ab_other e548 (by omega) c519
  have c552 : h547[m+100]? = some (.inl (.boolean, 256, .inl (upd y539 (16 : Int32).toNatClampNeg (vp_nar .boolean 0)))) := ab_self e548 c540
  have c553 : h547[m+101]? = some (.inl (.int, 64, .inl (fun _ => 0))) := ab_other e548 (by omega) c521
  have c554 : h547[m+102]? = some (.inl (.int, 4, .inl (fun _ => 0))) := ab_other e548 (by omega) c522
  have c555 : h547[m+103]? = some (.inl (.int, 4, .inl (fun _ => 0))) := ab_other e548 (by omega) c523
  have c556 : h547[m+104]? = some (.inl (.int, 256, .inl (fun _ => 0))) := ab_other e548 (by omega) c524
  have c557 : h547[m+105]? = some (.inl (.byte, 58000, .inl (fun _ => 0))) := ab_other e548 (by omega) c525
  have c558 : h547[m+106]? = some (.inl (.boolean, 8, .inl (a0_M w 25))) := ab_other e548 (by omega) c526
  have c559 : h547[m+107]? = some (.inl (.boolean, 8, .inl (fun _ => 0))) := ab_other e548 (by omega) c527
  have c560 : h547[m+74]? = some (.inr (13, [.int 0, .int 0, .int 0, .int 0, .ref (m + 74 + 1), .ref (m + 74 + 2), .ref (m + 74 + 3), .ref (m + 74 + 4), .int 0, .ref (m + 74 + 5), .ref (m + 74 + 6), .ref (m + 74 + 7), .ref (m + 74 + 8), .int (-1), .int 0, .int 0, .int 0, .ref (m + 74 + 9)])) := ab_other e548 (by omega) c528
  have c561 : h547[m+74+1]? = some (.inl (.int, 256, .inl (fun _ => 0))) := ab_other e548 (by omega) c529
  have c562 : h547[m+74+2]? = some (.inl (.boolean, 256, .inl (fun _ => 0))) := ab_other e548 (by omega) c530
  have c563 : h547[m+74+3]? = some (.inl (.int, 256, .inl (fun _ => 0))) := ab_other e548 (by omega) c531
  have c564 : h547[m+74+4]? = some (.inl (.int, 12288, .inl (fun _ => 0))) := ab_other e548 (by omega) c532
  have c565 : h547[m+74+5]? = some (.inl (.int, 256, .inl (fun _ => 0))) := ab_other e548 (by omega) c533
  have c566 : h547[m+74+6]? = some (.inl (.int, 256, .inl (fun _ => 0))) := ab_other e548 (by omega) c534
  have c567 : h547[m+74+7]? = some (.inl (.int, 256, .inl (fun _ => 0))) := ab_other e548 (by omega) c535
  have c568 : h547[m+74+8]? = some (.inl (.int, 1024, .inl (fun _ => 0))) := ab_other e548 (by omega) c536
  have c569 : h547[m+74+9]? = some (.inl (.int, 32, .inl (fun _ => 0))) := ab_other e548 (by omega) c537
  have fr570 : ab_fr (fun _ => True) h h547 := ab_fr_set fr538 e548 (by trivial)
  clear c517 c518 c519 c540 c521 c522 c523 c524 c525 c526 c527 c528 c529 c530 c531 c532 c533 c534 c535 c536 c537 fr538 e548
  try clear h515
  obtain ⟨y571, c572⟩ : ∃ f : Nat → Int32, h547[m+100]? = some (.inl (.boolean, 256, .inl f)) := ⟨_, c552⟩
  clear c552
  refine ab_iinc (v := 17) (lv' := [some (.ref m), some (.int 0), some (.int 0), some (.int 17)]) d_M_seat_92 rfl (by decide) (by decide) rfl ?_
  refine ab_goto (tgt := 62) d_M_seat_95 (by decide) ?_
  refine ab_iload_n d_M_seat_62 rfl rfl ?_
  refine ab_if_ne (tgt := 98) d_M_seat_63 (by decide) (fun q573 => by exact absurd q573 (by decide)) (fun q573 => ?_)
  refine ab_iload_n d_M_seat_66 rfl rfl ?_
  refine ab_aload_n d_M_seat_67 rfl rfl rfl ?_
  refine ab_get (f := 9) d_M_seat_68 c549 rfl (by decide) (k10 2 rfl rfl) rfl ?_
  refine ab_getN (f := 0) d_M_seat_71 c560 rfl (by decide) (k9 89 rfl rfl) rfl ?_
  refine ab_bipush (v := 16) d_M_seat_74 (by decide) ?_
  refine ab_iadd d_M_seat_76 ?_
  refine ab_topi (fun x574 ex574 => ?_)
  obtain rfl : x574 = 16 := ex574.trans (by decide)
  clear ex574
  refine ab_icmp_gt (tgt := 98) d_M_seat_77 (by decide) (fun q575 => ?_) (fun q575 => by exact absurd (by decide) q575)
  refine ab_iconst (v := 1) d_M_seat_98 (by decide) ?_
  exact ab_zret d_M_seat_99 rfl rfl (Nat.le_refl _) (Nat.le_refl _) (by unfold sq_M_seat_00; exact ⟨rfl, trivial⟩)
def sq_M_seat_01  : Int32 := (0)
set_option maxRecDepth 20000 in
set_option maxHeartbeats 2000000 in
theorem f_M_seat_01 {h : List ab_E}   {m : Nat} {w : Int32}   (h0 : at_M0 h m w) : ab_M y_M_seat { frames := 1, cells := 0, slots := 0, locals := 40 } [.ref m, .int 0, .int 1] h (ab_A (some (.int (sq_M_seat_01 ))) (fun h1 => True)) := by
  obtain ⟨hM, hT, hO, hS, hN, hD, hR⟩ := h0
  have hM0 := hM; obtain ⟨gmo, gm1, gm14, gm15, gm16, gm17, gm18, gm19, gm21, gm25, gm26⟩ := hM
  replace gmo : h[m]? = some (.inr (12, [.int 0, .ref (m + 1), .int 0, .ref (m + 2), .ref (m + 33), .int 0, .int (-1), .int (-1), .ref (m + 64), .ref (m + 74), .ref (m + 84), .ref (m + 94), .int 1, .int 0, .ref (m + 99), .ref (m + 100), .ref (m + 101), .ref (m + 102), .ref (m + 103), .ref (m + 104), .int 0, .ref (m + 105), .int 0, .int 0, .int 0, .ref (m + 106), .ref (m + 107), .int 0, .int 0])) := gmo
  replace gm1 : h[m + 1]? = some (.inl (.byte, 6000, .inl (fun _ => 0))) := (by rw [a0_M_0 w (by decide)] at gm1; exact gm1)
  replace gm14 : h[m + 99]? = some (.inl (.int, 256, .inl (fun _ => 0))) := (by rw [a0_M_0 w (by decide)] at gm14; exact gm14)
  replace gm15 : h[m + 100]? = some (.inl (.boolean, 256, .inl (fun _ => 0))) := (by rw [a0_M_0 w (by decide)] at gm15; exact gm15)
  replace gm16 : h[m + 101]? = some (.inl (.int, 64, .inl (fun _ => 0))) := (by rw [a0_M_0 w (by decide)] at gm16; exact gm16)
  replace gm17 : h[m + 102]? = some (.inl (.int, 4, .inl (fun _ => 0))) := (by rw [a0_M_0 w (by decide)] at gm17; exact gm17)
  replace gm18 : h[m + 103]? = some (.inl (.int, 4, .inl (fun _ => 0))) := (by rw [a0_M_0 w (by decide)] at gm18; exact gm18)
  replace gm19 : h[m + 104]? = some (.inl (.int, 256, .inl (fun _ => 0))) := (by rw [a0_M_0 w (by decide)] at gm19; exact gm19)
  replace gm21 : h[m + 105]? = some (.inl (.byte, 58000, .inl (fun _ => 0))) := (by rw [a0_M_0 w (by decide)] at gm21; exact gm21)
  replace gm25 : h[m + 106]? = some (.inl (.boolean, 8, .inl (a0_M w 25))) := gm25
  replace gm26 : h[m + 107]? = some (.inl (.boolean, 8, .inl (fun _ => 0))) := (by rw [a0_M_0 w (by decide)] at gm26; exact gm26)
  have hN0 := hN; obtain ⟨gno, gn4, gn5, gn6, gn7, gn9, gn10, gn11, gn12, gn17⟩ := hN
  replace gno : h[m + 74]? = some (.inr (13, [.int 0, .int 0, .int 0, .int 0, .ref (m + 74 + 1), .ref (m + 74 + 2), .ref (m + 74 + 3), .ref (m + 74 + 4), .int 0, .ref (m + 74 + 5), .ref (m + 74 + 6), .ref (m + 74 + 7), .ref (m + 74 + 8), .int (-1), .int 0, .int 0, .int 0, .ref (m + 74 + 9)])) := gno
  replace gn4 : h[m + 74 + 1]? = some (.inl (.int, 256, .inl (fun _ => 0))) := gn4
  replace gn5 : h[m + 74 + 2]? = some (.inl (.boolean, 256, .inl (fun _ => 0))) := gn5
  replace gn6 : h[m + 74 + 3]? = some (.inl (.int, 256, .inl (fun _ => 0))) := gn6
  replace gn7 : h[m + 74 + 4]? = some (.inl (.int, 12288, .inl (fun _ => 0))) := gn7
  replace gn9 : h[m + 74 + 5]? = some (.inl (.int, 256, .inl (fun _ => 0))) := gn9
  replace gn10 : h[m + 74 + 6]? = some (.inl (.int, 256, .inl (fun _ => 0))) := gn10
  replace gn11 : h[m + 74 + 7]? = some (.inl (.int, 256, .inl (fun _ => 0))) := gn11
  replace gn12 : h[m + 74 + 8]? = some (.inl (.int, 1024, .inl (fun _ => 0))) := gn12
  replace gn17 : h[m + 74 + 9]? = some (.inl (.int, 32, .inl (fun _ => 0))) := gn17
  refine ab_of2 (lv := [some (.ref m), some (.int 0), some (.int 1), none]) 1 rfl rfl (Nat.le_of_ble_eq_true rfl) ?_
  refine ab_aload_n d_M_seat_0 rfl rfl rfl ?_
  refine ab_iconst (v := 0) d_M_seat_1 (by decide) ?_
  refine ab_put (f := 0) d_M_seat_2 gmo rfl (by decide) (k9 233 rfl rfl) rfl rfl (fun _ => rfl) (fun _ => rfl) (Nat.le_of_ble_eq_true rfl) ?_
  show ab_V _ _ _ _ _ _ _ 5 [some (.ref m), some (.int 0), some (.int 1), none] [] (h.set m (.inr (12, [.int 0, .ref (m + 1), .int 0, .ref (m + 2), .ref (m + 33), .int 0, .int (-1), .int (-1), .ref (m + 64), .ref (m + 74), .ref (m + 84), .ref (m + 94), .int 1, .int 0, .ref (m + 99), .ref (m + 100), .ref (m + 101), .ref (m + 102), .ref (m + 103), .ref (m + 104), .int 0, .ref (m + 105), .int 0, .int 0, .int 0, .ref (m + 106), .ref (m + 107), .int 0, .int 0])))
  refine ab_gen (fun h1 e2 => ?_)
  have c3 : h1[m]? = some (.inr (12, [.int 0, .ref (m + 1), .int 0, .ref (m + 2), .ref (m + 33), .int 0, .int (-1), .int (-1), .ref (m + 64), .ref (m + 74), .ref (m + 84), .ref (m + 94), .int 1, .int 0, .ref (m + 99), .ref (m + 100), .ref (m + 101), .ref (m + 102), .ref (m + 103), .ref (m + 104), .int 0, .ref (m + 105), .int 0, .int 0, .int 0, .ref (m + 106), .ref (m + 107), .int 0, .int 0])) := ab_self e2 gmo
  have c4 : h1[m+1]? = some (.inl (.byte, 6000, .inl (fun _ => 0))) := ab_other e2 (by omega) gm1
  have c5 : h1[m+99]? = some (.inl (.int, 256, .inl (fun _ => 0))) := ab_other e2 (by omega) gm14
  have c6 : h1[m+100]? = some (.inl (.boolean, 256, .inl (fun _ => 0))) := ab_other e2 (by omega) gm15
  have c7 : h1[m+101]? = some (.inl (.int, 64, .inl (fun _ => 0))) := ab_other e2 (by omega) gm16
  have c8 : h1[m+102]? = some (.inl (.int, 4, .inl (fun _ => 0))) := ab_other e2 (by omega) gm17
  have c9 : h1[m+103]? = some (.inl (.int, 4, .inl (fun _ => 0))) := ab_other e2 (by omega) gm18
  have c10 : h1[m+104]? = some (.inl (.int, 256, .inl (fun _ => 0))) := ab_other e2 (by omega) gm19
  have c11 : h1[m+105]? = some (.inl (.byte, 58000, .inl (fun _ => 0))) := ab_other e2 (by omega) gm21
  have c12 : h1[m+106]? = some (.inl (.boolean, 8, .inl (a0_M w 25))) := ab_other e2 (by omega) gm25
  have c13 : h1[m+107]? = some (.inl (.boolean, 8, .inl (fun _ => 0))) := ab_other e2 (by omega) gm26
  have c14 : h1[m+74]? = some (.inr (13, [.int 0, .int 0, .int 0, .int 0, .ref (m + 74 + 1), .ref (m + 74 + 2), .ref (m + 74 + 3), .ref (m + 74 + 4), .int 0, .ref (m + 74 + 5), .ref (m + 74 + 6), .ref (m + 74 + 7), .ref (m + 74 + 8), .int (-1), .int 0, .int 0, .int 0, .ref (m + 74 + 9)])) := ab_other e2 (by omega) gno
  have c15 : h1[m+74+1]? = some (.inl (.int, 256, .inl (fun _ => 0))) := ab_other e2 (by omega) gn4
  have c16 : h1[m+74+2]? = some (.inl (.boolean, 256, .inl (fun _ => 0))) := ab_other e2 (by omega) gn5
  have c17 : h1[m+74+3]? = some (.inl (.int, 256, .inl (fun _ => 0))) := ab_other e2 (by omega) gn6
  have c18 : h1[m+74+4]? = some (.inl (.int, 12288, .inl (fun _ => 0))) := ab_other e2 (by omega) gn7
  have c19 : h1[m+74+5]? = some (.inl (.int, 256, .inl (fun _ => 0))) := ab_other e2 (by omega) gn9
  have c20 : h1[m+74+6]? = some (.inl (.int, 256, .inl (fun _ => 0))) := ab_other e2 (by omega) gn10
  have c21 : h1[m+74+7]? = some (.inl (.int, 256, .inl (fun _ => 0))) := ab_other e2 (by omega) gn11
  have c22 : h1[m+74+8]? = some (.inl (.int, 1024, .inl (fun _ => 0))) := ab_other e2 (by omega) gn12
  have c23 : h1[m+74+9]? = some (.inl (.int, 32, .inl (fun _ => 0))) := ab_other e2 (by omega) gn17
  have fr24 : ab_fr (fun _ => True) h h1 := ab_fr_set (ab_fr_rf _ _) e2 (by trivial)
  clear e2
  refine ab_iload_n d_M_seat_5 rfl rfl ?_
  refine ab_i2l d_M_seat_6 ?_
  refine ab_topl (fun x25 ex25 => ?_)
  obtain rfl : x25 = 0 := ex25.trans (by decide)
  clear ex25
  refine ab_lconst (v := 0) d_M_seat_7 (by decide) ?_
  refine ab_ldc2 d_M_seat_8 (k12 168 rfl rfl) ?_
  refine ab_callS_a (As := [.long 0, .long 0, .long 3]) (rest := []) d_M_seat_11 (c_M_in) (ab_mkC s_M_in (Nat.le_of_ble_eq_true rfl) (Nat.le_of_ble_eq_true rfl) (by decide) (by decide)) (k10 93 rfl rfl) t_M_in rfl (Nat.le_of_ble_eq_true rfl) (fun h27 q26 => ?_)
  subst q26
  refine ab_topi (fun x28 ex28 => ?_)
  obtain rfl : x28 = 1 := ex28.trans (by decide)
  clear ex28
  refine ab_if_eq (tgt := 38) d_M_seat_14 (by decide) (fun q29 => by exact absurd q29 (by decide)) (fun q29 => ?_)
  refine ab_aload_n d_M_seat_17 rfl rfl rfl ?_
  refine ab_get (f := 12) d_M_seat_18 c3 rfl (by decide) (k10 5 rfl rfl) rfl ?_
  refine ab_iload_n d_M_seat_21 rfl rfl ?_
  refine ab_ishr d_M_seat_22 ?_
  refine ab_topi (fun x30 ex30 => ?_)
  obtain rfl : x30 = 1 := ex30.trans (by decide)
  clear ex30
  refine ab_iconst (v := 1) d_M_seat_23 (by decide) ?_
  refine ab_iand d_M_seat_24 ?_
  refine ab_topi (fun x31 ex31 => ?_)
  obtain rfl : x31 = 1 := ex31.trans (by decide)
  clear ex31
  refine ab_iconst (v := 1) d_M_seat_25 (by decide) ?_
  refine ab_icmp_ne (tgt := 33) d_M_seat_26 (by decide) (fun q32 => by exact absurd q32 (by decide)) (fun q32 => ?_)
  refine ab_iconst (v := 1) d_M_seat_29 (by decide) ?_
  refine ab_goto (tgt := 34) d_M_seat_30 (by decide) ?_
  refine ab_iload_n d_M_seat_34 rfl rfl ?_
  refine ab_icmp_ne (tgt := 40) d_M_seat_35 (by decide) (fun q33 => by exact absurd q33 (by decide)) (fun q33 => ?_)
  refine ab_iconst (v := 0) d_M_seat_38 (by decide) ?_
  exact ab_zret d_M_seat_39 rfl rfl (Nat.le_refl _) (Nat.le_refl _) (by unfold sq_M_seat_01; exact ⟨rfl, trivial⟩)
def sq_M_input_1 (t : Int32) (v : Int32) : Int32 := if t < 1 then ((-2)) else if 16 < t then ((-2)) else ((-3))
set_option maxRecDepth 20000 in
set_option maxHeartbeats 2000000 in
theorem f_M_input_1 {h : List ab_E}    {m : Nat} {w t v : Int32}    (h0 : at_M0 h m w) : ab_M y_M_input { frames := 1, cells := 0, slots := 0, locals := 40 } [.ref m, .int 1, .int t, .int v] h (ab_A (some (.int (sq_M_input_1 t v))) (fun h1 => True)) := by
  obtain ⟨hM, hT, hO, hS, hN, hD, hR⟩ := h0
  have hM0 := hM; obtain ⟨gmo, gm1, gm14, gm15, gm16, gm17, gm18, gm19, gm21, gm25, gm26⟩ := hM
  replace gmo : h[m]? = some (.inr (12, [.int 0, .ref (m + 1), .int 0, .ref (m + 2), .ref (m + 33), .int 0, .int (-1), .int (-1), .ref (m + 64), .ref (m + 74), .ref (m + 84), .ref (m + 94), .int 1, .int 0, .ref (m + 99), .ref (m + 100), .ref (m + 101), .ref (m + 102), .ref (m + 103), .ref (m + 104), .int 0, .ref (m + 105), .int 0, .int 0, .int 0, .ref (m + 106), .ref (m + 107), .int 0, .int 0])) := gmo
  replace gm1 : h[m + 1]? = some (.inl (.byte, 6000, .inl (fun _ => 0))) := (by rw [a0_M_0 w (by decide)] at gm1; exact gm1)
  replace gm14 : h[m + 99]? = some (.inl (.int, 256, .inl (fun _ => 0))) := (by rw [a0_M_0 w (by decide)] at gm14; exact gm14)
  replace gm15 : h[m + 100]? = some (.inl (.boolean, 256, .inl (fun _ => 0))) := (by rw [a0_M_0 w (by decide)] at gm15; exact gm15)
  replace gm16 : h[m + 101]? = some (.inl (.int, 64, .inl (fun _ => 0))) := (by rw [a0_M_0 w (by decide)] at gm16; exact gm16)
  replace gm17 : h[m + 102]? = some (.inl (.int, 4, .inl (fun _ => 0))) := (by rw [a0_M_0 w (by decide)] at gm17; exact gm17)
  replace gm18 : h[m + 103]? = some (.inl (.int, 4, .inl (fun _ => 0))) := (by rw [a0_M_0 w (by decide)] at gm18; exact gm18)
  replace gm19 : h[m + 104]? = some (.inl (.int, 256, .inl (fun _ => 0))) := (by rw [a0_M_0 w (by decide)] at gm19; exact gm19)
  replace gm21 : h[m + 105]? = some (.inl (.byte, 58000, .inl (fun _ => 0))) := (by rw [a0_M_0 w (by decide)] at gm21; exact gm21)
  replace gm25 : h[m + 106]? = some (.inl (.boolean, 8, .inl (a0_M w 25))) := gm25
  replace gm26 : h[m + 107]? = some (.inl (.boolean, 8, .inl (fun _ => 0))) := (by rw [a0_M_0 w (by decide)] at gm26; exact gm26)
  have hS0 := hS; obtain ⟨gso, gs4, gs5, gs6, gs7, gs9, gs10, gs11, gs12, gs17⟩ := hS
  replace gso : h[m + 64]? = some (.inr (13, [.int 0, .int 0, .int 0, .int 0, .ref (m + 64 + 1), .ref (m + 64 + 2), .ref (m + 64 + 3), .ref (m + 64 + 4), .int 0, .ref (m + 64 + 5), .ref (m + 64 + 6), .ref (m + 64 + 7), .ref (m + 64 + 8), .int (-1), .int 0, .int 0, .int 0, .ref (m + 64 + 9)])) := gso
  replace gs4 : h[m + 64 + 1]? = some (.inl (.int, 256, .inl (fun _ => 0))) := gs4
  replace gs5 : h[m + 64 + 2]? = some (.inl (.boolean, 256, .inl (fun _ => 0))) := gs5
  replace gs6 : h[m + 64 + 3]? = some (.inl (.int, 256, .inl (fun _ => 0))) := gs6
  replace gs7 : h[m + 64 + 4]? = some (.inl (.int, 12288, .inl (fun _ => 0))) := gs7
  replace gs9 : h[m + 64 + 5]? = some (.inl (.int, 256, .inl (fun _ => 0))) := gs9
  replace gs10 : h[m + 64 + 6]? = some (.inl (.int, 256, .inl (fun _ => 0))) := gs10
  replace gs11 : h[m + 64 + 7]? = some (.inl (.int, 256, .inl (fun _ => 0))) := gs11
  replace gs12 : h[m + 64 + 8]? = some (.inl (.int, 1024, .inl (fun _ => 0))) := gs12
  replace gs17 : h[m + 64 + 9]? = some (.inl (.int, 32, .inl (fun _ => 0))) := gs17
  have hN0 := hN; obtain ⟨gno, gn4, gn5, gn6, gn7, gn9, gn10, gn11, gn12, gn17⟩ := hN
  replace gno : h[m + 74]? = some (.inr (13, [.int 0, .int 0, .int 0, .int 0, .ref (m + 74 + 1), .ref (m + 74 + 2), .ref (m + 74 + 3), .ref (m + 74 + 4), .int 0, .ref (m + 74 + 5), .ref (m + 74 + 6), .ref (m + 74 + 7), .ref (m + 74 + 8), .int (-1), .int 0, .int 0, .int 0, .ref (m + 74 + 9)])) := gno
  replace gn4 : h[m + 74 + 1]? = some (.inl (.int, 256, .inl (fun _ => 0))) := gn4
  replace gn5 : h[m + 74 + 2]? = some (.inl (.boolean, 256, .inl (fun _ => 0))) := gn5
  replace gn6 : h[m + 74 + 3]? = some (.inl (.int, 256, .inl (fun _ => 0))) := gn6
  replace gn7 : h[m + 74 + 4]? = some (.inl (.int, 12288, .inl (fun _ => 0))) := gn7
  replace gn9 : h[m + 74 + 5]? = some (.inl (.int, 256, .inl (fun _ => 0))) := gn9
  replace gn10 : h[m + 74 + 6]? = some (.inl (.int, 256, .inl (fun _ => 0))) := gn10
  replace gn11 : h[m + 74 + 7]? = some (.inl (.int, 256, .inl (fun _ => 0))) := gn11
  replace gn12 : h[m + 74 + 8]? = some (.inl (.int, 1024, .inl (fun _ => 0))) := gn12
  replace gn17 : h[m + 74 + 9]? = some (.inl (.int, 32, .inl (fun _ => 0))) := gn17
  refine ab_of2 (lv := [some (.ref m), some (.int 1), some (.int t), some (.int v), none, none]) 2 rfl rfl (Nat.le_of_ble_eq_true rfl) ?_
  refine ab_aload_n d_M_input_0 rfl rfl rfl ?_
  refine ab_iconst (v := 0) d_M_input_1 (by decide) ?_
  refine ab_put (f := 0) d_M_input_2 gmo rfl (by decide) (k9 233 rfl rfl) rfl rfl (fun _ => rfl) (fun _ => rfl) (Nat.le_of_ble_eq_true rfl) ?_
  show ab_V _ _ _ _ _ _ _ 5 [some (.ref m), some (.int 1), some (.int t), some (.int v), none, none] [] (h.set m (.inr (12, [.int 0, .ref (m + 1), .int 0, .ref (m + 2), .ref (m + 33), .int 0, .int (-1), .int (-1), .ref (m + 64), .ref (m + 74), .ref (m + 84), .ref (m + 94), .int 1, .int 0, .ref (m + 99), .ref (m + 100), .ref (m + 101), .ref (m + 102), .ref (m + 103), .ref (m + 104), .int 0, .ref (m + 105), .int 0, .int 0, .int 0, .ref (m + 106), .ref (m + 107), .int 0, .int 0])))
  refine ab_gen (fun h1 e2 => ?_)
  have c3 : h1[m]? = some (.inr (12, [.int 0, .ref (m + 1), .int 0, .ref (m + 2), .ref (m + 33), .int 0, .int (-1), .int (-1), .ref (m + 64), .ref (m + 74), .ref (m + 84), .ref (m + 94), .int 1, .int 0, .ref (m + 99), .ref (m + 100), .ref (m + 101), .ref (m + 102), .ref (m + 103), .ref (m + 104), .int 0, .ref (m + 105), .int 0, .int 0, .int 0, .ref (m + 106), .ref (m + 107), .int 0, .int 0])) := ab_self e2 gmo
  have c4 : h1[m+1]? = some (.inl (.byte, 6000, .inl (fun _ => 0))) := ab_other e2 (by omega) gm1
  have c5 : h1[m+99]? = some (.inl (.int, 256, .inl (fun _ => 0))) := ab_other e2 (by omega) gm14
  have c6 : h1[m+100]? = some (.inl (.boolean, 256, .inl (fun _ => 0))) := ab_other e2 (by omega) gm15
  have c7 : h1[m+101]? = some (.inl (.int, 64, .inl (fun _ => 0))) := ab_other e2 (by omega) gm16
  have c8 : h1[m+102]? = some (.inl (.int, 4, .inl (fun _ => 0))) := ab_other e2 (by omega) gm17
  have c9 : h1[m+103]? = some (.inl (.int, 4, .inl (fun _ => 0))) := ab_other e2 (by omega) gm18
  have c10 : h1[m+104]? = some (.inl (.int, 256, .inl (fun _ => 0))) := ab_other e2 (by omega) gm19
  have c11 : h1[m+105]? = some (.inl (.byte, 58000, .inl (fun _ => 0))) := ab_other e2 (by omega) gm21
  have c12 : h1[m+106]? = some (.inl (.boolean, 8, .inl (a0_M w 25))) := ab_other e2 (by omega) gm25
  have c13 : h1[m+107]? = some (.inl (.boolean, 8, .inl (fun _ => 0))) := ab_other e2 (by omega) gm26
  have c14 : h1[m+64]? = some (.inr (13, [.int 0, .int 0, .int 0, .int 0, .ref (m + 64 + 1), .ref (m + 64 + 2), .ref (m + 64 + 3), .ref (m + 64 + 4), .int 0, .ref (m + 64 + 5), .ref (m + 64 + 6), .ref (m + 64 + 7), .ref (m + 64 + 8), .int (-1), .int 0, .int 0, .int 0, .ref (m + 64 + 9)])) := ab_other e2 (by omega) gso
  have c15 : h1[m+64+1]? = some (.inl (.int, 256, .inl (fun _ => 0))) := ab_other e2 (by omega) gs4
  have c16 : h1[m+64+2]? = some (.inl (.boolean, 256, .inl (fun _ => 0))) := ab_other e2 (by omega) gs5
  have c17 : h1[m+64+3]? = some (.inl (.int, 256, .inl (fun _ => 0))) := ab_other e2 (by omega) gs6
  have c18 : h1[m+64+4]? = some (.inl (.int, 12288, .inl (fun _ => 0))) := ab_other e2 (by omega) gs7
  have c19 : h1[m+64+5]? = some (.inl (.int, 256, .inl (fun _ => 0))) := ab_other e2 (by omega) gs9
  have c20 : h1[m+64+6]? = some (.inl (.int, 256, .inl (fun _ => 0))) := ab_other e2 (by omega) gs10
  have c21 : h1[m+64+7]? = some (.inl (.int, 256, .inl (fun _ => 0))) := ab_other e2 (by omega) gs11
  have c22 : h1[m+64+8]? = some (.inl (.int, 1024, .inl (fun _ => 0))) := ab_other e2 (by omega) gs12
  have c23 : h1[m+64+9]? = some (.inl (.int, 32, .inl (fun _ => 0))) := ab_other e2 (by omega) gs17
  have c24 : h1[m+74]? = some (.inr (13, [.int 0, .int 0, .int 0, .int 0, .ref (m + 74 + 1), .ref (m + 74 + 2), .ref (m + 74 + 3), .ref (m + 74 + 4), .int 0, .ref (m + 74 + 5), .ref (m + 74 + 6), .ref (m + 74 + 7), .ref (m + 74 + 8), .int (-1), .int 0, .int 0, .int 0, .ref (m + 74 + 9)])) := ab_other e2 (by omega) gno
  have c25 : h1[m+74+1]? = some (.inl (.int, 256, .inl (fun _ => 0))) := ab_other e2 (by omega) gn4
  have c26 : h1[m+74+2]? = some (.inl (.boolean, 256, .inl (fun _ => 0))) := ab_other e2 (by omega) gn5
  have c27 : h1[m+74+3]? = some (.inl (.int, 256, .inl (fun _ => 0))) := ab_other e2 (by omega) gn6
  have c28 : h1[m+74+4]? = some (.inl (.int, 12288, .inl (fun _ => 0))) := ab_other e2 (by omega) gn7
  have c29 : h1[m+74+5]? = some (.inl (.int, 256, .inl (fun _ => 0))) := ab_other e2 (by omega) gn9
  have c30 : h1[m+74+6]? = some (.inl (.int, 256, .inl (fun _ => 0))) := ab_other e2 (by omega) gn10
  have c31 : h1[m+74+7]? = some (.inl (.int, 256, .inl (fun _ => 0))) := ab_other e2 (by omega) gn11
  have c32 : h1[m+74+8]? = some (.inl (.int, 1024, .inl (fun _ => 0))) := ab_other e2 (by omega) gn12
  have c33 : h1[m+74+9]? = some (.inl (.int, 32, .inl (fun _ => 0))) := ab_other e2 (by omega) gn17
  have fr34 : ab_fr (fun _ => True) h h1 := ab_fr_set (ab_fr_rf _ _) e2 (by trivial)
  clear e2
  refine ab_iload_n d_M_input_5 rfl rfl ?_
  refine ab_i2l d_M_input_6 ?_
  refine ab_topl (fun x35 ex35 => ?_)
  obtain rfl : x35 = 1 := ex35.trans (by decide)
  clear ex35
  refine ab_lconst (v := 0) d_M_input_7 (by decide) ?_
  refine ab_ldc2 d_M_input_8 (k12 168 rfl rfl) ?_
  refine ab_callS_a (As := [.long 1, .long 0, .long 3]) (rest := []) d_M_input_11 (c_M_in) (ab_mkC s_M_in (Nat.le_of_ble_eq_true rfl) (Nat.le_of_ble_eq_true rfl) (by decide) (by decide)) (k10 93 rfl rfl) t_M_in rfl (Nat.le_of_ble_eq_true rfl) (fun h37 q36 => ?_)
  subst q36
  refine ab_topi (fun x38 ex38 => ?_)
  obtain rfl : x38 = 1 := ex38.trans (by decide)
  clear ex38
  refine ab_if_ne (tgt := 19) d_M_input_14 (by decide) (fun q39 => ?_) (fun q39 => by exact absurd q39 (by decide))
  refine ab_iload_n d_M_input_19 rfl rfl ?_
  refine ab_i2l d_M_input_20 ?_
  refine ab_aload_n d_M_input_21 rfl rfl rfl ?_
  refine ab_get (f := 8) d_M_input_22 c3 rfl (by decide) (k10 1 rfl rfl) rfl ?_
  refine ab_getN (f := 0) d_M_input_25 c14 rfl (by decide) (k9 89 rfl rfl) rfl ?_
  refine ab_i2l d_M_input_28 ?_
  refine ab_topl (fun x40 ex40 => ?_)
  obtain rfl : x40 = 0 := ex40.trans (by decide)
  clear ex40
  refine ab_lconst (v := 1) d_M_input_29 (by decide) ?_
  refine ab_ladd d_M_input_30 ?_
  refine ab_topl (fun x41 ex41 => ?_)
  obtain rfl : x41 = 1 := ex41.trans (by decide)
  clear ex41
  refine ab_aload_n d_M_input_31 rfl rfl rfl ?_
  refine ab_get (f := 9) d_M_input_32 c3 rfl (by decide) (k10 2 rfl rfl) rfl ?_
  refine ab_getN (f := 0) d_M_input_35 c24 rfl (by decide) (k9 89 rfl rfl) rfl ?_
  refine ab_i2l d_M_input_38 ?_
  refine ab_topl (fun x42 ex42 => ?_)
  obtain rfl : x42 = 0 := ex42.trans (by decide)
  clear ex42
  refine ab_ldc2 d_M_input_39 (k12 169 rfl rfl) ?_
  refine ab_ladd d_M_input_42 ?_
  refine ab_topl (fun x43 ex43 => ?_)
  obtain rfl : x43 = 16 := ex43.trans (by decide)
  clear ex43
  refine ab_callS_a (As := [.long ((t : Int32).toInt64), .long 1, .long 16]) (rest := []) d_M_input_43 (c_M_in) (ab_mkC s_M_in (Nat.le_of_ble_eq_true rfl) (Nat.le_of_ble_eq_true rfl) (by decide) (by decide)) (k10 93 rfl rfl) t_M_in rfl (Nat.le_of_ble_eq_true rfl) (fun h45 q44 => ?_)
  subst q44
  by_cases t46 : t < 1
  · refine ab_topi (fun x47 ex47 => ?_)
    obtain rfl : x47 = 0 := ex47.trans (in_1 (lo := 1) (hi := 16) (by decide) (by decide) t46)
    clear ex47
    refine ab_if_ne (tgt := 52) d_M_input_46 (by decide) (fun q48 => by exact absurd q48 (by decide)) (fun q48 => ?_)
    refine ab_bipush (v := (-2)) d_M_input_49 (by decide) ?_
    exact ab_iret d_M_input_51 rfl (Nat.le_refl _) (Nat.le_refl _) (by unfold sq_M_input_1; rw [if_pos t46]; exact ⟨rfl, trivial⟩)
  by_cases t49 : 16 < t
  · refine ab_topi (fun x50 ex50 => ?_)
    obtain rfl : x50 = 0 := ex50.trans (in_2 (lo := 1) (hi := 16) (by decide) (by decide) t49)
    clear ex50
    refine ab_if_ne (tgt := 52) d_M_input_46 (by decide) (fun q51 => by exact absurd q51 (by decide)) (fun q51 => ?_)
    refine ab_bipush (v := (-2)) d_M_input_49 (by decide) ?_
    exact ab_iret d_M_input_51 rfl (Nat.le_refl _) (Nat.le_refl _) (by unfold sq_M_input_1; rw [if_neg t46]; rw [if_pos t49]; exact ⟨rfl, trivial⟩)
  refine ab_topi (fun x52 ex52 => ?_)
  obtain rfl : x52 = 1 := ex52.trans (in_3 (lo := 1) (hi := 16) (by decide) (by decide) t46 t49)
  clear ex52
  refine ab_if_ne (tgt := 52) d_M_input_46 (by decide) (fun q53 => ?_) (fun q53 => by exact absurd q53 (by decide))
  refine ab_iload_n d_M_input_52 rfl rfl ?_
  refine ab_aload_n d_M_input_53 rfl rfl rfl ?_
  refine ab_get (f := 9) d_M_input_54 c3 rfl (by decide) (k10 2 rfl rfl) rfl ?_
  refine ab_getN (f := 0) d_M_input_57 c24 rfl (by decide) (k9 89 rfl rfl) rfl ?_
  refine ab_icmp_le (tgt := 70) d_M_input_60 (by decide) (fun q54 => ?_) (fun q54 => ?_)
  · exact absurd q54 (pos1 t46)
  · refine ab_aload_n d_M_input_63 rfl rfl rfl ?_
    refine ab_get (f := 12) d_M_input_64 c3 rfl (by decide) (k10 5 rfl rfl) rfl ?_
    refine ab_goto (tgt := 79) d_M_input_67 (by decide) ?_
    refine ab_istore (lv' := [some (.ref m), some (.int 1), some (.int t), some (.int v), some (.int 1), none]) d_M_input_79 (by decide) rfl ?_
    refine ab_iload d_M_input_81 rfl ?_
    refine ab_iload_n d_M_input_83 rfl rfl ?_
    refine ab_ishr d_M_input_84 ?_
    refine ab_topi (fun x55 ex55 => ?_)
    obtain rfl : x55 = 0 := ex55.trans (by decide)
    clear ex55
    refine ab_iconst (v := 1) d_M_input_85 (by decide) ?_
    refine ab_iand d_M_input_86 ?_
    refine ab_topi (fun x56 ex56 => ?_)
    obtain rfl : x56 = 0 := ex56.trans (by decide)
    clear ex56
    refine ab_if_ne (tgt := 93) d_M_input_87 (by decide) (fun q57 => by exact absurd q57 (by decide)) (fun q57 => ?_)
    refine ab_bipush (v := (-3)) d_M_input_90 (by decide) ?_
    exact ab_iret d_M_input_92 rfl (Nat.le_refl _) (Nat.le_refl _) (by unfold sq_M_input_1; rw [if_neg t46]; rw [if_neg t49]; exact ⟨rfl, trivial⟩)
def sq_M_seat_10  : Int32 := (0)
set_option maxRecDepth 20000 in
set_option maxHeartbeats 2000000 in
theorem f_M_seat_10 {h : List ab_E}   {m : Nat} {w : Int32}   (h0 : at_M0 h m w) : ab_M y_M_seat { frames := 1, cells := 0, slots := 0, locals := 40 } [.ref m, .int 1, .int 0] h (ab_A (some (.int (sq_M_seat_10 ))) (fun h1 => True)) := by
  obtain ⟨hM, hT, hO, hS, hN, hD, hR⟩ := h0
  have hM0 := hM; obtain ⟨gmo, gm1, gm14, gm15, gm16, gm17, gm18, gm19, gm21, gm25, gm26⟩ := hM
  replace gmo : h[m]? = some (.inr (12, [.int 0, .ref (m + 1), .int 0, .ref (m + 2), .ref (m + 33), .int 0, .int (-1), .int (-1), .ref (m + 64), .ref (m + 74), .ref (m + 84), .ref (m + 94), .int 1, .int 0, .ref (m + 99), .ref (m + 100), .ref (m + 101), .ref (m + 102), .ref (m + 103), .ref (m + 104), .int 0, .ref (m + 105), .int 0, .int 0, .int 0, .ref (m + 106), .ref (m + 107), .int 0, .int 0])) := gmo
  replace gm1 : h[m + 1]? = some (.inl (.byte, 6000, .inl (fun _ => 0))) := (by rw [a0_M_0 w (by decide)] at gm1; exact gm1)
  replace gm14 : h[m + 99]? = some (.inl (.int, 256, .inl (fun _ => 0))) := (by rw [a0_M_0 w (by decide)] at gm14; exact gm14)
  replace gm15 : h[m + 100]? = some (.inl (.boolean, 256, .inl (fun _ => 0))) := (by rw [a0_M_0 w (by decide)] at gm15; exact gm15)
  replace gm16 : h[m + 101]? = some (.inl (.int, 64, .inl (fun _ => 0))) := (by rw [a0_M_0 w (by decide)] at gm16; exact gm16)
  replace gm17 : h[m + 102]? = some (.inl (.int, 4, .inl (fun _ => 0))) := (by rw [a0_M_0 w (by decide)] at gm17; exact gm17)
  replace gm18 : h[m + 103]? = some (.inl (.int, 4, .inl (fun _ => 0))) := (by rw [a0_M_0 w (by decide)] at gm18; exact gm18)
  replace gm19 : h[m + 104]? = some (.inl (.int, 256, .inl (fun _ => 0))) := (by rw [a0_M_0 w (by decide)] at gm19; exact gm19)
  replace gm21 : h[m + 105]? = some (.inl (.byte, 58000, .inl (fun _ => 0))) := (by rw [a0_M_0 w (by decide)] at gm21; exact gm21)
  replace gm25 : h[m + 106]? = some (.inl (.boolean, 8, .inl (a0_M w 25))) := gm25
  replace gm26 : h[m + 107]? = some (.inl (.boolean, 8, .inl (fun _ => 0))) := (by rw [a0_M_0 w (by decide)] at gm26; exact gm26)
  have hN0 := hN; obtain ⟨gno, gn4, gn5, gn6, gn7, gn9, gn10, gn11, gn12, gn17⟩ := hN
  replace gno : h[m + 74]? = some (.inr (13, [.int 0, .int 0, .int 0, .int 0, .ref (m + 74 + 1), .ref (m + 74 + 2), .ref (m + 74 + 3), .ref (m + 74 + 4), .int 0, .ref (m + 74 + 5), .ref (m + 74 + 6), .ref (m + 74 + 7), .ref (m + 74 + 8), .int (-1), .int 0, .int 0, .int 0, .ref (m + 74 + 9)])) := gno
  replace gn4 : h[m + 74 + 1]? = some (.inl (.int, 256, .inl (fun _ => 0))) := gn4
  replace gn5 : h[m + 74 + 2]? = some (.inl (.boolean, 256, .inl (fun _ => 0))) := gn5
  replace gn6 : h[m + 74 + 3]? = some (.inl (.int, 256, .inl (fun _ => 0))) := gn6
  replace gn7 : h[m + 74 + 4]? = some (.inl (.int, 12288, .inl (fun _ => 0))) := gn7
  replace gn9 : h[m + 74 + 5]? = some (.inl (.int, 256, .inl (fun _ => 0))) := gn9
  replace gn10 : h[m + 74 + 6]? = some (.inl (.int, 256, .inl (fun _ => 0))) := gn10
  replace gn11 : h[m + 74 + 7]? = some (.inl (.int, 256, .inl (fun _ => 0))) := gn11
  replace gn12 : h[m + 74 + 8]? = some (.inl (.int, 1024, .inl (fun _ => 0))) := gn12
  replace gn17 : h[m + 74 + 9]? = some (.inl (.int, 32, .inl (fun _ => 0))) := gn17
  refine ab_of2 (lv := [some (.ref m), some (.int 1), some (.int 0), none]) 1 rfl rfl (Nat.le_of_ble_eq_true rfl) ?_
  refine ab_aload_n d_M_seat_0 rfl rfl rfl ?_
  refine ab_iconst (v := 0) d_M_seat_1 (by decide) ?_
  refine ab_put (f := 0) d_M_seat_2 gmo rfl (by decide) (k9 233 rfl rfl) rfl rfl (fun _ => rfl) (fun _ => rfl) (Nat.le_of_ble_eq_true rfl) ?_
  show ab_V _ _ _ _ _ _ _ 5 [some (.ref m), some (.int 1), some (.int 0), none] [] (h.set m (.inr (12, [.int 0, .ref (m + 1), .int 0, .ref (m + 2), .ref (m + 33), .int 0, .int (-1), .int (-1), .ref (m + 64), .ref (m + 74), .ref (m + 84), .ref (m + 94), .int 1, .int 0, .ref (m + 99), .ref (m + 100), .ref (m + 101), .ref (m + 102), .ref (m + 103), .ref (m + 104), .int 0, .ref (m + 105), .int 0, .int 0, .int 0, .ref (m + 106), .ref (m + 107), .int 0, .int 0])))
  refine ab_gen (fun h1 e2 => ?_)
  have c3 : h1[m]? = some (.inr (12, [.int 0, .ref (m + 1), .int 0, .ref (m + 2), .ref (m + 33), .int 0, .int (-1), .int (-1), .ref (m + 64), .ref (m + 74), .ref (m + 84), .ref (m + 94), .int 1, .int 0, .ref (m + 99), .ref (m + 100), .ref (m + 101), .ref (m + 102), .ref (m + 103), .ref (m + 104), .int 0, .ref (m + 105), .int 0, .int 0, .int 0, .ref (m + 106), .ref (m + 107), .int 0, .int 0])) := ab_self e2 gmo
  have c4 : h1[m+1]? = some (.inl (.byte, 6000, .inl (fun _ => 0))) := ab_other e2 (by omega) gm1
  have c5 : h1[m+99]? = some (.inl (.int, 256, .inl (fun _ => 0))) := ab_other e2 (by omega) gm14
  have c6 : h1[m+100]? = some (.inl (.boolean, 256, .inl (fun _ => 0))) := ab_other e2 (by omega) gm15
  have c7 : h1[m+101]? = some (.inl (.int, 64, .inl (fun _ => 0))) := ab_other e2 (by omega) gm16
  have c8 : h1[m+102]? = some (.inl (.int, 4, .inl (fun _ => 0))) := ab_other e2 (by omega) gm17
  have c9 : h1[m+103]? = some (.inl (.int, 4, .inl (fun _ => 0))) := ab_other e2 (by omega) gm18
  have c10 : h1[m+104]? = some (.inl (.int, 256, .inl (fun _ => 0))) := ab_other e2 (by omega) gm19
  have c11 : h1[m+105]? = some (.inl (.byte, 58000, .inl (fun _ => 0))) := ab_other e2 (by omega) gm21
  have c12 : h1[m+106]? = some (.inl (.boolean, 8, .inl (a0_M w 25))) := ab_other e2 (by omega) gm25
  have c13 : h1[m+107]? = some (.inl (.boolean, 8, .inl (fun _ => 0))) := ab_other e2 (by omega) gm26
  have c14 : h1[m+74]? = some (.inr (13, [.int 0, .int 0, .int 0, .int 0, .ref (m + 74 + 1), .ref (m + 74 + 2), .ref (m + 74 + 3), .ref (m + 74 + 4), .int 0, .ref (m + 74 + 5), .ref (m + 74 + 6), .ref (m + 74 + 7), .ref (m + 74 + 8), .int (-1), .int 0, .int 0, .int 0, .ref (m + 74 + 9)])) := ab_other e2 (by omega) gno
  have c15 : h1[m+74+1]? = some (.inl (.int, 256, .inl (fun _ => 0))) := ab_other e2 (by omega) gn4
  have c16 : h1[m+74+2]? = some (.inl (.boolean, 256, .inl (fun _ => 0))) := ab_other e2 (by omega) gn5
  have c17 : h1[m+74+3]? = some (.inl (.int, 256, .inl (fun _ => 0))) := ab_other e2 (by omega) gn6
  have c18 : h1[m+74+4]? = some (.inl (.int, 12288, .inl (fun _ => 0))) := ab_other e2 (by omega) gn7
  have c19 : h1[m+74+5]? = some (.inl (.int, 256, .inl (fun _ => 0))) := ab_other e2 (by omega) gn9
  have c20 : h1[m+74+6]? = some (.inl (.int, 256, .inl (fun _ => 0))) := ab_other e2 (by omega) gn10
  have c21 : h1[m+74+7]? = some (.inl (.int, 256, .inl (fun _ => 0))) := ab_other e2 (by omega) gn11
  have c22 : h1[m+74+8]? = some (.inl (.int, 1024, .inl (fun _ => 0))) := ab_other e2 (by omega) gn12
  have c23 : h1[m+74+9]? = some (.inl (.int, 32, .inl (fun _ => 0))) := ab_other e2 (by omega) gn17
  have fr24 : ab_fr (fun _ => True) h h1 := ab_fr_set (ab_fr_rf _ _) e2 (by trivial)
  clear e2
  refine ab_iload_n d_M_seat_5 rfl rfl ?_
  refine ab_i2l d_M_seat_6 ?_
  refine ab_topl (fun x25 ex25 => ?_)
  obtain rfl : x25 = 1 := ex25.trans (by decide)
  clear ex25
  refine ab_lconst (v := 0) d_M_seat_7 (by decide) ?_
  refine ab_ldc2 d_M_seat_8 (k12 168 rfl rfl) ?_
  refine ab_callS_a (As := [.long 1, .long 0, .long 3]) (rest := []) d_M_seat_11 (c_M_in) (ab_mkC s_M_in (Nat.le_of_ble_eq_true rfl) (Nat.le_of_ble_eq_true rfl) (by decide) (by decide)) (k10 93 rfl rfl) t_M_in rfl (Nat.le_of_ble_eq_true rfl) (fun h27 q26 => ?_)
  subst q26
  refine ab_topi (fun x28 ex28 => ?_)
  obtain rfl : x28 = 1 := ex28.trans (by decide)
  clear ex28
  refine ab_if_eq (tgt := 38) d_M_seat_14 (by decide) (fun q29 => by exact absurd q29 (by decide)) (fun q29 => ?_)
  refine ab_aload_n d_M_seat_17 rfl rfl rfl ?_
  refine ab_get (f := 12) d_M_seat_18 c3 rfl (by decide) (k10 5 rfl rfl) rfl ?_
  refine ab_iload_n d_M_seat_21 rfl rfl ?_
  refine ab_ishr d_M_seat_22 ?_
  refine ab_topi (fun x30 ex30 => ?_)
  obtain rfl : x30 = 0 := ex30.trans (by decide)
  clear ex30
  refine ab_iconst (v := 1) d_M_seat_23 (by decide) ?_
  refine ab_iand d_M_seat_24 ?_
  refine ab_topi (fun x31 ex31 => ?_)
  obtain rfl : x31 = 0 := ex31.trans (by decide)
  clear ex31
  refine ab_iconst (v := 1) d_M_seat_25 (by decide) ?_
  refine ab_icmp_ne (tgt := 33) d_M_seat_26 (by decide) (fun q32 => ?_) (fun q32 => by exact absurd q32 (by decide))
  refine ab_iconst (v := 0) d_M_seat_33 (by decide) ?_
  refine ab_iload_n d_M_seat_34 rfl rfl ?_
  refine ab_icmp_ne (tgt := 40) d_M_seat_35 (by decide) (fun q33 => by exact absurd q33 (by decide)) (fun q33 => ?_)
  refine ab_iconst (v := 0) d_M_seat_38 (by decide) ?_
  exact ab_zret d_M_seat_39 rfl rfl (Nat.le_refl _) (Nat.le_refl _) (by unfold sq_M_seat_10; exact ⟨rfl, trivial⟩)
def sq_M_seat_11  : Int32 := (1)
set_option maxRecDepth 20000 in
set_option maxHeartbeats 2000000 in
theorem f_M_seat_11 {h : List ab_E}   {m : Nat} {w : Int32}   (h0 : at_M0 h m w) : ab_M y_M_seat { frames := 1, cells := 0, slots := 0, locals := 40 } [.ref m, .int 1, .int 1] h (ab_A (some (.int (sq_M_seat_11 ))) (fun h1 => True)) := by
  obtain ⟨hM, hT, hO, hS, hN, hD, hR⟩ := h0
  have hM0 := hM; obtain ⟨gmo, gm1, gm14, gm15, gm16, gm17, gm18, gm19, gm21, gm25, gm26⟩ := hM
  replace gmo : h[m]? = some (.inr (12, [.int 0, .ref (m + 1), .int 0, .ref (m + 2), .ref (m + 33), .int 0, .int (-1), .int (-1), .ref (m + 64), .ref (m + 74), .ref (m + 84), .ref (m + 94), .int 1, .int 0, .ref (m + 99), .ref (m + 100), .ref (m + 101), .ref (m + 102), .ref (m + 103), .ref (m + 104), .int 0, .ref (m + 105), .int 0, .int 0, .int 0, .ref (m + 106), .ref (m + 107), .int 0, .int 0])) := gmo
  replace gm1 : h[m + 1]? = some (.inl (.byte, 6000, .inl (fun _ => 0))) := (by rw [a0_M_0 w (by decide)] at gm1; exact gm1)
  replace gm14 : h[m + 99]? = some (.inl (.int, 256, .inl (fun _ => 0))) := (by rw [a0_M_0 w (by decide)] at gm14; exact gm14)
  replace gm15 : h[m + 100]? = some (.inl (.boolean, 256, .inl (fun _ => 0))) := (by rw [a0_M_0 w (by decide)] at gm15; exact gm15)
  replace gm16 : h[m + 101]? = some (.inl (.int, 64, .inl (fun _ => 0))) := (by rw [a0_M_0 w (by decide)] at gm16; exact gm16)
  replace gm17 : h[m + 102]? = some (.inl (.int, 4, .inl (fun _ => 0))) := (by rw [a0_M_0 w (by decide)] at gm17; exact gm17)
  replace gm18 : h[m + 103]? = some (.inl (.int, 4, .inl (fun _ => 0))) := (by rw [a0_M_0 w (by decide)] at gm18; exact gm18)
  replace gm19 : h[m + 104]? = some (.inl (.int, 256, .inl (fun _ => 0))) := (by rw [a0_M_0 w (by decide)] at gm19; exact gm19)
  replace gm21 : h[m + 105]? = some (.inl (.byte, 58000, .inl (fun _ => 0))) := (by rw [a0_M_0 w (by decide)] at gm21; exact gm21)
  replace gm25 : h[m + 106]? = some (.inl (.boolean, 8, .inl (a0_M w 25))) := gm25
  replace gm26 : h[m + 107]? = some (.inl (.boolean, 8, .inl (fun _ => 0))) := (by rw [a0_M_0 w (by decide)] at gm26; exact gm26)
  have hN0 := hN; obtain ⟨gno, gn4, gn5, gn6, gn7, gn9, gn10, gn11, gn12, gn17⟩ := hN
  replace gno : h[m + 74]? = some (.inr (13, [.int 0, .int 0, .int 0, .int 0, .ref (m + 74 + 1), .ref (m + 74 + 2), .ref (m + 74 + 3), .ref (m + 74 + 4), .int 0, .ref (m + 74 + 5), .ref (m + 74 + 6), .ref (m + 74 + 7), .ref (m + 74 + 8), .int (-1), .int 0, .int 0, .int 0, .ref (m + 74 + 9)])) := gno
  replace gn4 : h[m + 74 + 1]? = some (.inl (.int, 256, .inl (fun _ => 0))) := gn4
  replace gn5 : h[m + 74 + 2]? = some (.inl (.boolean, 256, .inl (fun _ => 0))) := gn5
  replace gn6 : h[m + 74 + 3]? = some (.inl (.int, 256, .inl (fun _ => 0))) := gn6
  replace gn7 : h[m + 74 + 4]? = some (.inl (.int, 12288, .inl (fun _ => 0))) := gn7
  replace gn9 : h[m + 74 + 5]? = some (.inl (.int, 256, .inl (fun _ => 0))) := gn9
  replace gn10 : h[m + 74 + 6]? = some (.inl (.int, 256, .inl (fun _ => 0))) := gn10
  replace gn11 : h[m + 74 + 7]? = some (.inl (.int, 256, .inl (fun _ => 0))) := gn11
  replace gn12 : h[m + 74 + 8]? = some (.inl (.int, 1024, .inl (fun _ => 0))) := gn12
  replace gn17 : h[m + 74 + 9]? = some (.inl (.int, 32, .inl (fun _ => 0))) := gn17
  refine ab_of2 (lv := [some (.ref m), some (.int 1), some (.int 1), none]) 1 rfl rfl (Nat.le_of_ble_eq_true rfl) ?_
  refine ab_aload_n d_M_seat_0 rfl rfl rfl ?_
  refine ab_iconst (v := 0) d_M_seat_1 (by decide) ?_
  refine ab_put (f := 0) d_M_seat_2 gmo rfl (by decide) (k9 233 rfl rfl) rfl rfl (fun _ => rfl) (fun _ => rfl) (Nat.le_of_ble_eq_true rfl) ?_
  show ab_V _ _ _ _ _ _ _ 5 [some (.ref m), some (.int 1), some (.int 1), none] [] (h.set m (.inr (12, [.int 0, .ref (m + 1), .int 0, .ref (m + 2), .ref (m + 33), .int 0, .int (-1), .int (-1), .ref (m + 64), .ref (m + 74), .ref (m + 84), .ref (m + 94), .int 1, .int 0, .ref (m + 99), .ref (m + 100), .ref (m + 101), .ref (m + 102), .ref (m + 103), .ref (m + 104), .int 0, .ref (m + 105), .int 0, .int 0, .int 0, .ref (m + 106), .ref (m + 107), .int 0, .int 0])))
  refine ab_gen (fun h1 e2 => ?_)
  have c3 : h1[m]? = some (.inr (12, [.int 0, .ref (m + 1), .int 0, .ref (m + 2), .ref (m + 33), .int 0, .int (-1), .int (-1), .ref (m + 64), .ref (m + 74), .ref (m + 84), .ref (m + 94), .int 1, .int 0, .ref (m + 99), .ref (m + 100), .ref (m + 101), .ref (m + 102), .ref (m + 103), .ref (m + 104), .int 0, .ref (m + 105), .int 0, .int 0, .int 0, .ref (m + 106), .ref (m + 107), .int 0, .int 0])) := ab_self e2 gmo
  have c4 : h1[m+1]? = some (.inl (.byte, 6000, .inl (fun _ => 0))) := ab_other e2 (by omega) gm1
  have c5 : h1[m+99]? = some (.inl (.int, 256, .inl (fun _ => 0))) := ab_other e2 (by omega) gm14
  have c6 : h1[m+100]? = some (.inl (.boolean, 256, .inl (fun _ => 0))) := ab_other e2 (by omega) gm15
  have c7 : h1[m+101]? = some (.inl (.int, 64, .inl (fun _ => 0))) := ab_other e2 (by omega) gm16
  have c8 : h1[m+102]? = some (.inl (.int, 4, .inl (fun _ => 0))) := ab_other e2 (by omega) gm17
  have c9 : h1[m+103]? = some (.inl (.int, 4, .inl (fun _ => 0))) := ab_other e2 (by omega) gm18
  have c10 : h1[m+104]? = some (.inl (.int, 256, .inl (fun _ => 0))) := ab_other e2 (by omega) gm19
  have c11 : h1[m+105]? = some (.inl (.byte, 58000, .inl (fun _ => 0))) := ab_other e2 (by omega) gm21
  have c12 : h1[m+106]? = some (.inl (.boolean, 8, .inl (a0_M w 25))) := ab_other e2 (by omega) gm25
  have c13 : h1[m+107]? = some (.inl (.boolean, 8, .inl (fun _ => 0))) := ab_other e2 (by omega) gm26
  have c14 : h1[m+74]? = some (.inr (13, [.int 0, .int 0, .int 0, .int 0, .ref (m + 74 + 1), .ref (m + 74 + 2), .ref (m + 74 + 3), .ref (m + 74 + 4), .int 0, .ref (m + 74 + 5), .ref (m + 74 + 6), .ref (m + 74 + 7), .ref (m + 74 + 8), .int (-1), .int 0, .int 0, .int 0, .ref (m + 74 + 9)])) := ab_other e2 (by omega) gno
  have c15 : h1[m+74+1]? = some (.inl (.int, 256, .inl (fun _ => 0))) := ab_other e2 (by omega) gn4
  have c16 : h1[m+74+2]? = some (.inl (.boolean, 256, .inl (fun _ => 0))) := ab_other e2 (by omega) gn5
  have c17 : h1[m+74+3]? = some (.inl (.int, 256, .inl (fun _ => 0))) := ab_other e2 (by omega) gn6
  have c18 : h1[m+74+4]? = some (.inl (.int, 12288, .inl (fun _ => 0))) := ab_other e2 (by omega) gn7
  have c19 : h1[m+74+5]? = some (.inl (.int, 256, .inl (fun _ => 0))) := ab_other e2 (by omega) gn9
  have c20 : h1[m+74+6]? = some (.inl (.int, 256, .inl (fun _ => 0))) := ab_other e2 (by omega) gn10
  have c21 : h1[m+74+7]? = some (.inl (.int, 256, .inl (fun _ => 0))) := ab_other e2 (by omega) gn11
  have c22 : h1[m+74+8]? = some (.inl (.int, 1024, .inl (fun _ => 0))) := ab_other e2 (by omega) gn12
  have c23 : h1[m+74+9]? = some (.inl (.int, 32, .inl (fun _ => 0))) := ab_other e2 (by omega) gn17
  have fr24 : ab_fr (fun _ => True) h h1 := ab_fr_set (ab_fr_rf _ _) e2 (by trivial)
  clear e2
  refine ab_iload_n d_M_seat_5 rfl rfl ?_
  refine ab_i2l d_M_seat_6 ?_
  refine ab_topl (fun x25 ex25 => ?_)
  obtain rfl : x25 = 1 := ex25.trans (by decide)
  clear ex25
  refine ab_lconst (v := 0) d_M_seat_7 (by decide) ?_
  refine ab_ldc2 d_M_seat_8 (k12 168 rfl rfl) ?_
  refine ab_callS_a (As := [.long 1, .long 0, .long 3]) (rest := []) d_M_seat_11 (c_M_in) (ab_mkC s_M_in (Nat.le_of_ble_eq_true rfl) (Nat.le_of_ble_eq_true rfl) (by decide) (by decide)) (k10 93 rfl rfl) t_M_in rfl (Nat.le_of_ble_eq_true rfl) (fun h27 q26 => ?_)
  subst q26
  refine ab_topi (fun x28 ex28 => ?_)
  obtain rfl : x28 = 1 := ex28.trans (by decide)
  clear ex28
  refine ab_if_eq (tgt := 38) d_M_seat_14 (by decide) (fun q29 => by exact absurd q29 (by decide)) (fun q29 => ?_)
  refine ab_aload_n d_M_seat_17 rfl rfl rfl ?_
  refine ab_get (f := 12) d_M_seat_18 c3 rfl (by decide) (k10 5 rfl rfl) rfl ?_
  refine ab_iload_n d_M_seat_21 rfl rfl ?_
  refine ab_ishr d_M_seat_22 ?_
  refine ab_topi (fun x30 ex30 => ?_)
  obtain rfl : x30 = 0 := ex30.trans (by decide)
  clear ex30
  refine ab_iconst (v := 1) d_M_seat_23 (by decide) ?_
  refine ab_iand d_M_seat_24 ?_
  refine ab_topi (fun x31 ex31 => ?_)
  obtain rfl : x31 = 0 := ex31.trans (by decide)
  clear ex31
  refine ab_iconst (v := 1) d_M_seat_25 (by decide) ?_
  refine ab_icmp_ne (tgt := 33) d_M_seat_26 (by decide) (fun q32 => ?_) (fun q32 => by exact absurd q32 (by decide))
  refine ab_iconst (v := 0) d_M_seat_33 (by decide) ?_
  refine ab_iload_n d_M_seat_34 rfl rfl ?_
  refine ab_icmp_ne (tgt := 40) d_M_seat_35 (by decide) (fun q33 => ?_) (fun q33 => by exact absurd q33 (by decide))
  refine ab_aload_n d_M_seat_40 rfl rfl rfl ?_
  refine ab_dup d_M_seat_41 rfl ?_
  refine ab_get (f := 12) d_M_seat_42 c3 rfl (by decide) (k10 5 rfl rfl) rfl ?_
  refine ab_iconst (v := 1) d_M_seat_45 (by decide) ?_
  refine ab_iload_n d_M_seat_46 rfl rfl ?_
  refine ab_ishl d_M_seat_47 ?_
  refine ab_topi (fun x34 ex34 => ?_)
  obtain rfl : x34 = 2 := ex34.trans (by decide)
  clear ex34
  refine ab_ixor d_M_seat_48 ?_
  refine ab_topi (fun x35 ex35 => ?_)
  obtain rfl : x35 = 3 := ex35.trans (by decide)
  clear ex35
  refine ab_put (f := 12) d_M_seat_49 c3 rfl (by decide) (k10 5 rfl rfl) rfl rfl (fun _ => rfl) (fun _ => rfl) (Nat.le_of_ble_eq_true rfl) ?_
  show ab_V _ _ _ _ _ _ _ 52 [some (.ref m), some (.int 1), some (.int 1), none] [] (h1.set m (.inr (12, [.int 0, .ref (m + 1), .int 0, .ref (m + 2), .ref (m + 33), .int 0, .int (-1), .int (-1), .ref (m + 64), .ref (m + 74), .ref (m + 84), .ref (m + 94), .int 3, .int 0, .ref (m + 99), .ref (m + 100), .ref (m + 101), .ref (m + 102), .ref (m + 103), .ref (m + 104), .int 0, .ref (m + 105), .int 0, .int 0, .int 0, .ref (m + 106), .ref (m + 107), .int 0, .int 0])))
  refine ab_gen (fun h36 e37 => ?_)
  have c38 : h36[m]? = some (.inr (12, [.int 0, .ref (m + 1), .int 0, .ref (m + 2), .ref (m + 33), .int 0, .int (-1), .int (-1), .ref (m + 64), .ref (m + 74), .ref (m + 84), .ref (m + 94), .int 3, .int 0, .ref (m + 99), .ref (m + 100), .ref (m + 101), .ref (m + 102), .ref (m + 103), .ref (m + 104), .int 0, .ref (m + 105), .int 0, .int 0, .int 0, .ref (m + 106), .ref (m + 107), .int 0, .int 0])) := ab_self e37 c3
  have c39 : h36[m+1]? = some (.inl (.byte, 6000, .inl (fun _ => 0))) := ab_other e37 (by omega) c4
  have c40 : h36[m+99]? = some (.inl (.int, 256, .inl (fun _ => 0))) := ab_other e37 (by omega) c5
  have c41 : h36[m+100]? = some (.inl (.boolean, 256, .inl (fun _ => 0))) := ab_other e37 (by omega) c6
  have c42 : h36[m+101]? = some (.inl (.int, 64, .inl (fun _ => 0))) := ab_other e37 (by omega) c7
  have c43 : h36[m+102]? = some (.inl (.int, 4, .inl (fun _ => 0))) := ab_other e37 (by omega) c8
  have c44 : h36[m+103]? = some (.inl (.int, 4, .inl (fun _ => 0))) := ab_other e37 (by omega) c9
  have c45 : h36[m+104]? = some (.inl (.int, 256, .inl (fun _ => 0))) := ab_other e37 (by omega) c10
  have c46 : h36[m+105]? = some (.inl (.byte, 58000, .inl (fun _ => 0))) := ab_other e37 (by omega) c11
  have c47 : h36[m+106]? = some (.inl (.boolean, 8, .inl (a0_M w 25))) := ab_other e37 (by omega) c12
  have c48 : h36[m+107]? = some (.inl (.boolean, 8, .inl (fun _ => 0))) := ab_other e37 (by omega) c13
  have c49 : h36[m+74]? = some (.inr (13, [.int 0, .int 0, .int 0, .int 0, .ref (m + 74 + 1), .ref (m + 74 + 2), .ref (m + 74 + 3), .ref (m + 74 + 4), .int 0, .ref (m + 74 + 5), .ref (m + 74 + 6), .ref (m + 74 + 7), .ref (m + 74 + 8), .int (-1), .int 0, .int 0, .int 0, .ref (m + 74 + 9)])) := ab_other e37 (by omega) c14
  have c50 : h36[m+74+1]? = some (.inl (.int, 256, .inl (fun _ => 0))) := ab_other e37 (by omega) c15
  have c51 : h36[m+74+2]? = some (.inl (.boolean, 256, .inl (fun _ => 0))) := ab_other e37 (by omega) c16
  have c52 : h36[m+74+3]? = some (.inl (.int, 256, .inl (fun _ => 0))) := ab_other e37 (by omega) c17
  have c53 : h36[m+74+4]? = some (.inl (.int, 12288, .inl (fun _ => 0))) := ab_other e37 (by omega) c18
  have c54 : h36[m+74+5]? = some (.inl (.int, 256, .inl (fun _ => 0))) := ab_other e37 (by omega) c19
  have c55 : h36[m+74+6]? = some (.inl (.int, 256, .inl (fun _ => 0))) := ab_other e37 (by omega) c20
  have c56 : h36[m+74+7]? = some (.inl (.int, 256, .inl (fun _ => 0))) := ab_other e37 (by omega) c21
  have c57 : h36[m+74+8]? = some (.inl (.int, 1024, .inl (fun _ => 0))) := ab_other e37 (by omega) c22
  have c58 : h36[m+74+9]? = some (.inl (.int, 32, .inl (fun _ => 0))) := ab_other e37 (by omega) c23
  have fr59 : ab_fr (fun _ => True) h h36 := ab_fr_set fr24 e37 (by trivial)
  clear c3 c4 c5 c6 c7 c8 c9 c10 c11 c12 c13 c14 c15 c16 c17 c18 c19 c20 c21 c22 c23 fr24 e37
  try clear h1
  refine ab_aload_n d_M_seat_52 rfl rfl rfl ?_
  refine ab_get (f := 9) d_M_seat_53 c38 rfl (by decide) (k10 2 rfl rfl) rfl ?_
  refine ab_getN (f := 0) d_M_seat_56 c49 rfl (by decide) (k9 89 rfl rfl) rfl ?_
  refine ab_iconst (v := 1) d_M_seat_59 (by decide) ?_
  refine ab_iadd d_M_seat_60 ?_
  refine ab_topi (fun x60 ex60 => ?_)
  obtain rfl : x60 = 1 := ex60.trans (by decide)
  clear ex60
  refine ab_istore_n (lv' := [some (.ref m), some (.int 1), some (.int 1), some (.int 1)]) d_M_seat_61 rfl (by decide) rfl ?_
  refine ab_iload_n d_M_seat_62 rfl rfl ?_
  refine ab_if_ne (tgt := 98) d_M_seat_63 (by decide) (fun q61 => ?_) (fun q61 => by exact absurd q61 (by decide))
  refine ab_iconst (v := 1) d_M_seat_98 (by decide) ?_
  exact ab_zret d_M_seat_99 rfl rfl (Nat.le_refl _) (Nat.le_refl _) (by unfold sq_M_seat_11; exact ⟨rfl, trivial⟩)
def sq_M_input_2 (t : Int32) (v : Int32) : Int32 := if t < 1 then ((-2)) else if 16 < t then ((-2)) else ((-3))
set_option maxRecDepth 20000 in
set_option maxHeartbeats 2000000 in
theorem f_M_input_2 {h : List ab_E}    {m : Nat} {w t v : Int32}    (h0 : at_M0 h m w) : ab_M y_M_input { frames := 1, cells := 0, slots := 0, locals := 40 } [.ref m, .int 2, .int t, .int v] h (ab_A (some (.int (sq_M_input_2 t v))) (fun h1 => True)) := by
  obtain ⟨hM, hT, hO, hS, hN, hD, hR⟩ := h0
  have hM0 := hM; obtain ⟨gmo, gm1, gm14, gm15, gm16, gm17, gm18, gm19, gm21, gm25, gm26⟩ := hM
  replace gmo : h[m]? = some (.inr (12, [.int 0, .ref (m + 1), .int 0, .ref (m + 2), .ref (m + 33), .int 0, .int (-1), .int (-1), .ref (m + 64), .ref (m + 74), .ref (m + 84), .ref (m + 94), .int 1, .int 0, .ref (m + 99), .ref (m + 100), .ref (m + 101), .ref (m + 102), .ref (m + 103), .ref (m + 104), .int 0, .ref (m + 105), .int 0, .int 0, .int 0, .ref (m + 106), .ref (m + 107), .int 0, .int 0])) := gmo
  replace gm1 : h[m + 1]? = some (.inl (.byte, 6000, .inl (fun _ => 0))) := (by rw [a0_M_0 w (by decide)] at gm1; exact gm1)
  replace gm14 : h[m + 99]? = some (.inl (.int, 256, .inl (fun _ => 0))) := (by rw [a0_M_0 w (by decide)] at gm14; exact gm14)
  replace gm15 : h[m + 100]? = some (.inl (.boolean, 256, .inl (fun _ => 0))) := (by rw [a0_M_0 w (by decide)] at gm15; exact gm15)
  replace gm16 : h[m + 101]? = some (.inl (.int, 64, .inl (fun _ => 0))) := (by rw [a0_M_0 w (by decide)] at gm16; exact gm16)
  replace gm17 : h[m + 102]? = some (.inl (.int, 4, .inl (fun _ => 0))) := (by rw [a0_M_0 w (by decide)] at gm17; exact gm17)
  replace gm18 : h[m + 103]? = some (.inl (.int, 4, .inl (fun _ => 0))) := (by rw [a0_M_0 w (by decide)] at gm18; exact gm18)
  replace gm19 : h[m + 104]? = some (.inl (.int, 256, .inl (fun _ => 0))) := (by rw [a0_M_0 w (by decide)] at gm19; exact gm19)
  replace gm21 : h[m + 105]? = some (.inl (.byte, 58000, .inl (fun _ => 0))) := (by rw [a0_M_0 w (by decide)] at gm21; exact gm21)
  replace gm25 : h[m + 106]? = some (.inl (.boolean, 8, .inl (a0_M w 25))) := gm25
  replace gm26 : h[m + 107]? = some (.inl (.boolean, 8, .inl (fun _ => 0))) := (by rw [a0_M_0 w (by decide)] at gm26; exact gm26)
  have hS0 := hS; obtain ⟨gso, gs4, gs5, gs6, gs7, gs9, gs10, gs11, gs12, gs17⟩ := hS
  replace gso : h[m + 64]? = some (.inr (13, [.int 0, .int 0, .int 0, .int 0, .ref (m + 64 + 1), .ref (m + 64 + 2), .ref (m + 64 + 3), .ref (m + 64 + 4), .int 0, .ref (m + 64 + 5), .ref (m + 64 + 6), .ref (m + 64 + 7), .ref (m + 64 + 8), .int (-1), .int 0, .int 0, .int 0, .ref (m + 64 + 9)])) := gso
  replace gs4 : h[m + 64 + 1]? = some (.inl (.int, 256, .inl (fun _ => 0))) := gs4
  replace gs5 : h[m + 64 + 2]? = some (.inl (.boolean, 256, .inl (fun _ => 0))) := gs5
  replace gs6 : h[m + 64 + 3]? = some (.inl (.int, 256, .inl (fun _ => 0))) := gs6
  replace gs7 : h[m + 64 + 4]? = some (.inl (.int, 12288, .inl (fun _ => 0))) := gs7
  replace gs9 : h[m + 64 + 5]? = some (.inl (.int, 256, .inl (fun _ => 0))) := gs9
  replace gs10 : h[m + 64 + 6]? = some (.inl (.int, 256, .inl (fun _ => 0))) := gs10
  replace gs11 : h[m + 64 + 7]? = some (.inl (.int, 256, .inl (fun _ => 0))) := gs11
  replace gs12 : h[m + 64 + 8]? = some (.inl (.int, 1024, .inl (fun _ => 0))) := gs12
  replace gs17 : h[m + 64 + 9]? = some (.inl (.int, 32, .inl (fun _ => 0))) := gs17
  have hN0 := hN; obtain ⟨gno, gn4, gn5, gn6, gn7, gn9, gn10, gn11, gn12, gn17⟩ := hN
  replace gno : h[m + 74]? = some (.inr (13, [.int 0, .int 0, .int 0, .int 0, .ref (m + 74 + 1), .ref (m + 74 + 2), .ref (m + 74 + 3), .ref (m + 74 + 4), .int 0, .ref (m + 74 + 5), .ref (m + 74 + 6), .ref (m + 74 + 7), .ref (m + 74 + 8), .int (-1), .int 0, .int 0, .int 0, .ref (m + 74 + 9)])) := gno
  replace gn4 : h[m + 74 + 1]? = some (.inl (.int, 256, .inl (fun _ => 0))) := gn4
  replace gn5 : h[m + 74 + 2]? = some (.inl (.boolean, 256, .inl (fun _ => 0))) := gn5
  replace gn6 : h[m + 74 + 3]? = some (.inl (.int, 256, .inl (fun _ => 0))) := gn6
  replace gn7 : h[m + 74 + 4]? = some (.inl (.int, 12288, .inl (fun _ => 0))) := gn7
  replace gn9 : h[m + 74 + 5]? = some (.inl (.int, 256, .inl (fun _ => 0))) := gn9
  replace gn10 : h[m + 74 + 6]? = some (.inl (.int, 256, .inl (fun _ => 0))) := gn10
  replace gn11 : h[m + 74 + 7]? = some (.inl (.int, 256, .inl (fun _ => 0))) := gn11
  replace gn12 : h[m + 74 + 8]? = some (.inl (.int, 1024, .inl (fun _ => 0))) := gn12
  replace gn17 : h[m + 74 + 9]? = some (.inl (.int, 32, .inl (fun _ => 0))) := gn17
  refine ab_of2 (lv := [some (.ref m), some (.int 2), some (.int t), some (.int v), none, none]) 2 rfl rfl (Nat.le_of_ble_eq_true rfl) ?_
  refine ab_aload_n d_M_input_0 rfl rfl rfl ?_
  refine ab_iconst (v := 0) d_M_input_1 (by decide) ?_
  refine ab_put (f := 0) d_M_input_2 gmo rfl (by decide) (k9 233 rfl rfl) rfl rfl (fun _ => rfl) (fun _ => rfl) (Nat.le_of_ble_eq_true rfl) ?_
  show ab_V _ _ _ _ _ _ _ 5 [some (.ref m), some (.int 2), some (.int t), some (.int v), none, none] [] (h.set m (.inr (12, [.int 0, .ref (m + 1), .int 0, .ref (m + 2), .ref (m + 33), .int 0, .int (-1), .int (-1), .ref (m + 64), .ref (m + 74), .ref (m + 84), .ref (m + 94), .int 1, .int 0, .ref (m + 99), .ref (m + 100), .ref (m + 101), .ref (m + 102), .ref (m + 103), .ref (m + 104), .int 0, .ref (m + 105), .int 0, .int 0, .int 0, .ref (m + 106), .ref (m + 107), .int 0, .int 0])))
  refine ab_gen (fun h1 e2 => ?_)
  have c3 : h1[m]? = some (.inr (12, [.int 0, .ref (m + 1), .int 0, .ref (m + 2), .ref (m + 33), .int 0, .int (-1), .int (-1), .ref (m + 64), .ref (m + 74), .ref (m + 84), .ref (m + 94), .int 1, .int 0, .ref (m + 99), .ref (m + 100), .ref (m + 101), .ref (m + 102), .ref (m + 103), .ref (m + 104), .int 0, .ref (m + 105), .int 0, .int 0, .int 0, .ref (m + 106), .ref (m + 107), .int 0, .int 0])) := ab_self e2 gmo
  have c4 : h1[m+1]? = some (.inl (.byte, 6000, .inl (fun _ => 0))) := ab_other e2 (by omega) gm1
  have c5 : h1[m+99]? = some (.inl (.int, 256, .inl (fun _ => 0))) := ab_other e2 (by omega) gm14
  have c6 : h1[m+100]? = some (.inl (.boolean, 256, .inl (fun _ => 0))) := ab_other e2 (by omega) gm15
  have c7 : h1[m+101]? = some (.inl (.int, 64, .inl (fun _ => 0))) := ab_other e2 (by omega) gm16
  have c8 : h1[m+102]? = some (.inl (.int, 4, .inl (fun _ => 0))) := ab_other e2 (by omega) gm17
  have c9 : h1[m+103]? = some (.inl (.int, 4, .inl (fun _ => 0))) := ab_other e2 (by omega) gm18
  have c10 : h1[m+104]? = some (.inl (.int, 256, .inl (fun _ => 0))) := ab_other e2 (by omega) gm19
  have c11 : h1[m+105]? = some (.inl (.byte, 58000, .inl (fun _ => 0))) := ab_other e2 (by omega) gm21
  have c12 : h1[m+106]? = some (.inl (.boolean, 8, .inl (a0_M w 25))) := ab_other e2 (by omega) gm25
  have c13 : h1[m+107]? = some (.inl (.boolean, 8, .inl (fun _ => 0))) := ab_other e2 (by omega) gm26
  have c14 : h1[m+64]? = some (.inr (13, [.int 0, .int 0, .int 0, .int 0, .ref (m + 64 + 1), .ref (m + 64 + 2), .ref (m + 64 + 3), .ref (m + 64 + 4), .int 0, .ref (m + 64 + 5), .ref (m + 64 + 6), .ref (m + 64 + 7), .ref (m + 64 + 8), .int (-1), .int 0, .int 0, .int 0, .ref (m + 64 + 9)])) := ab_other e2 (by omega) gso
  have c15 : h1[m+64+1]? = some (.inl (.int, 256, .inl (fun _ => 0))) := ab_other e2 (by omega) gs4
  have c16 : h1[m+64+2]? = some (.inl (.boolean, 256, .inl (fun _ => 0))) := ab_other e2 (by omega) gs5
  have c17 : h1[m+64+3]? = some (.inl (.int, 256, .inl (fun _ => 0))) := ab_other e2 (by omega) gs6
  have c18 : h1[m+64+4]? = some (.inl (.int, 12288, .inl (fun _ => 0))) := ab_other e2 (by omega) gs7
  have c19 : h1[m+64+5]? = some (.inl (.int, 256, .inl (fun _ => 0))) := ab_other e2 (by omega) gs9
  have c20 : h1[m+64+6]? = some (.inl (.int, 256, .inl (fun _ => 0))) := ab_other e2 (by omega) gs10
  have c21 : h1[m+64+7]? = some (.inl (.int, 256, .inl (fun _ => 0))) := ab_other e2 (by omega) gs11
  have c22 : h1[m+64+8]? = some (.inl (.int, 1024, .inl (fun _ => 0))) := ab_other e2 (by omega) gs12
  have c23 : h1[m+64+9]? = some (.inl (.int, 32, .inl (fun _ => 0))) := ab_other e2 (by omega) gs17
  have c24 : h1[m+74]? = some (.inr (13, [.int 0, .int 0, .int 0, .int 0, .ref (m + 74 + 1), .ref (m + 74 + 2), .ref (m + 74 + 3), .ref (m + 74 + 4), .int 0, .ref (m + 74 + 5), .ref (m + 74 + 6), .ref (m + 74 + 7), .ref (m + 74 + 8), .int (-1), .int 0, .int 0, .int 0, .ref (m + 74 + 9)])) := ab_other e2 (by omega) gno
  have c25 : h1[m+74+1]? = some (.inl (.int, 256, .inl (fun _ => 0))) := ab_other e2 (by omega) gn4
  have c26 : h1[m+74+2]? = some (.inl (.boolean, 256, .inl (fun _ => 0))) := ab_other e2 (by omega) gn5
  have c27 : h1[m+74+3]? = some (.inl (.int, 256, .inl (fun _ => 0))) := ab_other e2 (by omega) gn6
  have c28 : h1[m+74+4]? = some (.inl (.int, 12288, .inl (fun _ => 0))) := ab_other e2 (by omega) gn7
  have c29 : h1[m+74+5]? = some (.inl (.int, 256, .inl (fun _ => 0))) := ab_other e2 (by omega) gn9
  have c30 : h1[m+74+6]? = some (.inl (.int, 256, .inl (fun _ => 0))) := ab_other e2 (by omega) gn10
  have c31 : h1[m+74+7]? = some (.inl (.int, 256, .inl (fun _ => 0))) := ab_other e2 (by omega) gn11
  have c32 : h1[m+74+8]? = some (.inl (.int, 1024, .inl (fun _ => 0))) := ab_other e2 (by omega) gn12
  have c33 : h1[m+74+9]? = some (.inl (.int, 32, .inl (fun _ => 0))) := ab_other e2 (by omega) gn17
  have fr34 : ab_fr (fun _ => True) h h1 := ab_fr_set (ab_fr_rf _ _) e2 (by trivial)
  clear e2
  refine ab_iload_n d_M_input_5 rfl rfl ?_
  refine ab_i2l d_M_input_6 ?_
  refine ab_topl (fun x35 ex35 => ?_)
  obtain rfl : x35 = 2 := ex35.trans (by decide)
  clear ex35
  refine ab_lconst (v := 0) d_M_input_7 (by decide) ?_
  refine ab_ldc2 d_M_input_8 (k12 168 rfl rfl) ?_
  refine ab_callS_a (As := [.long 2, .long 0, .long 3]) (rest := []) d_M_input_11 (c_M_in) (ab_mkC s_M_in (Nat.le_of_ble_eq_true rfl) (Nat.le_of_ble_eq_true rfl) (by decide) (by decide)) (k10 93 rfl rfl) t_M_in rfl (Nat.le_of_ble_eq_true rfl) (fun h37 q36 => ?_)
  subst q36
  refine ab_topi (fun x38 ex38 => ?_)
  obtain rfl : x38 = 1 := ex38.trans (by decide)
  clear ex38
  refine ab_if_ne (tgt := 19) d_M_input_14 (by decide) (fun q39 => ?_) (fun q39 => by exact absurd q39 (by decide))
  refine ab_iload_n d_M_input_19 rfl rfl ?_
  refine ab_i2l d_M_input_20 ?_
  refine ab_aload_n d_M_input_21 rfl rfl rfl ?_
  refine ab_get (f := 8) d_M_input_22 c3 rfl (by decide) (k10 1 rfl rfl) rfl ?_
  refine ab_getN (f := 0) d_M_input_25 c14 rfl (by decide) (k9 89 rfl rfl) rfl ?_
  refine ab_i2l d_M_input_28 ?_
  refine ab_topl (fun x40 ex40 => ?_)
  obtain rfl : x40 = 0 := ex40.trans (by decide)
  clear ex40
  refine ab_lconst (v := 1) d_M_input_29 (by decide) ?_
  refine ab_ladd d_M_input_30 ?_
  refine ab_topl (fun x41 ex41 => ?_)
  obtain rfl : x41 = 1 := ex41.trans (by decide)
  clear ex41
  refine ab_aload_n d_M_input_31 rfl rfl rfl ?_
  refine ab_get (f := 9) d_M_input_32 c3 rfl (by decide) (k10 2 rfl rfl) rfl ?_
  refine ab_getN (f := 0) d_M_input_35 c24 rfl (by decide) (k9 89 rfl rfl) rfl ?_
  refine ab_i2l d_M_input_38 ?_
  refine ab_topl (fun x42 ex42 => ?_)
  obtain rfl : x42 = 0 := ex42.trans (by decide)
  clear ex42
  refine ab_ldc2 d_M_input_39 (k12 169 rfl rfl) ?_
  refine ab_ladd d_M_input_42 ?_
  refine ab_topl (fun x43 ex43 => ?_)
  obtain rfl : x43 = 16 := ex43.trans (by decide)
  clear ex43
  refine ab_callS_a (As := [.long ((t : Int32).toInt64), .long 1, .long 16]) (rest := []) d_M_input_43 (c_M_in) (ab_mkC s_M_in (Nat.le_of_ble_eq_true rfl) (Nat.le_of_ble_eq_true rfl) (by decide) (by decide)) (k10 93 rfl rfl) t_M_in rfl (Nat.le_of_ble_eq_true rfl) (fun h45 q44 => ?_)
  subst q44
  by_cases t46 : t < 1
  · refine ab_topi (fun x47 ex47 => ?_)
    obtain rfl : x47 = 0 := ex47.trans (in_1 (lo := 1) (hi := 16) (by decide) (by decide) t46)
    clear ex47
    refine ab_if_ne (tgt := 52) d_M_input_46 (by decide) (fun q48 => by exact absurd q48 (by decide)) (fun q48 => ?_)
    refine ab_bipush (v := (-2)) d_M_input_49 (by decide) ?_
    exact ab_iret d_M_input_51 rfl (Nat.le_refl _) (Nat.le_refl _) (by unfold sq_M_input_2; rw [if_pos t46]; exact ⟨rfl, trivial⟩)
  by_cases t49 : 16 < t
  · refine ab_topi (fun x50 ex50 => ?_)
    obtain rfl : x50 = 0 := ex50.trans (in_2 (lo := 1) (hi := 16) (by decide) (by decide) t49)
    clear ex50
    refine ab_if_ne (tgt := 52) d_M_input_46 (by decide) (fun q51 => by exact absurd q51 (by decide)) (fun q51 => ?_)
    refine ab_bipush (v := (-2)) d_M_input_49 (by decide) ?_
    exact ab_iret d_M_input_51 rfl (Nat.le_refl _) (Nat.le_refl _) (by unfold sq_M_input_2; rw [if_neg t46]; rw [if_pos t49]; exact ⟨rfl, trivial⟩)
  refine ab_topi (fun x52 ex52 => ?_)
  obtain rfl : x52 = 1 := ex52.trans (in_3 (lo := 1) (hi := 16) (by decide) (by decide) t46 t49)
  clear ex52
  refine ab_if_ne (tgt := 52) d_M_input_46 (by decide) (fun q53 => ?_) (fun q53 => by exact absurd q53 (by decide))
  refine ab_iload_n d_M_input_52 rfl rfl ?_
  refine ab_aload_n d_M_input_53 rfl rfl rfl ?_
  refine ab_get (f := 9) d_M_input_54 c3 rfl (by decide) (k10 2 rfl rfl) rfl ?_
  refine ab_getN (f := 0) d_M_input_57 c24 rfl (by decide) (k9 89 rfl rfl) rfl ?_
  refine ab_icmp_le (tgt := 70) d_M_input_60 (by decide) (fun q54 => ?_) (fun q54 => ?_)
  · exact absurd q54 (pos1 t46)
  · refine ab_aload_n d_M_input_63 rfl rfl rfl ?_
    refine ab_get (f := 12) d_M_input_64 c3 rfl (by decide) (k10 5 rfl rfl) rfl ?_
    refine ab_goto (tgt := 79) d_M_input_67 (by decide) ?_
    refine ab_istore (lv' := [some (.ref m), some (.int 2), some (.int t), some (.int v), some (.int 1), none]) d_M_input_79 (by decide) rfl ?_
    refine ab_iload d_M_input_81 rfl ?_
    refine ab_iload_n d_M_input_83 rfl rfl ?_
    refine ab_ishr d_M_input_84 ?_
    refine ab_topi (fun x55 ex55 => ?_)
    obtain rfl : x55 = 0 := ex55.trans (by decide)
    clear ex55
    refine ab_iconst (v := 1) d_M_input_85 (by decide) ?_
    refine ab_iand d_M_input_86 ?_
    refine ab_topi (fun x56 ex56 => ?_)
    obtain rfl : x56 = 0 := ex56.trans (by decide)
    clear ex56
    refine ab_if_ne (tgt := 93) d_M_input_87 (by decide) (fun q57 => by exact absurd q57 (by decide)) (fun q57 => ?_)
    refine ab_bipush (v := (-3)) d_M_input_90 (by decide) ?_
    exact ab_iret d_M_input_92 rfl (Nat.le_refl _) (Nat.le_refl _) (by unfold sq_M_input_2; rw [if_neg t46]; rw [if_neg t49]; exact ⟨rfl, trivial⟩)
def sq_M_seat_20  : Int32 := (0)
set_option maxRecDepth 20000 in
set_option maxHeartbeats 2000000 in
theorem f_M_seat_20 {h : List ab_E}   {m : Nat} {w : Int32}   (h0 : at_M0 h m w) : ab_M y_M_seat { frames := 1, cells := 0, slots := 0, locals := 40 } [.ref m, .int 2, .int 0] h (ab_A (some (.int (sq_M_seat_20 ))) (fun h1 => True)) := by
  obtain ⟨hM, hT, hO, hS, hN, hD, hR⟩ := h0
  have hM0 := hM; obtain ⟨gmo, gm1, gm14, gm15, gm16, gm17, gm18, gm19, gm21, gm25, gm26⟩ := hM
  replace gmo : h[m]? = some (.inr (12, [.int 0, .ref (m + 1), .int 0, .ref (m + 2), .ref (m + 33), .int 0, .int (-1), .int (-1), .ref (m + 64), .ref (m + 74), .ref (m + 84), .ref (m + 94), .int 1, .int 0, .ref (m + 99), .ref (m + 100), .ref (m + 101), .ref (m + 102), .ref (m + 103), .ref (m + 104), .int 0, .ref (m + 105), .int 0, .int 0, .int 0, .ref (m + 106), .ref (m + 107), .int 0, .int 0])) := gmo
  replace gm1 : h[m + 1]? = some (.inl (.byte, 6000, .inl (fun _ => 0))) := (by rw [a0_M_0 w (by decide)] at gm1; exact gm1)
  replace gm14 : h[m + 99]? = some (.inl (.int, 256, .inl (fun _ => 0))) := (by rw [a0_M_0 w (by decide)] at gm14; exact gm14)
  replace gm15 : h[m + 100]? = some (.inl (.boolean, 256, .inl (fun _ => 0))) := (by rw [a0_M_0 w (by decide)] at gm15; exact gm15)
  replace gm16 : h[m + 101]? = some (.inl (.int, 64, .inl (fun _ => 0))) := (by rw [a0_M_0 w (by decide)] at gm16; exact gm16)
  replace gm17 : h[m + 102]? = some (.inl (.int, 4, .inl (fun _ => 0))) := (by rw [a0_M_0 w (by decide)] at gm17; exact gm17)
  replace gm18 : h[m + 103]? = some (.inl (.int, 4, .inl (fun _ => 0))) := (by rw [a0_M_0 w (by decide)] at gm18; exact gm18)
  replace gm19 : h[m + 104]? = some (.inl (.int, 256, .inl (fun _ => 0))) := (by rw [a0_M_0 w (by decide)] at gm19; exact gm19)
  replace gm21 : h[m + 105]? = some (.inl (.byte, 58000, .inl (fun _ => 0))) := (by rw [a0_M_0 w (by decide)] at gm21; exact gm21)
  replace gm25 : h[m + 106]? = some (.inl (.boolean, 8, .inl (a0_M w 25))) := gm25
  replace gm26 : h[m + 107]? = some (.inl (.boolean, 8, .inl (fun _ => 0))) := (by rw [a0_M_0 w (by decide)] at gm26; exact gm26)
  have hN0 := hN; obtain ⟨gno, gn4, gn5, gn6, gn7, gn9, gn10, gn11, gn12, gn17⟩ := hN
  replace gno : h[m + 74]? = some (.inr (13, [.int 0, .int 0, .int 0, .int 0, .ref (m + 74 + 1), .ref (m + 74 + 2), .ref (m + 74 + 3), .ref (m + 74 + 4), .int 0, .ref (m + 74 + 5), .ref (m + 74 + 6), .ref (m + 74 + 7), .ref (m + 74 + 8), .int (-1), .int 0, .int 0, .int 0, .ref (m + 74 + 9)])) := gno
  replace gn4 : h[m + 74 + 1]? = some (.inl (.int, 256, .inl (fun _ => 0))) := gn4
  replace gn5 : h[m + 74 + 2]? = some (.inl (.boolean, 256, .inl (fun _ => 0))) := gn5
  replace gn6 : h[m + 74 + 3]? = some (.inl (.int, 256, .inl (fun _ => 0))) := gn6
  replace gn7 : h[m + 74 + 4]? = some (.inl (.int, 12288, .inl (fun _ => 0))) := gn7
  replace gn9 : h[m + 74 + 5]? = some (.inl (.int, 256, .inl (fun _ => 0))) := gn9
  replace gn10 : h[m + 74 + 6]? = some (.inl (.int, 256, .inl (fun _ => 0))) := gn10
  replace gn11 : h[m + 74 + 7]? = some (.inl (.int, 256, .inl (fun _ => 0))) := gn11
  replace gn12 : h[m + 74 + 8]? = some (.inl (.int, 1024, .inl (fun _ => 0))) := gn12
  replace gn17 : h[m + 74 + 9]? = some (.inl (.int, 32, .inl (fun _ => 0))) := gn17
  refine ab_of2 (lv := [some (.ref m), some (.int 2), some (.int 0), none]) 1 rfl rfl (Nat.le_of_ble_eq_true rfl) ?_
  refine ab_aload_n d_M_seat_0 rfl rfl rfl ?_
  refine ab_iconst (v := 0) d_M_seat_1 (by decide) ?_
  refine ab_put (f := 0) d_M_seat_2 gmo rfl (by decide) (k9 233 rfl rfl) rfl rfl (fun _ => rfl) (fun _ => rfl) (Nat.le_of_ble_eq_true rfl) ?_
  show ab_V _ _ _ _ _ _ _ 5 [some (.ref m), some (.int 2), some (.int 0), none] [] (h.set m (.inr (12, [.int 0, .ref (m + 1), .int 0, .ref (m + 2), .ref (m + 33), .int 0, .int (-1), .int (-1), .ref (m + 64), .ref (m + 74), .ref (m + 84), .ref (m + 94), .int 1, .int 0, .ref (m + 99), .ref (m + 100), .ref (m + 101), .ref (m + 102), .ref (m + 103), .ref (m + 104), .int 0, .ref (m + 105), .int 0, .int 0, .int 0, .ref (m + 106), .ref (m + 107), .int 0, .int 0])))
  refine ab_gen (fun h1 e2 => ?_)
  have c3 : h1[m]? = some (.inr (12, [.int 0, .ref (m + 1), .int 0, .ref (m + 2), .ref (m + 33), .int 0, .int (-1), .int (-1), .ref (m + 64), .ref (m + 74), .ref (m + 84), .ref (m + 94), .int 1, .int 0, .ref (m + 99), .ref (m + 100), .ref (m + 101), .ref (m + 102), .ref (m + 103), .ref (m + 104), .int 0, .ref (m + 105), .int 0, .int 0, .int 0, .ref (m + 106), .ref (m + 107), .int 0, .int 0])) := ab_self e2 gmo
  have c4 : h1[m+1]? = some (.inl (.byte, 6000, .inl (fun _ => 0))) := ab_other e2 (by omega) gm1
  have c5 : h1[m+99]? = some (.inl (.int, 256, .inl (fun _ => 0))) := ab_other e2 (by omega) gm14
  have c6 : h1[m+100]? = some (.inl (.boolean, 256, .inl (fun _ => 0))) := ab_other e2 (by omega) gm15
  have c7 : h1[m+101]? = some (.inl (.int, 64, .inl (fun _ => 0))) := ab_other e2 (by omega) gm16
  have c8 : h1[m+102]? = some (.inl (.int, 4, .inl (fun _ => 0))) := ab_other e2 (by omega) gm17
  have c9 : h1[m+103]? = some (.inl (.int, 4, .inl (fun _ => 0))) := ab_other e2 (by omega) gm18
  have c10 : h1[m+104]? = some (.inl (.int, 256, .inl (fun _ => 0))) := ab_other e2 (by omega) gm19
  have c11 : h1[m+105]? = some (.inl (.byte, 58000, .inl (fun _ => 0))) := ab_other e2 (by omega) gm21
  have c12 : h1[m+106]? = some (.inl (.boolean, 8, .inl (a0_M w 25))) := ab_other e2 (by omega) gm25
  have c13 : h1[m+107]? = some (.inl (.boolean, 8, .inl (fun _ => 0))) := ab_other e2 (by omega) gm26
  have c14 : h1[m+74]? = some (.inr (13, [.int 0, .int 0, .int 0, .int 0, .ref (m + 74 + 1), .ref (m + 74 + 2), .ref (m + 74 + 3), .ref (m + 74 + 4), .int 0, .ref (m + 74 + 5), .ref (m + 74 + 6), .ref (m + 74 + 7), .ref (m + 74 + 8), .int (-1), .int 0, .int 0, .int 0, .ref (m + 74 + 9)])) := ab_other e2 (by omega) gno
  have c15 : h1[m+74+1]? = some (.inl (.int, 256, .inl (fun _ => 0))) := ab_other e2 (by omega) gn4
  have c16 : h1[m+74+2]? = some (.inl (.boolean, 256, .inl (fun _ => 0))) := ab_other e2 (by omega) gn5
  have c17 : h1[m+74+3]? = some (.inl (.int, 256, .inl (fun _ => 0))) := ab_other e2 (by omega) gn6
  have c18 : h1[m+74+4]? = some (.inl (.int, 12288, .inl (fun _ => 0))) := ab_other e2 (by omega) gn7
  have c19 : h1[m+74+5]? = some (.inl (.int, 256, .inl (fun _ => 0))) := ab_other e2 (by omega) gn9
  have c20 : h1[m+74+6]? = some (.inl (.int, 256, .inl (fun _ => 0))) := ab_other e2 (by omega) gn10
  have c21 : h1[m+74+7]? = some (.inl (.int, 256, .inl (fun _ => 0))) := ab_other e2 (by omega) gn11
  have c22 : h1[m+74+8]? = some (.inl (.int, 1024, .inl (fun _ => 0))) := ab_other e2 (by omega) gn12
  have c23 : h1[m+74+9]? = some (.inl (.int, 32, .inl (fun _ => 0))) := ab_other e2 (by omega) gn17
  have fr24 : ab_fr (fun _ => True) h h1 := ab_fr_set (ab_fr_rf _ _) e2 (by trivial)
  clear e2
  refine ab_iload_n d_M_seat_5 rfl rfl ?_
  refine ab_i2l d_M_seat_6 ?_
  refine ab_topl (fun x25 ex25 => ?_)
  obtain rfl : x25 = 2 := ex25.trans (by decide)
  clear ex25
  refine ab_lconst (v := 0) d_M_seat_7 (by decide) ?_
  refine ab_ldc2 d_M_seat_8 (k12 168 rfl rfl) ?_
  refine ab_callS_a (As := [.long 2, .long 0, .long 3]) (rest := []) d_M_seat_11 (c_M_in) (ab_mkC s_M_in (Nat.le_of_ble_eq_true rfl) (Nat.le_of_ble_eq_true rfl) (by decide) (by decide)) (k10 93 rfl rfl) t_M_in rfl (Nat.le_of_ble_eq_true rfl) (fun h27 q26 => ?_)
  subst q26
  refine ab_topi (fun x28 ex28 => ?_)
  obtain rfl : x28 = 1 := ex28.trans (by decide)
  clear ex28
  refine ab_if_eq (tgt := 38) d_M_seat_14 (by decide) (fun q29 => by exact absurd q29 (by decide)) (fun q29 => ?_)
  refine ab_aload_n d_M_seat_17 rfl rfl rfl ?_
  refine ab_get (f := 12) d_M_seat_18 c3 rfl (by decide) (k10 5 rfl rfl) rfl ?_
  refine ab_iload_n d_M_seat_21 rfl rfl ?_
  refine ab_ishr d_M_seat_22 ?_
  refine ab_topi (fun x30 ex30 => ?_)
  obtain rfl : x30 = 0 := ex30.trans (by decide)
  clear ex30
  refine ab_iconst (v := 1) d_M_seat_23 (by decide) ?_
  refine ab_iand d_M_seat_24 ?_
  refine ab_topi (fun x31 ex31 => ?_)
  obtain rfl : x31 = 0 := ex31.trans (by decide)
  clear ex31
  refine ab_iconst (v := 1) d_M_seat_25 (by decide) ?_
  refine ab_icmp_ne (tgt := 33) d_M_seat_26 (by decide) (fun q32 => ?_) (fun q32 => by exact absurd q32 (by decide))
  refine ab_iconst (v := 0) d_M_seat_33 (by decide) ?_
  refine ab_iload_n d_M_seat_34 rfl rfl ?_
  refine ab_icmp_ne (tgt := 40) d_M_seat_35 (by decide) (fun q33 => by exact absurd q33 (by decide)) (fun q33 => ?_)
  refine ab_iconst (v := 0) d_M_seat_38 (by decide) ?_
  exact ab_zret d_M_seat_39 rfl rfl (Nat.le_refl _) (Nat.le_refl _) (by unfold sq_M_seat_20; exact ⟨rfl, trivial⟩)
def sq_M_seat_21  : Int32 := (1)
set_option maxRecDepth 20000 in
set_option maxHeartbeats 2000000 in
theorem f_M_seat_21 {h : List ab_E}   {m : Nat} {w : Int32}   (h0 : at_M0 h m w) : ab_M y_M_seat { frames := 1, cells := 0, slots := 0, locals := 40 } [.ref m, .int 2, .int 1] h (ab_A (some (.int (sq_M_seat_21 ))) (fun h1 => True)) := by
  obtain ⟨hM, hT, hO, hS, hN, hD, hR⟩ := h0
  have hM0 := hM; obtain ⟨gmo, gm1, gm14, gm15, gm16, gm17, gm18, gm19, gm21, gm25, gm26⟩ := hM
  replace gmo : h[m]? = some (.inr (12, [.int 0, .ref (m + 1), .int 0, .ref (m + 2), .ref (m + 33), .int 0, .int (-1), .int (-1), .ref (m + 64), .ref (m + 74), .ref (m + 84), .ref (m + 94), .int 1, .int 0, .ref (m + 99), .ref (m + 100), .ref (m + 101), .ref (m + 102), .ref (m + 103), .ref (m + 104), .int 0, .ref (m + 105), .int 0, .int 0, .int 0, .ref (m + 106), .ref (m + 107), .int 0, .int 0])) := gmo
  replace gm1 : h[m + 1]? = some (.inl (.byte, 6000, .inl (fun _ => 0))) := (by rw [a0_M_0 w (by decide)] at gm1; exact gm1)
  replace gm14 : h[m + 99]? = some (.inl (.int, 256, .inl (fun _ => 0))) := (by rw [a0_M_0 w (by decide)] at gm14; exact gm14)
  replace gm15 : h[m + 100]? = some (.inl (.boolean, 256, .inl (fun _ => 0))) := (by rw [a0_M_0 w (by decide)] at gm15; exact gm15)
  replace gm16 : h[m + 101]? = some (.inl (.int, 64, .inl (fun _ => 0))) := (by rw [a0_M_0 w (by decide)] at gm16; exact gm16)
  replace gm17 : h[m + 102]? = some (.inl (.int, 4, .inl (fun _ => 0))) := (by rw [a0_M_0 w (by decide)] at gm17; exact gm17)
  replace gm18 : h[m + 103]? = some (.inl (.int, 4, .inl (fun _ => 0))) := (by rw [a0_M_0 w (by decide)] at gm18; exact gm18)
  replace gm19 : h[m + 104]? = some (.inl (.int, 256, .inl (fun _ => 0))) := (by rw [a0_M_0 w (by decide)] at gm19; exact gm19)
  replace gm21 : h[m + 105]? = some (.inl (.byte, 58000, .inl (fun _ => 0))) := (by rw [a0_M_0 w (by decide)] at gm21; exact gm21)
  replace gm25 : h[m + 106]? = some (.inl (.boolean, 8, .inl (a0_M w 25))) := gm25
  replace gm26 : h[m + 107]? = some (.inl (.boolean, 8, .inl (fun _ => 0))) := (by rw [a0_M_0 w (by decide)] at gm26; exact gm26)
  have hN0 := hN; obtain ⟨gno, gn4, gn5, gn6, gn7, gn9, gn10, gn11, gn12, gn17⟩ := hN
  replace gno : h[m + 74]? = some (.inr (13, [.int 0, .int 0, .int 0, .int 0, .ref (m + 74 + 1), .ref (m + 74 + 2), .ref (m + 74 + 3), .ref (m + 74 + 4), .int 0, .ref (m + 74 + 5), .ref (m + 74 + 6), .ref (m + 74 + 7), .ref (m + 74 + 8), .int (-1), .int 0, .int 0, .int 0, .ref (m + 74 + 9)])) := gno
  replace gn4 : h[m + 74 + 1]? = some (.inl (.int, 256, .inl (fun _ => 0))) := gn4
  replace gn5 : h[m + 74 + 2]? = some (.inl (.boolean, 256, .inl (fun _ => 0))) := gn5
  replace gn6 : h[m + 74 + 3]? = some (.inl (.int, 256, .inl (fun _ => 0))) := gn6
  replace gn7 : h[m + 74 + 4]? = some (.inl (.int, 12288, .inl (fun _ => 0))) := gn7
  replace gn9 : h[m + 74 + 5]? = some (.inl (.int, 256, .inl (fun _ => 0))) := gn9
  replace gn10 : h[m + 74 + 6]? = some (.inl (.int, 256, .inl (fun _ => 0))) := gn10
  replace gn11 : h[m + 74 + 7]? = some (.inl (.int, 256, .inl (fun _ => 0))) := gn11
  replace gn12 : h[m + 74 + 8]? = some (.inl (.int, 1024, .inl (fun _ => 0))) := gn12
  replace gn17 : h[m + 74 + 9]? = some (.inl (.int, 32, .inl (fun _ => 0))) := gn17
  refine ab_of2 (lv := [some (.ref m), some (.int 2), some (.int 1), none]) 1 rfl rfl (Nat.le_of_ble_eq_true rfl) ?_
  refine ab_aload_n d_M_seat_0 rfl rfl rfl ?_
  refine ab_iconst (v := 0) d_M_seat_1 (by decide) ?_
  refine ab_put (f := 0) d_M_seat_2 gmo rfl (by decide) (k9 233 rfl rfl) rfl rfl (fun _ => rfl) (fun _ => rfl) (Nat.le_of_ble_eq_true rfl) ?_
  show ab_V _ _ _ _ _ _ _ 5 [some (.ref m), some (.int 2), some (.int 1), none] [] (h.set m (.inr (12, [.int 0, .ref (m + 1), .int 0, .ref (m + 2), .ref (m + 33), .int 0, .int (-1), .int (-1), .ref (m + 64), .ref (m + 74), .ref (m + 84), .ref (m + 94), .int 1, .int 0, .ref (m + 99), .ref (m + 100), .ref (m + 101), .ref (m + 102), .ref (m + 103), .ref (m + 104), .int 0, .ref (m + 105), .int 0, .int 0, .int 0, .ref (m + 106), .ref (m + 107), .int 0, .int 0])))
  refine ab_gen (fun h1 e2 => ?_)
  have c3 : h1[m]? = some (.inr (12, [.int 0, .ref (m + 1), .int 0, .ref (m + 2), .ref (m + 33), .int 0, .int (-1), .int (-1), .ref (m + 64), .ref (m + 74), .ref (m + 84), .ref (m + 94), .int 1, .int 0, .ref (m + 99), .ref (m + 100), .ref (m + 101), .ref (m + 102), .ref (m + 103), .ref (m + 104), .int 0, .ref (m + 105), .int 0, .int 0, .int 0, .ref (m + 106), .ref (m + 107), .int 0, .int 0])) := ab_self e2 gmo
  have c4 : h1[m+1]? = some (.inl (.byte, 6000, .inl (fun _ => 0))) := ab_other e2 (by omega) gm1
  have c5 : h1[m+99]? = some (.inl (.int, 256, .inl (fun _ => 0))) := ab_other e2 (by omega) gm14
  have c6 : h1[m+100]? = some (.inl (.boolean, 256, .inl (fun _ => 0))) := ab_other e2 (by omega) gm15
  have c7 : h1[m+101]? = some (.inl (.int, 64, .inl (fun _ => 0))) := ab_other e2 (by omega) gm16
  have c8 : h1[m+102]? = some (.inl (.int, 4, .inl (fun _ => 0))) := ab_other e2 (by omega) gm17
  have c9 : h1[m+103]? = some (.inl (.int, 4, .inl (fun _ => 0))) := ab_other e2 (by omega) gm18
  have c10 : h1[m+104]? = some (.inl (.int, 256, .inl (fun _ => 0))) := ab_other e2 (by omega) gm19
  have c11 : h1[m+105]? = some (.inl (.byte, 58000, .inl (fun _ => 0))) := ab_other e2 (by omega) gm21
  have c12 : h1[m+106]? = some (.inl (.boolean, 8, .inl (a0_M w 25))) := ab_other e2 (by omega) gm25
  have c13 : h1[m+107]? = some (.inl (.boolean, 8, .inl (fun _ => 0))) := ab_other e2 (by omega) gm26
  have c14 : h1[m+74]? = some (.inr (13, [.int 0, .int 0, .int 0, .int 0, .ref (m + 74 + 1), .ref (m + 74 + 2), .ref (m + 74 + 3), .ref (m + 74 + 4), .int 0, .ref (m + 74 + 5), .ref (m + 74 + 6), .ref (m + 74 + 7), .ref (m + 74 + 8), .int (-1), .int 0, .int 0, .int 0, .ref (m + 74 + 9)])) := ab_other e2 (by omega) gno
  have c15 : h1[m+74+1]? = some (.inl (.int, 256, .inl (fun _ => 0))) := ab_other e2 (by omega) gn4
  have c16 : h1[m+74+2]? = some (.inl (.boolean, 256, .inl (fun _ => 0))) := ab_other e2 (by omega) gn5
  have c17 : h1[m+74+3]? = some (.inl (.int, 256, .inl (fun _ => 0))) := ab_other e2 (by omega) gn6
  have c18 : h1[m+74+4]? = some (.inl (.int, 12288, .inl (fun _ => 0))) := ab_other e2 (by omega) gn7
  have c19 : h1[m+74+5]? = some (.inl (.int, 256, .inl (fun _ => 0))) := ab_other e2 (by omega) gn9
  have c20 : h1[m+74+6]? = some (.inl (.int, 256, .inl (fun _ => 0))) := ab_other e2 (by omega) gn10
  have c21 : h1[m+74+7]? = some (.inl (.int, 256, .inl (fun _ => 0))) := ab_other e2 (by omega) gn11
  have c22 : h1[m+74+8]? = some (.inl (.int, 1024, .inl (fun _ => 0))) := ab_other e2 (by omega) gn12
  have c23 : h1[m+74+9]? = some (.inl (.int, 32, .inl (fun _ => 0))) := ab_other e2 (by omega) gn17
  have fr24 : ab_fr (fun _ => True) h h1 := ab_fr_set (ab_fr_rf _ _) e2 (by trivial)
  clear e2
  refine ab_iload_n d_M_seat_5 rfl rfl ?_
  refine ab_i2l d_M_seat_6 ?_
  refine ab_topl (fun x25 ex25 => ?_)
  obtain rfl : x25 = 2 := ex25.trans (by decide)
  clear ex25
  refine ab_lconst (v := 0) d_M_seat_7 (by decide) ?_
  refine ab_ldc2 d_M_seat_8 (k12 168 rfl rfl) ?_
  refine ab_callS_a (As := [.long 2, .long 0, .long 3]) (rest := []) d_M_seat_11 (c_M_in) (ab_mkC s_M_in (Nat.le_of_ble_eq_true rfl) (Nat.le_of_ble_eq_true rfl) (by decide) (by decide)) (k10 93 rfl rfl) t_M_in rfl (Nat.le_of_ble_eq_true rfl) (fun h27 q26 => ?_)
  subst q26
  refine ab_topi (fun x28 ex28 => ?_)
  obtain rfl : x28 = 1 := ex28.trans (by decide)
  clear ex28
  refine ab_if_eq (tgt := 38) d_M_seat_14 (by decide) (fun q29 => by exact absurd q29 (by decide)) (fun q29 => ?_)
  refine ab_aload_n d_M_seat_17 rfl rfl rfl ?_
  refine ab_get (f := 12) d_M_seat_18 c3 rfl (by decide) (k10 5 rfl rfl) rfl ?_
  refine ab_iload_n d_M_seat_21 rfl rfl ?_
  refine ab_ishr d_M_seat_22 ?_
  refine ab_topi (fun x30 ex30 => ?_)
  obtain rfl : x30 = 0 := ex30.trans (by decide)
  clear ex30
  refine ab_iconst (v := 1) d_M_seat_23 (by decide) ?_
  refine ab_iand d_M_seat_24 ?_
  refine ab_topi (fun x31 ex31 => ?_)
  obtain rfl : x31 = 0 := ex31.trans (by decide)
  clear ex31
  refine ab_iconst (v := 1) d_M_seat_25 (by decide) ?_
  refine ab_icmp_ne (tgt := 33) d_M_seat_26 (by decide) (fun q32 => ?_) (fun q32 => by exact absurd q32 (by decide))
  refine ab_iconst (v := 0) d_M_seat_33 (by decide) ?_
  refine ab_iload_n d_M_seat_34 rfl rfl ?_
  refine ab_icmp_ne (tgt := 40) d_M_seat_35 (by decide) (fun q33 => ?_) (fun q33 => by exact absurd q33 (by decide))
  refine ab_aload_n d_M_seat_40 rfl rfl rfl ?_
  refine ab_dup d_M_seat_41 rfl ?_
  refine ab_get (f := 12) d_M_seat_42 c3 rfl (by decide) (k10 5 rfl rfl) rfl ?_
  refine ab_iconst (v := 1) d_M_seat_45 (by decide) ?_
  refine ab_iload_n d_M_seat_46 rfl rfl ?_
  refine ab_ishl d_M_seat_47 ?_
  refine ab_topi (fun x34 ex34 => ?_)
  obtain rfl : x34 = 4 := ex34.trans (by decide)
  clear ex34
  refine ab_ixor d_M_seat_48 ?_
  refine ab_topi (fun x35 ex35 => ?_)
  obtain rfl : x35 = 5 := ex35.trans (by decide)
  clear ex35
  refine ab_put (f := 12) d_M_seat_49 c3 rfl (by decide) (k10 5 rfl rfl) rfl rfl (fun _ => rfl) (fun _ => rfl) (Nat.le_of_ble_eq_true rfl) ?_
  show ab_V _ _ _ _ _ _ _ 52 [some (.ref m), some (.int 2), some (.int 1), none] [] (h1.set m (.inr (12, [.int 0, .ref (m + 1), .int 0, .ref (m + 2), .ref (m + 33), .int 0, .int (-1), .int (-1), .ref (m + 64), .ref (m + 74), .ref (m + 84), .ref (m + 94), .int 5, .int 0, .ref (m + 99), .ref (m + 100), .ref (m + 101), .ref (m + 102), .ref (m + 103), .ref (m + 104), .int 0, .ref (m + 105), .int 0, .int 0, .int 0, .ref (m + 106), .ref (m + 107), .int 0, .int 0])))
  refine ab_gen (fun h36 e37 => ?_)
  have c38 : h36[m]? = some (.inr (12, [.int 0, .ref (m + 1), .int 0, .ref (m + 2), .ref (m + 33), .int 0, .int (-1), .int (-1), .ref (m + 64), .ref (m + 74), .ref (m + 84), .ref (m + 94), .int 5, .int 0, .ref (m + 99), .ref (m + 100), .ref (m + 101), .ref (m + 102), .ref (m + 103), .ref (m + 104), .int 0, .ref (m + 105), .int 0, .int 0, .int 0, .ref (m + 106), .ref (m + 107), .int 0, .int 0])) := ab_self e37 c3
  have c39 : h36[m+1]? = some (.inl (.byte, 6000, .inl (fun _ => 0))) := ab_other e37 (by omega) c4
  have c40 : h36[m+99]? = some (.inl (.int, 256, .inl (fun _ => 0))) := ab_other e37 (by omega) c5
  have c41 : h36[m+100]? = some (.inl (.boolean, 256, .inl (fun _ => 0))) := ab_other e37 (by omega) c6
  have c42 : h36[m+101]? = some (.inl (.int, 64, .inl (fun _ => 0))) := ab_other e37 (by omega) c7
  have c43 : h36[m+102]? = some (.inl (.int, 4, .inl (fun _ => 0))) := ab_other e37 (by omega) c8
  have c44 : h36[m+103]? = some (.inl (.int, 4, .inl (fun _ => 0))) := ab_other e37 (by omega) c9
  have c45 : h36[m+104]? = some (.inl (.int, 256, .inl (fun _ => 0))) := ab_other e37 (by omega) c10
  have c46 : h36[m+105]? = some (.inl (.byte, 58000, .inl (fun _ => 0))) := ab_other e37 (by omega) c11
  have c47 : h36[m+106]? = some (.inl (.boolean, 8, .inl (a0_M w 25))) := ab_other e37 (by omega) c12
  have c48 : h36[m+107]? = some (.inl (.boolean, 8, .inl (fun _ => 0))) := ab_other e37 (by omega) c13
  have c49 : h36[m+74]? = some (.inr (13, [.int 0, .int 0, .int 0, .int 0, .ref (m + 74 + 1), .ref (m + 74 + 2), .ref (m + 74 + 3), .ref (m + 74 + 4), .int 0, .ref (m + 74 + 5), .ref (m + 74 + 6), .ref (m + 74 + 7), .ref (m + 74 + 8), .int (-1), .int 0, .int 0, .int 0, .ref (m + 74 + 9)])) := ab_other e37 (by omega) c14
  have c50 : h36[m+74+1]? = some (.inl (.int, 256, .inl (fun _ => 0))) := ab_other e37 (by omega) c15
  have c51 : h36[m+74+2]? = some (.inl (.boolean, 256, .inl (fun _ => 0))) := ab_other e37 (by omega) c16
  have c52 : h36[m+74+3]? = some (.inl (.int, 256, .inl (fun _ => 0))) := ab_other e37 (by omega) c17
  have c53 : h36[m+74+4]? = some (.inl (.int, 12288, .inl (fun _ => 0))) := ab_other e37 (by omega) c18
  have c54 : h36[m+74+5]? = some (.inl (.int, 256, .inl (fun _ => 0))) := ab_other e37 (by omega) c19
  have c55 : h36[m+74+6]? = some (.inl (.int, 256, .inl (fun _ => 0))) := ab_other e37 (by omega) c20
  have c56 : h36[m+74+7]? = some (.inl (.int, 256, .inl (fun _ => 0))) := ab_other e37 (by omega) c21
  have c57 : h36[m+74+8]? = some (.inl (.int, 1024, .inl (fun _ => 0))) := ab_other e37 (by omega) c22
  have c58 : h36[m+74+9]? = some (.inl (.int, 32, .inl (fun _ => 0))) := ab_other e37 (by omega) c23
  have fr59 : ab_fr (fun _ => True) h h36 := ab_fr_set fr24 e37 (by trivial)
  clear c3 c4 c5 c6 c7 c8 c9 c10 c11 c12 c13 c14 c15 c16 c17 c18 c19 c20 c21 c22 c23 fr24 e37
  try clear h1
  refine ab_aload_n d_M_seat_52 rfl rfl rfl ?_
  refine ab_get (f := 9) d_M_seat_53 c38 rfl (by decide) (k10 2 rfl rfl) rfl ?_
  refine ab_getN (f := 0) d_M_seat_56 c49 rfl (by decide) (k9 89 rfl rfl) rfl ?_
  refine ab_iconst (v := 1) d_M_seat_59 (by decide) ?_
  refine ab_iadd d_M_seat_60 ?_
  refine ab_topi (fun x60 ex60 => ?_)
  obtain rfl : x60 = 1 := ex60.trans (by decide)
  clear ex60
  refine ab_istore_n (lv' := [some (.ref m), some (.int 2), some (.int 1), some (.int 1)]) d_M_seat_61 rfl (by decide) rfl ?_
  refine ab_iload_n d_M_seat_62 rfl rfl ?_
  refine ab_if_ne (tgt := 98) d_M_seat_63 (by decide) (fun q61 => ?_) (fun q61 => by exact absurd q61 (by decide))
  refine ab_iconst (v := 1) d_M_seat_98 (by decide) ?_
  exact ab_zret d_M_seat_99 rfl rfl (Nat.le_refl _) (Nat.le_refl _) (by unfold sq_M_seat_21; exact ⟨rfl, trivial⟩)
def sq_M_input_3 (t : Int32) (v : Int32) : Int32 := if t < 1 then ((-2)) else if 16 < t then ((-2)) else ((-3))
set_option maxRecDepth 20000 in
set_option maxHeartbeats 2000000 in
theorem f_M_input_3 {h : List ab_E}    {m : Nat} {w t v : Int32}    (h0 : at_M0 h m w) : ab_M y_M_input { frames := 1, cells := 0, slots := 0, locals := 40 } [.ref m, .int 3, .int t, .int v] h (ab_A (some (.int (sq_M_input_3 t v))) (fun h1 => True)) := by
  obtain ⟨hM, hT, hO, hS, hN, hD, hR⟩ := h0
  have hM0 := hM; obtain ⟨gmo, gm1, gm14, gm15, gm16, gm17, gm18, gm19, gm21, gm25, gm26⟩ := hM
  replace gmo : h[m]? = some (.inr (12, [.int 0, .ref (m + 1), .int 0, .ref (m + 2), .ref (m + 33), .int 0, .int (-1), .int (-1), .ref (m + 64), .ref (m + 74), .ref (m + 84), .ref (m + 94), .int 1, .int 0, .ref (m + 99), .ref (m + 100), .ref (m + 101), .ref (m + 102), .ref (m + 103), .ref (m + 104), .int 0, .ref (m + 105), .int 0, .int 0, .int 0, .ref (m + 106), .ref (m + 107), .int 0, .int 0])) := gmo
  replace gm1 : h[m + 1]? = some (.inl (.byte, 6000, .inl (fun _ => 0))) := (by rw [a0_M_0 w (by decide)] at gm1; exact gm1)
  replace gm14 : h[m + 99]? = some (.inl (.int, 256, .inl (fun _ => 0))) := (by rw [a0_M_0 w (by decide)] at gm14; exact gm14)
  replace gm15 : h[m + 100]? = some (.inl (.boolean, 256, .inl (fun _ => 0))) := (by rw [a0_M_0 w (by decide)] at gm15; exact gm15)
  replace gm16 : h[m + 101]? = some (.inl (.int, 64, .inl (fun _ => 0))) := (by rw [a0_M_0 w (by decide)] at gm16; exact gm16)
  replace gm17 : h[m + 102]? = some (.inl (.int, 4, .inl (fun _ => 0))) := (by rw [a0_M_0 w (by decide)] at gm17; exact gm17)
  replace gm18 : h[m + 103]? = some (.inl (.int, 4, .inl (fun _ => 0))) := (by rw [a0_M_0 w (by decide)] at gm18; exact gm18)
  replace gm19 : h[m + 104]? = some (.inl (.int, 256, .inl (fun _ => 0))) := (by rw [a0_M_0 w (by decide)] at gm19; exact gm19)
  replace gm21 : h[m + 105]? = some (.inl (.byte, 58000, .inl (fun _ => 0))) := (by rw [a0_M_0 w (by decide)] at gm21; exact gm21)
  replace gm25 : h[m + 106]? = some (.inl (.boolean, 8, .inl (a0_M w 25))) := gm25
  replace gm26 : h[m + 107]? = some (.inl (.boolean, 8, .inl (fun _ => 0))) := (by rw [a0_M_0 w (by decide)] at gm26; exact gm26)
  have hS0 := hS; obtain ⟨gso, gs4, gs5, gs6, gs7, gs9, gs10, gs11, gs12, gs17⟩ := hS
  replace gso : h[m + 64]? = some (.inr (13, [.int 0, .int 0, .int 0, .int 0, .ref (m + 64 + 1), .ref (m + 64 + 2), .ref (m + 64 + 3), .ref (m + 64 + 4), .int 0, .ref (m + 64 + 5), .ref (m + 64 + 6), .ref (m + 64 + 7), .ref (m + 64 + 8), .int (-1), .int 0, .int 0, .int 0, .ref (m + 64 + 9)])) := gso
  replace gs4 : h[m + 64 + 1]? = some (.inl (.int, 256, .inl (fun _ => 0))) := gs4
  replace gs5 : h[m + 64 + 2]? = some (.inl (.boolean, 256, .inl (fun _ => 0))) := gs5
  replace gs6 : h[m + 64 + 3]? = some (.inl (.int, 256, .inl (fun _ => 0))) := gs6
  replace gs7 : h[m + 64 + 4]? = some (.inl (.int, 12288, .inl (fun _ => 0))) := gs7
  replace gs9 : h[m + 64 + 5]? = some (.inl (.int, 256, .inl (fun _ => 0))) := gs9
  replace gs10 : h[m + 64 + 6]? = some (.inl (.int, 256, .inl (fun _ => 0))) := gs10
  replace gs11 : h[m + 64 + 7]? = some (.inl (.int, 256, .inl (fun _ => 0))) := gs11
  replace gs12 : h[m + 64 + 8]? = some (.inl (.int, 1024, .inl (fun _ => 0))) := gs12
  replace gs17 : h[m + 64 + 9]? = some (.inl (.int, 32, .inl (fun _ => 0))) := gs17
  have hN0 := hN; obtain ⟨gno, gn4, gn5, gn6, gn7, gn9, gn10, gn11, gn12, gn17⟩ := hN
  replace gno : h[m + 74]? = some (.inr (13, [.int 0, .int 0, .int 0, .int 0, .ref (m + 74 + 1), .ref (m + 74 + 2), .ref (m + 74 + 3), .ref (m + 74 + 4), .int 0, .ref (m + 74 + 5), .ref (m + 74 + 6), .ref (m + 74 + 7), .ref (m + 74 + 8), .int (-1), .int 0, .int 0, .int 0, .ref (m + 74 + 9)])) := gno
  replace gn4 : h[m + 74 + 1]? = some (.inl (.int, 256, .inl (fun _ => 0))) := gn4
  replace gn5 : h[m + 74 + 2]? = some (.inl (.boolean, 256, .inl (fun _ => 0))) := gn5
  replace gn6 : h[m + 74 + 3]? = some (.inl (.int, 256, .inl (fun _ => 0))) := gn6
  replace gn7 : h[m + 74 + 4]? = some (.inl (.int, 12288, .inl (fun _ => 0))) := gn7
  replace gn9 : h[m + 74 + 5]? = some (.inl (.int, 256, .inl (fun _ => 0))) := gn9
  replace gn10 : h[m + 74 + 6]? = some (.inl (.int, 256, .inl (fun _ => 0))) := gn10
  replace gn11 : h[m + 74 + 7]? = some (.inl (.int, 256, .inl (fun _ => 0))) := gn11
  replace gn12 : h[m + 74 + 8]? = some (.inl (.int, 1024, .inl (fun _ => 0))) := gn12
  replace gn17 : h[m + 74 + 9]? = some (.inl (.int, 32, .inl (fun _ => 0))) := gn17
  refine ab_of2 (lv := [some (.ref m), some (.int 3), some (.int t), some (.int v), none, none]) 2 rfl rfl (Nat.le_of_ble_eq_true rfl) ?_
  refine ab_aload_n d_M_input_0 rfl rfl rfl ?_
  refine ab_iconst (v := 0) d_M_input_1 (by decide) ?_
  refine ab_put (f := 0) d_M_input_2 gmo rfl (by decide) (k9 233 rfl rfl) rfl rfl (fun _ => rfl) (fun _ => rfl) (Nat.le_of_ble_eq_true rfl) ?_
  show ab_V _ _ _ _ _ _ _ 5 [some (.ref m), some (.int 3), some (.int t), some (.int v), none, none] [] (h.set m (.inr (12, [.int 0, .ref (m + 1), .int 0, .ref (m + 2), .ref (m + 33), .int 0, .int (-1), .int (-1), .ref (m + 64), .ref (m + 74), .ref (m + 84), .ref (m + 94), .int 1, .int 0, .ref (m + 99), .ref (m + 100), .ref (m + 101), .ref (m + 102), .ref (m + 103), .ref (m + 104), .int 0, .ref (m + 105), .int 0, .int 0, .int 0, .ref (m + 106), .ref (m + 107), .int 0, .int 0])))
  refine ab_gen (fun h1 e2 => ?_)
  have c3 : h1[m]? = some (.inr (12, [.int 0, .ref (m + 1), .int 0, .ref (m + 2), .ref (m + 33), .int 0, .int (-1), .int (-1), .ref (m + 64), .ref (m + 74), .ref (m + 84), .ref (m + 94), .int 1, .int 0, .ref (m + 99), .ref (m + 100), .ref (m + 101), .ref (m + 102), .ref (m + 103), .ref (m + 104), .int 0, .ref (m + 105), .int 0, .int 0, .int 0, .ref (m + 106), .ref (m + 107), .int 0, .int 0])) := ab_self e2 gmo
  have c4 : h1[m+1]? = some (.inl (.byte, 6000, .inl (fun _ => 0))) := ab_other e2 (by omega) gm1
  have c5 : h1[m+99]? = some (.inl (.int, 256, .inl (fun _ => 0))) := ab_other e2 (by omega) gm14
  have c6 : h1[m+100]? = some (.inl (.boolean, 256, .inl (fun _ => 0))) := ab_other e2 (by omega) gm15
  have c7 : h1[m+101]? = some (.inl (.int, 64, .inl (fun _ => 0))) := ab_other e2 (by omega) gm16
  have c8 : h1[m+102]? = some (.inl (.int, 4, .inl (fun _ => 0))) := ab_other e2 (by omega) gm17
  have c9 : h1[m+103]? = some (.inl (.int, 4, .inl (fun _ => 0))) := ab_other e2 (by omega) gm18
  have c10 : h1[m+104]? = some (.inl (.int, 256, .inl (fun _ => 0))) := ab_other e2 (by omega) gm19
  have c11 : h1[m+105]? = some (.inl (.byte, 58000, .inl (fun _ => 0))) := ab_other e2 (by omega) gm21
  have c12 : h1[m+106]? = some (.inl (.boolean, 8, .inl (a0_M w 25))) := ab_other e2 (by omega) gm25
  have c13 : h1[m+107]? = some (.inl (.boolean, 8, .inl (fun _ => 0))) := ab_other e2 (by omega) gm26
  have c14 : h1[m+64]? = some (.inr (13, [.int 0, .int 0, .int 0, .int 0, .ref (m + 64 + 1), .ref (m + 64 + 2), .ref (m + 64 + 3), .ref (m + 64 + 4), .int 0, .ref (m + 64 + 5), .ref (m + 64 + 6), .ref (m + 64 + 7), .ref (m + 64 + 8), .int (-1), .int 0, .int 0, .int 0, .ref (m + 64 + 9)])) := ab_other e2 (by omega) gso
  have c15 : h1[m+64+1]? = some (.inl (.int, 256, .inl (fun _ => 0))) := ab_other e2 (by omega) gs4
  have c16 : h1[m+64+2]? = some (.inl (.boolean, 256, .inl (fun _ => 0))) := ab_other e2 (by omega) gs5
  have c17 : h1[m+64+3]? = some (.inl (.int, 256, .inl (fun _ => 0))) := ab_other e2 (by omega) gs6
  have c18 : h1[m+64+4]? = some (.inl (.int, 12288, .inl (fun _ => 0))) := ab_other e2 (by omega) gs7
  have c19 : h1[m+64+5]? = some (.inl (.int, 256, .inl (fun _ => 0))) := ab_other e2 (by omega) gs9
  have c20 : h1[m+64+6]? = some (.inl (.int, 256, .inl (fun _ => 0))) := ab_other e2 (by omega) gs10
  have c21 : h1[m+64+7]? = some (.inl (.int, 256, .inl (fun _ => 0))) := ab_other e2 (by omega) gs11
  have c22 : h1[m+64+8]? = some (.inl (.int, 1024, .inl (fun _ => 0))) := ab_other e2 (by omega) gs12
  have c23 : h1[m+64+9]? = some (.inl (.int, 32, .inl (fun _ => 0))) := ab_other e2 (by omega) gs17
  have c24 : h1[m+74]? = some (.inr (13, [.int 0, .int 0, .int 0, .int 0, .ref (m + 74 + 1), .ref (m + 74 + 2), .ref (m + 74 + 3), .ref (m + 74 + 4), .int 0, .ref (m + 74 + 5), .ref (m + 74 + 6), .ref (m + 74 + 7), .ref (m + 74 + 8), .int (-1), .int 0, .int 0, .int 0, .ref (m + 74 + 9)])) := ab_other e2 (by omega) gno
  have c25 : h1[m+74+1]? = some (.inl (.int, 256, .inl (fun _ => 0))) := ab_other e2 (by omega) gn4
  have c26 : h1[m+74+2]? = some (.inl (.boolean, 256, .inl (fun _ => 0))) := ab_other e2 (by omega) gn5
  have c27 : h1[m+74+3]? = some (.inl (.int, 256, .inl (fun _ => 0))) := ab_other e2 (by omega) gn6
  have c28 : h1[m+74+4]? = some (.inl (.int, 12288, .inl (fun _ => 0))) := ab_other e2 (by omega) gn7
  have c29 : h1[m+74+5]? = some (.inl (.int, 256, .inl (fun _ => 0))) := ab_other e2 (by omega) gn9
  have c30 : h1[m+74+6]? = some (.inl (.int, 256, .inl (fun _ => 0))) := ab_other e2 (by omega) gn10
  have c31 : h1[m+74+7]? = some (.inl (.int, 256, .inl (fun _ => 0))) := ab_other e2 (by omega) gn11
  have c32 : h1[m+74+8]? = some (.inl (.int, 1024, .inl (fun _ => 0))) := ab_other e2 (by omega) gn12
  have c33 : h1[m+74+9]? = some (.inl (.int, 32, .inl (fun _ => 0))) := ab_other e2 (by omega) gn17
  have fr34 : ab_fr (fun _ => True) h h1 := ab_fr_set (ab_fr_rf _ _) e2 (by trivial)
  clear e2
  refine ab_iload_n d_M_input_5 rfl rfl ?_
  refine ab_i2l d_M_input_6 ?_
  refine ab_topl (fun x35 ex35 => ?_)
  obtain rfl : x35 = 3 := ex35.trans (by decide)
  clear ex35
  refine ab_lconst (v := 0) d_M_input_7 (by decide) ?_
  refine ab_ldc2 d_M_input_8 (k12 168 rfl rfl) ?_
  refine ab_callS_a (As := [.long 3, .long 0, .long 3]) (rest := []) d_M_input_11 (c_M_in) (ab_mkC s_M_in (Nat.le_of_ble_eq_true rfl) (Nat.le_of_ble_eq_true rfl) (by decide) (by decide)) (k10 93 rfl rfl) t_M_in rfl (Nat.le_of_ble_eq_true rfl) (fun h37 q36 => ?_)
  subst q36
  refine ab_topi (fun x38 ex38 => ?_)
  obtain rfl : x38 = 1 := ex38.trans (by decide)
  clear ex38
  refine ab_if_ne (tgt := 19) d_M_input_14 (by decide) (fun q39 => ?_) (fun q39 => by exact absurd q39 (by decide))
  refine ab_iload_n d_M_input_19 rfl rfl ?_
  refine ab_i2l d_M_input_20 ?_
  refine ab_aload_n d_M_input_21 rfl rfl rfl ?_
  refine ab_get (f := 8) d_M_input_22 c3 rfl (by decide) (k10 1 rfl rfl) rfl ?_
  refine ab_getN (f := 0) d_M_input_25 c14 rfl (by decide) (k9 89 rfl rfl) rfl ?_
  refine ab_i2l d_M_input_28 ?_
  refine ab_topl (fun x40 ex40 => ?_)
  obtain rfl : x40 = 0 := ex40.trans (by decide)
  clear ex40
  refine ab_lconst (v := 1) d_M_input_29 (by decide) ?_
  refine ab_ladd d_M_input_30 ?_
  refine ab_topl (fun x41 ex41 => ?_)
  obtain rfl : x41 = 1 := ex41.trans (by decide)
  clear ex41
  refine ab_aload_n d_M_input_31 rfl rfl rfl ?_
  refine ab_get (f := 9) d_M_input_32 c3 rfl (by decide) (k10 2 rfl rfl) rfl ?_
  refine ab_getN (f := 0) d_M_input_35 c24 rfl (by decide) (k9 89 rfl rfl) rfl ?_
  refine ab_i2l d_M_input_38 ?_
  refine ab_topl (fun x42 ex42 => ?_)
  obtain rfl : x42 = 0 := ex42.trans (by decide)
  clear ex42
  refine ab_ldc2 d_M_input_39 (k12 169 rfl rfl) ?_
  refine ab_ladd d_M_input_42 ?_
  refine ab_topl (fun x43 ex43 => ?_)
  obtain rfl : x43 = 16 := ex43.trans (by decide)
  clear ex43
  refine ab_callS_a (As := [.long ((t : Int32).toInt64), .long 1, .long 16]) (rest := []) d_M_input_43 (c_M_in) (ab_mkC s_M_in (Nat.le_of_ble_eq_true rfl) (Nat.le_of_ble_eq_true rfl) (by decide) (by decide)) (k10 93 rfl rfl) t_M_in rfl (Nat.le_of_ble_eq_true rfl) (fun h45 q44 => ?_)
  subst q44
  by_cases t46 : t < 1
  · refine ab_topi (fun x47 ex47 => ?_)
    obtain rfl : x47 = 0 := ex47.trans (in_1 (lo := 1) (hi := 16) (by decide) (by decide) t46)
    clear ex47
    refine ab_if_ne (tgt := 52) d_M_input_46 (by decide) (fun q48 => by exact absurd q48 (by decide)) (fun q48 => ?_)
    refine ab_bipush (v := (-2)) d_M_input_49 (by decide) ?_
    exact ab_iret d_M_input_51 rfl (Nat.le_refl _) (Nat.le_refl _) (by unfold sq_M_input_3; rw [if_pos t46]; exact ⟨rfl, trivial⟩)
  by_cases t49 : 16 < t
  · refine ab_topi (fun x50 ex50 => ?_)
    obtain rfl : x50 = 0 := ex50.trans (in_2 (lo := 1) (hi := 16) (by decide) (by decide) t49)
    clear ex50
    refine ab_if_ne (tgt := 52) d_M_input_46 (by decide) (fun q51 => by exact absurd q51 (by decide)) (fun q51 => ?_)
    refine ab_bipush (v := (-2)) d_M_input_49 (by decide) ?_
    exact ab_iret d_M_input_51 rfl (Nat.le_refl _) (Nat.le_refl _) (by unfold sq_M_input_3; rw [if_neg t46]; rw [if_pos t49]; exact ⟨rfl, trivial⟩)
  refine ab_topi (fun x52 ex52 => ?_)
  obtain rfl : x52 = 1 := ex52.trans (in_3 (lo := 1) (hi := 16) (by decide) (by decide) t46 t49)
  clear ex52
  refine ab_if_ne (tgt := 52) d_M_input_46 (by decide) (fun q53 => ?_) (fun q53 => by exact absurd q53 (by decide))
  refine ab_iload_n d_M_input_52 rfl rfl ?_
  refine ab_aload_n d_M_input_53 rfl rfl rfl ?_
  refine ab_get (f := 9) d_M_input_54 c3 rfl (by decide) (k10 2 rfl rfl) rfl ?_
  refine ab_getN (f := 0) d_M_input_57 c24 rfl (by decide) (k9 89 rfl rfl) rfl ?_
  refine ab_icmp_le (tgt := 70) d_M_input_60 (by decide) (fun q54 => ?_) (fun q54 => ?_)
  · exact absurd q54 (pos1 t46)
  · refine ab_aload_n d_M_input_63 rfl rfl rfl ?_
    refine ab_get (f := 12) d_M_input_64 c3 rfl (by decide) (k10 5 rfl rfl) rfl ?_
    refine ab_goto (tgt := 79) d_M_input_67 (by decide) ?_
    refine ab_istore (lv' := [some (.ref m), some (.int 3), some (.int t), some (.int v), some (.int 1), none]) d_M_input_79 (by decide) rfl ?_
    refine ab_iload d_M_input_81 rfl ?_
    refine ab_iload_n d_M_input_83 rfl rfl ?_
    refine ab_ishr d_M_input_84 ?_
    refine ab_topi (fun x55 ex55 => ?_)
    obtain rfl : x55 = 0 := ex55.trans (by decide)
    clear ex55
    refine ab_iconst (v := 1) d_M_input_85 (by decide) ?_
    refine ab_iand d_M_input_86 ?_
    refine ab_topi (fun x56 ex56 => ?_)
    obtain rfl : x56 = 0 := ex56.trans (by decide)
    clear ex56
    refine ab_if_ne (tgt := 93) d_M_input_87 (by decide) (fun q57 => by exact absurd q57 (by decide)) (fun q57 => ?_)
    refine ab_bipush (v := (-3)) d_M_input_90 (by decide) ?_
    exact ab_iret d_M_input_92 rfl (Nat.le_refl _) (Nat.le_refl _) (by unfold sq_M_input_3; rw [if_neg t46]; rw [if_neg t49]; exact ⟨rfl, trivial⟩)
def sq_M_seat_30  : Int32 := (0)
set_option maxRecDepth 20000 in
set_option maxHeartbeats 2000000 in
theorem f_M_seat_30 {h : List ab_E}   {m : Nat} {w : Int32}   (h0 : at_M0 h m w) : ab_M y_M_seat { frames := 1, cells := 0, slots := 0, locals := 40 } [.ref m, .int 3, .int 0] h (ab_A (some (.int (sq_M_seat_30 ))) (fun h1 => True)) := by
  obtain ⟨hM, hT, hO, hS, hN, hD, hR⟩ := h0
  have hM0 := hM; obtain ⟨gmo, gm1, gm14, gm15, gm16, gm17, gm18, gm19, gm21, gm25, gm26⟩ := hM
  replace gmo : h[m]? = some (.inr (12, [.int 0, .ref (m + 1), .int 0, .ref (m + 2), .ref (m + 33), .int 0, .int (-1), .int (-1), .ref (m + 64), .ref (m + 74), .ref (m + 84), .ref (m + 94), .int 1, .int 0, .ref (m + 99), .ref (m + 100), .ref (m + 101), .ref (m + 102), .ref (m + 103), .ref (m + 104), .int 0, .ref (m + 105), .int 0, .int 0, .int 0, .ref (m + 106), .ref (m + 107), .int 0, .int 0])) := gmo
  replace gm1 : h[m + 1]? = some (.inl (.byte, 6000, .inl (fun _ => 0))) := (by rw [a0_M_0 w (by decide)] at gm1; exact gm1)
  replace gm14 : h[m + 99]? = some (.inl (.int, 256, .inl (fun _ => 0))) := (by rw [a0_M_0 w (by decide)] at gm14; exact gm14)
  replace gm15 : h[m + 100]? = some (.inl (.boolean, 256, .inl (fun _ => 0))) := (by rw [a0_M_0 w (by decide)] at gm15; exact gm15)
  replace gm16 : h[m + 101]? = some (.inl (.int, 64, .inl (fun _ => 0))) := (by rw [a0_M_0 w (by decide)] at gm16; exact gm16)
  replace gm17 : h[m + 102]? = some (.inl (.int, 4, .inl (fun _ => 0))) := (by rw [a0_M_0 w (by decide)] at gm17; exact gm17)
  replace gm18 : h[m + 103]? = some (.inl (.int, 4, .inl (fun _ => 0))) := (by rw [a0_M_0 w (by decide)] at gm18; exact gm18)
  replace gm19 : h[m + 104]? = some (.inl (.int, 256, .inl (fun _ => 0))) := (by rw [a0_M_0 w (by decide)] at gm19; exact gm19)
  replace gm21 : h[m + 105]? = some (.inl (.byte, 58000, .inl (fun _ => 0))) := (by rw [a0_M_0 w (by decide)] at gm21; exact gm21)
  replace gm25 : h[m + 106]? = some (.inl (.boolean, 8, .inl (a0_M w 25))) := gm25
  replace gm26 : h[m + 107]? = some (.inl (.boolean, 8, .inl (fun _ => 0))) := (by rw [a0_M_0 w (by decide)] at gm26; exact gm26)
  have hN0 := hN; obtain ⟨gno, gn4, gn5, gn6, gn7, gn9, gn10, gn11, gn12, gn17⟩ := hN
  replace gno : h[m + 74]? = some (.inr (13, [.int 0, .int 0, .int 0, .int 0, .ref (m + 74 + 1), .ref (m + 74 + 2), .ref (m + 74 + 3), .ref (m + 74 + 4), .int 0, .ref (m + 74 + 5), .ref (m + 74 + 6), .ref (m + 74 + 7), .ref (m + 74 + 8), .int (-1), .int 0, .int 0, .int 0, .ref (m + 74 + 9)])) := gno
  replace gn4 : h[m + 74 + 1]? = some (.inl (.int, 256, .inl (fun _ => 0))) := gn4
  replace gn5 : h[m + 74 + 2]? = some (.inl (.boolean, 256, .inl (fun _ => 0))) := gn5
  replace gn6 : h[m + 74 + 3]? = some (.inl (.int, 256, .inl (fun _ => 0))) := gn6
  replace gn7 : h[m + 74 + 4]? = some (.inl (.int, 12288, .inl (fun _ => 0))) := gn7
  replace gn9 : h[m + 74 + 5]? = some (.inl (.int, 256, .inl (fun _ => 0))) := gn9
  replace gn10 : h[m + 74 + 6]? = some (.inl (.int, 256, .inl (fun _ => 0))) := gn10
  replace gn11 : h[m + 74 + 7]? = some (.inl (.int, 256, .inl (fun _ => 0))) := gn11
  replace gn12 : h[m + 74 + 8]? = some (.inl (.int, 1024, .inl (fun _ => 0))) := gn12
  replace gn17 : h[m + 74 + 9]? = some (.inl (.int, 32, .inl (fun _ => 0))) := gn17
  refine ab_of2 (lv := [some (.ref m), some (.int 3), some (.int 0), none]) 1 rfl rfl (Nat.le_of_ble_eq_true rfl) ?_
  refine ab_aload_n d_M_seat_0 rfl rfl rfl ?_
  refine ab_iconst (v := 0) d_M_seat_1 (by decide) ?_
  refine ab_put (f := 0) d_M_seat_2 gmo rfl (by decide) (k9 233 rfl rfl) rfl rfl (fun _ => rfl) (fun _ => rfl) (Nat.le_of_ble_eq_true rfl) ?_
  show ab_V _ _ _ _ _ _ _ 5 [some (.ref m), some (.int 3), some (.int 0), none] [] (h.set m (.inr (12, [.int 0, .ref (m + 1), .int 0, .ref (m + 2), .ref (m + 33), .int 0, .int (-1), .int (-1), .ref (m + 64), .ref (m + 74), .ref (m + 84), .ref (m + 94), .int 1, .int 0, .ref (m + 99), .ref (m + 100), .ref (m + 101), .ref (m + 102), .ref (m + 103), .ref (m + 104), .int 0, .ref (m + 105), .int 0, .int 0, .int 0, .ref (m + 106), .ref (m + 107), .int 0, .int 0])))
  refine ab_gen (fun h1 e2 => ?_)
  have c3 : h1[m]? = some (.inr (12, [.int 0, .ref (m + 1), .int 0, .ref (m + 2), .ref (m + 33), .int 0, .int (-1), .int (-1), .ref (m + 64), .ref (m + 74), .ref (m + 84), .ref (m + 94), .int 1, .int 0, .ref (m + 99), .ref (m + 100), .ref (m + 101), .ref (m + 102), .ref (m + 103), .ref (m + 104), .int 0, .ref (m + 105), .int 0, .int 0, .int 0, .ref (m + 106), .ref (m + 107), .int 0, .int 0])) := ab_self e2 gmo
  have c4 : h1[m+1]? = some (.inl (.byte, 6000, .inl (fun _ => 0))) := ab_other e2 (by omega) gm1
  have c5 : h1[m+99]? = some (.inl (.int, 256, .inl (fun _ => 0))) := ab_other e2 (by omega) gm14
  have c6 : h1[m+100]? = some (.inl (.boolean, 256, .inl (fun _ => 0))) := ab_other e2 (by omega) gm15
  have c7 : h1[m+101]? = some (.inl (.int, 64, .inl (fun _ => 0))) := ab_other e2 (by omega) gm16
  have c8 : h1[m+102]? = some (.inl (.int, 4, .inl (fun _ => 0))) := ab_other e2 (by omega) gm17
  have c9 : h1[m+103]? = some (.inl (.int, 4, .inl (fun _ => 0))) := ab_other e2 (by omega) gm18
  have c10 : h1[m+104]? = some (.inl (.int, 256, .inl (fun _ => 0))) := ab_other e2 (by omega) gm19
  have c11 : h1[m+105]? = some (.inl (.byte, 58000, .inl (fun _ => 0))) := ab_other e2 (by omega) gm21
  have c12 : h1[m+106]? = some (.inl (.boolean, 8, .inl (a0_M w 25))) := ab_other e2 (by omega) gm25
  have c13 : h1[m+107]? = some (.inl (.boolean, 8, .inl (fun _ => 0))) := ab_other e2 (by omega) gm26
  have c14 : h1[m+74]? = some (.inr (13, [.int 0, .int 0, .int 0, .int 0, .ref (m + 74 + 1), .ref (m + 74 + 2), .ref (m + 74 + 3), .ref (m + 74 + 4), .int 0, .ref (m + 74 + 5), .ref (m + 74 + 6), .ref (m + 74 + 7), .ref (m + 74 + 8), .int (-1), .int 0, .int 0, .int 0, .ref (m + 74 + 9)])) := ab_other e2 (by omega) gno
  have c15 : h1[m+74+1]? = some (.inl (.int, 256, .inl (fun _ => 0))) := ab_other e2 (by omega) gn4
  have c16 : h1[m+74+2]? = some (.inl (.boolean, 256, .inl (fun _ => 0))) := ab_other e2 (by omega) gn5
  have c17 : h1[m+74+3]? = some (.inl (.int, 256, .inl (fun _ => 0))) := ab_other e2 (by omega) gn6
  have c18 : h1[m+74+4]? = some (.inl (.int, 12288, .inl (fun _ => 0))) := ab_other e2 (by omega) gn7
  have c19 : h1[m+74+5]? = some (.inl (.int, 256, .inl (fun _ => 0))) := ab_other e2 (by omega) gn9
  have c20 : h1[m+74+6]? = some (.inl (.int, 256, .inl (fun _ => 0))) := ab_other e2 (by omega) gn10
  have c21 : h1[m+74+7]? = some (.inl (.int, 256, .inl (fun _ => 0))) := ab_other e2 (by omega) gn11
  have c22 : h1[m+74+8]? = some (.inl (.int, 1024, .inl (fun _ => 0))) := ab_other e2 (by omega) gn12
  have c23 : h1[m+74+9]? = some (.inl (.int, 32, .inl (fun _ => 0))) := ab_other e2 (by omega) gn17
  have fr24 : ab_fr (fun _ => True) h h1 := ab_fr_set (ab_fr_rf _ _) e2 (by trivial)
  clear e2
  refine ab_iload_n d_M_seat_5 rfl rfl ?_
  refine ab_i2l d_M_seat_6 ?_
  refine ab_topl (fun x25 ex25 => ?_)
  obtain rfl : x25 = 3 := ex25.trans (by decide)
  clear ex25
  refine ab_lconst (v := 0) d_M_seat_7 (by decide) ?_
  refine ab_ldc2 d_M_seat_8 (k12 168 rfl rfl) ?_
  refine ab_callS_a (As := [.long 3, .long 0, .long 3]) (rest := []) d_M_seat_11 (c_M_in) (ab_mkC s_M_in (Nat.le_of_ble_eq_true rfl) (Nat.le_of_ble_eq_true rfl) (by decide) (by decide)) (k10 93 rfl rfl) t_M_in rfl (Nat.le_of_ble_eq_true rfl) (fun h27 q26 => ?_)
  subst q26
  refine ab_topi (fun x28 ex28 => ?_)
  obtain rfl : x28 = 1 := ex28.trans (by decide)
  clear ex28
  refine ab_if_eq (tgt := 38) d_M_seat_14 (by decide) (fun q29 => by exact absurd q29 (by decide)) (fun q29 => ?_)
  refine ab_aload_n d_M_seat_17 rfl rfl rfl ?_
  refine ab_get (f := 12) d_M_seat_18 c3 rfl (by decide) (k10 5 rfl rfl) rfl ?_
  refine ab_iload_n d_M_seat_21 rfl rfl ?_
  refine ab_ishr d_M_seat_22 ?_
  refine ab_topi (fun x30 ex30 => ?_)
  obtain rfl : x30 = 0 := ex30.trans (by decide)
  clear ex30
  refine ab_iconst (v := 1) d_M_seat_23 (by decide) ?_
  refine ab_iand d_M_seat_24 ?_
  refine ab_topi (fun x31 ex31 => ?_)
  obtain rfl : x31 = 0 := ex31.trans (by decide)
  clear ex31
  refine ab_iconst (v := 1) d_M_seat_25 (by decide) ?_
  refine ab_icmp_ne (tgt := 33) d_M_seat_26 (by decide) (fun q32 => ?_) (fun q32 => by exact absurd q32 (by decide))
  refine ab_iconst (v := 0) d_M_seat_33 (by decide) ?_
  refine ab_iload_n d_M_seat_34 rfl rfl ?_
  refine ab_icmp_ne (tgt := 40) d_M_seat_35 (by decide) (fun q33 => by exact absurd q33 (by decide)) (fun q33 => ?_)
  refine ab_iconst (v := 0) d_M_seat_38 (by decide) ?_
  exact ab_zret d_M_seat_39 rfl rfl (Nat.le_refl _) (Nat.le_refl _) (by unfold sq_M_seat_30; exact ⟨rfl, trivial⟩)
def sq_M_seat_31  : Int32 := (1)
set_option maxRecDepth 20000 in
set_option maxHeartbeats 2000000 in
theorem f_M_seat_31 {h : List ab_E}   {m : Nat} {w : Int32}   (h0 : at_M0 h m w) : ab_M y_M_seat { frames := 1, cells := 0, slots := 0, locals := 40 } [.ref m, .int 3, .int 1] h (ab_A (some (.int (sq_M_seat_31 ))) (fun h1 => True)) := by
  obtain ⟨hM, hT, hO, hS, hN, hD, hR⟩ := h0
  have hM0 := hM; obtain ⟨gmo, gm1, gm14, gm15, gm16, gm17, gm18, gm19, gm21, gm25, gm26⟩ := hM
  replace gmo : h[m]? = some (.inr (12, [.int 0, .ref (m + 1), .int 0, .ref (m + 2), .ref (m + 33), .int 0, .int (-1), .int (-1), .ref (m + 64), .ref (m + 74), .ref (m + 84), .ref (m + 94), .int 1, .int 0, .ref (m + 99), .ref (m + 100), .ref (m + 101), .ref (m + 102), .ref (m + 103), .ref (m + 104), .int 0, .ref (m + 105), .int 0, .int 0, .int 0, .ref (m + 106), .ref (m + 107), .int 0, .int 0])) := gmo
  replace gm1 : h[m + 1]? = some (.inl (.byte, 6000, .inl (fun _ => 0))) := (by rw [a0_M_0 w (by decide)] at gm1; exact gm1)
  replace gm14 : h[m + 99]? = some (.inl (.int, 256, .inl (fun _ => 0))) := (by rw [a0_M_0 w (by decide)] at gm14; exact gm14)
  replace gm15 : h[m + 100]? = some (.inl (.boolean, 256, .inl (fun _ => 0))) := (by rw [a0_M_0 w (by decide)] at gm15; exact gm15)
  replace gm16 : h[m + 101]? = some (.inl (.int, 64, .inl (fun _ => 0))) := (by rw [a0_M_0 w (by decide)] at gm16; exact gm16)
  replace gm17 : h[m + 102]? = some (.inl (.int, 4, .inl (fun _ => 0))) := (by rw [a0_M_0 w (by decide)] at gm17; exact gm17)
  replace gm18 : h[m + 103]? = some (.inl (.int, 4, .inl (fun _ => 0))) := (by rw [a0_M_0 w (by decide)] at gm18; exact gm18)
  replace gm19 : h[m + 104]? = some (.inl (.int, 256, .inl (fun _ => 0))) := (by rw [a0_M_0 w (by decide)] at gm19; exact gm19)
  replace gm21 : h[m + 105]? = some (.inl (.byte, 58000, .inl (fun _ => 0))) := (by rw [a0_M_0 w (by decide)] at gm21; exact gm21)
  replace gm25 : h[m + 106]? = some (.inl (.boolean, 8, .inl (a0_M w 25))) := gm25
  replace gm26 : h[m + 107]? = some (.inl (.boolean, 8, .inl (fun _ => 0))) := (by rw [a0_M_0 w (by decide)] at gm26; exact gm26)
  have hN0 := hN; obtain ⟨gno, gn4, gn5, gn6, gn7, gn9, gn10, gn11, gn12, gn17⟩ := hN
  replace gno : h[m + 74]? = some (.inr (13, [.int 0, .int 0, .int 0, .int 0, .ref (m + 74 + 1), .ref (m + 74 + 2), .ref (m + 74 + 3), .ref (m + 74 + 4), .int 0, .ref (m + 74 + 5), .ref (m + 74 + 6), .ref (m + 74 + 7), .ref (m + 74 + 8), .int (-1), .int 0, .int 0, .int 0, .ref (m + 74 + 9)])) := gno
  replace gn4 : h[m + 74 + 1]? = some (.inl (.int, 256, .inl (fun _ => 0))) := gn4
  replace gn5 : h[m + 74 + 2]? = some (.inl (.boolean, 256, .inl (fun _ => 0))) := gn5
  replace gn6 : h[m + 74 + 3]? = some (.inl (.int, 256, .inl (fun _ => 0))) := gn6
  replace gn7 : h[m + 74 + 4]? = some (.inl (.int, 12288, .inl (fun _ => 0))) := gn7
  replace gn9 : h[m + 74 + 5]? = some (.inl (.int, 256, .inl (fun _ => 0))) := gn9
  replace gn10 : h[m + 74 + 6]? = some (.inl (.int, 256, .inl (fun _ => 0))) := gn10
  replace gn11 : h[m + 74 + 7]? = some (.inl (.int, 256, .inl (fun _ => 0))) := gn11
  replace gn12 : h[m + 74 + 8]? = some (.inl (.int, 1024, .inl (fun _ => 0))) := gn12
  replace gn17 : h[m + 74 + 9]? = some (.inl (.int, 32, .inl (fun _ => 0))) := gn17
  refine ab_of2 (lv := [some (.ref m), some (.int 3), some (.int 1), none]) 1 rfl rfl (Nat.le_of_ble_eq_true rfl) ?_
  refine ab_aload_n d_M_seat_0 rfl rfl rfl ?_
  refine ab_iconst (v := 0) d_M_seat_1 (by decide) ?_
  refine ab_put (f := 0) d_M_seat_2 gmo rfl (by decide) (k9 233 rfl rfl) rfl rfl (fun _ => rfl) (fun _ => rfl) (Nat.le_of_ble_eq_true rfl) ?_
  show ab_V _ _ _ _ _ _ _ 5 [some (.ref m), some (.int 3), some (.int 1), none] [] (h.set m (.inr (12, [.int 0, .ref (m + 1), .int 0, .ref (m + 2), .ref (m + 33), .int 0, .int (-1), .int (-1), .ref (m + 64), .ref (m + 74), .ref (m + 84), .ref (m + 94), .int 1, .int 0, .ref (m + 99), .ref (m + 100), .ref (m + 101), .ref (m + 102), .ref (m + 103), .ref (m + 104), .int 0, .ref (m + 105), .int 0, .int 0, .int 0, .ref (m + 106), .ref (m + 107), .int 0, .int 0])))
  refine ab_gen (fun h1 e2 => ?_)
  have c3 : h1[m]? = some (.inr (12, [.int 0, .ref (m + 1), .int 0, .ref (m + 2), .ref (m + 33), .int 0, .int (-1), .int (-1), .ref (m + 64), .ref (m + 74), .ref (m + 84), .ref (m + 94), .int 1, .int 0, .ref (m + 99), .ref (m + 100), .ref (m + 101), .ref (m + 102), .ref (m + 103), .ref (m + 104), .int 0, .ref (m + 105), .int 0, .int 0, .int 0, .ref (m + 106), .ref (m + 107), .int 0, .int 0])) := ab_self e2 gmo
  have c4 : h1[m+1]? = some (.inl (.byte, 6000, .inl (fun _ => 0))) := ab_other e2 (by omega) gm1
  have c5 : h1[m+99]? = some (.inl (.int, 256, .inl (fun _ => 0))) := ab_other e2 (by omega) gm14
  have c6 : h1[m+100]? = some (.inl (.boolean, 256, .inl (fun _ => 0))) := ab_other e2 (by omega) gm15
  have c7 : h1[m+101]? = some (.inl (.int, 64, .inl (fun _ => 0))) := ab_other e2 (by omega) gm16
  have c8 : h1[m+102]? = some (.inl (.int, 4, .inl (fun _ => 0))) := ab_other e2 (by omega) gm17
  have c9 : h1[m+103]? = some (.inl (.int, 4, .inl (fun _ => 0))) := ab_other e2 (by omega) gm18
  have c10 : h1[m+104]? = some (.inl (.int, 256, .inl (fun _ => 0))) := ab_other e2 (by omega) gm19
  have c11 : h1[m+105]? = some (.inl (.byte, 58000, .inl (fun _ => 0))) := ab_other e2 (by omega) gm21
  have c12 : h1[m+106]? = some (.inl (.boolean, 8, .inl (a0_M w 25))) := ab_other e2 (by omega) gm25
  have c13 : h1[m+107]? = some (.inl (.boolean, 8, .inl (fun _ => 0))) := ab_other e2 (by omega) gm26
  have c14 : h1[m+74]? = some (.inr (13, [.int 0, .int 0, .int 0, .int 0, .ref (m + 74 + 1), .ref (m + 74 + 2), .ref (m + 74 + 3), .ref (m + 74 + 4), .int 0, .ref (m + 74 + 5), .ref (m + 74 + 6), .ref (m + 74 + 7), .ref (m + 74 + 8), .int (-1), .int 0, .int 0, .int 0, .ref (m + 74 + 9)])) := ab_other e2 (by omega) gno
  have c15 : h1[m+74+1]? = some (.inl (.int, 256, .inl (fun _ => 0))) := ab_other e2 (by omega) gn4
  have c16 : h1[m+74+2]? = some (.inl (.boolean, 256, .inl (fun _ => 0))) := ab_other e2 (by omega) gn5
  have c17 : h1[m+74+3]? = some (.inl (.int, 256, .inl (fun _ => 0))) := ab_other e2 (by omega) gn6
  have c18 : h1[m+74+4]? = some (.inl (.int, 12288, .inl (fun _ => 0))) := ab_other e2 (by omega) gn7
  have c19 : h1[m+74+5]? = some (.inl (.int, 256, .inl (fun _ => 0))) := ab_other e2 (by omega) gn9
  have c20 : h1[m+74+6]? = some (.inl (.int, 256, .inl (fun _ => 0))) := ab_other e2 (by omega) gn10
  have c21 : h1[m+74+7]? = some (.inl (.int, 256, .inl (fun _ => 0))) := ab_other e2 (by omega) gn11
  have c22 : h1[m+74+8]? = some (.inl (.int, 1024, .inl (fun _ => 0))) := ab_other e2 (by omega) gn12
  have c23 : h1[m+74+9]? = some (.inl (.int, 32, .inl (fun _ => 0))) := ab_other e2 (by omega) gn17
  have fr24 : ab_fr (fun _ => True) h h1 := ab_fr_set (ab_fr_rf _ _) e2 (by trivial)
  clear e2
  refine ab_iload_n d_M_seat_5 rfl rfl ?_
  refine ab_i2l d_M_seat_6 ?_
  refine ab_topl (fun x25 ex25 => ?_)
  obtain rfl : x25 = 3 := ex25.trans (by decide)
  clear ex25
  refine ab_lconst (v := 0) d_M_seat_7 (by decide) ?_
  refine ab_ldc2 d_M_seat_8 (k12 168 rfl rfl) ?_
  refine ab_callS_a (As := [.long 3, .long 0, .long 3]) (rest := []) d_M_seat_11 (c_M_in) (ab_mkC s_M_in (Nat.le_of_ble_eq_true rfl) (Nat.le_of_ble_eq_true rfl) (by decide) (by decide)) (k10 93 rfl rfl) t_M_in rfl (Nat.le_of_ble_eq_true rfl) (fun h27 q26 => ?_)
  subst q26
  refine ab_topi (fun x28 ex28 => ?_)
  obtain rfl : x28 = 1 := ex28.trans (by decide)
  clear ex28
  refine ab_if_eq (tgt := 38) d_M_seat_14 (by decide) (fun q29 => by exact absurd q29 (by decide)) (fun q29 => ?_)
  refine ab_aload_n d_M_seat_17 rfl rfl rfl ?_
  refine ab_get (f := 12) d_M_seat_18 c3 rfl (by decide) (k10 5 rfl rfl) rfl ?_
  refine ab_iload_n d_M_seat_21 rfl rfl ?_
  refine ab_ishr d_M_seat_22 ?_
  refine ab_topi (fun x30 ex30 => ?_)
  obtain rfl : x30 = 0 := ex30.trans (by decide)
  clear ex30
  refine ab_iconst (v := 1) d_M_seat_23 (by decide) ?_
  refine ab_iand d_M_seat_24 ?_
  refine ab_topi (fun x31 ex31 => ?_)
  obtain rfl : x31 = 0 := ex31.trans (by decide)
  clear ex31
  refine ab_iconst (v := 1) d_M_seat_25 (by decide) ?_
  refine ab_icmp_ne (tgt := 33) d_M_seat_26 (by decide) (fun q32 => ?_) (fun q32 => by exact absurd q32 (by decide))
  refine ab_iconst (v := 0) d_M_seat_33 (by decide) ?_
  refine ab_iload_n d_M_seat_34 rfl rfl ?_
  refine ab_icmp_ne (tgt := 40) d_M_seat_35 (by decide) (fun q33 => ?_) (fun q33 => by exact absurd q33 (by decide))
  refine ab_aload_n d_M_seat_40 rfl rfl rfl ?_
  refine ab_dup d_M_seat_41 rfl ?_
  refine ab_get (f := 12) d_M_seat_42 c3 rfl (by decide) (k10 5 rfl rfl) rfl ?_
  refine ab_iconst (v := 1) d_M_seat_45 (by decide) ?_
  refine ab_iload_n d_M_seat_46 rfl rfl ?_
  refine ab_ishl d_M_seat_47 ?_
  refine ab_topi (fun x34 ex34 => ?_)
  obtain rfl : x34 = 8 := ex34.trans (by decide)
  clear ex34
  refine ab_ixor d_M_seat_48 ?_
  refine ab_topi (fun x35 ex35 => ?_)
  obtain rfl : x35 = 9 := ex35.trans (by decide)
  clear ex35
  refine ab_put (f := 12) d_M_seat_49 c3 rfl (by decide) (k10 5 rfl rfl) rfl rfl (fun _ => rfl) (fun _ => rfl) (Nat.le_of_ble_eq_true rfl) ?_
  show ab_V _ _ _ _ _ _ _ 52 [some (.ref m), some (.int 3), some (.int 1), none] [] (h1.set m (.inr (12, [.int 0, .ref (m + 1), .int 0, .ref (m + 2), .ref (m + 33), .int 0, .int (-1), .int (-1), .ref (m + 64), .ref (m + 74), .ref (m + 84), .ref (m + 94), .int 9, .int 0, .ref (m + 99), .ref (m + 100), .ref (m + 101), .ref (m + 102), .ref (m + 103), .ref (m + 104), .int 0, .ref (m + 105), .int 0, .int 0, .int 0, .ref (m + 106), .ref (m + 107), .int 0, .int 0])))
  refine ab_gen (fun h36 e37 => ?_)
  have c38 : h36[m]? = some (.inr (12, [.int 0, .ref (m + 1), .int 0, .ref (m + 2), .ref (m + 33), .int 0, .int (-1), .int (-1), .ref (m + 64), .ref (m + 74), .ref (m + 84), .ref (m + 94), .int 9, .int 0, .ref (m + 99), .ref (m + 100), .ref (m + 101), .ref (m + 102), .ref (m + 103), .ref (m + 104), .int 0, .ref (m + 105), .int 0, .int 0, .int 0, .ref (m + 106), .ref (m + 107), .int 0, .int 0])) := ab_self e37 c3
  have c39 : h36[m+1]? = some (.inl (.byte, 6000, .inl (fun _ => 0))) := ab_other e37 (by omega) c4
  have c40 : h36[m+99]? = some (.inl (.int, 256, .inl (fun _ => 0))) := ab_other e37 (by omega) c5
  have c41 : h36[m+100]? = some (.inl (.boolean, 256, .inl (fun _ => 0))) := ab_other e37 (by omega) c6
  have c42 : h36[m+101]? = some (.inl (.int, 64, .inl (fun _ => 0))) := ab_other e37 (by omega) c7
  have c43 : h36[m+102]? = some (.inl (.int, 4, .inl (fun _ => 0))) := ab_other e37 (by omega) c8
  have c44 : h36[m+103]? = some (.inl (.int, 4, .inl (fun _ => 0))) := ab_other e37 (by omega) c9
  have c45 : h36[m+104]? = some (.inl (.int, 256, .inl (fun _ => 0))) := ab_other e37 (by omega) c10
  have c46 : h36[m+105]? = some (.inl (.byte, 58000, .inl (fun _ => 0))) := ab_other e37 (by omega) c11
  have c47 : h36[m+106]? = some (.inl (.boolean, 8, .inl (a0_M w 25))) := ab_other e37 (by omega) c12
  have c48 : h36[m+107]? = some (.inl (.boolean, 8, .inl (fun _ => 0))) := ab_other e37 (by omega) c13
  have c49 : h36[m+74]? = some (.inr (13, [.int 0, .int 0, .int 0, .int 0, .ref (m + 74 + 1), .ref (m + 74 + 2), .ref (m + 74 + 3), .ref (m + 74 + 4), .int 0, .ref (m + 74 + 5), .ref (m + 74 + 6), .ref (m + 74 + 7), .ref (m + 74 + 8), .int (-1), .int 0, .int 0, .int 0, .ref (m + 74 + 9)])) := ab_other e37 (by omega) c14
  have c50 : h36[m+74+1]? = some (.inl (.int, 256, .inl (fun _ => 0))) := ab_other e37 (by omega) c15
  have c51 : h36[m+74+2]? = some (.inl (.boolean, 256, .inl (fun _ => 0))) := ab_other e37 (by omega) c16
  have c52 : h36[m+74+3]? = some (.inl (.int, 256, .inl (fun _ => 0))) := ab_other e37 (by omega) c17
  have c53 : h36[m+74+4]? = some (.inl (.int, 12288, .inl (fun _ => 0))) := ab_other e37 (by omega) c18
  have c54 : h36[m+74+5]? = some (.inl (.int, 256, .inl (fun _ => 0))) := ab_other e37 (by omega) c19
  have c55 : h36[m+74+6]? = some (.inl (.int, 256, .inl (fun _ => 0))) := ab_other e37 (by omega) c20
  have c56 : h36[m+74+7]? = some (.inl (.int, 256, .inl (fun _ => 0))) := ab_other e37 (by omega) c21
  have c57 : h36[m+74+8]? = some (.inl (.int, 1024, .inl (fun _ => 0))) := ab_other e37 (by omega) c22
  have c58 : h36[m+74+9]? = some (.inl (.int, 32, .inl (fun _ => 0))) := ab_other e37 (by omega) c23
  have fr59 : ab_fr (fun _ => True) h h36 := ab_fr_set fr24 e37 (by trivial)
  clear c3 c4 c5 c6 c7 c8 c9 c10 c11 c12 c13 c14 c15 c16 c17 c18 c19 c20 c21 c22 c23 fr24 e37
  try clear h1
  refine ab_aload_n d_M_seat_52 rfl rfl rfl ?_
  refine ab_get (f := 9) d_M_seat_53 c38 rfl (by decide) (k10 2 rfl rfl) rfl ?_
  refine ab_getN (f := 0) d_M_seat_56 c49 rfl (by decide) (k9 89 rfl rfl) rfl ?_
  refine ab_iconst (v := 1) d_M_seat_59 (by decide) ?_
  refine ab_iadd d_M_seat_60 ?_
  refine ab_topi (fun x60 ex60 => ?_)
  obtain rfl : x60 = 1 := ex60.trans (by decide)
  clear ex60
  refine ab_istore_n (lv' := [some (.ref m), some (.int 3), some (.int 1), some (.int 1)]) d_M_seat_61 rfl (by decide) rfl ?_
  refine ab_iload_n d_M_seat_62 rfl rfl ?_
  refine ab_if_ne (tgt := 98) d_M_seat_63 (by decide) (fun q61 => ?_) (fun q61 => by exact absurd q61 (by decide))
  refine ab_iconst (v := 1) d_M_seat_98 (by decide) ?_
  exact ab_zret d_M_seat_99 rfl rfl (Nat.le_refl _) (Nat.le_refl _) (by unfold sq_M_seat_31; exact ⟨rfl, trivial⟩)
def sq_M_input_x (p : Int32) (t : Int32) (v : Int32) : Int32 := ((-1))
set_option maxRecDepth 20000 in
set_option maxHeartbeats 2000000 in
theorem f_M_input_x {h : List ab_E}    {m : Nat} {w p t v : Int32}    (h0 : at_M0 h m w) (hp : p < 0 ∨ 3 < p) : ab_M y_M_input { frames := 1, cells := 0, slots := 0, locals := 40 } [.ref m, .int p, .int t, .int v] h (ab_A (some (.int (sq_M_input_x p t v))) (fun h1 => True)) := by
  obtain ⟨hM, hT, hO, hS, hN, hD, hR⟩ := h0
  have hM0 := hM; obtain ⟨gmo, gm1, gm14, gm15, gm16, gm17, gm18, gm19, gm21, gm25, gm26⟩ := hM
  replace gmo : h[m]? = some (.inr (12, [.int 0, .ref (m + 1), .int 0, .ref (m + 2), .ref (m + 33), .int 0, .int (-1), .int (-1), .ref (m + 64), .ref (m + 74), .ref (m + 84), .ref (m + 94), .int 1, .int 0, .ref (m + 99), .ref (m + 100), .ref (m + 101), .ref (m + 102), .ref (m + 103), .ref (m + 104), .int 0, .ref (m + 105), .int 0, .int 0, .int 0, .ref (m + 106), .ref (m + 107), .int 0, .int 0])) := gmo
  replace gm1 : h[m + 1]? = some (.inl (.byte, 6000, .inl (fun _ => 0))) := (by rw [a0_M_0 w (by decide)] at gm1; exact gm1)
  replace gm14 : h[m + 99]? = some (.inl (.int, 256, .inl (fun _ => 0))) := (by rw [a0_M_0 w (by decide)] at gm14; exact gm14)
  replace gm15 : h[m + 100]? = some (.inl (.boolean, 256, .inl (fun _ => 0))) := (by rw [a0_M_0 w (by decide)] at gm15; exact gm15)
  replace gm16 : h[m + 101]? = some (.inl (.int, 64, .inl (fun _ => 0))) := (by rw [a0_M_0 w (by decide)] at gm16; exact gm16)
  replace gm17 : h[m + 102]? = some (.inl (.int, 4, .inl (fun _ => 0))) := (by rw [a0_M_0 w (by decide)] at gm17; exact gm17)
  replace gm18 : h[m + 103]? = some (.inl (.int, 4, .inl (fun _ => 0))) := (by rw [a0_M_0 w (by decide)] at gm18; exact gm18)
  replace gm19 : h[m + 104]? = some (.inl (.int, 256, .inl (fun _ => 0))) := (by rw [a0_M_0 w (by decide)] at gm19; exact gm19)
  replace gm21 : h[m + 105]? = some (.inl (.byte, 58000, .inl (fun _ => 0))) := (by rw [a0_M_0 w (by decide)] at gm21; exact gm21)
  replace gm25 : h[m + 106]? = some (.inl (.boolean, 8, .inl (a0_M w 25))) := gm25
  replace gm26 : h[m + 107]? = some (.inl (.boolean, 8, .inl (fun _ => 0))) := (by rw [a0_M_0 w (by decide)] at gm26; exact gm26)
  have hS0 := hS; obtain ⟨gso, gs4, gs5, gs6, gs7, gs9, gs10, gs11, gs12, gs17⟩ := hS
  replace gso : h[m + 64]? = some (.inr (13, [.int 0, .int 0, .int 0, .int 0, .ref (m + 64 + 1), .ref (m + 64 + 2), .ref (m + 64 + 3), .ref (m + 64 + 4), .int 0, .ref (m + 64 + 5), .ref (m + 64 + 6), .ref (m + 64 + 7), .ref (m + 64 + 8), .int (-1), .int 0, .int 0, .int 0, .ref (m + 64 + 9)])) := gso
  replace gs4 : h[m + 64 + 1]? = some (.inl (.int, 256, .inl (fun _ => 0))) := gs4
  replace gs5 : h[m + 64 + 2]? = some (.inl (.boolean, 256, .inl (fun _ => 0))) := gs5
  replace gs6 : h[m + 64 + 3]? = some (.inl (.int, 256, .inl (fun _ => 0))) := gs6
  replace gs7 : h[m + 64 + 4]? = some (.inl (.int, 12288, .inl (fun _ => 0))) := gs7
  replace gs9 : h[m + 64 + 5]? = some (.inl (.int, 256, .inl (fun _ => 0))) := gs9
  replace gs10 : h[m + 64 + 6]? = some (.inl (.int, 256, .inl (fun _ => 0))) := gs10
  replace gs11 : h[m + 64 + 7]? = some (.inl (.int, 256, .inl (fun _ => 0))) := gs11
  replace gs12 : h[m + 64 + 8]? = some (.inl (.int, 1024, .inl (fun _ => 0))) := gs12
  replace gs17 : h[m + 64 + 9]? = some (.inl (.int, 32, .inl (fun _ => 0))) := gs17
  have hN0 := hN; obtain ⟨gno, gn4, gn5, gn6, gn7, gn9, gn10, gn11, gn12, gn17⟩ := hN
  replace gno : h[m + 74]? = some (.inr (13, [.int 0, .int 0, .int 0, .int 0, .ref (m + 74 + 1), .ref (m + 74 + 2), .ref (m + 74 + 3), .ref (m + 74 + 4), .int 0, .ref (m + 74 + 5), .ref (m + 74 + 6), .ref (m + 74 + 7), .ref (m + 74 + 8), .int (-1), .int 0, .int 0, .int 0, .ref (m + 74 + 9)])) := gno
  replace gn4 : h[m + 74 + 1]? = some (.inl (.int, 256, .inl (fun _ => 0))) := gn4
  replace gn5 : h[m + 74 + 2]? = some (.inl (.boolean, 256, .inl (fun _ => 0))) := gn5
  replace gn6 : h[m + 74 + 3]? = some (.inl (.int, 256, .inl (fun _ => 0))) := gn6
  replace gn7 : h[m + 74 + 4]? = some (.inl (.int, 12288, .inl (fun _ => 0))) := gn7
  replace gn9 : h[m + 74 + 5]? = some (.inl (.int, 256, .inl (fun _ => 0))) := gn9
  replace gn10 : h[m + 74 + 6]? = some (.inl (.int, 256, .inl (fun _ => 0))) := gn10
  replace gn11 : h[m + 74 + 7]? = some (.inl (.int, 256, .inl (fun _ => 0))) := gn11
  replace gn12 : h[m + 74 + 8]? = some (.inl (.int, 1024, .inl (fun _ => 0))) := gn12
  replace gn17 : h[m + 74 + 9]? = some (.inl (.int, 32, .inl (fun _ => 0))) := gn17
  refine ab_of2 (lv := [some (.ref m), some (.int p), some (.int t), some (.int v), none, none]) 2 rfl rfl (Nat.le_of_ble_eq_true rfl) ?_
  refine ab_aload_n d_M_input_0 rfl rfl rfl ?_
  refine ab_iconst (v := 0) d_M_input_1 (by decide) ?_
  refine ab_put (f := 0) d_M_input_2 gmo rfl (by decide) (k9 233 rfl rfl) rfl rfl (fun _ => rfl) (fun _ => rfl) (Nat.le_of_ble_eq_true rfl) ?_
  show ab_V _ _ _ _ _ _ _ 5 [some (.ref m), some (.int p), some (.int t), some (.int v), none, none] [] (h.set m (.inr (12, [.int 0, .ref (m + 1), .int 0, .ref (m + 2), .ref (m + 33), .int 0, .int (-1), .int (-1), .ref (m + 64), .ref (m + 74), .ref (m + 84), .ref (m + 94), .int 1, .int 0, .ref (m + 99), .ref (m + 100), .ref (m + 101), .ref (m + 102), .ref (m + 103), .ref (m + 104), .int 0, .ref (m + 105), .int 0, .int 0, .int 0, .ref (m + 106), .ref (m + 107), .int 0, .int 0])))
  refine ab_gen (fun h1 e2 => ?_)
  have c3 : h1[m]? = some (.inr (12, [.int 0, .ref (m + 1), .int 0, .ref (m + 2), .ref (m + 33), .int 0, .int (-1), .int (-1), .ref (m + 64), .ref (m + 74), .ref (m + 84), .ref (m + 94), .int 1, .int 0, .ref (m + 99), .ref (m + 100), .ref (m + 101), .ref (m + 102), .ref (m + 103), .ref (m + 104), .int 0, .ref (m + 105), .int 0, .int 0, .int 0, .ref (m + 106), .ref (m + 107), .int 0, .int 0])) := ab_self e2 gmo
  have c4 : h1[m+1]? = some (.inl (.byte, 6000, .inl (fun _ => 0))) := ab_other e2 (by omega) gm1
  have c5 : h1[m+99]? = some (.inl (.int, 256, .inl (fun _ => 0))) := ab_other e2 (by omega) gm14
  have c6 : h1[m+100]? = some (.inl (.boolean, 256, .inl (fun _ => 0))) := ab_other e2 (by omega) gm15
  have c7 : h1[m+101]? = some (.inl (.int, 64, .inl (fun _ => 0))) := ab_other e2 (by omega) gm16
  have c8 : h1[m+102]? = some (.inl (.int, 4, .inl (fun _ => 0))) := ab_other e2 (by omega) gm17
  have c9 : h1[m+103]? = some (.inl (.int, 4, .inl (fun _ => 0))) := ab_other e2 (by omega) gm18
  have c10 : h1[m+104]? = some (.inl (.int, 256, .inl (fun _ => 0))) := ab_other e2 (by omega) gm19
  have c11 : h1[m+105]? = some (.inl (.byte, 58000, .inl (fun _ => 0))) := ab_other e2 (by omega) gm21
  have c12 : h1[m+106]? = some (.inl (.boolean, 8, .inl (a0_M w 25))) := ab_other e2 (by omega) gm25
  have c13 : h1[m+107]? = some (.inl (.boolean, 8, .inl (fun _ => 0))) := ab_other e2 (by omega) gm26
  have c14 : h1[m+64]? = some (.inr (13, [.int 0, .int 0, .int 0, .int 0, .ref (m + 64 + 1), .ref (m + 64 + 2), .ref (m + 64 + 3), .ref (m + 64 + 4), .int 0, .ref (m + 64 + 5), .ref (m + 64 + 6), .ref (m + 64 + 7), .ref (m + 64 + 8), .int (-1), .int 0, .int 0, .int 0, .ref (m + 64 + 9)])) := ab_other e2 (by omega) gso
  have c15 : h1[m+64+1]? = some (.inl (.int, 256, .inl (fun _ => 0))) := ab_other e2 (by omega) gs4
  have c16 : h1[m+64+2]? = some (.inl (.boolean, 256, .inl (fun _ => 0))) := ab_other e2 (by omega) gs5
  have c17 : h1[m+64+3]? = some (.inl (.int, 256, .inl (fun _ => 0))) := ab_other e2 (by omega) gs6
  have c18 : h1[m+64+4]? = some (.inl (.int, 12288, .inl (fun _ => 0))) := ab_other e2 (by omega) gs7
  have c19 : h1[m+64+5]? = some (.inl (.int, 256, .inl (fun _ => 0))) := ab_other e2 (by omega) gs9
  have c20 : h1[m+64+6]? = some (.inl (.int, 256, .inl (fun _ => 0))) := ab_other e2 (by omega) gs10
  have c21 : h1[m+64+7]? = some (.inl (.int, 256, .inl (fun _ => 0))) := ab_other e2 (by omega) gs11
  have c22 : h1[m+64+8]? = some (.inl (.int, 1024, .inl (fun _ => 0))) := ab_other e2 (by omega) gs12
  have c23 : h1[m+64+9]? = some (.inl (.int, 32, .inl (fun _ => 0))) := ab_other e2 (by omega) gs17
  have c24 : h1[m+74]? = some (.inr (13, [.int 0, .int 0, .int 0, .int 0, .ref (m + 74 + 1), .ref (m + 74 + 2), .ref (m + 74 + 3), .ref (m + 74 + 4), .int 0, .ref (m + 74 + 5), .ref (m + 74 + 6), .ref (m + 74 + 7), .ref (m + 74 + 8), .int (-1), .int 0, .int 0, .int 0, .ref (m + 74 + 9)])) := ab_other e2 (by omega) gno
  have c25 : h1[m+74+1]? = some (.inl (.int, 256, .inl (fun _ => 0))) := ab_other e2 (by omega) gn4
  have c26 : h1[m+74+2]? = some (.inl (.boolean, 256, .inl (fun _ => 0))) := ab_other e2 (by omega) gn5
  have c27 : h1[m+74+3]? = some (.inl (.int, 256, .inl (fun _ => 0))) := ab_other e2 (by omega) gn6
  have c28 : h1[m+74+4]? = some (.inl (.int, 12288, .inl (fun _ => 0))) := ab_other e2 (by omega) gn7
  have c29 : h1[m+74+5]? = some (.inl (.int, 256, .inl (fun _ => 0))) := ab_other e2 (by omega) gn9
  have c30 : h1[m+74+6]? = some (.inl (.int, 256, .inl (fun _ => 0))) := ab_other e2 (by omega) gn10
  have c31 : h1[m+74+7]? = some (.inl (.int, 256, .inl (fun _ => 0))) := ab_other e2 (by omega) gn11
  have c32 : h1[m+74+8]? = some (.inl (.int, 1024, .inl (fun _ => 0))) := ab_other e2 (by omega) gn12
  have c33 : h1[m+74+9]? = some (.inl (.int, 32, .inl (fun _ => 0))) := ab_other e2 (by omega) gn17
  have fr34 : ab_fr (fun _ => True) h h1 := ab_fr_set (ab_fr_rf _ _) e2 (by trivial)
  clear e2
  refine ab_iload_n d_M_input_5 rfl rfl ?_
  refine ab_i2l d_M_input_6 ?_
  refine ab_lconst (v := 0) d_M_input_7 (by decide) ?_
  refine ab_ldc2 d_M_input_8 (k12 168 rfl rfl) ?_
  refine ab_callS_a (As := [.long ((p : Int32).toInt64), .long 0, .long 3]) (rest := []) d_M_input_11 (c_M_in) (ab_mkC s_M_in (Nat.le_of_ble_eq_true rfl) (Nat.le_of_ble_eq_true rfl) (by decide) (by decide)) (k10 93 rfl rfl) t_M_in rfl (Nat.le_of_ble_eq_true rfl) (fun h36 q35 => ?_)
  subst q35
  refine ab_topi (fun x37 ex37 => ?_)
  obtain rfl : x37 = 0 := ex37.trans (hp.elim (in_1 (lo := 0) (hi := 3) (by decide) (by decide)) (in_2 (lo := 0) (hi := 3) (by decide) (by decide)))
  clear ex37
  refine ab_if_ne (tgt := 19) d_M_input_14 (by decide) (fun q38 => by exact absurd q38 (by decide)) (fun q38 => ?_)
  refine ab_iconst (v := (-1)) d_M_input_17 (by decide) ?_
  exact ab_iret d_M_input_18 rfl (Nat.le_refl _) (Nat.le_refl _) (by unfold sq_M_input_x; exact ⟨rfl, trivial⟩)
def sq_M_seat_x (p : Int32) (b : Int32) : Int32 := (0)
set_option maxRecDepth 20000 in
set_option maxHeartbeats 2000000 in
theorem f_M_seat_x {h : List ab_E}   {m : Nat} {w p b : Int32}   (h0 : at_M0 h m w) (hp : p < 0 ∨ 3 < p) : ab_M y_M_seat { frames := 1, cells := 0, slots := 0, locals := 40 } [.ref m, .int p, .int b] h (ab_A (some (.int (sq_M_seat_x p b))) (fun h1 => True)) := by
  obtain ⟨hM, hT, hO, hS, hN, hD, hR⟩ := h0
  have hM0 := hM; obtain ⟨gmo, gm1, gm14, gm15, gm16, gm17, gm18, gm19, gm21, gm25, gm26⟩ := hM
  replace gmo : h[m]? = some (.inr (12, [.int 0, .ref (m + 1), .int 0, .ref (m + 2), .ref (m + 33), .int 0, .int (-1), .int (-1), .ref (m + 64), .ref (m + 74), .ref (m + 84), .ref (m + 94), .int 1, .int 0, .ref (m + 99), .ref (m + 100), .ref (m + 101), .ref (m + 102), .ref (m + 103), .ref (m + 104), .int 0, .ref (m + 105), .int 0, .int 0, .int 0, .ref (m + 106), .ref (m + 107), .int 0, .int 0])) := gmo
  replace gm1 : h[m + 1]? = some (.inl (.byte, 6000, .inl (fun _ => 0))) := (by rw [a0_M_0 w (by decide)] at gm1; exact gm1)
  replace gm14 : h[m + 99]? = some (.inl (.int, 256, .inl (fun _ => 0))) := (by rw [a0_M_0 w (by decide)] at gm14; exact gm14)
  replace gm15 : h[m + 100]? = some (.inl (.boolean, 256, .inl (fun _ => 0))) := (by rw [a0_M_0 w (by decide)] at gm15; exact gm15)
  replace gm16 : h[m + 101]? = some (.inl (.int, 64, .inl (fun _ => 0))) := (by rw [a0_M_0 w (by decide)] at gm16; exact gm16)
  replace gm17 : h[m + 102]? = some (.inl (.int, 4, .inl (fun _ => 0))) := (by rw [a0_M_0 w (by decide)] at gm17; exact gm17)
  replace gm18 : h[m + 103]? = some (.inl (.int, 4, .inl (fun _ => 0))) := (by rw [a0_M_0 w (by decide)] at gm18; exact gm18)
  replace gm19 : h[m + 104]? = some (.inl (.int, 256, .inl (fun _ => 0))) := (by rw [a0_M_0 w (by decide)] at gm19; exact gm19)
  replace gm21 : h[m + 105]? = some (.inl (.byte, 58000, .inl (fun _ => 0))) := (by rw [a0_M_0 w (by decide)] at gm21; exact gm21)
  replace gm25 : h[m + 106]? = some (.inl (.boolean, 8, .inl (a0_M w 25))) := gm25
  replace gm26 : h[m + 107]? = some (.inl (.boolean, 8, .inl (fun _ => 0))) := (by rw [a0_M_0 w (by decide)] at gm26; exact gm26)
  have hN0 := hN; obtain ⟨gno, gn4, gn5, gn6, gn7, gn9, gn10, gn11, gn12, gn17⟩ := hN
  replace gno : h[m + 74]? = some (.inr (13, [.int 0, .int 0, .int 0, .int 0, .ref (m + 74 + 1), .ref (m + 74 + 2), .ref (m + 74 + 3), .ref (m + 74 + 4), .int 0, .ref (m + 74 + 5), .ref (m + 74 + 6), .ref (m + 74 + 7), .ref (m + 74 + 8), .int (-1), .int 0, .int 0, .int 0, .ref (m + 74 + 9)])) := gno
  replace gn4 : h[m + 74 + 1]? = some (.inl (.int, 256, .inl (fun _ => 0))) := gn4
  replace gn5 : h[m + 74 + 2]? = some (.inl (.boolean, 256, .inl (fun _ => 0))) := gn5
  replace gn6 : h[m + 74 + 3]? = some (.inl (.int, 256, .inl (fun _ => 0))) := gn6
  replace gn7 : h[m + 74 + 4]? = some (.inl (.int, 12288, .inl (fun _ => 0))) := gn7
  replace gn9 : h[m + 74 + 5]? = some (.inl (.int, 256, .inl (fun _ => 0))) := gn9
  replace gn10 : h[m + 74 + 6]? = some (.inl (.int, 256, .inl (fun _ => 0))) := gn10
  replace gn11 : h[m + 74 + 7]? = some (.inl (.int, 256, .inl (fun _ => 0))) := gn11
  replace gn12 : h[m + 74 + 8]? = some (.inl (.int, 1024, .inl (fun _ => 0))) := gn12
  replace gn17 : h[m + 74 + 9]? = some (.inl (.int, 32, .inl (fun _ => 0))) := gn17
  refine ab_of2 (lv := [some (.ref m), some (.int p), some (.int b), none]) 1 rfl rfl (Nat.le_of_ble_eq_true rfl) ?_
  refine ab_aload_n d_M_seat_0 rfl rfl rfl ?_
  refine ab_iconst (v := 0) d_M_seat_1 (by decide) ?_
  refine ab_put (f := 0) d_M_seat_2 gmo rfl (by decide) (k9 233 rfl rfl) rfl rfl (fun _ => rfl) (fun _ => rfl) (Nat.le_of_ble_eq_true rfl) ?_
  show ab_V _ _ _ _ _ _ _ 5 [some (.ref m), some (.int p), some (.int b), none] [] (h.set m (.inr (12, [.int 0, .ref (m + 1), .int 0, .ref (m + 2), .ref (m + 33), .int 0, .int (-1), .int (-1), .ref (m + 64), .ref (m + 74), .ref (m + 84), .ref (m + 94), .int 1, .int 0, .ref (m + 99), .ref (m + 100), .ref (m + 101), .ref (m + 102), .ref (m + 103), .ref (m + 104), .int 0, .ref (m + 105), .int 0, .int 0, .int 0, .ref (m + 106), .ref (m + 107), .int 0, .int 0])))
  refine ab_gen (fun h1 e2 => ?_)
  have c3 : h1[m]? = some (.inr (12, [.int 0, .ref (m + 1), .int 0, .ref (m + 2), .ref (m + 33), .int 0, .int (-1), .int (-1), .ref (m + 64), .ref (m + 74), .ref (m + 84), .ref (m + 94), .int 1, .int 0, .ref (m + 99), .ref (m + 100), .ref (m + 101), .ref (m + 102), .ref (m + 103), .ref (m + 104), .int 0, .ref (m + 105), .int 0, .int 0, .int 0, .ref (m + 106), .ref (m + 107), .int 0, .int 0])) := ab_self e2 gmo
  have c4 : h1[m+1]? = some (.inl (.byte, 6000, .inl (fun _ => 0))) := ab_other e2 (by omega) gm1
  have c5 : h1[m+99]? = some (.inl (.int, 256, .inl (fun _ => 0))) := ab_other e2 (by omega) gm14
  have c6 : h1[m+100]? = some (.inl (.boolean, 256, .inl (fun _ => 0))) := ab_other e2 (by omega) gm15
  have c7 : h1[m+101]? = some (.inl (.int, 64, .inl (fun _ => 0))) := ab_other e2 (by omega) gm16
  have c8 : h1[m+102]? = some (.inl (.int, 4, .inl (fun _ => 0))) := ab_other e2 (by omega) gm17
  have c9 : h1[m+103]? = some (.inl (.int, 4, .inl (fun _ => 0))) := ab_other e2 (by omega) gm18
  have c10 : h1[m+104]? = some (.inl (.int, 256, .inl (fun _ => 0))) := ab_other e2 (by omega) gm19
  have c11 : h1[m+105]? = some (.inl (.byte, 58000, .inl (fun _ => 0))) := ab_other e2 (by omega) gm21
  have c12 : h1[m+106]? = some (.inl (.boolean, 8, .inl (a0_M w 25))) := ab_other e2 (by omega) gm25
  have c13 : h1[m+107]? = some (.inl (.boolean, 8, .inl (fun _ => 0))) := ab_other e2 (by omega) gm26
  have c14 : h1[m+74]? = some (.inr (13, [.int 0, .int 0, .int 0, .int 0, .ref (m + 74 + 1), .ref (m + 74 + 2), .ref (m + 74 + 3), .ref (m + 74 + 4), .int 0, .ref (m + 74 + 5), .ref (m + 74 + 6), .ref (m + 74 + 7), .ref (m + 74 + 8), .int (-1), .int 0, .int 0, .int 0, .ref (m + 74 + 9)])) := ab_other e2 (by omega) gno
  have c15 : h1[m+74+1]? = some (.inl (.int, 256, .inl (fun _ => 0))) := ab_other e2 (by omega) gn4
  have c16 : h1[m+74+2]? = some (.inl (.boolean, 256, .inl (fun _ => 0))) := ab_other e2 (by omega) gn5
  have c17 : h1[m+74+3]? = some (.inl (.int, 256, .inl (fun _ => 0))) := ab_other e2 (by omega) gn6
  have c18 : h1[m+74+4]? = some (.inl (.int, 12288, .inl (fun _ => 0))) := ab_other e2 (by omega) gn7
  have c19 : h1[m+74+5]? = some (.inl (.int, 256, .inl (fun _ => 0))) := ab_other e2 (by omega) gn9
  have c20 : h1[m+74+6]? = some (.inl (.int, 256, .inl (fun _ => 0))) := ab_other e2 (by omega) gn10
  have c21 : h1[m+74+7]? = some (.inl (.int, 256, .inl (fun _ => 0))) := ab_other e2 (by omega) gn11
  have c22 : h1[m+74+8]? = some (.inl (.int, 1024, .inl (fun _ => 0))) := ab_other e2 (by omega) gn12
  have c23 : h1[m+74+9]? = some (.inl (.int, 32, .inl (fun _ => 0))) := ab_other e2 (by omega) gn17
  have fr24 : ab_fr (fun _ => True) h h1 := ab_fr_set (ab_fr_rf _ _) e2 (by trivial)
  clear e2
  refine ab_iload_n d_M_seat_5 rfl rfl ?_
  refine ab_i2l d_M_seat_6 ?_
  refine ab_lconst (v := 0) d_M_seat_7 (by decide) ?_
  refine ab_ldc2 d_M_seat_8 (k12 168 rfl rfl) ?_
  refine ab_callS_a (As := [.long ((p : Int32).toInt64), .long 0, .long 3]) (rest := []) d_M_seat_11 (c_M_in) (ab_mkC s_M_in (Nat.le_of_ble_eq_true rfl) (Nat.le_of_ble_eq_true rfl) (by decide) (by decide)) (k10 93 rfl rfl) t_M_in rfl (Nat.le_of_ble_eq_true rfl) (fun h26 q25 => ?_)
  subst q25
  refine ab_topi (fun x27 ex27 => ?_)
  obtain rfl : x27 = 0 := ex27.trans (hp.elim (in_1 (lo := 0) (hi := 3) (by decide) (by decide)) (in_2 (lo := 0) (hi := 3) (by decide) (by decide)))
  clear ex27
  refine ab_if_eq (tgt := 38) d_M_seat_14 (by decide) (fun q28 => ?_) (fun q28 => by exact absurd (by decide) q28)
  refine ab_iconst (v := 0) d_M_seat_38 (by decide) ?_
  exact ab_zret d_M_seat_39 rfl rfl (Nat.le_refl _) (Nat.le_refl _) (by unfold sq_M_seat_x; exact ⟨rfl, trivial⟩)
def sq_M_feed  : Int32 := (1)
set_option maxRecDepth 20000 in
set_option maxHeartbeats 2000000 in
theorem f_M_feed {h : List ab_E}  {m : Nat} {w a b c d e : Int32}  (h0 : at_M0 h m w) : ab_M y_M_feed { frames := 0, cells := 0, slots := 0, locals := 0 } [.ref m, .int a, .int b, .int c, .int d, .int e] h (ab_A (some (.int (sq_M_feed ))) (fun h1 => True)) := by
  obtain ⟨hM, hT, hO, hS, hN, hD, hR⟩ := h0
  have hM0 := hM; obtain ⟨gmo, gm1, gm14, gm15, gm16, gm17, gm18, gm19, gm21, gm25, gm26⟩ := hM
  replace gmo : h[m]? = some (.inr (12, [.int 0, .ref (m + 1), .int 0, .ref (m + 2), .ref (m + 33), .int 0, .int (-1), .int (-1), .ref (m + 64), .ref (m + 74), .ref (m + 84), .ref (m + 94), .int 1, .int 0, .ref (m + 99), .ref (m + 100), .ref (m + 101), .ref (m + 102), .ref (m + 103), .ref (m + 104), .int 0, .ref (m + 105), .int 0, .int 0, .int 0, .ref (m + 106), .ref (m + 107), .int 0, .int 0])) := gmo
  replace gm1 : h[m + 1]? = some (.inl (.byte, 6000, .inl (fun _ => 0))) := (by rw [a0_M_0 w (by decide)] at gm1; exact gm1)
  replace gm14 : h[m + 99]? = some (.inl (.int, 256, .inl (fun _ => 0))) := (by rw [a0_M_0 w (by decide)] at gm14; exact gm14)
  replace gm15 : h[m + 100]? = some (.inl (.boolean, 256, .inl (fun _ => 0))) := (by rw [a0_M_0 w (by decide)] at gm15; exact gm15)
  replace gm16 : h[m + 101]? = some (.inl (.int, 64, .inl (fun _ => 0))) := (by rw [a0_M_0 w (by decide)] at gm16; exact gm16)
  replace gm17 : h[m + 102]? = some (.inl (.int, 4, .inl (fun _ => 0))) := (by rw [a0_M_0 w (by decide)] at gm17; exact gm17)
  replace gm18 : h[m + 103]? = some (.inl (.int, 4, .inl (fun _ => 0))) := (by rw [a0_M_0 w (by decide)] at gm18; exact gm18)
  replace gm19 : h[m + 104]? = some (.inl (.int, 256, .inl (fun _ => 0))) := (by rw [a0_M_0 w (by decide)] at gm19; exact gm19)
  replace gm21 : h[m + 105]? = some (.inl (.byte, 58000, .inl (fun _ => 0))) := (by rw [a0_M_0 w (by decide)] at gm21; exact gm21)
  replace gm25 : h[m + 106]? = some (.inl (.boolean, 8, .inl (a0_M w 25))) := gm25
  replace gm26 : h[m + 107]? = some (.inl (.boolean, 8, .inl (fun _ => 0))) := (by rw [a0_M_0 w (by decide)] at gm26; exact gm26)
  refine ab_of2 (lv := [some (.ref m), some (.int a), some (.int b), some (.int c), some (.int d), some (.int e), none, none]) 2 rfl rfl (Nat.le_of_ble_eq_true rfl) ?_
  refine ab_aload_n d_M_feed_0 rfl rfl rfl ?_
  refine ab_iconst (v := 0) d_M_feed_1 (by decide) ?_
  refine ab_put (f := 0) d_M_feed_2 gmo rfl (by decide) (k9 233 rfl rfl) rfl rfl (fun _ => rfl) (fun _ => rfl) (Nat.le_of_ble_eq_true rfl) ?_
  show ab_V _ _ _ _ _ _ _ 5 [some (.ref m), some (.int a), some (.int b), some (.int c), some (.int d), some (.int e), none, none] [] (h.set m (.inr (12, [.int 0, .ref (m + 1), .int 0, .ref (m + 2), .ref (m + 33), .int 0, .int (-1), .int (-1), .ref (m + 64), .ref (m + 74), .ref (m + 84), .ref (m + 94), .int 1, .int 0, .ref (m + 99), .ref (m + 100), .ref (m + 101), .ref (m + 102), .ref (m + 103), .ref (m + 104), .int 0, .ref (m + 105), .int 0, .int 0, .int 0, .ref (m + 106), .ref (m + 107), .int 0, .int 0])))
  refine ab_gen (fun h1 e2 => ?_)
  have c3 : h1[m]? = some (.inr (12, [.int 0, .ref (m + 1), .int 0, .ref (m + 2), .ref (m + 33), .int 0, .int (-1), .int (-1), .ref (m + 64), .ref (m + 74), .ref (m + 84), .ref (m + 94), .int 1, .int 0, .ref (m + 99), .ref (m + 100), .ref (m + 101), .ref (m + 102), .ref (m + 103), .ref (m + 104), .int 0, .ref (m + 105), .int 0, .int 0, .int 0, .ref (m + 106), .ref (m + 107), .int 0, .int 0])) := ab_self e2 gmo
  have c4 : h1[m+1]? = some (.inl (.byte, 6000, .inl (fun _ => 0))) := ab_other e2 (by omega) gm1
  have c5 : h1[m+99]? = some (.inl (.int, 256, .inl (fun _ => 0))) := ab_other e2 (by omega) gm14
  have c6 : h1[m+100]? = some (.inl (.boolean, 256, .inl (fun _ => 0))) := ab_other e2 (by omega) gm15
  have c7 : h1[m+101]? = some (.inl (.int, 64, .inl (fun _ => 0))) := ab_other e2 (by omega) gm16
  have c8 : h1[m+102]? = some (.inl (.int, 4, .inl (fun _ => 0))) := ab_other e2 (by omega) gm17
  have c9 : h1[m+103]? = some (.inl (.int, 4, .inl (fun _ => 0))) := ab_other e2 (by omega) gm18
  have c10 : h1[m+104]? = some (.inl (.int, 256, .inl (fun _ => 0))) := ab_other e2 (by omega) gm19
  have c11 : h1[m+105]? = some (.inl (.byte, 58000, .inl (fun _ => 0))) := ab_other e2 (by omega) gm21
  have c12 : h1[m+106]? = some (.inl (.boolean, 8, .inl (a0_M w 25))) := ab_other e2 (by omega) gm25
  have c13 : h1[m+107]? = some (.inl (.boolean, 8, .inl (fun _ => 0))) := ab_other e2 (by omega) gm26
  have fr14 : ab_fr (fun _ => True) h h1 := ab_fr_set (ab_fr_rf _ _) e2 (by trivial)
  clear e2
  refine ab_aload_n d_M_feed_5 rfl rfl rfl ?_
  refine ab_get (f := 2) d_M_feed_6 c3 rfl (by decide) (k9 235 rfl rfl) rfl ?_
  refine ab_bipush (v := 20) d_M_feed_9 (by decide) ?_
  refine ab_iadd d_M_feed_11 ?_
  refine ab_topi (fun x15 ex15 => ?_)
  obtain rfl : x15 = 20 := ex15.trans (by decide)
  clear ex15
  refine ab_sipush (v := 6000) d_M_feed_12 (by decide) ?_
  refine ab_icmp_le (tgt := 20) d_M_feed_15 (by decide) (fun q16 => ?_) (fun q16 => by exact absurd (by decide) q16)
  refine ab_iconst (v := 0) d_M_feed_20 (by decide) ?_
  refine ab_istore (lv' := [some (.ref m), some (.int a), some (.int b), some (.int c), some (.int d), some (.int e), some (.int 0), none]) d_M_feed_21 (by decide) rfl ?_
  refine ab_iload d_M_feed_23 rfl ?_
  refine ab_bipush (v := 20) d_M_feed_25 (by decide) ?_
  refine ab_icmp_ge (tgt := 117) d_M_feed_27 (by decide) (fun q17 => by exact absurd q17 (by decide)) (fun q17 => ?_)
  refine ab_iload d_M_feed_30 rfl ?_
  refine ab_iconst (v := 4) d_M_feed_32 (by decide) ?_
  refine ab_icmp_ge (tgt := 40) d_M_feed_33 (by decide) (fun q18 => by exact absurd q18 (by decide)) (fun q18 => ?_)
  refine ab_iload_n d_M_feed_36 rfl rfl ?_
  refine ab_goto (tgt := 76) d_M_feed_37 (by decide) ?_
  refine ab_istore (lv' := [some (.ref m), some (.int a), some (.int b), some (.int c), some (.int d), some (.int e), some (.int 0), some (.int a)]) d_M_feed_76 (by decide) rfl ?_
  refine ab_aload_n d_M_feed_78 rfl rfl rfl ?_
  refine ab_get (f := 1) d_M_feed_79 c3 rfl (by decide) (k9 234 rfl rfl) rfl ?_
  refine ab_aload_n d_M_feed_82 rfl rfl rfl ?_
  refine ab_get (f := 2) d_M_feed_83 c3 rfl (by decide) (k9 235 rfl rfl) rfl ?_
  refine ab_iload d_M_feed_86 rfl ?_
  refine ab_bipush (v := 24) d_M_feed_88 (by decide) ?_
  refine ab_bipush (v := 8) d_M_feed_90 (by decide) ?_
  refine ab_iload d_M_feed_92 rfl ?_
  refine ab_iconst (v := 4) d_M_feed_94 (by decide) ?_
  refine ab_irem d_M_feed_95 (by decide) ?_
  refine ab_topi (fun x19 ex19 => ?_)
  obtain rfl : x19 = 0 := ex19.trans (by decide)
  clear ex19
  refine ab_imul d_M_feed_96 ?_
  refine ab_topi (fun x20 ex20 => ?_)
  obtain rfl : x20 = 0 := ex20.trans (by decide)
  clear ex20
  refine ab_isub d_M_feed_97 ?_
  refine ab_topi (fun x21 ex21 => ?_)
  obtain rfl : x21 = 24 := ex21.trans (by decide)
  clear ex21
  refine ab_ishr d_M_feed_98 ?_
  refine ab_i2b d_M_feed_99 ?_
  refine ab_bast d_M_feed_100 tB c4 (in_of (by decide) (by decide) (by decide)) ?_
  refine ab_gen (fun h22 e23 => ?_)
  have c24 : h22[m]? = some (.inr (12, [.int 0, .ref (m + 1), .int 0, .ref (m + 2), .ref (m + 33), .int 0, .int (-1), .int (-1), .ref (m + 64), .ref (m + 74), .ref (m + 84), .ref (m + 94), .int 1, .int 0, .ref (m + 99), .ref (m + 100), .ref (m + 101), .ref (m + 102), .ref (m + 103), .ref (m + 104), .int 0, .ref (m + 105), .int 0, .int 0, .int 0, .ref (m + 106), .ref (m + 107), .int 0, .int 0])) := ab_other e23 (by omega) c3
  have c25 : h22[m+1]? = some (.inl (.byte, 6000, .inl (upd (fun _ => 0) (0 : Int32).toNatClampNeg (vp_nar .byte (((a >>> (24 &&& 31)) : Int32).toInt8.toInt32))))) := ab_self e23 c4
  have c26 : h22[m+99]? = some (.inl (.int, 256, .inl (fun _ => 0))) := ab_other e23 (by omega) c5
  have c27 : h22[m+100]? = some (.inl (.boolean, 256, .inl (fun _ => 0))) := ab_other e23 (by omega) c6
  have c28 : h22[m+101]? = some (.inl (.int, 64, .inl (fun _ => 0))) := ab_other e23 (by omega) c7
  have c29 : h22[m+102]? = some (.inl (.int, 4, .inl (fun _ => 0))) := ab_other e23 (by omega) c8
  have c30 : h22[m+103]? = some (.inl (.int, 4, .inl (fun _ => 0))) := ab_other e23 (by omega) c9
  have c31 : h22[m+104]? = some (.inl (.int, 256, .inl (fun _ => 0))) := ab_other e23 (by omega) c10
  have c32 : h22[m+105]? = some (.inl (.byte, 58000, .inl (fun _ => 0))) := ab_other e23 (by omega) c11
  have c33 : h22[m+106]? = some (.inl (.boolean, 8, .inl (a0_M w 25))) := ab_other e23 (by omega) c12
  have c34 : h22[m+107]? = some (.inl (.boolean, 8, .inl (fun _ => 0))) := ab_other e23 (by omega) c13
  have fr35 : ab_fr (fun _ => True) h h22 := ab_fr_set fr14 e23 (by trivial)
  clear c3 c4 c5 c6 c7 c8 c9 c10 c11 c12 c13 fr14 e23
  try clear h1
  obtain ⟨y36, c37⟩ : ∃ f : Nat → Int32, h22[m+1]? = some (.inl (.byte, 6000, .inl f)) := ⟨_, c25⟩
  clear c25
  refine ab_aload_n d_M_feed_101 rfl rfl rfl ?_
  refine ab_dup d_M_feed_102 rfl ?_
  refine ab_get (f := 2) d_M_feed_103 c24 rfl (by decide) (k9 235 rfl rfl) rfl ?_
  refine ab_iconst (v := 1) d_M_feed_106 (by decide) ?_
  refine ab_iadd d_M_feed_107 ?_
  refine ab_topi (fun x38 ex38 => ?_)
  obtain rfl : x38 = 1 := ex38.trans (by decide)
  clear ex38
  refine ab_put (f := 2) d_M_feed_108 c24 rfl (by decide) (k9 235 rfl rfl) rfl rfl (fun _ => rfl) (fun _ => rfl) (Nat.le_of_ble_eq_true rfl) ?_
  show ab_V _ _ _ _ _ _ _ 111 [some (.ref m), some (.int a), some (.int b), some (.int c), some (.int d), some (.int e), some (.int 0), some (.int a)] [] (h22.set m (.inr (12, [.int 0, .ref (m + 1), .int 1, .ref (m + 2), .ref (m + 33), .int 0, .int (-1), .int (-1), .ref (m + 64), .ref (m + 74), .ref (m + 84), .ref (m + 94), .int 1, .int 0, .ref (m + 99), .ref (m + 100), .ref (m + 101), .ref (m + 102), .ref (m + 103), .ref (m + 104), .int 0, .ref (m + 105), .int 0, .int 0, .int 0, .ref (m + 106), .ref (m + 107), .int 0, .int 0])))
  refine ab_gen (fun h39 e40 => ?_)
  have c41 : h39[m]? = some (.inr (12, [.int 0, .ref (m + 1), .int 1, .ref (m + 2), .ref (m + 33), .int 0, .int (-1), .int (-1), .ref (m + 64), .ref (m + 74), .ref (m + 84), .ref (m + 94), .int 1, .int 0, .ref (m + 99), .ref (m + 100), .ref (m + 101), .ref (m + 102), .ref (m + 103), .ref (m + 104), .int 0, .ref (m + 105), .int 0, .int 0, .int 0, .ref (m + 106), .ref (m + 107), .int 0, .int 0])) := ab_self e40 c24
  have c42 : h39[m+1]? = some (.inl (.byte, 6000, .inl y36)) := ab_other e40 (by omega) c37
  have c43 : h39[m+99]? = some (.inl (.int, 256, .inl (fun _ => 0))) := ab_other e40 (by omega) c26
  have c44 : h39[m+100]? = some (.inl (.boolean, 256, .inl (fun _ => 0))) := ab_other e40 (by omega) c27
  have c45 : h39[m+101]? = some (.inl (.int, 64, .inl (fun _ => 0))) := ab_other e40 (by omega) c28
  have c46 : h39[m+102]? = some (.inl (.int, 4, .inl (fun _ => 0))) := ab_other e40 (by omega) c29
  have c47 : h39[m+103]? = some (.inl (.int, 4, .inl (fun _ => 0))) := ab_other e40 (by omega) c30
  have c48 : h39[m+104]? = some (.inl (.int, 256, .inl (fun _ => 0))) := ab_other e40 (by omega) c31
  have c49 : h39[m+105]? = some (.inl (.byte, 58000, .inl (fun _ => 0))) := ab_other e40 (by omega) c32
  have c50 : h39[m+106]? = some (.inl (.boolean, 8, .inl (a0_M w 25))) := ab_other e40 (by omega) c33
  have c51 : h39[m+107]? = some (.inl (.boolean, 8, .inl (fun _ => 0))) := ab_other e40 (by omega) c34
  have fr52 : ab_fr (fun _ => True) h h39 := ab_fr_set fr35 e40 (by trivial)
  clear c24 c37 c26 c27 c28 c29 c30 c31 c32 c33 c34 fr35 e40
  try clear h22
  refine ab_iinc (v := 1) (lv' := [some (.ref m), some (.int a), some (.int b), some (.int c), some (.int d), some (.int e), some (.int 1), some (.int a)]) d_M_feed_111 rfl (by decide) (by decide) rfl ?_
  refine ab_goto (tgt := 23) d_M_feed_114 (by decide) ?_
  refine ab_iload d_M_feed_23 rfl ?_
  refine ab_bipush (v := 20) d_M_feed_25 (by decide) ?_
  refine ab_icmp_ge (tgt := 117) d_M_feed_27 (by decide) (fun q53 => by exact absurd q53 (by decide)) (fun q53 => ?_)
  refine ab_iload d_M_feed_30 rfl ?_
  refine ab_iconst (v := 4) d_M_feed_32 (by decide) ?_
  refine ab_icmp_ge (tgt := 40) d_M_feed_33 (by decide) (fun q54 => by exact absurd q54 (by decide)) (fun q54 => ?_)
  refine ab_iload_n d_M_feed_36 rfl rfl ?_
  refine ab_goto (tgt := 76) d_M_feed_37 (by decide) ?_
  refine ab_istore (lv' := [some (.ref m), some (.int a), some (.int b), some (.int c), some (.int d), some (.int e), some (.int 1), some (.int a)]) d_M_feed_76 (by decide) rfl ?_
  refine ab_aload_n d_M_feed_78 rfl rfl rfl ?_
  refine ab_get (f := 1) d_M_feed_79 c41 rfl (by decide) (k9 234 rfl rfl) rfl ?_
  refine ab_aload_n d_M_feed_82 rfl rfl rfl ?_
  refine ab_get (f := 2) d_M_feed_83 c41 rfl (by decide) (k9 235 rfl rfl) rfl ?_
  refine ab_iload d_M_feed_86 rfl ?_
  refine ab_bipush (v := 24) d_M_feed_88 (by decide) ?_
  refine ab_bipush (v := 8) d_M_feed_90 (by decide) ?_
  refine ab_iload d_M_feed_92 rfl ?_
  refine ab_iconst (v := 4) d_M_feed_94 (by decide) ?_
  refine ab_irem d_M_feed_95 (by decide) ?_
  refine ab_topi (fun x55 ex55 => ?_)
  obtain rfl : x55 = 1 := ex55.trans (by decide)
  clear ex55
  refine ab_imul d_M_feed_96 ?_
  refine ab_topi (fun x56 ex56 => ?_)
  obtain rfl : x56 = 8 := ex56.trans (by decide)
  clear ex56
  refine ab_isub d_M_feed_97 ?_
  refine ab_topi (fun x57 ex57 => ?_)
  obtain rfl : x57 = 16 := ex57.trans (by decide)
  clear ex57
  refine ab_ishr d_M_feed_98 ?_
  refine ab_i2b d_M_feed_99 ?_
  refine ab_bast d_M_feed_100 tB c42 (in_of (by decide) (by decide) (by decide)) ?_
  refine ab_gen (fun h58 e59 => ?_)
  have c60 : h58[m]? = some (.inr (12, [.int 0, .ref (m + 1), .int 1, .ref (m + 2), .ref (m + 33), .int 0, .int (-1), .int (-1), .ref (m + 64), .ref (m + 74), .ref (m + 84), .ref (m + 94), .int 1, .int 0, .ref (m + 99), .ref (m + 100), .ref (m + 101), .ref (m + 102), .ref (m + 103), .ref (m + 104), .int 0, .ref (m + 105), .int 0, .int 0, .int 0, .ref (m + 106), .ref (m + 107), .int 0, .int 0])) := ab_other e59 (by omega) c41
  have c61 : h58[m+1]? = some (.inl (.byte, 6000, .inl (upd y36 (1 : Int32).toNatClampNeg (vp_nar .byte (((a >>> (16 &&& 31)) : Int32).toInt8.toInt32))))) := ab_self e59 c42
  have c62 : h58[m+99]? = some (.inl (.int, 256, .inl (fun _ => 0))) := ab_other e59 (by omega) c43
  have c63 : h58[m+100]? = some (.inl (.boolean, 256, .inl (fun _ => 0))) := ab_other e59 (by omega) c44
  have c64 : h58[m+101]? = some (.inl (.int, 64, .inl (fun _ => 0))) := ab_other e59 (by omega) c45
  have c65 : h58[m+102]? = some (.inl (.int, 4, .inl (fun _ => 0))) := ab_other e59 (by omega) c46
  have c66 : h58[m+103]? = some (.inl (.int, 4, .inl (fun _ => 0))) := ab_other e59 (by omega) c47
  have c67 : h58[m+104]? = some (.inl (.int, 256, .inl (fun _ => 0))) := ab_other e59 (by omega) c48
  have c68 : h58[m+105]? = some (.inl (.byte, 58000, .inl (fun _ => 0))) := ab_other e59 (by omega) c49
  have c69 : h58[m+106]? = some (.inl (.boolean, 8, .inl (a0_M w 25))) := ab_other e59 (by omega) c50
  have c70 : h58[m+107]? = some (.inl (.boolean, 8, .inl (fun _ => 0))) := ab_other e59 (by omega) c51
  have fr71 : ab_fr (fun _ => True) h h58 := ab_fr_set fr52 e59 (by trivial)
  clear c41 c42 c43 c44 c45 c46 c47 c48 c49 c50 c51 fr52 e59
  try clear h39
  obtain ⟨y72, c73⟩ : ∃ f : Nat → Int32, h58[m+1]? = some (.inl (.byte, 6000, .inl f)) := ⟨_, c61⟩
  clear c61
  refine ab_aload_n d_M_feed_101 rfl rfl rfl ?_
  refine ab_dup d_M_feed_102 rfl ?_
  refine ab_get (f := 2) d_M_feed_103 c60 rfl (by decide) (k9 235 rfl rfl) rfl ?_
  refine ab_iconst (v := 1) d_M_feed_106 (by decide) ?_
  refine ab_iadd d_M_feed_107 ?_
  refine ab_topi (fun x74 ex74 => ?_)
  obtain rfl : x74 = 2 := ex74.trans (by decide)
  clear ex74
  refine ab_put (f := 2) d_M_feed_108 c60 rfl (by decide) (k9 235 rfl rfl) rfl rfl (fun _ => rfl) (fun _ => rfl) (Nat.le_of_ble_eq_true rfl) ?_
  show ab_V _ _ _ _ _ _ _ 111 [some (.ref m), some (.int a), some (.int b), some (.int c), some (.int d), some (.int e), some (.int 1), some (.int a)] [] (h58.set m (.inr (12, [.int 0, .ref (m + 1), .int 2, .ref (m + 2), .ref (m + 33), .int 0, .int (-1), .int (-1), .ref (m + 64), .ref (m + 74), .ref (m + 84), .ref (m + 94), .int 1, .int 0, .ref (m + 99), .ref (m + 100), .ref (m + 101), .ref (m + 102), .ref (m + 103), .ref (m + 104), .int 0, .ref (m + 105), .int 0, .int 0, .int 0, .ref (m + 106), .ref (m + 107), .int 0, .int 0])))
  refine ab_gen (fun h75 e76 => ?_)
  have c77 : h75[m]? = some (.inr (12, [.int 0, .ref (m + 1), .int 2, .ref (m + 2), .ref (m + 33), .int 0, .int (-1), .int (-1), .ref (m + 64), .ref (m + 74), .ref (m + 84), .ref (m + 94), .int 1, .int 0, .ref (m + 99), .ref (m + 100), .ref (m + 101), .ref (m + 102), .ref (m + 103), .ref (m + 104), .int 0, .ref (m + 105), .int 0, .int 0, .int 0, .ref (m + 106), .ref (m + 107), .int 0, .int 0])) := ab_self e76 c60
  have c78 : h75[m+1]? = some (.inl (.byte, 6000, .inl y72)) := ab_other e76 (by omega) c73
  have c79 : h75[m+99]? = some (.inl (.int, 256, .inl (fun _ => 0))) := ab_other e76 (by omega) c62
  have c80 : h75[m+100]? = some (.inl (.boolean, 256, .inl (fun _ => 0))) := ab_other e76 (by omega) c63
  have c81 : h75[m+101]? = some (.inl (.int, 64, .inl (fun _ => 0))) := ab_other e76 (by omega) c64
  have c82 : h75[m+102]? = some (.inl (.int, 4, .inl (fun _ => 0))) := ab_other e76 (by omega) c65
  have c83 : h75[m+103]? = some (.inl (.int, 4, .inl (fun _ => 0))) := ab_other e76 (by omega) c66
  have c84 : h75[m+104]? = some (.inl (.int, 256, .inl (fun _ => 0))) := ab_other e76 (by omega) c67
  have c85 : h75[m+105]? = some (.inl (.byte, 58000, .inl (fun _ => 0))) := ab_other e76 (by omega) c68
  have c86 : h75[m+106]? = some (.inl (.boolean, 8, .inl (a0_M w 25))) := ab_other e76 (by omega) c69
  have c87 : h75[m+107]? = some (.inl (.boolean, 8, .inl (fun _ => 0))) := ab_other e76 (by omega) c70
  have fr88 : ab_fr (fun _ => True) h h75 := ab_fr_set fr71 e76 (by trivial)
  clear c60 c73 c62 c63 c64 c65 c66 c67 c68 c69 c70 fr71 e76
  try clear h58
  refine ab_iinc (v := 2) (lv' := [some (.ref m), some (.int a), some (.int b), some (.int c), some (.int d), some (.int e), some (.int 2), some (.int a)]) d_M_feed_111 rfl (by decide) (by decide) rfl ?_
  refine ab_goto (tgt := 23) d_M_feed_114 (by decide) ?_
  refine ab_iload d_M_feed_23 rfl ?_
  refine ab_bipush (v := 20) d_M_feed_25 (by decide) ?_
  refine ab_icmp_ge (tgt := 117) d_M_feed_27 (by decide) (fun q89 => by exact absurd q89 (by decide)) (fun q89 => ?_)
  refine ab_iload d_M_feed_30 rfl ?_
  refine ab_iconst (v := 4) d_M_feed_32 (by decide) ?_
  refine ab_icmp_ge (tgt := 40) d_M_feed_33 (by decide) (fun q90 => by exact absurd q90 (by decide)) (fun q90 => ?_)
  refine ab_iload_n d_M_feed_36 rfl rfl ?_
  refine ab_goto (tgt := 76) d_M_feed_37 (by decide) ?_
  refine ab_istore (lv' := [some (.ref m), some (.int a), some (.int b), some (.int c), some (.int d), some (.int e), some (.int 2), some (.int a)]) d_M_feed_76 (by decide) rfl ?_
  refine ab_aload_n d_M_feed_78 rfl rfl rfl ?_
  refine ab_get (f := 1) d_M_feed_79 c77 rfl (by decide) (k9 234 rfl rfl) rfl ?_
  refine ab_aload_n d_M_feed_82 rfl rfl rfl ?_
  refine ab_get (f := 2) d_M_feed_83 c77 rfl (by decide) (k9 235 rfl rfl) rfl ?_
  refine ab_iload d_M_feed_86 rfl ?_
  refine ab_bipush (v := 24) d_M_feed_88 (by decide) ?_
  refine ab_bipush (v := 8) d_M_feed_90 (by decide) ?_
  refine ab_iload d_M_feed_92 rfl ?_
  refine ab_iconst (v := 4) d_M_feed_94 (by decide) ?_
  refine ab_irem d_M_feed_95 (by decide) ?_
  refine ab_topi (fun x91 ex91 => ?_)
  obtain rfl : x91 = 2 := ex91.trans (by decide)
  clear ex91
  refine ab_imul d_M_feed_96 ?_
  refine ab_topi (fun x92 ex92 => ?_)
  obtain rfl : x92 = 16 := ex92.trans (by decide)
  clear ex92
  refine ab_isub d_M_feed_97 ?_
  refine ab_topi (fun x93 ex93 => ?_)
  obtain rfl : x93 = 8 := ex93.trans (by decide)
  clear ex93
  refine ab_ishr d_M_feed_98 ?_
  refine ab_i2b d_M_feed_99 ?_
  refine ab_bast d_M_feed_100 tB c78 (in_of (by decide) (by decide) (by decide)) ?_
  refine ab_gen (fun h94 e95 => ?_)
  have c96 : h94[m]? = some (.inr (12, [.int 0, .ref (m + 1), .int 2, .ref (m + 2), .ref (m + 33), .int 0, .int (-1), .int (-1), .ref (m + 64), .ref (m + 74), .ref (m + 84), .ref (m + 94), .int 1, .int 0, .ref (m + 99), .ref (m + 100), .ref (m + 101), .ref (m + 102), .ref (m + 103), .ref (m + 104), .int 0, .ref (m + 105), .int 0, .int 0, .int 0, .ref (m + 106), .ref (m + 107), .int 0, .int 0])) := ab_other e95 (by omega) c77
  have c97 : h94[m+1]? = some (.inl (.byte, 6000, .inl (upd y72 (2 : Int32).toNatClampNeg (vp_nar .byte (((a >>> (8 &&& 31)) : Int32).toInt8.toInt32))))) := ab_self e95 c78
  have c98 : h94[m+99]? = some (.inl (.int, 256, .inl (fun _ => 0))) := ab_other e95 (by omega) c79
  have c99 : h94[m+100]? = some (.inl (.boolean, 256, .inl (fun _ => 0))) := ab_other e95 (by omega) c80
  have c100 : h94[m+101]? = some (.inl (.int, 64, .inl (fun _ => 0))) := ab_other e95 (by omega) c81
  have c101 : h94[m+102]? = some (.inl (.int, 4, .inl (fun _ => 0))) := ab_other e95 (by omega) c82
  have c102 : h94[m+103]? = some (.inl (.int, 4, .inl (fun _ => 0))) := ab_other e95 (by omega) c83
  have c103 : h94[m+104]? = some (.inl (.int, 256, .inl (fun _ => 0))) := ab_other e95 (by omega) c84
  have c104 : h94[m+105]? = some (.inl (.byte, 58000, .inl (fun _ => 0))) := ab_other e95 (by omega) c85
  have c105 : h94[m+106]? = some (.inl (.boolean, 8, .inl (a0_M w 25))) := ab_other e95 (by omega) c86
  have c106 : h94[m+107]? = some (.inl (.boolean, 8, .inl (fun _ => 0))) := ab_other e95 (by omega) c87
  have fr107 : ab_fr (fun _ => True) h h94 := ab_fr_set fr88 e95 (by trivial)
  clear c77 c78 c79 c80 c81 c82 c83 c84 c85 c86 c87 fr88 e95
  try clear h75
  obtain ⟨y108, c109⟩ : ∃ f : Nat → Int32, h94[m+1]? = some (.inl (.byte, 6000, .inl f)) := ⟨_, c97⟩
  clear c97
  refine ab_aload_n d_M_feed_101 rfl rfl rfl ?_
  refine ab_dup d_M_feed_102 rfl ?_
  refine ab_get (f := 2) d_M_feed_103 c96 rfl (by decide) (k9 235 rfl rfl) rfl ?_
  refine ab_iconst (v := 1) d_M_feed_106 (by decide) ?_
  refine ab_iadd d_M_feed_107 ?_
  refine ab_topi (fun x110 ex110 => ?_)
  obtain rfl : x110 = 3 := ex110.trans (by decide)
  clear ex110
  refine ab_put (f := 2) d_M_feed_108 c96 rfl (by decide) (k9 235 rfl rfl) rfl rfl (fun _ => rfl) (fun _ => rfl) (Nat.le_of_ble_eq_true rfl) ?_
  show ab_V _ _ _ _ _ _ _ 111 [some (.ref m), some (.int a), some (.int b), some (.int c), some (.int d), some (.int e), some (.int 2), some (.int a)] [] (h94.set m (.inr (12, [.int 0, .ref (m + 1), .int 3, .ref (m + 2), .ref (m + 33), .int 0, .int (-1), .int (-1), .ref (m + 64), .ref (m + 74), .ref (m + 84), .ref (m + 94), .int 1, .int 0, .ref (m + 99), .ref (m + 100), .ref (m + 101), .ref (m + 102), .ref (m + 103), .ref (m + 104), .int 0, .ref (m + 105), .int 0, .int 0, .int 0, .ref (m + 106), .ref (m + 107), .int 0, .int 0])))
  refine ab_gen (fun h111 e112 => ?_)
  have c113 : h111[m]? = some (.inr (12, [.int 0, .ref (m + 1), .int 3, .ref (m + 2), .ref (m + 33), .int 0, .int (-1), .int (-1), .ref (m + 64), .ref (m + 74), .ref (m + 84), .ref (m + 94), .int 1, .int 0, .ref (m + 99), .ref (m + 100), .ref (m + 101), .ref (m + 102), .ref (m + 103), .ref (m + 104), .int 0, .ref (m + 105), .int 0, .int 0, .int 0, .ref (m + 106), .ref (m + 107), .int 0, .int 0])) := ab_self e112 c96
  have c114 : h111[m+1]? = some (.inl (.byte, 6000, .inl y108)) := ab_other e112 (by omega) c109
  have c115 : h111[m+99]? = some (.inl (.int, 256, .inl (fun _ => 0))) := ab_other e112 (by omega) c98
  have c116 : h111[m+100]? = some (.inl (.boolean, 256, .inl (fun _ => 0))) := ab_other e112 (by omega) c99
  have c117 : h111[m+101]? = some (.inl (.int, 64, .inl (fun _ => 0))) := ab_other e112 (by omega) c100
  have c118 : h111[m+102]? = some (.inl (.int, 4, .inl (fun _ => 0))) := ab_other e112 (by omega) c101
  have c119 : h111[m+103]? = some (.inl (.int, 4, .inl (fun _ => 0))) := ab_other e112 (by omega) c102
  have c120 : h111[m+104]? = some (.inl (.int, 256, .inl (fun _ => 0))) := ab_other e112 (by omega) c103
  have c121 : h111[m+105]? = some (.inl (.byte, 58000, .inl (fun _ => 0))) := ab_other e112 (by omega) c104
  have c122 : h111[m+106]? = some (.inl (.boolean, 8, .inl (a0_M w 25))) := ab_other e112 (by omega) c105
  have c123 : h111[m+107]? = some (.inl (.boolean, 8, .inl (fun _ => 0))) := ab_other e112 (by omega) c106
  have fr124 : ab_fr (fun _ => True) h h111 := ab_fr_set fr107 e112 (by trivial)
  clear c96 c109 c98 c99 c100 c101 c102 c103 c104 c105 c106 fr107 e112
  try clear h94
  refine ab_iinc (v := 3) (lv' := [some (.ref m), some (.int a), some (.int b), some (.int c), some (.int d), some (.int e), some (.int 3), some (.int a)]) d_M_feed_111 rfl (by decide) (by decide) rfl ?_
  refine ab_goto (tgt := 23) d_M_feed_114 (by decide) ?_
  refine ab_iload d_M_feed_23 rfl ?_
  refine ab_bipush (v := 20) d_M_feed_25 (by decide) ?_
  refine ab_icmp_ge (tgt := 117) d_M_feed_27 (by decide) (fun q125 => by exact absurd q125 (by decide)) (fun q125 => ?_)
  refine ab_iload d_M_feed_30 rfl ?_
  refine ab_iconst (v := 4) d_M_feed_32 (by decide) ?_
  refine ab_icmp_ge (tgt := 40) d_M_feed_33 (by decide) (fun q126 => by exact absurd q126 (by decide)) (fun q126 => ?_)
  refine ab_iload_n d_M_feed_36 rfl rfl ?_
  refine ab_goto (tgt := 76) d_M_feed_37 (by decide) ?_
  refine ab_istore (lv' := [some (.ref m), some (.int a), some (.int b), some (.int c), some (.int d), some (.int e), some (.int 3), some (.int a)]) d_M_feed_76 (by decide) rfl ?_
  refine ab_aload_n d_M_feed_78 rfl rfl rfl ?_
  refine ab_get (f := 1) d_M_feed_79 c113 rfl (by decide) (k9 234 rfl rfl) rfl ?_
  refine ab_aload_n d_M_feed_82 rfl rfl rfl ?_
  refine ab_get (f := 2) d_M_feed_83 c113 rfl (by decide) (k9 235 rfl rfl) rfl ?_
  refine ab_iload d_M_feed_86 rfl ?_
  refine ab_bipush (v := 24) d_M_feed_88 (by decide) ?_
  refine ab_bipush (v := 8) d_M_feed_90 (by decide) ?_
  refine ab_iload d_M_feed_92 rfl ?_
  refine ab_iconst (v := 4) d_M_feed_94 (by decide) ?_
  refine ab_irem d_M_feed_95 (by decide) ?_
  refine ab_topi (fun x127 ex127 => ?_)
  obtain rfl : x127 = 3 := ex127.trans (by decide)
  clear ex127
  refine ab_imul d_M_feed_96 ?_
  refine ab_topi (fun x128 ex128 => ?_)
  obtain rfl : x128 = 24 := ex128.trans (by decide)
  clear ex128
  refine ab_isub d_M_feed_97 ?_
  refine ab_topi (fun x129 ex129 => ?_)
  obtain rfl : x129 = 0 := ex129.trans (by decide)
  clear ex129
  refine ab_ishr d_M_feed_98 ?_
  refine ab_i2b d_M_feed_99 ?_
  refine ab_bast d_M_feed_100 tB c114 (in_of (by decide) (by decide) (by decide)) ?_
  refine ab_gen (fun h130 e131 => ?_)
  have c132 : h130[m]? = some (.inr (12, [.int 0, .ref (m + 1), .int 3, .ref (m + 2), .ref (m + 33), .int 0, .int (-1), .int (-1), .ref (m + 64), .ref (m + 74), .ref (m + 84), .ref (m + 94), .int 1, .int 0, .ref (m + 99), .ref (m + 100), .ref (m + 101), .ref (m + 102), .ref (m + 103), .ref (m + 104), .int 0, .ref (m + 105), .int 0, .int 0, .int 0, .ref (m + 106), .ref (m + 107), .int 0, .int 0])) := ab_other e131 (by omega) c113
  have c133 : h130[m+1]? = some (.inl (.byte, 6000, .inl (upd y108 (3 : Int32).toNatClampNeg (vp_nar .byte (((a >>> (0 &&& 31)) : Int32).toInt8.toInt32))))) := ab_self e131 c114
  have c134 : h130[m+99]? = some (.inl (.int, 256, .inl (fun _ => 0))) := ab_other e131 (by omega) c115
  have c135 : h130[m+100]? = some (.inl (.boolean, 256, .inl (fun _ => 0))) := ab_other e131 (by omega) c116
  have c136 : h130[m+101]? = some (.inl (.int, 64, .inl (fun _ => 0))) := ab_other e131 (by omega) c117
  have c137 : h130[m+102]? = some (.inl (.int, 4, .inl (fun _ => 0))) := ab_other e131 (by omega) c118
  have c138 : h130[m+103]? = some (.inl (.int, 4, .inl (fun _ => 0))) := ab_other e131 (by omega) c119
  have c139 : h130[m+104]? = some (.inl (.int, 256, .inl (fun _ => 0))) := ab_other e131 (by omega) c120
  have c140 : h130[m+105]? = some (.inl (.byte, 58000, .inl (fun _ => 0))) := ab_other e131 (by omega) c121
  have c141 : h130[m+106]? = some (.inl (.boolean, 8, .inl (a0_M w 25))) := ab_other e131 (by omega) c122
  have c142 : h130[m+107]? = some (.inl (.boolean, 8, .inl (fun _ => 0))) := ab_other e131 (by omega) c123
  have fr143 : ab_fr (fun _ => True) h h130 := ab_fr_set fr124 e131 (by trivial)
  clear c113 c114 c115 c116 c117 c118 c119 c120 c121 c122 c123 fr124 e131
  try clear h111
  obtain ⟨y144, c145⟩ : ∃ f : Nat → Int32, h130[m+1]? = some (.inl (.byte, 6000, .inl f)) := ⟨_, c133⟩
  clear c133
  refine ab_aload_n d_M_feed_101 rfl rfl rfl ?_
  refine ab_dup d_M_feed_102 rfl ?_
  refine ab_get (f := 2) d_M_feed_103 c132 rfl (by decide) (k9 235 rfl rfl) rfl ?_
  refine ab_iconst (v := 1) d_M_feed_106 (by decide) ?_
  refine ab_iadd d_M_feed_107 ?_
  refine ab_topi (fun x146 ex146 => ?_)
  obtain rfl : x146 = 4 := ex146.trans (by decide)
  clear ex146
  refine ab_put (f := 2) d_M_feed_108 c132 rfl (by decide) (k9 235 rfl rfl) rfl rfl (fun _ => rfl) (fun _ => rfl) (Nat.le_of_ble_eq_true rfl) ?_
  show ab_V _ _ _ _ _ _ _ 111 [some (.ref m), some (.int a), some (.int b), some (.int c), some (.int d), some (.int e), some (.int 3), some (.int a)] [] (h130.set m (.inr (12, [.int 0, .ref (m + 1), .int 4, .ref (m + 2), .ref (m + 33), .int 0, .int (-1), .int (-1), .ref (m + 64), .ref (m + 74), .ref (m + 84), .ref (m + 94), .int 1, .int 0, .ref (m + 99), .ref (m + 100), .ref (m + 101), .ref (m + 102), .ref (m + 103), .ref (m + 104), .int 0, .ref (m + 105), .int 0, .int 0, .int 0, .ref (m + 106), .ref (m + 107), .int 0, .int 0])))
  refine ab_gen (fun h147 e148 => ?_)
  have c149 : h147[m]? = some (.inr (12, [.int 0, .ref (m + 1), .int 4, .ref (m + 2), .ref (m + 33), .int 0, .int (-1), .int (-1), .ref (m + 64), .ref (m + 74), .ref (m + 84), .ref (m + 94), .int 1, .int 0, .ref (m + 99), .ref (m + 100), .ref (m + 101), .ref (m + 102), .ref (m + 103), .ref (m + 104), .int 0, .ref (m + 105), .int 0, .int 0, .int 0, .ref (m + 106), .ref (m + 107), .int 0, .int 0])) := ab_self e148 c132
  have c150 : h147[m+1]? = some (.inl (.byte, 6000, .inl y144)) := ab_other e148 (by omega) c145
  have c151 : h147[m+99]? = some (.inl (.int, 256, .inl (fun _ => 0))) := ab_other e148 (by omega) c134
  have c152 : h147[m+100]? = some (.inl (.boolean, 256, .inl (fun _ => 0))) := ab_other e148 (by omega) c135
  have c153 : h147[m+101]? = some (.inl (.int, 64, .inl (fun _ => 0))) := ab_other e148 (by omega) c136
  have c154 : h147[m+102]? = some (.inl (.int, 4, .inl (fun _ => 0))) := ab_other e148 (by omega) c137
  have c155 : h147[m+103]? = some (.inl (.int, 4, .inl (fun _ => 0))) := ab_other e148 (by omega) c138
  have c156 : h147[m+104]? = some (.inl (.int, 256, .inl (fun _ => 0))) := ab_other e148 (by omega) c139
  have c157 : h147[m+105]? = some (.inl (.byte, 58000, .inl (fun _ => 0))) := ab_other e148 (by omega) c140
  have c158 : h147[m+106]? = some (.inl (.boolean, 8, .inl (a0_M w 25))) := ab_other e148 (by omega) c141
  have c159 : h147[m+107]? = some (.inl (.boolean, 8, .inl (fun _ => 0))) := ab_other e148 (by omega) c142
  have fr160 : ab_fr (fun _ => True) h h147 := ab_fr_set fr143 e148 (by trivial)
  clear c132 c145 c134 c135 c136 c137 c138 c139 c140 c141 c142 fr143 e148
  try clear h130
  refine ab_iinc (v := 4) (lv' := [some (.ref m), some (.int a), some (.int b), some (.int c), some (.int d), some (.int e), some (.int 4), some (.int a)]) d_M_feed_111 rfl (by decide) (by decide) rfl ?_
  refine ab_goto (tgt := 23) d_M_feed_114 (by decide) ?_
  refine ab_iload d_M_feed_23 rfl ?_
  refine ab_bipush (v := 20) d_M_feed_25 (by decide) ?_
  refine ab_icmp_ge (tgt := 117) d_M_feed_27 (by decide) (fun q161 => by exact absurd q161 (by decide)) (fun q161 => ?_)
  refine ab_iload d_M_feed_30 rfl ?_
  refine ab_iconst (v := 4) d_M_feed_32 (by decide) ?_
  refine ab_icmp_ge (tgt := 40) d_M_feed_33 (by decide) (fun q162 => ?_) (fun q162 => by exact absurd (by decide) q162)
  refine ab_iload d_M_feed_40 rfl ?_
  refine ab_bipush (v := 8) d_M_feed_42 (by decide) ?_
  refine ab_icmp_ge (tgt := 51) d_M_feed_44 (by decide) (fun q163 => by exact absurd q163 (by decide)) (fun q163 => ?_)
  refine ab_iload_n d_M_feed_47 rfl rfl ?_
  refine ab_goto (tgt := 76) d_M_feed_48 (by decide) ?_
  refine ab_istore (lv' := [some (.ref m), some (.int a), some (.int b), some (.int c), some (.int d), some (.int e), some (.int 4), some (.int b)]) d_M_feed_76 (by decide) rfl ?_
  refine ab_aload_n d_M_feed_78 rfl rfl rfl ?_
  refine ab_get (f := 1) d_M_feed_79 c149 rfl (by decide) (k9 234 rfl rfl) rfl ?_
  refine ab_aload_n d_M_feed_82 rfl rfl rfl ?_
  refine ab_get (f := 2) d_M_feed_83 c149 rfl (by decide) (k9 235 rfl rfl) rfl ?_
  refine ab_iload d_M_feed_86 rfl ?_
  refine ab_bipush (v := 24) d_M_feed_88 (by decide) ?_
  refine ab_bipush (v := 8) d_M_feed_90 (by decide) ?_
  refine ab_iload d_M_feed_92 rfl ?_
  refine ab_iconst (v := 4) d_M_feed_94 (by decide) ?_
  refine ab_irem d_M_feed_95 (by decide) ?_
  refine ab_topi (fun x164 ex164 => ?_)
  obtain rfl : x164 = 0 := ex164.trans (by decide)
  clear ex164
  refine ab_imul d_M_feed_96 ?_
  refine ab_topi (fun x165 ex165 => ?_)
  obtain rfl : x165 = 0 := ex165.trans (by decide)
  clear ex165
  refine ab_isub d_M_feed_97 ?_
  refine ab_topi (fun x166 ex166 => ?_)
  obtain rfl : x166 = 24 := ex166.trans (by decide)
  clear ex166
  refine ab_ishr d_M_feed_98 ?_
  refine ab_i2b d_M_feed_99 ?_
  refine ab_bast d_M_feed_100 tB c150 (in_of (by decide) (by decide) (by decide)) ?_
  refine ab_gen (fun h167 e168 => ?_)
  have c169 : h167[m]? = some (.inr (12, [.int 0, .ref (m + 1), .int 4, .ref (m + 2), .ref (m + 33), .int 0, .int (-1), .int (-1), .ref (m + 64), .ref (m + 74), .ref (m + 84), .ref (m + 94), .int 1, .int 0, .ref (m + 99), .ref (m + 100), .ref (m + 101), .ref (m + 102), .ref (m + 103), .ref (m + 104), .int 0, .ref (m + 105), .int 0, .int 0, .int 0, .ref (m + 106), .ref (m + 107), .int 0, .int 0])) := ab_other e168 (by omega) c149
  have c170 : h167[m+1]? = some (.inl (.byte, 6000, .inl (upd y144 (4 : Int32).toNatClampNeg (vp_nar .byte (((b >>> (24 &&& 31)) : Int32).toInt8.toInt32))))) := ab_self e168 c150
  have c171 : h167[m+99]? = some (.inl (.int, 256, .inl (fun _ => 0))) := ab_other e168 (by omega) c151
  have c172 : h167[m+100]? = some (.inl (.boolean, 256, .inl (fun _ => 0))) := ab_other e168 (by omega) c152
  have c173 : h167[m+101]? = some (.inl (.int, 64, .inl (fun _ => 0))) := ab_other e168 (by omega) c153
  have c174 : h167[m+102]? = some (.inl (.int, 4, .inl (fun _ => 0))) := ab_other e168 (by omega) c154
  have c175 : h167[m+103]? = some (.inl (.int, 4, .inl (fun _ => 0))) := ab_other e168 (by omega) c155
  have c176 : h167[m+104]? = some (.inl (.int, 256, .inl (fun _ => 0))) := ab_other e168 (by omega) c156
  have c177 : h167[m+105]? = some (.inl (.byte, 58000, .inl (fun _ => 0))) := ab_other e168 (by omega) c157
  have c178 : h167[m+106]? = some (.inl (.boolean, 8, .inl (a0_M w 25))) := ab_other e168 (by omega) c158
  have c179 : h167[m+107]? = some (.inl (.boolean, 8, .inl (fun _ => 0))) := ab_other e168 (by omega) c159
  have fr180 : ab_fr (fun _ => True) h h167 := ab_fr_set fr160 e168 (by trivial)
  clear c149 c150 c151 c152 c153 c154 c155 c156 c157 c158 c159 fr160 e168
  try clear h147
  obtain ⟨y181, c182⟩ : ∃ f : Nat → Int32, h167[m+1]? = some (.inl (.byte, 6000, .inl f)) := ⟨_, c170⟩
  clear c170
  refine ab_aload_n d_M_feed_101 rfl rfl rfl ?_
  refine ab_dup d_M_feed_102 rfl ?_
  refine ab_get (f := 2) d_M_feed_103 c169 rfl (by decide) (k9 235 rfl rfl) rfl ?_
  refine ab_iconst (v := 1) d_M_feed_106 (by decide) ?_
  refine ab_iadd d_M_feed_107 ?_
  refine ab_topi (fun x183 ex183 => ?_)
  obtain rfl : x183 = 5 := ex183.trans (by decide)
  clear ex183
  refine ab_put (f := 2) d_M_feed_108 c169 rfl (by decide) (k9 235 rfl rfl) rfl rfl (fun _ => rfl) (fun _ => rfl) (Nat.le_of_ble_eq_true rfl) ?_
  show ab_V _ _ _ _ _ _ _ 111 [some (.ref m), some (.int a), some (.int b), some (.int c), some (.int d), some (.int e), some (.int 4), some (.int b)] [] (h167.set m (.inr (12, [.int 0, .ref (m + 1), .int 5, .ref (m + 2), .ref (m + 33), .int 0, .int (-1), .int (-1), .ref (m + 64), .ref (m + 74), .ref (m + 84), .ref (m + 94), .int 1, .int 0, .ref (m + 99), .ref (m + 100), .ref (m + 101), .ref (m + 102), .ref (m + 103), .ref (m + 104), .int 0, .ref (m + 105), .int 0, .int 0, .int 0, .ref (m + 106), .ref (m + 107), .int 0, .int 0])))
  refine ab_gen (fun h184 e185 => ?_)
  have c186 : h184[m]? = some (.inr (12, [.int 0, .ref (m + 1), .int 5, .ref (m + 2), .ref (m + 33), .int 0, .int (-1), .int (-1), .ref (m + 64), .ref (m + 74), .ref (m + 84), .ref (m + 94), .int 1, .int 0, .ref (m + 99), .ref (m + 100), .ref (m + 101), .ref (m + 102), .ref (m + 103), .ref (m + 104), .int 0, .ref (m + 105), .int 0, .int 0, .int 0, .ref (m + 106), .ref (m + 107), .int 0, .int 0])) := ab_self e185 c169
  have c187 : h184[m+1]? = some (.inl (.byte, 6000, .inl y181)) := ab_other e185 (by omega) c182
  have c188 : h184[m+99]? = some (.inl (.int, 256, .inl (fun _ => 0))) := ab_other e185 (by omega) c171
  have c189 : h184[m+100]? = some (.inl (.boolean, 256, .inl (fun _ => 0))) := ab_other e185 (by omega) c172
  have c190 : h184[m+101]? = some (.inl (.int, 64, .inl (fun _ => 0))) := ab_other e185 (by omega) c173
  have c191 : h184[m+102]? = some (.inl (.int, 4, .inl (fun _ => 0))) := ab_other e185 (by omega) c174
  have c192 : h184[m+103]? = some (.inl (.int, 4, .inl (fun _ => 0))) := ab_other e185 (by omega) c175
  have c193 : h184[m+104]? = some (.inl (.int, 256, .inl (fun _ => 0))) := ab_other e185 (by omega) c176
  have c194 : h184[m+105]? = some (.inl (.byte, 58000, .inl (fun _ => 0))) := ab_other e185 (by omega) c177
  have c195 : h184[m+106]? = some (.inl (.boolean, 8, .inl (a0_M w 25))) := ab_other e185 (by omega) c178
  have c196 : h184[m+107]? = some (.inl (.boolean, 8, .inl (fun _ => 0))) := ab_other e185 (by omega) c179
  have fr197 : ab_fr (fun _ => True) h h184 := ab_fr_set fr180 e185 (by trivial)
  clear c169 c182 c171 c172 c173 c174 c175 c176 c177 c178 c179 fr180 e185
  try clear h167
  refine ab_iinc (v := 5) (lv' := [some (.ref m), some (.int a), some (.int b), some (.int c), some (.int d), some (.int e), some (.int 5), some (.int b)]) d_M_feed_111 rfl (by decide) (by decide) rfl ?_
  refine ab_goto (tgt := 23) d_M_feed_114 (by decide) ?_
  refine ab_iload d_M_feed_23 rfl ?_
  refine ab_bipush (v := 20) d_M_feed_25 (by decide) ?_
  refine ab_icmp_ge (tgt := 117) d_M_feed_27 (by decide) (fun q198 => by exact absurd q198 (by decide)) (fun q198 => ?_)
  refine ab_iload d_M_feed_30 rfl ?_
  refine ab_iconst (v := 4) d_M_feed_32 (by decide) ?_
  refine ab_icmp_ge (tgt := 40) d_M_feed_33 (by decide) (fun q199 => ?_) (fun q199 => by exact absurd (by decide) q199)
  refine ab_iload d_M_feed_40 rfl ?_
  refine ab_bipush (v := 8) d_M_feed_42 (by decide) ?_
  refine ab_icmp_ge (tgt := 51) d_M_feed_44 (by decide) (fun q200 => by exact absurd q200 (by decide)) (fun q200 => ?_)
  refine ab_iload_n d_M_feed_47 rfl rfl ?_
  refine ab_goto (tgt := 76) d_M_feed_48 (by decide) ?_
  refine ab_istore (lv' := [some (.ref m), some (.int a), some (.int b), some (.int c), some (.int d), some (.int e), some (.int 5), some (.int b)]) d_M_feed_76 (by decide) rfl ?_
  refine ab_aload_n d_M_feed_78 rfl rfl rfl ?_
  refine ab_get (f := 1) d_M_feed_79 c186 rfl (by decide) (k9 234 rfl rfl) rfl ?_
  refine ab_aload_n d_M_feed_82 rfl rfl rfl ?_
  refine ab_get (f := 2) d_M_feed_83 c186 rfl (by decide) (k9 235 rfl rfl) rfl ?_
  refine ab_iload d_M_feed_86 rfl ?_
  refine ab_bipush (v := 24) d_M_feed_88 (by decide) ?_
  refine ab_bipush (v := 8) d_M_feed_90 (by decide) ?_
  refine ab_iload d_M_feed_92 rfl ?_
  refine ab_iconst (v := 4) d_M_feed_94 (by decide) ?_
  refine ab_irem d_M_feed_95 (by decide) ?_
  refine ab_topi (fun x201 ex201 => ?_)
  obtain rfl : x201 = 1 := ex201.trans (by decide)
  clear ex201
  refine ab_imul d_M_feed_96 ?_
  refine ab_topi (fun x202 ex202 => ?_)
  obtain rfl : x202 = 8 := ex202.trans (by decide)
  clear ex202
  refine ab_isub d_M_feed_97 ?_
  refine ab_topi (fun x203 ex203 => ?_)
  obtain rfl : x203 = 16 := ex203.trans (by decide)
  clear ex203
  refine ab_ishr d_M_feed_98 ?_
  refine ab_i2b d_M_feed_99 ?_
  refine ab_bast d_M_feed_100 tB c187 (in_of (by decide) (by decide) (by decide)) ?_
  refine ab_gen (fun h204 e205 => ?_)
  have c206 : h204[m]? = some (.inr (12, [.int 0, .ref (m + 1), .int 5, .ref (m + 2), .ref (m + 33), .int 0, .int (-1), .int (-1), .ref (m + 64), .ref (m + 74), .ref (m + 84), .ref (m + 94), .int 1, .int 0, .ref (m + 99), .ref (m + 100), .ref (m + 101), .ref (m + 102), .ref (m + 103), .ref (m + 104), .int 0, .ref (m + 105), .int 0, .int 0, .int 0, .ref (m + 106), .ref (m + 107), .int 0, .int 0])) := ab_other e205 (by omega) c186
  have c207 : h204[m+1]? = some (.inl (.byte, 6000, .inl (upd y181 (5 : Int32).toNatClampNeg (vp_nar .byte (((b >>> (16 &&& 31)) : Int32).toInt8.toInt32))))) := ab_self e205 c187
  have c208 : h204[m+99]? = some (.inl (.int, 256, .inl (fun _ => 0))) := ab_other e205 (by omega) c188
  have c209 : h204[m+100]? = some (.inl (.boolean, 256, .inl (fun _ => 0))) := ab_other e205 (by omega) c189
  have c210 : h204[m+101]? = some (.inl (.int, 64, .inl (fun _ => 0))) := ab_other e205 (by omega) c190
  have c211 : h204[m+102]? = some (.inl (.int, 4, .inl (fun _ => 0))) := ab_other e205 (by omega) c191
  have c212 : h204[m+103]? = some (.inl (.int, 4, .inl (fun _ => 0))) := ab_other e205 (by omega) c192
  have c213 : h204[m+104]? = some (.inl (.int, 256, .inl (fun _ => 0))) := ab_other e205 (by omega) c193
  have c214 : h204[m+105]? = some (.inl (.byte, 58000, .inl (fun _ => 0))) := ab_other e205 (by omega) c194
  have c215 : h204[m+106]? = some (.inl (.boolean, 8, .inl (a0_M w 25))) := ab_other e205 (by omega) c195
  have c216 : h204[m+107]? = some (.inl (.boolean, 8, .inl (fun _ => 0))) := ab_other e205 (by omega) c196
  have fr217 : ab_fr (fun _ => True) h h204 := ab_fr_set fr197 e205 (by trivial)
  clear c186 c187 c188 c189 c190 c191 c192 c193 c194 c195 c196 fr197 e205
  try clear h184
  obtain ⟨y218, c219⟩ : ∃ f : Nat → Int32, h204[m+1]? = some (.inl (.byte, 6000, .inl f)) := ⟨_, c207⟩
  clear c207
  refine ab_aload_n d_M_feed_101 rfl rfl rfl ?_
  refine ab_dup d_M_feed_102 rfl ?_
  refine ab_get (f := 2) d_M_feed_103 c206 rfl (by decide) (k9 235 rfl rfl) rfl ?_
  refine ab_iconst (v := 1) d_M_feed_106 (by decide) ?_
  refine ab_iadd d_M_feed_107 ?_
  refine ab_topi (fun x220 ex220 => ?_)
  obtain rfl : x220 = 6 := ex220.trans (by decide)
  clear ex220
  refine ab_put (f := 2) d_M_feed_108 c206 rfl (by decide) (k9 235 rfl rfl) rfl rfl (fun _ => rfl) (fun _ => rfl) (Nat.le_of_ble_eq_true rfl) ?_
  show ab_V _ _ _ _ _ _ _ 111 [some (.ref m), some (.int a), some (.int b), some (.int c), some (.int d), some (.int e), some (.int 5), some (.int b)] [] (h204.set m (.inr (12, [.int 0, .ref (m + 1), .int 6, .ref (m + 2), .ref (m + 33), .int 0, .int (-1), .int (-1), .ref (m + 64), .ref (m + 74), .ref (m + 84), .ref (m + 94), .int 1, .int 0, .ref (m + 99), .ref (m + 100), .ref (m + 101), .ref (m + 102), .ref (m + 103), .ref (m + 104), .int 0, .ref (m + 105), .int 0, .int 0, .int 0, .ref (m + 106), .ref (m + 107), .int 0, .int 0])))
  refine ab_gen (fun h221 e222 => ?_)
  have c223 : h221[m]? = some (.inr (12, [.int 0, .ref (m + 1), .int 6, .ref (m + 2), .ref (m + 33), .int 0, .int (-1), .int (-1), .ref (m + 64), .ref (m + 74), .ref (m + 84), .ref (m + 94), .int 1, .int 0, .ref (m + 99), .ref (m + 100), .ref (m + 101), .ref (m + 102), .ref (m + 103), .ref (m + 104), .int 0, .ref (m + 105), .int 0, .int 0, .int 0, .ref (m + 106), .ref (m + 107), .int 0, .int 0])) := ab_self e222 c206
  have c224 : h221[m+1]? = some (.inl (.byte, 6000, .inl y218)) := ab_other e222 (by omega) c219
  have c225 : h221[m+99]? = some (.inl (.int, 256, .inl (fun _ => 0))) := ab_other e222 (by omega) c208
  have c226 : h221[m+100]? = some (.inl (.boolean, 256, .inl (fun _ => 0))) := ab_other e222 (by omega) c209
  have c227 : h221[m+101]? = some (.inl (.int, 64, .inl (fun _ => 0))) := ab_other e222 (by omega) c210
  have c228 : h221[m+102]? = some (.inl (.int, 4, .inl (fun _ => 0))) := ab_other e222 (by omega) c211
  have c229 : h221[m+103]? = some (.inl (.int, 4, .inl (fun _ => 0))) := ab_other e222 (by omega) c212
  have c230 : h221[m+104]? = some (.inl (.int, 256, .inl (fun _ => 0))) := ab_other e222 (by omega) c213
  have c231 : h221[m+105]? = some (.inl (.byte, 58000, .inl (fun _ => 0))) := ab_other e222 (by omega) c214
  have c232 : h221[m+106]? = some (.inl (.boolean, 8, .inl (a0_M w 25))) := ab_other e222 (by omega) c215
  have c233 : h221[m+107]? = some (.inl (.boolean, 8, .inl (fun _ => 0))) := ab_other e222 (by omega) c216
  have fr234 : ab_fr (fun _ => True) h h221 := ab_fr_set fr217 e222 (by trivial)
  clear c206 c219 c208 c209 c210 c211 c212 c213 c214 c215 c216 fr217 e222
  try clear h204
  refine ab_iinc (v := 6) (lv' := [some (.ref m), some (.int a), some (.int b), some (.int c), some (.int d), some (.int e), some (.int 6), some (.int b)]) d_M_feed_111 rfl (by decide) (by decide) rfl ?_
  refine ab_goto (tgt := 23) d_M_feed_114 (by decide) ?_
  refine ab_iload d_M_feed_23 rfl ?_
  refine ab_bipush (v := 20) d_M_feed_25 (by decide) ?_
  refine ab_icmp_ge (tgt := 117) d_M_feed_27 (by decide) (fun q235 => by exact absurd q235 (by decide)) (fun q235 => ?_)
  refine ab_iload d_M_feed_30 rfl ?_
  refine ab_iconst (v := 4) d_M_feed_32 (by decide) ?_
  refine ab_icmp_ge (tgt := 40) d_M_feed_33 (by decide) (fun q236 => ?_) (fun q236 => by exact absurd (by decide) q236)
  refine ab_iload d_M_feed_40 rfl ?_
  refine ab_bipush (v := 8) d_M_feed_42 (by decide) ?_
  refine ab_icmp_ge (tgt := 51) d_M_feed_44 (by decide) (fun q237 => by exact absurd q237 (by decide)) (fun q237 => ?_)
  refine ab_iload_n d_M_feed_47 rfl rfl ?_
  refine ab_goto (tgt := 76) d_M_feed_48 (by decide) ?_
  refine ab_istore (lv' := [some (.ref m), some (.int a), some (.int b), some (.int c), some (.int d), some (.int e), some (.int 6), some (.int b)]) d_M_feed_76 (by decide) rfl ?_
  refine ab_aload_n d_M_feed_78 rfl rfl rfl ?_
  refine ab_get (f := 1) d_M_feed_79 c223 rfl (by decide) (k9 234 rfl rfl) rfl ?_
  refine ab_aload_n d_M_feed_82 rfl rfl rfl ?_
  refine ab_get (f := 2) d_M_feed_83 c223 rfl (by decide) (k9 235 rfl rfl) rfl ?_
  refine ab_iload d_M_feed_86 rfl ?_
  refine ab_bipush (v := 24) d_M_feed_88 (by decide) ?_
  refine ab_bipush (v := 8) d_M_feed_90 (by decide) ?_
  refine ab_iload d_M_feed_92 rfl ?_
  refine ab_iconst (v := 4) d_M_feed_94 (by decide) ?_
  refine ab_irem d_M_feed_95 (by decide) ?_
  refine ab_topi (fun x238 ex238 => ?_)
  obtain rfl : x238 = 2 := ex238.trans (by decide)
  clear ex238
  refine ab_imul d_M_feed_96 ?_
  refine ab_topi (fun x239 ex239 => ?_)
  obtain rfl : x239 = 16 := ex239.trans (by decide)
  clear ex239
  refine ab_isub d_M_feed_97 ?_
  refine ab_topi (fun x240 ex240 => ?_)
  obtain rfl : x240 = 8 := ex240.trans (by decide)
  clear ex240
  refine ab_ishr d_M_feed_98 ?_
  refine ab_i2b d_M_feed_99 ?_
  refine ab_bast d_M_feed_100 tB c224 (in_of (by decide) (by decide) (by decide)) ?_
  refine ab_gen (fun h241 e242 => ?_)
  have c243 : h241[m]? = some (.inr (12, [.int 0, .ref (m + 1), .int 6, .ref (m + 2), .ref (m + 33), .int 0, .int (-1), .int (-1), .ref (m + 64), .ref (m + 74), .ref (m + 84), .ref (m + 94), .int 1, .int 0, .ref (m + 99), .ref (m + 100), .ref (m + 101), .ref (m + 102), .ref (m + 103), .ref (m + 104), .int 0, .ref (m + 105), .int 0, .int 0, .int 0, .ref (m + 106), .ref (m + 107), .int 0, .int 0])) := ab_other e242 (by omega) c223
  have c244 : h241[m+1]? = some (.inl (.byte, 6000, .inl (upd y218 (6 : Int32).toNatClampNeg (vp_nar .byte (((b >>> (8 &&& 31)) : Int32).toInt8.toInt32))))) := ab_self e242 c224
  have c245 : h241[m+99]? = some (.inl (.int, 256, .inl (fun _ => 0))) := ab_other e242 (by omega) c225
  have c246 : h241[m+100]? = some (.inl (.boolean, 256, .inl (fun _ => 0))) := ab_other e242 (by omega) c226
  have c247 : h241[m+101]? = some (.inl (.int, 64, .inl (fun _ => 0))) := ab_other e242 (by omega) c227
  have c248 : h241[m+102]? = some (.inl (.int, 4, .inl (fun _ => 0))) := ab_other e242 (by omega) c228
  have c249 : h241[m+103]? = some (.inl (.int, 4, .inl (fun _ => 0))) := ab_other e242 (by omega) c229
  have c250 : h241[m+104]? = some (.inl (.int, 256, .inl (fun _ => 0))) := ab_other e242 (by omega) c230
  have c251 : h241[m+105]? = some (.inl (.byte, 58000, .inl (fun _ => 0))) := ab_other e242 (by omega) c231
  have c252 : h241[m+106]? = some (.inl (.boolean, 8, .inl (a0_M w 25))) := ab_other e242 (by omega) c232
  have c253 : h241[m+107]? = some (.inl (.boolean, 8, .inl (fun _ => 0))) := ab_other e242 (by omega) c233
  have fr254 : ab_fr (fun _ => True) h h241 := ab_fr_set fr234 e242 (by trivial)
  clear c223 c224 c225 c226 c227 c228 c229 c230 c231 c232 c233 fr234 e242
  try clear h221
  obtain ⟨y255, c256⟩ : ∃ f : Nat → Int32, h241[m+1]? = some (.inl (.byte, 6000, .inl f)) := ⟨_, c244⟩
  clear c244
  refine ab_aload_n d_M_feed_101 rfl rfl rfl ?_
  refine ab_dup d_M_feed_102 rfl ?_
  refine ab_get (f := 2) d_M_feed_103 c243 rfl (by decide) (k9 235 rfl rfl) rfl ?_
  refine ab_iconst (v := 1) d_M_feed_106 (by decide) ?_
  refine ab_iadd d_M_feed_107 ?_
  refine ab_topi (fun x257 ex257 => ?_)
  obtain rfl : x257 = 7 := ex257.trans (by decide)
  clear ex257
  refine ab_put (f := 2) d_M_feed_108 c243 rfl (by decide) (k9 235 rfl rfl) rfl rfl (fun _ => rfl) (fun _ => rfl) (Nat.le_of_ble_eq_true rfl) ?_
  show ab_V _ _ _ _ _ _ _ 111 [some (.ref m), some (.int a), some (.int b), some (.int c), some (.int d), some (.int e), some (.int 6), some (.int b)] [] (h241.set m (.inr (12, [.int 0, .ref (m + 1), .int 7, .ref (m + 2), .ref (m + 33), .int 0, .int (-1), .int (-1), .ref (m + 64), .ref (m + 74), .ref (m + 84), .ref (m + 94), .int 1, .int 0, .ref (m + 99), .ref (m + 100), .ref (m + 101), .ref (m + 102), .ref (m + 103), .ref (m + 104), .int 0, .ref (m + 105), .int 0, .int 0, .int 0, .ref (m + 106), .ref (m + 107), .int 0, .int 0])))
  refine ab_gen (fun h258 e259 => ?_)
  have c260 : h258[m]? = some (.inr (12, [.int 0, .ref (m + 1), .int 7, .ref (m + 2), .ref (m + 33), .int 0, .int (-1), .int (-1), .ref (m + 64), .ref (m + 74), .ref (m + 84), .ref (m + 94), .int 1, .int 0, .ref (m + 99), .ref (m + 100), .ref (m + 101), .ref (m + 102), .ref (m + 103), .ref (m + 104), .int 0, .ref (m + 105), .int 0, .int 0, .int 0, .ref (m + 106), .ref (m + 107), .int 0, .int 0])) := ab_self e259 c243
  have c261 : h258[m+1]? = some (.inl (.byte, 6000, .inl y255)) := ab_other e259 (by omega) c256
  have c262 : h258[m+99]? = some (.inl (.int, 256, .inl (fun _ => 0))) := ab_other e259 (by omega) c245
  have c263 : h258[m+100]? = some (.inl (.boolean, 256, .inl (fun _ => 0))) := ab_other e259 (by omega) c246
  have c264 : h258[m+101]? = some (.inl (.int, 64, .inl (fun _ => 0))) := ab_other e259 (by omega) c247
  have c265 : h258[m+102]? = some (.inl (.int, 4, .inl (fun _ => 0))) := ab_other e259 (by omega) c248
  have c266 : h258[m+103]? = some (.inl (.int, 4, .inl (fun _ => 0))) := ab_other e259 (by omega) c249
  have c267 : h258[m+104]? = some (.inl (.int, 256, .inl (fun _ => 0))) := ab_other e259 (by omega) c250
  have c268 : h258[m+105]? = some (.inl (.byte, 58000, .inl (fun _ => 0))) := ab_other e259 (by omega) c251
  have c269 : h258[m+106]? = some (.inl (.boolean, 8, .inl (a0_M w 25))) := ab_other e259 (by omega) c252
  have c270 : h258[m+107]? = some (.inl (.boolean, 8, .inl (fun _ => 0))) := ab_other e259 (by omega) c253
  have fr271 : ab_fr (fun _ => True) h h258 := ab_fr_set fr254 e259 (by trivial)
  clear c243 c256 c245 c246 c247 c248 c249 c250 c251 c252 c253 fr254 e259
  try clear h241
  refine ab_iinc (v := 7) (lv' := [some (.ref m), some (.int a), some (.int b), some (.int c), some (.int d), some (.int e), some (.int 7), some (.int b)]) d_M_feed_111 rfl (by decide) (by decide) rfl ?_
  refine ab_goto (tgt := 23) d_M_feed_114 (by decide) ?_
  refine ab_iload d_M_feed_23 rfl ?_
  refine ab_bipush (v := 20) d_M_feed_25 (by decide) ?_
  refine ab_icmp_ge (tgt := 117) d_M_feed_27 (by decide) (fun q272 => by exact absurd q272 (by decide)) (fun q272 => ?_)
  refine ab_iload d_M_feed_30 rfl ?_
  refine ab_iconst (v := 4) d_M_feed_32 (by decide) ?_
  refine ab_icmp_ge (tgt := 40) d_M_feed_33 (by decide) (fun q273 => ?_) (fun q273 => by exact absurd (by decide) q273)
  refine ab_iload d_M_feed_40 rfl ?_
  refine ab_bipush (v := 8) d_M_feed_42 (by decide) ?_
  refine ab_icmp_ge (tgt := 51) d_M_feed_44 (by decide) (fun q274 => by exact absurd q274 (by decide)) (fun q274 => ?_)
  refine ab_iload_n d_M_feed_47 rfl rfl ?_
  refine ab_goto (tgt := 76) d_M_feed_48 (by decide) ?_
  refine ab_istore (lv' := [some (.ref m), some (.int a), some (.int b), some (.int c), some (.int d), some (.int e), some (.int 7), some (.int b)]) d_M_feed_76 (by decide) rfl ?_
  refine ab_aload_n d_M_feed_78 rfl rfl rfl ?_
  refine ab_get (f := 1) d_M_feed_79 c260 rfl (by decide) (k9 234 rfl rfl) rfl ?_
  refine ab_aload_n d_M_feed_82 rfl rfl rfl ?_
  refine ab_get (f := 2) d_M_feed_83 c260 rfl (by decide) (k9 235 rfl rfl) rfl ?_
  refine ab_iload d_M_feed_86 rfl ?_
  refine ab_bipush (v := 24) d_M_feed_88 (by decide) ?_
  refine ab_bipush (v := 8) d_M_feed_90 (by decide) ?_
  refine ab_iload d_M_feed_92 rfl ?_
  refine ab_iconst (v := 4) d_M_feed_94 (by decide) ?_
  refine ab_irem d_M_feed_95 (by decide) ?_
  refine ab_topi (fun x275 ex275 => ?_)
  obtain rfl : x275 = 3 := ex275.trans (by decide)
  clear ex275
  refine ab_imul d_M_feed_96 ?_
  refine ab_topi (fun x276 ex276 => ?_)
  obtain rfl : x276 = 24 := ex276.trans (by decide)
  clear ex276
  refine ab_isub d_M_feed_97 ?_
  refine ab_topi (fun x277 ex277 => ?_)
  obtain rfl : x277 = 0 := ex277.trans (by decide)
  clear ex277
  refine ab_ishr d_M_feed_98 ?_
  refine ab_i2b d_M_feed_99 ?_
  refine ab_bast d_M_feed_100 tB c261 (in_of (by decide) (by decide) (by decide)) ?_
  refine ab_gen (fun h278 e279 => ?_)
  have c280 : h278[m]? = some (.inr (12, [.int 0, .ref (m + 1), .int 7, .ref (m + 2), .ref (m + 33), .int 0, .int (-1), .int (-1), .ref (m + 64), .ref (m + 74), .ref (m + 84), .ref (m + 94), .int 1, .int 0, .ref (m + 99), .ref (m + 100), .ref (m + 101), .ref (m + 102), .ref (m + 103), .ref (m + 104), .int 0, .ref (m + 105), .int 0, .int 0, .int 0, .ref (m + 106), .ref (m + 107), .int 0, .int 0])) := ab_other e279 (by omega) c260
  have c281 : h278[m+1]? = some (.inl (.byte, 6000, .inl (upd y255 (7 : Int32).toNatClampNeg (vp_nar .byte (((b >>> (0 &&& 31)) : Int32).toInt8.toInt32))))) := ab_self e279 c261
  have c282 : h278[m+99]? = some (.inl (.int, 256, .inl (fun _ => 0))) := ab_other e279 (by omega) c262
  have c283 : h278[m+100]? = some (.inl (.boolean, 256, .inl (fun _ => 0))) := ab_other e279 (by omega) c263
  have c284 : h278[m+101]? = some (.inl (.int, 64, .inl (fun _ => 0))) := ab_other e279 (by omega) c264
  have c285 : h278[m+102]? = some (.inl (.int, 4, .inl (fun _ => 0))) := ab_other e279 (by omega) c265
  have c286 : h278[m+103]? = some (.inl (.int, 4, .inl (fun _ => 0))) := ab_other e279 (by omega) c266
  have c287 : h278[m+104]? = some (.inl (.int, 256, .inl (fun _ => 0))) := ab_other e279 (by omega) c267
  have c288 : h278[m+105]? = some (.inl (.byte, 58000, .inl (fun _ => 0))) := ab_other e279 (by omega) c268
  have c289 : h278[m+106]? = some (.inl (.boolean, 8, .inl (a0_M w 25))) := ab_other e279 (by omega) c269
  have c290 : h278[m+107]? = some (.inl (.boolean, 8, .inl (fun _ => 0))) := ab_other e279 (by omega) c270
  have fr291 : ab_fr (fun _ => True) h h278 := ab_fr_set fr271 e279 (by trivial)
  clear c260 c261 c262 c263 c264 c265 c266 c267 c268 c269 c270 fr271 e279
  try clear h258
  obtain ⟨y292, c293⟩ : ∃ f : Nat → Int32, h278[m+1]? = some (.inl (.byte, 6000, .inl f)) := ⟨_, c281⟩
  clear c281
  refine ab_aload_n d_M_feed_101 rfl rfl rfl ?_
  refine ab_dup d_M_feed_102 rfl ?_
  refine ab_get (f := 2) d_M_feed_103 c280 rfl (by decide) (k9 235 rfl rfl) rfl ?_
  refine ab_iconst (v := 1) d_M_feed_106 (by decide) ?_
  refine ab_iadd d_M_feed_107 ?_
  refine ab_topi (fun x294 ex294 => ?_)
  obtain rfl : x294 = 8 := ex294.trans (by decide)
  clear ex294
  refine ab_put (f := 2) d_M_feed_108 c280 rfl (by decide) (k9 235 rfl rfl) rfl rfl (fun _ => rfl) (fun _ => rfl) (Nat.le_of_ble_eq_true rfl) ?_
  show ab_V _ _ _ _ _ _ _ 111 [some (.ref m), some (.int a), some (.int b), some (.int c), some (.int d), some (.int e), some (.int 7), some (.int b)] [] (h278.set m (.inr (12, [.int 0, .ref (m + 1), .int 8, .ref (m + 2), .ref (m + 33), .int 0, .int (-1), .int (-1), .ref (m + 64), .ref (m + 74), .ref (m + 84), .ref (m + 94), .int 1, .int 0, .ref (m + 99), .ref (m + 100), .ref (m + 101), .ref (m + 102), .ref (m + 103), .ref (m + 104), .int 0, .ref (m + 105), .int 0, .int 0, .int 0, .ref (m + 106), .ref (m + 107), .int 0, .int 0])))
  refine ab_gen (fun h295 e296 => ?_)
  have c297 : h295[m]? = some (.inr (12, [.int 0, .ref (m + 1), .int 8, .ref (m + 2), .ref (m + 33), .int 0, .int (-1), .int (-1), .ref (m + 64), .ref (m + 74), .ref (m + 84), .ref (m + 94), .int 1, .int 0, .ref (m + 99), .ref (m + 100), .ref (m + 101), .ref (m + 102), .ref (m + 103), .ref (m + 104), .int 0, .ref (m + 105), .int 0, .int 0, .int 0, .ref (m + 106), .ref (m + 107), .int 0, .int 0])) := ab_self e296 c280
  have c298 : h295[m+1]? = some (.inl (.byte, 6000, .inl y292)) := ab_other e296 (by omega) c293
  have c299 : h295[m+99]? = some (.inl (.int, 256, .inl (fun _ => 0))) := ab_other e296 (by omega) c282
  have c300 : h295[m+100]? = some (.inl (.boolean, 256, .inl (fun _ => 0))) := ab_other e296 (by omega) c283
  have c301 : h295[m+101]? = some (.inl (.int, 64, .inl (fun _ => 0))) := ab_other e296 (by omega) c284
  have c302 : h295[m+102]? = some (.inl (.int, 4, .inl (fun _ => 0))) := ab_other e296 (by omega) c285
  have c303 : h295[m+103]? = some (.inl (.int, 4, .inl (fun _ => 0))) := ab_other e296 (by omega) c286
  have c304 : h295[m+104]? = some (.inl (.int, 256, .inl (fun _ => 0))) := ab_other e296 (by omega) c287
  have c305 : h295[m+105]? = some (.inl (.byte, 58000, .inl (fun _ => 0))) := ab_other e296 (by omega) c288
  have c306 : h295[m+106]? = some (.inl (.boolean, 8, .inl (a0_M w 25))) := ab_other e296 (by omega) c289
  have c307 : h295[m+107]? = some (.inl (.boolean, 8, .inl (fun _ => 0))) := ab_other e296 (by omega) c290
  have fr308 : ab_fr (fun _ => True) h h295 := ab_fr_set fr291 e296 (by trivial)
  clear c280 c293 c282 c283 c284 c285 c286 c287 c288 c289 c290 fr291 e296
  try clear h278
  refine ab_iinc (v := 8) (lv' := [some (.ref m), some (.int a), some (.int b), some (.int c), some (.int d), some (.int e), some (.int 8), some (.int b)]) d_M_feed_111 rfl (by decide) (by decide) rfl ?_
  refine ab_goto (tgt := 23) d_M_feed_114 (by decide) ?_
  refine ab_iload d_M_feed_23 rfl ?_
  refine ab_bipush (v := 20) d_M_feed_25 (by decide) ?_
  refine ab_icmp_ge (tgt := 117) d_M_feed_27 (by decide) (fun q309 => by exact absurd q309 (by decide)) (fun q309 => ?_)
  refine ab_iload d_M_feed_30 rfl ?_
  refine ab_iconst (v := 4) d_M_feed_32 (by decide) ?_
  refine ab_icmp_ge (tgt := 40) d_M_feed_33 (by decide) (fun q310 => ?_) (fun q310 => by exact absurd (by decide) q310)
  refine ab_iload d_M_feed_40 rfl ?_
  refine ab_bipush (v := 8) d_M_feed_42 (by decide) ?_
  refine ab_icmp_ge (tgt := 51) d_M_feed_44 (by decide) (fun q311 => ?_) (fun q311 => by exact absurd (by decide) q311)
  refine ab_iload d_M_feed_51 rfl ?_
  refine ab_bipush (v := 12) d_M_feed_53 (by decide) ?_
  refine ab_icmp_ge (tgt := 62) d_M_feed_55 (by decide) (fun q312 => by exact absurd q312 (by decide)) (fun q312 => ?_)
  refine ab_iload_n d_M_feed_58 rfl rfl ?_
  refine ab_goto (tgt := 76) d_M_feed_59 (by decide) ?_
  refine ab_istore (lv' := [some (.ref m), some (.int a), some (.int b), some (.int c), some (.int d), some (.int e), some (.int 8), some (.int c)]) d_M_feed_76 (by decide) rfl ?_
  refine ab_aload_n d_M_feed_78 rfl rfl rfl ?_
  refine ab_get (f := 1) d_M_feed_79 c297 rfl (by decide) (k9 234 rfl rfl) rfl ?_
  refine ab_aload_n d_M_feed_82 rfl rfl rfl ?_
  refine ab_get (f := 2) d_M_feed_83 c297 rfl (by decide) (k9 235 rfl rfl) rfl ?_
  refine ab_iload d_M_feed_86 rfl ?_
  refine ab_bipush (v := 24) d_M_feed_88 (by decide) ?_
  refine ab_bipush (v := 8) d_M_feed_90 (by decide) ?_
  refine ab_iload d_M_feed_92 rfl ?_
  refine ab_iconst (v := 4) d_M_feed_94 (by decide) ?_
  refine ab_irem d_M_feed_95 (by decide) ?_
  refine ab_topi (fun x313 ex313 => ?_)
  obtain rfl : x313 = 0 := ex313.trans (by decide)
  clear ex313
  refine ab_imul d_M_feed_96 ?_
  refine ab_topi (fun x314 ex314 => ?_)
  obtain rfl : x314 = 0 := ex314.trans (by decide)
  clear ex314
  refine ab_isub d_M_feed_97 ?_
  refine ab_topi (fun x315 ex315 => ?_)
  obtain rfl : x315 = 24 := ex315.trans (by decide)
  clear ex315
  refine ab_ishr d_M_feed_98 ?_
  refine ab_i2b d_M_feed_99 ?_
  refine ab_bast d_M_feed_100 tB c298 (in_of (by decide) (by decide) (by decide)) ?_
  refine ab_gen (fun h316 e317 => ?_)
  have c318 : h316[m]? = some (.inr (12, [.int 0, .ref (m + 1), .int 8, .ref (m + 2), .ref (m + 33), .int 0, .int (-1), .int (-1), .ref (m + 64), .ref (m + 74), .ref (m + 84), .ref (m + 94), .int 1, .int 0, .ref (m + 99), .ref (m + 100), .ref (m + 101), .ref (m + 102), .ref (m + 103), .ref (m + 104), .int 0, .ref (m + 105), .int 0, .int 0, .int 0, .ref (m + 106), .ref (m + 107), .int 0, .int 0])) := ab_other e317 (by omega) c297
  have c319 : h316[m+1]? = some (.inl (.byte, 6000, .inl (upd y292 (8 : Int32).toNatClampNeg (vp_nar .byte (((c >>> (24 &&& 31)) : Int32).toInt8.toInt32))))) := ab_self e317 c298
  have c320 : h316[m+99]? = some (.inl (.int, 256, .inl (fun _ => 0))) := ab_other e317 (by omega) c299
  have c321 : h316[m+100]? = some (.inl (.boolean, 256, .inl (fun _ => 0))) := ab_other e317 (by omega) c300
  have c322 : h316[m+101]? = some (.inl (.int, 64, .inl (fun _ => 0))) := ab_other e317 (by omega) c301
  have c323 : h316[m+102]? = some (.inl (.int, 4, .inl (fun _ => 0))) := ab_other e317 (by omega) c302
  have c324 : h316[m+103]? = some (.inl (.int, 4, .inl (fun _ => 0))) := ab_other e317 (by omega) c303
  have c325 : h316[m+104]? = some (.inl (.int, 256, .inl (fun _ => 0))) := ab_other e317 (by omega) c304
  have c326 : h316[m+105]? = some (.inl (.byte, 58000, .inl (fun _ => 0))) := ab_other e317 (by omega) c305
  have c327 : h316[m+106]? = some (.inl (.boolean, 8, .inl (a0_M w 25))) := ab_other e317 (by omega) c306
  have c328 : h316[m+107]? = some (.inl (.boolean, 8, .inl (fun _ => 0))) := ab_other e317 (by omega) c307
  have fr329 : ab_fr (fun _ => True) h h316 := ab_fr_set fr308 e317 (by trivial)
  clear c297 c298 c299 c300 c301 c302 c303 c304 c305 c306 c307 fr308 e317
  try clear h295
  obtain ⟨y330, c331⟩ : ∃ f : Nat → Int32, h316[m+1]? = some (.inl (.byte, 6000, .inl f)) := ⟨_, c319⟩
  clear c319
  refine ab_aload_n d_M_feed_101 rfl rfl rfl ?_
  refine ab_dup d_M_feed_102 rfl ?_
  refine ab_get (f := 2) d_M_feed_103 c318 rfl (by decide) (k9 235 rfl rfl) rfl ?_
  refine ab_iconst (v := 1) d_M_feed_106 (by decide) ?_
  refine ab_iadd d_M_feed_107 ?_
  refine ab_topi (fun x332 ex332 => ?_)
  obtain rfl : x332 = 9 := ex332.trans (by decide)
  clear ex332
  refine ab_put (f := 2) d_M_feed_108 c318 rfl (by decide) (k9 235 rfl rfl) rfl rfl (fun _ => rfl) (fun _ => rfl) (Nat.le_of_ble_eq_true rfl) ?_
  show ab_V _ _ _ _ _ _ _ 111 [some (.ref m), some (.int a), some (.int b), some (.int c), some (.int d), some (.int e), some (.int 8), some (.int c)] [] (h316.set m (.inr (12, [.int 0, .ref (m + 1), .int 9, .ref (m + 2), .ref (m + 33), .int 0, .int (-1), .int (-1), .ref (m + 64), .ref (m + 74), .ref (m + 84), .ref (m + 94), .int 1, .int 0, .ref (m + 99), .ref (m + 100), .ref (m + 101), .ref (m + 102), .ref (m + 103), .ref (m + 104), .int 0, .ref (m + 105), .int 0, .int 0, .int 0, .ref (m + 106), .ref (m + 107), .int 0, .int 0])))
  refine ab_gen (fun h333 e334 => ?_)
  have c335 : h333[m]? = some (.inr (12, [.int 0, .ref (m + 1), .int 9, .ref (m + 2), .ref (m + 33), .int 0, .int (-1), .int (-1), .ref (m + 64), .ref (m + 74), .ref (m + 84), .ref (m + 94), .int 1, .int 0, .ref (m + 99), .ref (m + 100), .ref (m + 101), .ref (m + 102), .ref (m + 103), .ref (m + 104), .int 0, .ref (m + 105), .int 0, .int 0, .int 0, .ref (m + 106), .ref (m + 107), .int 0, .int 0])) := ab_self e334 c318
  have c336 : h333[m+1]? = some (.inl (.byte, 6000, .inl y330)) := ab_other e334 (by omega) c331
  have c337 : h333[m+99]? = some (.inl (.int, 256, .inl (fun _ => 0))) := ab_other e334 (by omega) c320
  have c338 : h333[m+100]? = some (.inl (.boolean, 256, .inl (fun _ => 0))) := ab_other e334 (by omega) c321
  have c339 : h333[m+101]? = some (.inl (.int, 64, .inl (fun _ => 0))) := ab_other e334 (by omega) c322
  have c340 : h333[m+102]? = some (.inl (.int, 4, .inl (fun _ => 0))) := ab_other e334 (by omega) c323
  have c341 : h333[m+103]? = some (.inl (.int, 4, .inl (fun _ => 0))) := ab_other e334 (by omega) c324
  have c342 : h333[m+104]? = some (.inl (.int, 256, .inl (fun _ => 0))) := ab_other e334 (by omega) c325
  have c343 : h333[m+105]? = some (.inl (.byte, 58000, .inl (fun _ => 0))) := ab_other e334 (by omega) c326
  have c344 : h333[m+106]? = some (.inl (.boolean, 8, .inl (a0_M w 25))) := ab_other e334 (by omega) c327
  have c345 : h333[m+107]? = some (.inl (.boolean, 8, .inl (fun _ => 0))) := ab_other e334 (by omega) c328
  have fr346 : ab_fr (fun _ => True) h h333 := ab_fr_set fr329 e334 (by trivial)
  clear c318 c331 c320 c321 c322 c323 c324 c325 c326 c327 c328 fr329 e334
  try clear h316
  refine ab_iinc (v := 9) (lv' := [some (.ref m), some (.int a), some (.int b), some (.int c), some (.int d), some (.int e), some (.int 9), some (.int c)]) d_M_feed_111 rfl (by decide) (by decide) rfl ?_
  refine ab_goto (tgt := 23) d_M_feed_114 (by decide) ?_
  refine ab_iload d_M_feed_23 rfl ?_
  refine ab_bipush (v := 20) d_M_feed_25 (by decide) ?_
  refine ab_icmp_ge (tgt := 117) d_M_feed_27 (by decide) (fun q347 => by exact absurd q347 (by decide)) (fun q347 => ?_)
  refine ab_iload d_M_feed_30 rfl ?_
  refine ab_iconst (v := 4) d_M_feed_32 (by decide) ?_
  refine ab_icmp_ge (tgt := 40) d_M_feed_33 (by decide) (fun q348 => ?_) (fun q348 => by exact absurd (by decide) q348)
  refine ab_iload d_M_feed_40 rfl ?_
  refine ab_bipush (v := 8) d_M_feed_42 (by decide) ?_
  refine ab_icmp_ge (tgt := 51) d_M_feed_44 (by decide) (fun q349 => ?_) (fun q349 => by exact absurd (by decide) q349)
  refine ab_iload d_M_feed_51 rfl ?_
  refine ab_bipush (v := 12) d_M_feed_53 (by decide) ?_
  refine ab_icmp_ge (tgt := 62) d_M_feed_55 (by decide) (fun q350 => by exact absurd q350 (by decide)) (fun q350 => ?_)
  refine ab_iload_n d_M_feed_58 rfl rfl ?_
  refine ab_goto (tgt := 76) d_M_feed_59 (by decide) ?_
  refine ab_istore (lv' := [some (.ref m), some (.int a), some (.int b), some (.int c), some (.int d), some (.int e), some (.int 9), some (.int c)]) d_M_feed_76 (by decide) rfl ?_
  refine ab_aload_n d_M_feed_78 rfl rfl rfl ?_
  refine ab_get (f := 1) d_M_feed_79 c335 rfl (by decide) (k9 234 rfl rfl) rfl ?_
  refine ab_aload_n d_M_feed_82 rfl rfl rfl ?_
  refine ab_get (f := 2) d_M_feed_83 c335 rfl (by decide) (k9 235 rfl rfl) rfl ?_
  refine ab_iload d_M_feed_86 rfl ?_
  refine ab_bipush (v := 24) d_M_feed_88 (by decide) ?_
  refine ab_bipush (v := 8) d_M_feed_90 (by decide) ?_
  refine ab_iload d_M_feed_92 rfl ?_
  refine ab_iconst (v := 4) d_M_feed_94 (by decide) ?_
  refine ab_irem d_M_feed_95 (by decide) ?_
  refine ab_topi (fun x351 ex351 => ?_)
  obtain rfl : x351 = 1 := ex351.trans (by decide)
  clear ex351
  refine ab_imul d_M_feed_96 ?_
  refine ab_topi (fun x352 ex352 => ?_)
  obtain rfl : x352 = 8 := ex352.trans (by decide)
  clear ex352
  refine ab_isub d_M_feed_97 ?_
  refine ab_topi (fun x353 ex353 => ?_)
  obtain rfl : x353 = 16 := ex353.trans (by decide)
  clear ex353
  refine ab_ishr d_M_feed_98 ?_
  refine ab_i2b d_M_feed_99 ?_
  refine ab_bast d_M_feed_100 tB c336 (in_of (by decide) (by decide) (by decide)) ?_
  refine ab_gen (fun h354 e355 => ?_)
  have c356 : h354[m]? = some (.inr (12, [.int 0, .ref (m + 1), .int 9, .ref (m + 2), .ref (m + 33), .int 0, .int (-1), .int (-1), .ref (m + 64), .ref (m + 74), .ref (m + 84), .ref (m + 94), .int 1, .int 0, .ref (m + 99), .ref (m + 100), .ref (m + 101), .ref (m + 102), .ref (m + 103), .ref (m + 104), .int 0, .ref (m + 105), .int 0, .int 0, .int 0, .ref (m + 106), .ref (m + 107), .int 0, .int 0])) := ab_other e355 (by omega) c335
  have c357 : h354[m+1]? = some (.inl (.byte, 6000, .inl (upd y330 (9 : Int32).toNatClampNeg (vp_nar .byte (((c >>> (16 &&& 31)) : Int32).toInt8.toInt32))))) := ab_self e355 c336
  have c358 : h354[m+99]? = some (.inl (.int, 256, .inl (fun _ => 0))) := ab_other e355 (by omega) c337
  have c359 : h354[m+100]? = some (.inl (.boolean, 256, .inl (fun _ => 0))) := ab_other e355 (by omega) c338
  have c360 : h354[m+101]? = some (.inl (.int, 64, .inl (fun _ => 0))) := ab_other e355 (by omega) c339
  have c361 : h354[m+102]? = some (.inl (.int, 4, .inl (fun _ => 0))) := ab_other e355 (by omega) c340
  have c362 : h354[m+103]? = some (.inl (.int, 4, .inl (fun _ => 0))) := ab_other e355 (by omega) c341
  have c363 : h354[m+104]? = some (.inl (.int, 256, .inl (fun _ => 0))) := ab_other e355 (by omega) c342
  have c364 : h354[m+105]? = some (.inl (.byte, 58000, .inl (fun _ => 0))) := ab_other e355 (by omega) c343
  have c365 : h354[m+106]? = some (.inl (.boolean, 8, .inl (a0_M w 25))) := ab_other e355 (by omega) c344
  have c366 : h354[m+107]? = some (.inl (.boolean, 8, .inl (fun _ => 0))) := ab_other e355 (by omega) c345
  have fr367 : ab_fr (fun _ => True) h h354 := ab_fr_set fr346 e355 (by trivial)
  clear c335 c336 c337 c338 c339 c340 c341 c342 c343 c344 c345 fr346 e355
  try clear h333
  obtain ⟨y368, c369⟩ : ∃ f : Nat → Int32, h354[m+1]? = some (.inl (.byte, 6000, .inl f)) := ⟨_, c357⟩
  clear c357
  refine ab_aload_n d_M_feed_101 rfl rfl rfl ?_
  refine ab_dup d_M_feed_102 rfl ?_
  refine ab_get (f := 2) d_M_feed_103 c356 rfl (by decide) (k9 235 rfl rfl) rfl ?_
  refine ab_iconst (v := 1) d_M_feed_106 (by decide) ?_
  refine ab_iadd d_M_feed_107 ?_
  refine ab_topi (fun x370 ex370 => ?_)
  obtain rfl : x370 = 10 := ex370.trans (by decide)
  clear ex370
  refine ab_put (f := 2) d_M_feed_108 c356 rfl (by decide) (k9 235 rfl rfl) rfl rfl (fun _ => rfl) (fun _ => rfl) (Nat.le_of_ble_eq_true rfl) ?_
  show ab_V _ _ _ _ _ _ _ 111 [some (.ref m), some (.int a), some (.int b), some (.int c), some (.int d), some (.int e), some (.int 9), some (.int c)] [] (h354.set m (.inr (12, [.int 0, .ref (m + 1), .int 10, .ref (m + 2), .ref (m + 33), .int 0, .int (-1), .int (-1), .ref (m + 64), .ref (m + 74), .ref (m + 84), .ref (m + 94), .int 1, .int 0, .ref (m + 99), .ref (m + 100), .ref (m + 101), .ref (m + 102), .ref (m + 103), .ref (m + 104), .int 0, .ref (m + 105), .int 0, .int 0, .int 0, .ref (m + 106), .ref (m + 107), .int 0, .int 0])))
  refine ab_gen (fun h371 e372 => ?_)
  have c373 : h371[m]? = some (.inr (12, [.int 0, .ref (m + 1), .int 10, .ref (m + 2), .ref (m + 33), .int 0, .int (-1), .int (-1), .ref (m + 64), .ref (m + 74), .ref (m + 84), .ref (m + 94), .int 1, .int 0, .ref (m + 99), .ref (m + 100), .ref (m + 101), .ref (m + 102), .ref (m + 103), .ref (m + 104), .int 0, .ref (m + 105), .int 0, .int 0, .int 0, .ref (m + 106), .ref (m + 107), .int 0, .int 0])) := ab_self e372 c356
  have c374 : h371[m+1]? = some (.inl (.byte, 6000, .inl y368)) := ab_other e372 (by omega) c369
  have c375 : h371[m+99]? = some (.inl (.int, 256, .inl (fun _ => 0))) := ab_other e372 (by omega) c358
  have c376 : h371[m+100]? = some (.inl (.boolean, 256, .inl (fun _ => 0))) := ab_other e372 (by omega) c359
  have c377 : h371[m+101]? = some (.inl (.int, 64, .inl (fun _ => 0))) := ab_other e372 (by omega) c360
  have c378 : h371[m+102]? = some (.inl (.int, 4, .inl (fun _ => 0))) := ab_other e372 (by omega) c361
  have c379 : h371[m+103]? = some (.inl (.int, 4, .inl (fun _ => 0))) := ab_other e372 (by omega) c362
  have c380 : h371[m+104]? = some (.inl (.int, 256, .inl (fun _ => 0))) := ab_other e372 (by omega) c363
  have c381 : h371[m+105]? = some (.inl (.byte, 58000, .inl (fun _ => 0))) := ab_other e372 (by omega) c364
  have c382 : h371[m+106]? = some (.inl (.boolean, 8, .inl (a0_M w 25))) := ab_other e372 (by omega) c365
  have c383 : h371[m+107]? = some (.inl (.boolean, 8, .inl (fun _ => 0))) := ab_other e372 (by omega) c366
  have fr384 : ab_fr (fun _ => True) h h371 := ab_fr_set fr367 e372 (by trivial)
  clear c356 c369 c358 c359 c360 c361 c362 c363 c364 c365 c366 fr367 e372
  try clear h354
  refine ab_iinc (v := 10) (lv' := [some (.ref m), some (.int a), some (.int b), some (.int c), some (.int d), some (.int e), some (.int 10), some (.int c)]) d_M_feed_111 rfl (by decide) (by decide) rfl ?_
  refine ab_goto (tgt := 23) d_M_feed_114 (by decide) ?_
  refine ab_iload d_M_feed_23 rfl ?_
  refine ab_bipush (v := 20) d_M_feed_25 (by decide) ?_
  refine ab_icmp_ge (tgt := 117) d_M_feed_27 (by decide) (fun q385 => by exact absurd q385 (by decide)) (fun q385 => ?_)
  refine ab_iload d_M_feed_30 rfl ?_
  refine ab_iconst (v := 4) d_M_feed_32 (by decide) ?_
  refine ab_icmp_ge (tgt := 40) d_M_feed_33 (by decide) (fun q386 => ?_) (fun q386 => by exact absurd (by decide) q386)
  refine ab_iload d_M_feed_40 rfl ?_
  refine ab_bipush (v := 8) d_M_feed_42 (by decide) ?_
  refine ab_icmp_ge (tgt := 51) d_M_feed_44 (by decide) (fun q387 => ?_) (fun q387 => by exact absurd (by decide) q387)
  refine ab_iload d_M_feed_51 rfl ?_
  refine ab_bipush (v := 12) d_M_feed_53 (by decide) ?_
  refine ab_icmp_ge (tgt := 62) d_M_feed_55 (by decide) (fun q388 => by exact absurd q388 (by decide)) (fun q388 => ?_)
  refine ab_iload_n d_M_feed_58 rfl rfl ?_
  refine ab_goto (tgt := 76) d_M_feed_59 (by decide) ?_
  refine ab_istore (lv' := [some (.ref m), some (.int a), some (.int b), some (.int c), some (.int d), some (.int e), some (.int 10), some (.int c)]) d_M_feed_76 (by decide) rfl ?_
  refine ab_aload_n d_M_feed_78 rfl rfl rfl ?_
  refine ab_get (f := 1) d_M_feed_79 c373 rfl (by decide) (k9 234 rfl rfl) rfl ?_
  refine ab_aload_n d_M_feed_82 rfl rfl rfl ?_
  refine ab_get (f := 2) d_M_feed_83 c373 rfl (by decide) (k9 235 rfl rfl) rfl ?_
  refine ab_iload d_M_feed_86 rfl ?_
  refine ab_bipush (v := 24) d_M_feed_88 (by decide) ?_
  refine ab_bipush (v := 8) d_M_feed_90 (by decide) ?_
  refine ab_iload d_M_feed_92 rfl ?_
  refine ab_iconst (v := 4) d_M_feed_94 (by decide) ?_
  refine ab_irem d_M_feed_95 (by decide) ?_
  refine ab_topi (fun x389 ex389 => ?_)
  obtain rfl : x389 = 2 := ex389.trans (by decide)
  clear ex389
  refine ab_imul d_M_feed_96 ?_
  refine ab_topi (fun x390 ex390 => ?_)
  obtain rfl : x390 = 16 := ex390.trans (by decide)
  clear ex390
  refine ab_isub d_M_feed_97 ?_
  refine ab_topi (fun x391 ex391 => ?_)
  obtain rfl : x391 = 8 := ex391.trans (by decide)
  clear ex391
  refine ab_ishr d_M_feed_98 ?_
  refine ab_i2b d_M_feed_99 ?_
  refine ab_bast d_M_feed_100 tB c374 (in_of (by decide) (by decide) (by decide)) ?_
  refine ab_gen (fun h392 e393 => ?_)
  have c394 : h392[m]? = some (.inr (12, [.int 0, .ref (m + 1), .int 10, .ref (m + 2), .ref (m + 33), .int 0, .int (-1), .int (-1), .ref (m + 64), .ref (m + 74), .ref (m + 84), .ref (m + 94), .int 1, .int 0, .ref (m + 99), .ref (m + 100), .ref (m + 101), .ref (m + 102), .ref (m + 103), .ref (m + 104), .int 0, .ref (m + 105), .int 0, .int 0, .int 0, .ref (m + 106), .ref (m + 107), .int 0, .int 0])) := ab_other e393 (by omega) c373
  have c395 : h392[m+1]? = some (.inl (.byte, 6000, .inl (upd y368 (10 : Int32).toNatClampNeg (vp_nar .byte (((c >>> (8 &&& 31)) : Int32).toInt8.toInt32))))) := ab_self e393 c374
  have c396 : h392[m+99]? = some (.inl (.int, 256, .inl (fun _ => 0))) := ab_other e393 (by omega) c375
  have c397 : h392[m+100]? = some (.inl (.boolean, 256, .inl (fun _ => 0))) := ab_other e393 (by omega) c376
  have c398 : h392[m+101]? = some (.inl (.int, 64, .inl (fun _ => 0))) := ab_other e393 (by omega) c377
  have c399 : h392[m+102]? = some (.inl (.int, 4, .inl (fun _ => 0))) := ab_other e393 (by omega) c378
  have c400 : h392[m+103]? = some (.inl (.int, 4, .inl (fun _ => 0))) := ab_other e393 (by omega) c379
  have c401 : h392[m+104]? = some (.inl (.int, 256, .inl (fun _ => 0))) := ab_other e393 (by omega) c380
  have c402 : h392[m+105]? = some (.inl (.byte, 58000, .inl (fun _ => 0))) := ab_other e393 (by omega) c381
  have c403 : h392[m+106]? = some (.inl (.boolean, 8, .inl (a0_M w 25))) := ab_other e393 (by omega) c382
  have c404 : h392[m+107]? = some (.inl (.boolean, 8, .inl (fun _ => 0))) := ab_other e393 (by omega) c383
  have fr405 : ab_fr (fun _ => True) h h392 := ab_fr_set fr384 e393 (by trivial)
  clear c373 c374 c375 c376 c377 c378 c379 c380 c381 c382 c383 fr384 e393
  try clear h371
  obtain ⟨y406, c407⟩ : ∃ f : Nat → Int32, h392[m+1]? = some (.inl (.byte, 6000, .inl f)) := ⟨_, c395⟩
  clear c395
  refine ab_aload_n d_M_feed_101 rfl rfl rfl ?_
  refine ab_dup d_M_feed_102 rfl ?_
  refine ab_get (f := 2) d_M_feed_103 c394 rfl (by decide) (k9 235 rfl rfl) rfl ?_
  refine ab_iconst (v := 1) d_M_feed_106 (by decide) ?_
  refine ab_iadd d_M_feed_107 ?_
  refine ab_topi (fun x408 ex408 => ?_)
  obtain rfl : x408 = 11 := ex408.trans (by decide)
  clear ex408
  refine ab_put (f := 2) d_M_feed_108 c394 rfl (by decide) (k9 235 rfl rfl) rfl rfl (fun _ => rfl) (fun _ => rfl) (Nat.le_of_ble_eq_true rfl) ?_
  show ab_V _ _ _ _ _ _ _ 111 [some (.ref m), some (.int a), some (.int b), some (.int c), some (.int d), some (.int e), some (.int 10), some (.int c)] [] (h392.set m (.inr (12, [.int 0, .ref (m + 1), .int 11, .ref (m + 2), .ref (m + 33), .int 0, .int (-1), .int (-1), .ref (m + 64), .ref (m + 74), .ref (m + 84), .ref (m + 94), .int 1, .int 0, .ref (m + 99), .ref (m + 100), .ref (m + 101), .ref (m + 102), .ref (m + 103), .ref (m + 104), .int 0, .ref (m + 105), .int 0, .int 0, .int 0, .ref (m + 106), .ref (m + 107), .int 0, .int 0])))
  refine ab_gen (fun h409 e410 => ?_)
  have c411 : h409[m]? = some (.inr (12, [.int 0, .ref (m + 1), .int 11, .ref (m + 2), .ref (m + 33), .int 0, .int (-1), .int (-1), .ref (m + 64), .ref (m + 74), .ref (m + 84), .ref (m + 94), .int 1, .int 0, .ref (m + 99), .ref (m + 100), .ref (m + 101), .ref (m + 102), .ref (m + 103), .ref (m + 104), .int 0, .ref (m + 105), .int 0, .int 0, .int 0, .ref (m + 106), .ref (m + 107), .int 0, .int 0])) := ab_self e410 c394
  have c412 : h409[m+1]? = some (.inl (.byte, 6000, .inl y406)) := ab_other e410 (by omega) c407
  have c413 : h409[m+99]? = some (.inl (.int, 256, .inl (fun _ => 0))) := ab_other e410 (by omega) c396
  have c414 : h409[m+100]? = some (.inl (.boolean, 256, .inl (fun _ => 0))) := ab_other e410 (by omega) c397
  have c415 : h409[m+101]? = some (.inl (.int, 64, .inl (fun _ => 0))) := ab_other e410 (by omega) c398
  have c416 : h409[m+102]? = some (.inl (.int, 4, .inl (fun _ => 0))) := ab_other e410 (by omega) c399
  have c417 : h409[m+103]? = some (.inl (.int, 4, .inl (fun _ => 0))) := ab_other e410 (by omega) c400
  have c418 : h409[m+104]? = some (.inl (.int, 256, .inl (fun _ => 0))) := ab_other e410 (by omega) c401
  have c419 : h409[m+105]? = some (.inl (.byte, 58000, .inl (fun _ => 0))) := ab_other e410 (by omega) c402
  have c420 : h409[m+106]? = some (.inl (.boolean, 8, .inl (a0_M w 25))) := ab_other e410 (by omega) c403
  have c421 : h409[m+107]? = some (.inl (.boolean, 8, .inl (fun _ => 0))) := ab_other e410 (by omega) c404
  have fr422 : ab_fr (fun _ => True) h h409 := ab_fr_set fr405 e410 (by trivial)
  clear c394 c407 c396 c397 c398 c399 c400 c401 c402 c403 c404 fr405 e410
  try clear h392
  refine ab_iinc (v := 11) (lv' := [some (.ref m), some (.int a), some (.int b), some (.int c), some (.int d), some (.int e), some (.int 11), some (.int c)]) d_M_feed_111 rfl (by decide) (by decide) rfl ?_
  refine ab_goto (tgt := 23) d_M_feed_114 (by decide) ?_
  refine ab_iload d_M_feed_23 rfl ?_
  refine ab_bipush (v := 20) d_M_feed_25 (by decide) ?_
  refine ab_icmp_ge (tgt := 117) d_M_feed_27 (by decide) (fun q423 => by exact absurd q423 (by decide)) (fun q423 => ?_)
  refine ab_iload d_M_feed_30 rfl ?_
  refine ab_iconst (v := 4) d_M_feed_32 (by decide) ?_
  refine ab_icmp_ge (tgt := 40) d_M_feed_33 (by decide) (fun q424 => ?_) (fun q424 => by exact absurd (by decide) q424)
  refine ab_iload d_M_feed_40 rfl ?_
  refine ab_bipush (v := 8) d_M_feed_42 (by decide) ?_
  refine ab_icmp_ge (tgt := 51) d_M_feed_44 (by decide) (fun q425 => ?_) (fun q425 => by exact absurd (by decide) q425)
  refine ab_iload d_M_feed_51 rfl ?_
  refine ab_bipush (v := 12) d_M_feed_53 (by decide) ?_
  refine ab_icmp_ge (tgt := 62) d_M_feed_55 (by decide) (fun q426 => by exact absurd q426 (by decide)) (fun q426 => ?_)
  refine ab_iload_n d_M_feed_58 rfl rfl ?_
  refine ab_goto (tgt := 76) d_M_feed_59 (by decide) ?_
  refine ab_istore (lv' := [some (.ref m), some (.int a), some (.int b), some (.int c), some (.int d), some (.int e), some (.int 11), some (.int c)]) d_M_feed_76 (by decide) rfl ?_
  refine ab_aload_n d_M_feed_78 rfl rfl rfl ?_
  refine ab_get (f := 1) d_M_feed_79 c411 rfl (by decide) (k9 234 rfl rfl) rfl ?_
  refine ab_aload_n d_M_feed_82 rfl rfl rfl ?_
  refine ab_get (f := 2) d_M_feed_83 c411 rfl (by decide) (k9 235 rfl rfl) rfl ?_
  refine ab_iload d_M_feed_86 rfl ?_
  refine ab_bipush (v := 24) d_M_feed_88 (by decide) ?_
  refine ab_bipush (v := 8) d_M_feed_90 (by decide) ?_
  refine ab_iload d_M_feed_92 rfl ?_
  refine ab_iconst (v := 4) d_M_feed_94 (by decide) ?_
  refine ab_irem d_M_feed_95 (by decide) ?_
  refine ab_topi (fun x427 ex427 => ?_)
  obtain rfl : x427 = 3 := ex427.trans (by decide)
  clear ex427
  refine ab_imul d_M_feed_96 ?_
  refine ab_topi (fun x428 ex428 => ?_)
  obtain rfl : x428 = 24 := ex428.trans (by decide)
  clear ex428
  refine ab_isub d_M_feed_97 ?_
  refine ab_topi (fun x429 ex429 => ?_)
  obtain rfl : x429 = 0 := ex429.trans (by decide)
  clear ex429
  refine ab_ishr d_M_feed_98 ?_
  refine ab_i2b d_M_feed_99 ?_
  refine ab_bast d_M_feed_100 tB c412 (in_of (by decide) (by decide) (by decide)) ?_
  refine ab_gen (fun h430 e431 => ?_)
  have c432 : h430[m]? = some (.inr (12, [.int 0, .ref (m + 1), .int 11, .ref (m + 2), .ref (m + 33), .int 0, .int (-1), .int (-1), .ref (m + 64), .ref (m + 74), .ref (m + 84), .ref (m + 94), .int 1, .int 0, .ref (m + 99), .ref (m + 100), .ref (m + 101), .ref (m + 102), .ref (m + 103), .ref (m + 104), .int 0, .ref (m + 105), .int 0, .int 0, .int 0, .ref (m + 106), .ref (m + 107), .int 0, .int 0])) := ab_other e431 (by omega) c411
  have c433 : h430[m+1]? = some (.inl (.byte, 6000, .inl (upd y406 (11 : Int32).toNatClampNeg (vp_nar .byte (((c >>> (0 &&& 31)) : Int32).toInt8.toInt32))))) := ab_self e431 c412
  have c434 : h430[m+99]? = some (.inl (.int, 256, .inl (fun _ => 0))) := ab_other e431 (by omega) c413
  have c435 : h430[m+100]? = some (.inl (.boolean, 256, .inl (fun _ => 0))) := ab_other e431 (by omega) c414
  have c436 : h430[m+101]? = some (.inl (.int, 64, .inl (fun _ => 0))) := ab_other e431 (by omega) c415
  have c437 : h430[m+102]? = some (.inl (.int, 4, .inl (fun _ => 0))) := ab_other e431 (by omega) c416
  have c438 : h430[m+103]? = some (.inl (.int, 4, .inl (fun _ => 0))) := ab_other e431 (by omega) c417
  have c439 : h430[m+104]? = some (.inl (.int, 256, .inl (fun _ => 0))) := ab_other e431 (by omega) c418
  have c440 : h430[m+105]? = some (.inl (.byte, 58000, .inl (fun _ => 0))) := ab_other e431 (by omega) c419
  have c441 : h430[m+106]? = some (.inl (.boolean, 8, .inl (a0_M w 25))) := ab_other e431 (by omega) c420
  have c442 : h430[m+107]? = some (.inl (.boolean, 8, .inl (fun _ => 0))) := ab_other e431 (by omega) c421
  have fr443 : ab_fr (fun _ => True) h h430 := ab_fr_set fr422 e431 (by trivial)
  clear c411 c412 c413 c414 c415 c416 c417 c418 c419 c420 c421 fr422 e431
  try clear h409
  obtain ⟨y444, c445⟩ : ∃ f : Nat → Int32, h430[m+1]? = some (.inl (.byte, 6000, .inl f)) := ⟨_, c433⟩
  clear c433
  refine ab_aload_n d_M_feed_101 rfl rfl rfl ?_
  refine ab_dup d_M_feed_102 rfl ?_
  refine ab_get (f := 2) d_M_feed_103 c432 rfl (by decide) (k9 235 rfl rfl) rfl ?_
  refine ab_iconst (v := 1) d_M_feed_106 (by decide) ?_
  refine ab_iadd d_M_feed_107 ?_
  refine ab_topi (fun x446 ex446 => ?_)
  obtain rfl : x446 = 12 := ex446.trans (by decide)
  clear ex446
  refine ab_put (f := 2) d_M_feed_108 c432 rfl (by decide) (k9 235 rfl rfl) rfl rfl (fun _ => rfl) (fun _ => rfl) (Nat.le_of_ble_eq_true rfl) ?_
  show ab_V _ _ _ _ _ _ _ 111 [some (.ref m), some (.int a), some (.int b), some (.int c), some (.int d), some (.int e), some (.int 11), some (.int c)] [] (h430.set m (.inr (12, [.int 0, .ref (m + 1), .int 12, .ref (m + 2), .ref (m + 33), .int 0, .int (-1), .int (-1), .ref (m + 64), .ref (m + 74), .ref (m + 84), .ref (m + 94), .int 1, .int 0, .ref (m + 99), .ref (m + 100), .ref (m + 101), .ref (m + 102), .ref (m + 103), .ref (m + 104), .int 0, .ref (m + 105), .int 0, .int 0, .int 0, .ref (m + 106), .ref (m + 107), .int 0, .int 0])))
  refine ab_gen (fun h447 e448 => ?_)
  have c449 : h447[m]? = some (.inr (12, [.int 0, .ref (m + 1), .int 12, .ref (m + 2), .ref (m + 33), .int 0, .int (-1), .int (-1), .ref (m + 64), .ref (m + 74), .ref (m + 84), .ref (m + 94), .int 1, .int 0, .ref (m + 99), .ref (m + 100), .ref (m + 101), .ref (m + 102), .ref (m + 103), .ref (m + 104), .int 0, .ref (m + 105), .int 0, .int 0, .int 0, .ref (m + 106), .ref (m + 107), .int 0, .int 0])) := ab_self e448 c432
  have c450 : h447[m+1]? = some (.inl (.byte, 6000, .inl y444)) := ab_other e448 (by omega) c445
  have c451 : h447[m+99]? = some (.inl (.int, 256, .inl (fun _ => 0))) := ab_other e448 (by omega) c434
  have c452 : h447[m+100]? = some (.inl (.boolean, 256, .inl (fun _ => 0))) := ab_other e448 (by omega) c435
  have c453 : h447[m+101]? = some (.inl (.int, 64, .inl (fun _ => 0))) := ab_other e448 (by omega) c436
  have c454 : h447[m+102]? = some (.inl (.int, 4, .inl (fun _ => 0))) := ab_other e448 (by omega) c437
  have c455 : h447[m+103]? = some (.inl (.int, 4, .inl (fun _ => 0))) := ab_other e448 (by omega) c438
  have c456 : h447[m+104]? = some (.inl (.int, 256, .inl (fun _ => 0))) := ab_other e448 (by omega) c439
  have c457 : h447[m+105]? = some (.inl (.byte, 58000, .inl (fun _ => 0))) := ab_other e448 (by omega) c440
  have c458 : h447[m+106]? = some (.inl (.boolean, 8, .inl (a0_M w 25))) := ab_other e448 (by omega) c441
  have c459 : h447[m+107]? = some (.inl (.boolean, 8, .inl (fun _ => 0))) := ab_other e448 (by omega) c442
  have fr460 : ab_fr (fun _ => True) h h447 := ab_fr_set fr443 e448 (by trivial)
  clear c432 c445 c434 c435 c436 c437 c438 c439 c440 c441 c442 fr443 e448
  try clear h430
  refine ab_iinc (v := 12) (lv' := [some (.ref m), some (.int a), some (.int b), some (.int c), some (.int d), some (.int e), some (.int 12), some (.int c)]) d_M_feed_111 rfl (by decide) (by decide) rfl ?_
  refine ab_goto (tgt := 23) d_M_feed_114 (by decide) ?_
  refine ab_iload d_M_feed_23 rfl ?_
  refine ab_bipush (v := 20) d_M_feed_25 (by decide) ?_
  refine ab_icmp_ge (tgt := 117) d_M_feed_27 (by decide) (fun q461 => by exact absurd q461 (by decide)) (fun q461 => ?_)
  refine ab_iload d_M_feed_30 rfl ?_
  refine ab_iconst (v := 4) d_M_feed_32 (by decide) ?_
  refine ab_icmp_ge (tgt := 40) d_M_feed_33 (by decide) (fun q462 => ?_) (fun q462 => by exact absurd (by decide) q462)
  refine ab_iload d_M_feed_40 rfl ?_
  refine ab_bipush (v := 8) d_M_feed_42 (by decide) ?_
  refine ab_icmp_ge (tgt := 51) d_M_feed_44 (by decide) (fun q463 => ?_) (fun q463 => by exact absurd (by decide) q463)
  refine ab_iload d_M_feed_51 rfl ?_
  refine ab_bipush (v := 12) d_M_feed_53 (by decide) ?_
  refine ab_icmp_ge (tgt := 62) d_M_feed_55 (by decide) (fun q464 => ?_) (fun q464 => by exact absurd (by decide) q464)
  refine ab_iload d_M_feed_62 rfl ?_
  refine ab_bipush (v := 16) d_M_feed_64 (by decide) ?_
  refine ab_icmp_ge (tgt := 74) d_M_feed_66 (by decide) (fun q465 => by exact absurd q465 (by decide)) (fun q465 => ?_)
  refine ab_iload d_M_feed_69 rfl ?_
  refine ab_goto (tgt := 76) d_M_feed_71 (by decide) ?_
  refine ab_istore (lv' := [some (.ref m), some (.int a), some (.int b), some (.int c), some (.int d), some (.int e), some (.int 12), some (.int d)]) d_M_feed_76 (by decide) rfl ?_
  refine ab_aload_n d_M_feed_78 rfl rfl rfl ?_
  refine ab_get (f := 1) d_M_feed_79 c449 rfl (by decide) (k9 234 rfl rfl) rfl ?_
  refine ab_aload_n d_M_feed_82 rfl rfl rfl ?_
  refine ab_get (f := 2) d_M_feed_83 c449 rfl (by decide) (k9 235 rfl rfl) rfl ?_
  refine ab_iload d_M_feed_86 rfl ?_
  refine ab_bipush (v := 24) d_M_feed_88 (by decide) ?_
  refine ab_bipush (v := 8) d_M_feed_90 (by decide) ?_
  refine ab_iload d_M_feed_92 rfl ?_
  refine ab_iconst (v := 4) d_M_feed_94 (by decide) ?_
  refine ab_irem d_M_feed_95 (by decide) ?_
  refine ab_topi (fun x466 ex466 => ?_)
  obtain rfl : x466 = 0 := ex466.trans (by decide)
  clear ex466
  refine ab_imul d_M_feed_96 ?_
  refine ab_topi (fun x467 ex467 => ?_)
  obtain rfl : x467 = 0 := ex467.trans (by decide)
  clear ex467
  refine ab_isub d_M_feed_97 ?_
  refine ab_topi (fun x468 ex468 => ?_)
  obtain rfl : x468 = 24 := ex468.trans (by decide)
  clear ex468
  refine ab_ishr d_M_feed_98 ?_
  refine ab_i2b d_M_feed_99 ?_
  refine ab_bast d_M_feed_100 tB c450 (in_of (by decide) (by decide) (by decide)) ?_
  refine ab_gen (fun h469 e470 => ?_)
  have c471 : h469[m]? = some (.inr (12, [.int 0, .ref (m + 1), .int 12, .ref (m + 2), .ref (m + 33), .int 0, .int (-1), .int (-1), .ref (m + 64), .ref (m + 74), .ref (m + 84), .ref (m + 94), .int 1, .int 0, .ref (m + 99), .ref (m + 100), .ref (m + 101), .ref (m + 102), .ref (m + 103), .ref (m + 104), .int 0, .ref (m + 105), .int 0, .int 0, .int 0, .ref (m + 106), .ref (m + 107), .int 0, .int 0])) := ab_other e470 (by omega) c449
  have c472 : h469[m+1]? = some (.inl (.byte, 6000, .inl (upd y444 (12 : Int32).toNatClampNeg (vp_nar .byte (((d >>> (24 &&& 31)) : Int32).toInt8.toInt32))))) := ab_self e470 c450
  have c473 : h469[m+99]? = some (.inl (.int, 256, .inl (fun _ => 0))) := ab_other e470 (by omega) c451
  have c474 : h469[m+100]? = some (.inl (.boolean, 256, .inl (fun _ => 0))) := ab_other e470 (by omega) c452
  have c475 : h469[m+101]? = some (.inl (.int, 64, .inl (fun _ => 0))) := ab_other e470 (by omega) c453
  have c476 : h469[m+102]? = some (.inl (.int, 4, .inl (fun _ => 0))) := ab_other e470 (by omega) c454
  have c477 : h469[m+103]? = some (.inl (.int, 4, .inl (fun _ => 0))) := ab_other e470 (by omega) c455
  have c478 : h469[m+104]? = some (.inl (.int, 256, .inl (fun _ => 0))) := ab_other e470 (by omega) c456
  have c479 : h469[m+105]? = some (.inl (.byte, 58000, .inl (fun _ => 0))) := ab_other e470 (by omega) c457
  have c480 : h469[m+106]? = some (.inl (.boolean, 8, .inl (a0_M w 25))) := ab_other e470 (by omega) c458
  have c481 : h469[m+107]? = some (.inl (.boolean, 8, .inl (fun _ => 0))) := ab_other e470 (by omega) c459
  have fr482 : ab_fr (fun _ => True) h h469 := ab_fr_set fr460 e470 (by trivial)
  clear c449 c450 c451 c452 c453 c454 c455 c456 c457 c458 c459 fr460 e470
  try clear h447
  obtain ⟨y483, c484⟩ : ∃ f : Nat → Int32, h469[m+1]? = some (.inl (.byte, 6000, .inl f)) := ⟨_, c472⟩
  clear c472
  refine ab_aload_n d_M_feed_101 rfl rfl rfl ?_
  refine ab_dup d_M_feed_102 rfl ?_
  refine ab_get (f := 2) d_M_feed_103 c471 rfl (by decide) (k9 235 rfl rfl) rfl ?_
  refine ab_iconst (v := 1) d_M_feed_106 (by decide) ?_
  refine ab_iadd d_M_feed_107 ?_
  refine ab_topi (fun x485 ex485 => ?_)
  obtain rfl : x485 = 13 := ex485.trans (by decide)
  clear ex485
  refine ab_put (f := 2) d_M_feed_108 c471 rfl (by decide) (k9 235 rfl rfl) rfl rfl (fun _ => rfl) (fun _ => rfl) (Nat.le_of_ble_eq_true rfl) ?_
  show ab_V _ _ _ _ _ _ _ 111 [some (.ref m), some (.int a), some (.int b), some (.int c), some (.int d), some (.int e), some (.int 12), some (.int d)] [] (h469.set m (.inr (12, [.int 0, .ref (m + 1), .int 13, .ref (m + 2), .ref (m + 33), .int 0, .int (-1), .int (-1), .ref (m + 64), .ref (m + 74), .ref (m + 84), .ref (m + 94), .int 1, .int 0, .ref (m + 99), .ref (m + 100), .ref (m + 101), .ref (m + 102), .ref (m + 103), .ref (m + 104), .int 0, .ref (m + 105), .int 0, .int 0, .int 0, .ref (m + 106), .ref (m + 107), .int 0, .int 0])))
  refine ab_gen (fun h486 e487 => ?_)
  have c488 : h486[m]? = some (.inr (12, [.int 0, .ref (m + 1), .int 13, .ref (m + 2), .ref (m + 33), .int 0, .int (-1), .int (-1), .ref (m + 64), .ref (m + 74), .ref (m + 84), .ref (m + 94), .int 1, .int 0, .ref (m + 99), .ref (m + 100), .ref (m + 101), .ref (m + 102), .ref (m + 103), .ref (m + 104), .int 0, .ref (m + 105), .int 0, .int 0, .int 0, .ref (m + 106), .ref (m + 107), .int 0, .int 0])) := ab_self e487 c471
  have c489 : h486[m+1]? = some (.inl (.byte, 6000, .inl y483)) := ab_other e487 (by omega) c484
  have c490 : h486[m+99]? = some (.inl (.int, 256, .inl (fun _ => 0))) := ab_other e487 (by omega) c473
  have c491 : h486[m+100]? = some (.inl (.boolean, 256, .inl (fun _ => 0))) := ab_other e487 (by omega) c474
  have c492 : h486[m+101]? = some (.inl (.int, 64, .inl (fun _ => 0))) := ab_other e487 (by omega) c475
  have c493 : h486[m+102]? = some (.inl (.int, 4, .inl (fun _ => 0))) := ab_other e487 (by omega) c476
  have c494 : h486[m+103]? = some (.inl (.int, 4, .inl (fun _ => 0))) := ab_other e487 (by omega) c477
  have c495 : h486[m+104]? = some (.inl (.int, 256, .inl (fun _ => 0))) := ab_other e487 (by omega) c478
  have c496 : h486[m+105]? = some (.inl (.byte, 58000, .inl (fun _ => 0))) := ab_other e487 (by omega) c479
  have c497 : h486[m+106]? = some (.inl (.boolean, 8, .inl (a0_M w 25))) := ab_other e487 (by omega) c480
  have c498 : h486[m+107]? = some (.inl (.boolean, 8, .inl (fun _ => 0))) := ab_other e487 (by omega) c481
  have fr499 : ab_fr (fun _ => True) h h486 := ab_fr_set fr482 e487 (by trivial)
  clear c471 c484 c473 c474 c475 c476 c477 c478 c479 c480 c481 fr482 e487
  try clear h469
  refine ab_iinc (v := 13) (lv' := [some (.ref m), some (.int a), some (.int b), some (.int c), some (.int d), some (.int e), some (.int 13), some (.int d)]) d_M_feed_111 rfl (by decide) (by decide) rfl ?_
  refine ab_goto (tgt := 23) d_M_feed_114 (by decide) ?_
  refine ab_iload d_M_feed_23 rfl ?_
  refine ab_bipush (v := 20) d_M_feed_25 (by decide) ?_
  refine ab_icmp_ge (tgt := 117) d_M_feed_27 (by decide) (fun q500 => by exact absurd q500 (by decide)) (fun q500 => ?_)
  refine ab_iload d_M_feed_30 rfl ?_
  refine ab_iconst (v := 4) d_M_feed_32 (by decide) ?_
  refine ab_icmp_ge (tgt := 40) d_M_feed_33 (by decide) (fun q501 => ?_) (fun q501 => by exact absurd (by decide) q501)
  refine ab_iload d_M_feed_40 rfl ?_
  refine ab_bipush (v := 8) d_M_feed_42 (by decide) ?_
  refine ab_icmp_ge (tgt := 51) d_M_feed_44 (by decide) (fun q502 => ?_) (fun q502 => by exact absurd (by decide) q502)
  refine ab_iload d_M_feed_51 rfl ?_
  refine ab_bipush (v := 12) d_M_feed_53 (by decide) ?_
  refine ab_icmp_ge (tgt := 62) d_M_feed_55 (by decide) (fun q503 => ?_) (fun q503 => by exact absurd (by decide) q503)
  refine ab_iload d_M_feed_62 rfl ?_
  refine ab_bipush (v := 16) d_M_feed_64 (by decide) ?_
  refine ab_icmp_ge (tgt := 74) d_M_feed_66 (by decide) (fun q504 => by exact absurd q504 (by decide)) (fun q504 => ?_)
  refine ab_iload d_M_feed_69 rfl ?_
  refine ab_goto (tgt := 76) d_M_feed_71 (by decide) ?_
  refine ab_istore (lv' := [some (.ref m), some (.int a), some (.int b), some (.int c), some (.int d), some (.int e), some (.int 13), some (.int d)]) d_M_feed_76 (by decide) rfl ?_
  refine ab_aload_n d_M_feed_78 rfl rfl rfl ?_
  refine ab_get (f := 1) d_M_feed_79 c488 rfl (by decide) (k9 234 rfl rfl) rfl ?_
  refine ab_aload_n d_M_feed_82 rfl rfl rfl ?_
  refine ab_get (f := 2) d_M_feed_83 c488 rfl (by decide) (k9 235 rfl rfl) rfl ?_
  refine ab_iload d_M_feed_86 rfl ?_
  refine ab_bipush (v := 24) d_M_feed_88 (by decide) ?_
  refine ab_bipush (v := 8) d_M_feed_90 (by decide) ?_
  refine ab_iload d_M_feed_92 rfl ?_
  refine ab_iconst (v := 4) d_M_feed_94 (by decide) ?_
  refine ab_irem d_M_feed_95 (by decide) ?_
  refine ab_topi (fun x505 ex505 => ?_)
  obtain rfl : x505 = 1 := ex505.trans (by decide)
  clear ex505
  refine ab_imul d_M_feed_96 ?_
  refine ab_topi (fun x506 ex506 => ?_)
  obtain rfl : x506 = 8 := ex506.trans (by decide)
  clear ex506
  refine ab_isub d_M_feed_97 ?_
  refine ab_topi (fun x507 ex507 => ?_)
  obtain rfl : x507 = 16 := ex507.trans (by decide)
  clear ex507
  refine ab_ishr d_M_feed_98 ?_
  refine ab_i2b d_M_feed_99 ?_
  refine ab_bast d_M_feed_100 tB c489 (in_of (by decide) (by decide) (by decide)) ?_
  refine ab_gen (fun h508 e509 => ?_)
  have c510 : h508[m]? = some (.inr (12, [.int 0, .ref (m + 1), .int 13, .ref (m + 2), .ref (m + 33), .int 0, .int (-1), .int (-1), .ref (m + 64), .ref (m + 74), .ref (m + 84), .ref (m + 94), .int 1, .int 0, .ref (m + 99), .ref (m + 100), .ref (m + 101), .ref (m + 102), .ref (m + 103), .ref (m + 104), .int 0, .ref (m + 105), .int 0, .int 0, .int 0, .ref (m + 106), .ref (m + 107), .int 0, .int 0])) := ab_other e509 (by omega) c488
  have c511 : h508[m+1]? = some (.inl (.byte, 6000, .inl (upd y483 (13 : Int32).toNatClampNeg (vp_nar .byte (((d >>> (16 &&& 31)) : Int32).toInt8.toInt32))))) := ab_self e509 c489
  have c512 : h508[m+99]? = some (.inl (.int, 256, .inl (fun _ => 0))) := ab_other e509 (by omega) c490
  have c513 : h508[m+100]? = some (.inl (.boolean, 256, .inl (fun _ => 0))) := ab_other e509 (by omega) c491
  have c514 : h508[m+101]? = some (.inl (.int, 64, .inl (fun _ => 0))) := ab_other e509 (by omega) c492
  have c515 : h508[m+102]? = some (.inl (.int, 4, .inl (fun _ => 0))) := ab_other e509 (by omega) c493
  have c516 : h508[m+103]? = some (.inl (.int, 4, .inl (fun _ => 0))) := ab_other e509 (by omega) c494
  have c517 : h508[m+104]? = some (.inl (.int, 256, .inl (fun _ => 0))) := ab_other e509 (by omega) c495
  have c518 : h508[m+105]? = some (.inl (.byte, 58000, .inl (fun _ => 0))) := ab_other e509 (by omega) c496
  have c519 : h508[m+106]? = some (.inl (.boolean, 8, .inl (a0_M w 25))) := ab_other e509 (by omega) c497
  have c520 : h508[m+107]? = some (.inl (.boolean, 8, .inl (fun _ => 0))) := ab_other e509 (by omega) c498
  have fr521 : ab_fr (fun _ => True) h h508 := ab_fr_set fr499 e509 (by trivial)
  clear c488 c489 c490 c491 c492 c493 c494 c495 c496 c497 c498 fr499 e509
  try clear h486
  obtain ⟨y522, c523⟩ : ∃ f : Nat → Int32, h508[m+1]? = some (.inl (.byte, 6000, .inl f)) := ⟨_, c511⟩
  clear c511
  refine ab_aload_n d_M_feed_101 rfl rfl rfl ?_
  refine ab_dup d_M_feed_102 rfl ?_
  refine ab_get (f := 2) d_M_feed_103 c510 rfl (by decide) (k9 235 rfl rfl) rfl ?_
  refine ab_iconst (v := 1) d_M_feed_106 (by decide) ?_
  refine ab_iadd d_M_feed_107 ?_
  refine ab_topi (fun x524 ex524 => ?_)
  obtain rfl : x524 = 14 := ex524.trans (by decide)
  clear ex524
  refine ab_put (f := 2) d_M_feed_108 c510 rfl (by decide) (k9 235 rfl rfl) rfl rfl (fun _ => rfl) (fun _ => rfl) (Nat.le_of_ble_eq_true rfl) ?_
  show ab_V _ _ _ _ _ _ _ 111 [some (.ref m), some (.int a), some (.int b), some (.int c), some (.int d), some (.int e), some (.int 13), some (.int d)] [] (h508.set m (.inr (12, [.int 0, .ref (m + 1), .int 14, .ref (m + 2), .ref (m + 33), .int 0, .int (-1), .int (-1), .ref (m + 64), .ref (m + 74), .ref (m + 84), .ref (m + 94), .int 1, .int 0, .ref (m + 99), .ref (m + 100), .ref (m + 101), .ref (m + 102), .ref (m + 103), .ref (m + 104), .int 0, .ref (m + 105), .int 0, .int 0, .int 0, .ref (m + 106), .ref (m + 107), .int 0, .int 0])))
  refine ab_gen (fun h525 e526 => ?_)
  have c527 : h525[m]? = some (.inr (12, [.int 0, .ref (m + 1), .int 14, .ref (m + 2), .ref (m + 33), .int 0, .int (-1), .int (-1), .ref (m + 64), .ref (m + 74), .ref (m + 84), .ref (m + 94), .int 1, .int 0, .ref (m + 99), .ref (m + 100), .ref (m + 101), .ref (m + 102), .ref (m + 103), .ref (m + 104), .int 0, .ref (m + 105), .int 0, .int 0, .int 0, .ref (m + 106), .ref (m + 107), .int 0, .int 0])) := ab_self e526 c510
  have c528 : h525[m+1]? = some (.inl (.byte, 6000, .inl y522)) := ab_other e526 (by omega) c523
  have c529 : h525[m+99]? = some (.inl (.int, 256, .inl (fun _ => 0))) := ab_other e526 (by omega) c512
  have c530 : h525[m+100]? = some (.inl (.boolean, 256, .inl (fun _ => 0))) := ab_other e526 (by omega) c513
  have c531 : h525[m+101]? = some (.inl (.int, 64, .inl (fun _ => 0))) := ab_other e526 (by omega) c514
  have c532 : h525[m+102]? = some (.inl (.int, 4, .inl (fun _ => 0))) := ab_other e526 (by omega) c515
  have c533 : h525[m+103]? = some (.inl (.int, 4, .inl (fun _ => 0))) := ab_other e526 (by omega) c516
  have c534 : h525[m+104]? = some (.inl (.int, 256, .inl (fun _ => 0))) := ab_other e526 (by omega) c517
  have c535 : h525[m+105]? = some (.inl (.byte, 58000, .inl (fun _ => 0))) := ab_other e526 (by omega) c518
  have c536 : h525[m+106]? = some (.inl (.boolean, 8, .inl (a0_M w 25))) := ab_other e526 (by omega) c519
  have c537 : h525[m+107]? = some (.inl (.boolean, 8, .inl (fun _ => 0))) := ab_other e526 (by omega) c520
  have fr538 : ab_fr (fun _ => True) h h525 := ab_fr_set fr521 e526 (by trivial)
  clear c510 c523 c512 c513 c514 c515 c516 c517 c518 c519 c520 fr521 e526
  try clear h508
  refine ab_iinc (v := 14) (lv' := [some (.ref m), some (.int a), some (.int b), some (.int c), some (.int d), some (.int e), some (.int 14), some (.int d)]) d_M_feed_111 rfl (by decide) (by decide) rfl ?_
  refine ab_goto (tgt := 23) d_M_feed_114 (by decide) ?_
  refine ab_iload d_M_feed_23 rfl ?_
  refine ab_bipush (v := 20) d_M_feed_25 (by decide) ?_
  refine ab_icmp_ge (tgt := 117) d_M_feed_27 (by decide) (fun q539 => by exact absurd q539 (by decide)) (fun q539 => ?_)
  refine ab_iload d_M_feed_30 rfl ?_
  refine ab_iconst (v := 4) d_M_feed_32 (by decide) ?_
  refine ab_icmp_ge (tgt := 40) d_M_feed_33 (by decide) (fun q540 => ?_) (fun q540 => by exact absurd (by decide) q540)
  refine ab_iload d_M_feed_40 rfl ?_
  refine ab_bipush (v := 8) d_M_feed_42 (by decide) ?_
  refine ab_icmp_ge (tgt := 51) d_M_feed_44 (by decide) (fun q541 => ?_) (fun q541 => by exact absurd (by decide) q541)
  refine ab_iload d_M_feed_51 rfl ?_
  refine ab_bipush (v := 12) d_M_feed_53 (by decide) ?_
  refine ab_icmp_ge (tgt := 62) d_M_feed_55 (by decide) (fun q542 => ?_) (fun q542 => by exact absurd (by decide) q542)
  refine ab_iload d_M_feed_62 rfl ?_
  refine ab_bipush (v := 16) d_M_feed_64 (by decide) ?_
  refine ab_icmp_ge (tgt := 74) d_M_feed_66 (by decide) (fun q543 => by exact absurd q543 (by decide)) (fun q543 => ?_)
  refine ab_iload d_M_feed_69 rfl ?_
  refine ab_goto (tgt := 76) d_M_feed_71 (by decide) ?_
  refine ab_istore (lv' := [some (.ref m), some (.int a), some (.int b), some (.int c), some (.int d), some (.int e), some (.int 14), some (.int d)]) d_M_feed_76 (by decide) rfl ?_
  refine ab_aload_n d_M_feed_78 rfl rfl rfl ?_
  refine ab_get (f := 1) d_M_feed_79 c527 rfl (by decide) (k9 234 rfl rfl) rfl ?_
  refine ab_aload_n d_M_feed_82 rfl rfl rfl ?_
  refine ab_get (f := 2) d_M_feed_83 c527 rfl (by decide) (k9 235 rfl rfl) rfl ?_
  refine ab_iload d_M_feed_86 rfl ?_
  refine ab_bipush (v := 24) d_M_feed_88 (by decide) ?_
  refine ab_bipush (v := 8) d_M_feed_90 (by decide) ?_
  refine ab_iload d_M_feed_92 rfl ?_
  refine ab_iconst (v := 4) d_M_feed_94 (by decide) ?_
  refine ab_irem d_M_feed_95 (by decide) ?_
  refine ab_topi (fun x544 ex544 => ?_)
  obtain rfl : x544 = 2 := ex544.trans (by decide)
  clear ex544
  refine ab_imul d_M_feed_96 ?_
  refine ab_topi (fun x545 ex545 => ?_)
  obtain rfl : x545 = 16 := ex545.trans (by decide)
  clear ex545
  refine ab_isub d_M_feed_97 ?_
  refine ab_topi (fun x546 ex546 => ?_)
  obtain rfl : x546 = 8 := ex546.trans (by decide)
  clear ex546
  refine ab_ishr d_M_feed_98 ?_
  refine ab_i2b d_M_feed_99 ?_
  refine ab_bast d_M_feed_100 tB c528 (in_of (by decide) (by decide) (by decide)) ?_
  refine ab_gen (fun h547 e548 => ?_)
  have c549 : h547[m]? = some (.inr (12, [.int 0, .ref (m + 1), .int 14, .ref (m + 2), .ref (m + 33), .int 0, .int (-1), .int (-1), .ref (m + 64), .ref (m + 74), .ref (m + 84), .ref (m + 94), .int 1, .int 0, .ref (m + 99), .ref (m + 100), .ref (m + 101), .ref (m + 102), .ref (m + 103), .ref (m + 104), .int 0, .ref (m + 105), .int 0, .int 0, .int 0, .ref (m + 106), .ref (m + 107), .int 0, .int 0])) := ab_other e548 (by omega) c527
  have c550 : h547[m+1]? = some (.inl (.byte, 6000, .inl (upd y522 (14 : Int32).toNatClampNeg (vp_nar .byte (((d >>> (8 &&& 31)) : Int32).toInt8.toInt32))))) := ab_self e548 c528
  have c551 : h547[m+99]? = some (.inl (.int, 256, .inl (fun _ => 0))) := ab_other e548 (by omega) c529
  have c552 : h547[m+100]? = some (.inl (.boolean, 256, .inl (fun _ => 0))) := ab_other e548 (by omega) c530
  have c553 : h547[m+101]? = some (.inl (.int, 64, .inl (fun _ => 0))) := ab_other e548 (by omega) c531
  have c554 : h547[m+102]? = some (.inl (.int, 4, .inl (fun _ => 0))) := ab_other e548 (by omega) c532
  have c555 : h547[m+103]? = some (.inl (.int, 4, .inl (fun _ => 0))) := ab_other e548 (by omega) c533
  have c556 : h547[m+104]? = some (.inl (.int, 256, .inl (fun _ => 0))) := ab_other e548 (by omega) c534
  have c557 : h547[m+105]? = some (.inl (.byte, 58000, .inl (fun _ => 0))) := ab_other e548 (by omega) c535
  have c558 : h547[m+106]? = some (.inl (.boolean, 8, .inl (a0_M w 25))) := ab_other e548 (by omega) c536
  have c559 : h547[m+107]? = some (.inl (.boolean, 8, .inl (fun _ => 0))) := ab_other e548 (by omega) c537
  have fr560 : ab_fr (fun _ => True) h h547 := ab_fr_set fr538 e548 (by trivial)
  clear c527 c528 c529 c530 c531 c532 c533 c534 c535 c536 c537 fr538 e548
  try clear h525
  obtain ⟨y561, c562⟩ : ∃ f : Nat → Int32, h547[m+1]? = some (.inl (.byte, 6000, .inl f)) := ⟨_, c550⟩
  clear c550
  refine ab_aload_n d_M_feed_101 rfl rfl rfl ?_
  refine ab_dup d_M_feed_102 rfl ?_
  refine ab_get (f := 2) d_M_feed_103 c549 rfl (by decide) (k9 235 rfl rfl) rfl ?_
  refine ab_iconst (v := 1) d_M_feed_106 (by decide) ?_
  refine ab_iadd d_M_feed_107 ?_
  refine ab_topi (fun x563 ex563 => ?_)
  obtain rfl : x563 = 15 := ex563.trans (by decide)
  clear ex563
  refine ab_put (f := 2) d_M_feed_108 c549 rfl (by decide) (k9 235 rfl rfl) rfl rfl (fun _ => rfl) (fun _ => rfl) (Nat.le_of_ble_eq_true rfl) ?_
  show ab_V _ _ _ _ _ _ _ 111 [some (.ref m), some (.int a), some (.int b), some (.int c), some (.int d), some (.int e), some (.int 14), some (.int d)] [] (h547.set m (.inr (12, [.int 0, .ref (m + 1), .int 15, .ref (m + 2), .ref (m + 33), .int 0, .int (-1), .int (-1), .ref (m + 64), .ref (m + 74), .ref (m + 84), .ref (m + 94), .int 1, .int 0, .ref (m + 99), .ref (m + 100), .ref (m + 101), .ref (m + 102), .ref (m + 103), .ref (m + 104), .int 0, .ref (m + 105), .int 0, .int 0, .int 0, .ref (m + 106), .ref (m + 107), .int 0, .int 0])))
  refine ab_gen (fun h564 e565 => ?_)
  have c566 : h564[m]? = some (.inr (12, [.int 0, .ref (m + 1), .int 15, .ref (m + 2), .ref (m + 33), .int 0, .int (-1), .int (-1), .ref (m + 64), .ref (m + 74), .ref (m + 84), .ref (m + 94), .int 1, .int 0, .ref (m + 99), .ref (m + 100), .ref (m + 101), .ref (m + 102), .ref (m + 103), .ref (m + 104), .int 0, .ref (m + 105), .int 0, .int 0, .int 0, .ref (m + 106), .ref (m + 107), .int 0, .int 0])) := ab_self e565 c549
  have c567 : h564[m+1]? = some (.inl (.byte, 6000, .inl y561)) := ab_other e565 (by omega) c562
  have c568 : h564[m+99]? = some (.inl (.int, 256, .inl (fun _ => 0))) := ab_other e565 (by omega) c551
  have c569 : h564[m+100]? = some (.inl (.boolean, 256, .inl (fun _ => 0))) := ab_other e565 (by omega) c552
  have c570 : h564[m+101]? = some (.inl (.int, 64, .inl (fun _ => 0))) := ab_other e565 (by omega) c553
  have c571 : h564[m+102]? = some (.inl (.int, 4, .inl (fun _ => 0))) := ab_other e565 (by omega) c554
  have c572 : h564[m+103]? = some (.inl (.int, 4, .inl (fun _ => 0))) := ab_other e565 (by omega) c555
  have c573 : h564[m+104]? = some (.inl (.int, 256, .inl (fun _ => 0))) := ab_other e565 (by omega) c556
  have c574 : h564[m+105]? = some (.inl (.byte, 58000, .inl (fun _ => 0))) := ab_other e565 (by omega) c557
  have c575 : h564[m+106]? = some (.inl (.boolean, 8, .inl (a0_M w 25))) := ab_other e565 (by omega) c558
  have c576 : h564[m+107]? = some (.inl (.boolean, 8, .inl (fun _ => 0))) := ab_other e565 (by omega) c559
  have fr577 : ab_fr (fun _ => True) h h564 := ab_fr_set fr560 e565 (by trivial)
  clear c549 c562 c551 c552 c553 c554 c555 c556 c557 c558 c559 fr560 e565
  try clear h547
  refine ab_iinc (v := 15) (lv' := [some (.ref m), some (.int a), some (.int b), some (.int c), some (.int d), some (.int e), some (.int 15), some (.int d)]) d_M_feed_111 rfl (by decide) (by decide) rfl ?_
  refine ab_goto (tgt := 23) d_M_feed_114 (by decide) ?_
  refine ab_iload d_M_feed_23 rfl ?_
  refine ab_bipush (v := 20) d_M_feed_25 (by decide) ?_
  refine ab_icmp_ge (tgt := 117) d_M_feed_27 (by decide) (fun q578 => by exact absurd q578 (by decide)) (fun q578 => ?_)
  refine ab_iload d_M_feed_30 rfl ?_
  refine ab_iconst (v := 4) d_M_feed_32 (by decide) ?_
  refine ab_icmp_ge (tgt := 40) d_M_feed_33 (by decide) (fun q579 => ?_) (fun q579 => by exact absurd (by decide) q579)
  refine ab_iload d_M_feed_40 rfl ?_
  refine ab_bipush (v := 8) d_M_feed_42 (by decide) ?_
  refine ab_icmp_ge (tgt := 51) d_M_feed_44 (by decide) (fun q580 => ?_) (fun q580 => by exact absurd (by decide) q580)
  refine ab_iload d_M_feed_51 rfl ?_
  refine ab_bipush (v := 12) d_M_feed_53 (by decide) ?_
  refine ab_icmp_ge (tgt := 62) d_M_feed_55 (by decide) (fun q581 => ?_) (fun q581 => by exact absurd (by decide) q581)
  refine ab_iload d_M_feed_62 rfl ?_
  refine ab_bipush (v := 16) d_M_feed_64 (by decide) ?_
  refine ab_icmp_ge (tgt := 74) d_M_feed_66 (by decide) (fun q582 => by exact absurd q582 (by decide)) (fun q582 => ?_)
  refine ab_iload d_M_feed_69 rfl ?_
  refine ab_goto (tgt := 76) d_M_feed_71 (by decide) ?_
  refine ab_istore (lv' := [some (.ref m), some (.int a), some (.int b), some (.int c), some (.int d), some (.int e), some (.int 15), some (.int d)]) d_M_feed_76 (by decide) rfl ?_
  refine ab_aload_n d_M_feed_78 rfl rfl rfl ?_
  refine ab_get (f := 1) d_M_feed_79 c566 rfl (by decide) (k9 234 rfl rfl) rfl ?_
  refine ab_aload_n d_M_feed_82 rfl rfl rfl ?_
  refine ab_get (f := 2) d_M_feed_83 c566 rfl (by decide) (k9 235 rfl rfl) rfl ?_
  refine ab_iload d_M_feed_86 rfl ?_
  refine ab_bipush (v := 24) d_M_feed_88 (by decide) ?_
  refine ab_bipush (v := 8) d_M_feed_90 (by decide) ?_
  refine ab_iload d_M_feed_92 rfl ?_
  refine ab_iconst (v := 4) d_M_feed_94 (by decide) ?_
  refine ab_irem d_M_feed_95 (by decide) ?_
  refine ab_topi (fun x583 ex583 => ?_)
  obtain rfl : x583 = 3 := ex583.trans (by decide)
  clear ex583
  refine ab_imul d_M_feed_96 ?_
  refine ab_topi (fun x584 ex584 => ?_)
  obtain rfl : x584 = 24 := ex584.trans (by decide)
  clear ex584
  refine ab_isub d_M_feed_97 ?_
  refine ab_topi (fun x585 ex585 => ?_)
  obtain rfl : x585 = 0 := ex585.trans (by decide)
  clear ex585
  refine ab_ishr d_M_feed_98 ?_
  refine ab_i2b d_M_feed_99 ?_
  refine ab_bast d_M_feed_100 tB c567 (in_of (by decide) (by decide) (by decide)) ?_
  refine ab_gen (fun h586 e587 => ?_)
  have c588 : h586[m]? = some (.inr (12, [.int 0, .ref (m + 1), .int 15, .ref (m + 2), .ref (m + 33), .int 0, .int (-1), .int (-1), .ref (m + 64), .ref (m + 74), .ref (m + 84), .ref (m + 94), .int 1, .int 0, .ref (m + 99), .ref (m + 100), .ref (m + 101), .ref (m + 102), .ref (m + 103), .ref (m + 104), .int 0, .ref (m + 105), .int 0, .int 0, .int 0, .ref (m + 106), .ref (m + 107), .int 0, .int 0])) := ab_other e587 (by omega) c566
  have c589 : h586[m+1]? = some (.inl (.byte, 6000, .inl (upd y561 (15 : Int32).toNatClampNeg (vp_nar .byte (((d >>> (0 &&& 31)) : Int32).toInt8.toInt32))))) := ab_self e587 c567
  have c590 : h586[m+99]? = some (.inl (.int, 256, .inl (fun _ => 0))) := ab_other e587 (by omega) c568
  have c591 : h586[m+100]? = some (.inl (.boolean, 256, .inl (fun _ => 0))) := ab_other e587 (by omega) c569
  have c592 : h586[m+101]? = some (.inl (.int, 64, .inl (fun _ => 0))) := ab_other e587 (by omega) c570
  have c593 : h586[m+102]? = some (.inl (.int, 4, .inl (fun _ => 0))) := ab_other e587 (by omega) c571
  have c594 : h586[m+103]? = some (.inl (.int, 4, .inl (fun _ => 0))) := ab_other e587 (by omega) c572
  have c595 : h586[m+104]? = some (.inl (.int, 256, .inl (fun _ => 0))) := ab_other e587 (by omega) c573
  have c596 : h586[m+105]? = some (.inl (.byte, 58000, .inl (fun _ => 0))) := ab_other e587 (by omega) c574
  have c597 : h586[m+106]? = some (.inl (.boolean, 8, .inl (a0_M w 25))) := ab_other e587 (by omega) c575
  have c598 : h586[m+107]? = some (.inl (.boolean, 8, .inl (fun _ => 0))) := ab_other e587 (by omega) c576
  have fr599 : ab_fr (fun _ => True) h h586 := ab_fr_set fr577 e587 (by trivial)
  clear c566 c567 c568 c569 c570 c571 c572 c573 c574 c575 c576 fr577 e587
  try clear h564
  obtain ⟨y600, c601⟩ : ∃ f : Nat → Int32, h586[m+1]? = some (.inl (.byte, 6000, .inl f)) := ⟨_, c589⟩
  clear c589
  refine ab_aload_n d_M_feed_101 rfl rfl rfl ?_
  refine ab_dup d_M_feed_102 rfl ?_
  refine ab_get (f := 2) d_M_feed_103 c588 rfl (by decide) (k9 235 rfl rfl) rfl ?_
  refine ab_iconst (v := 1) d_M_feed_106 (by decide) ?_
  refine ab_iadd d_M_feed_107 ?_
  refine ab_topi (fun x602 ex602 => ?_)
  obtain rfl : x602 = 16 := ex602.trans (by decide)
  clear ex602
  refine ab_put (f := 2) d_M_feed_108 c588 rfl (by decide) (k9 235 rfl rfl) rfl rfl (fun _ => rfl) (fun _ => rfl) (Nat.le_of_ble_eq_true rfl) ?_
  show ab_V _ _ _ _ _ _ _ 111 [some (.ref m), some (.int a), some (.int b), some (.int c), some (.int d), some (.int e), some (.int 15), some (.int d)] [] (h586.set m (.inr (12, [.int 0, .ref (m + 1), .int 16, .ref (m + 2), .ref (m + 33), .int 0, .int (-1), .int (-1), .ref (m + 64), .ref (m + 74), .ref (m + 84), .ref (m + 94), .int 1, .int 0, .ref (m + 99), .ref (m + 100), .ref (m + 101), .ref (m + 102), .ref (m + 103), .ref (m + 104), .int 0, .ref (m + 105), .int 0, .int 0, .int 0, .ref (m + 106), .ref (m + 107), .int 0, .int 0])))
  refine ab_gen (fun h603 e604 => ?_)
  have c605 : h603[m]? = some (.inr (12, [.int 0, .ref (m + 1), .int 16, .ref (m + 2), .ref (m + 33), .int 0, .int (-1), .int (-1), .ref (m + 64), .ref (m + 74), .ref (m + 84), .ref (m + 94), .int 1, .int 0, .ref (m + 99), .ref (m + 100), .ref (m + 101), .ref (m + 102), .ref (m + 103), .ref (m + 104), .int 0, .ref (m + 105), .int 0, .int 0, .int 0, .ref (m + 106), .ref (m + 107), .int 0, .int 0])) := ab_self e604 c588
  have c606 : h603[m+1]? = some (.inl (.byte, 6000, .inl y600)) := ab_other e604 (by omega) c601
  have c607 : h603[m+99]? = some (.inl (.int, 256, .inl (fun _ => 0))) := ab_other e604 (by omega) c590
  have c608 : h603[m+100]? = some (.inl (.boolean, 256, .inl (fun _ => 0))) := ab_other e604 (by omega) c591
  have c609 : h603[m+101]? = some (.inl (.int, 64, .inl (fun _ => 0))) := ab_other e604 (by omega) c592
  have c610 : h603[m+102]? = some (.inl (.int, 4, .inl (fun _ => 0))) := ab_other e604 (by omega) c593
  have c611 : h603[m+103]? = some (.inl (.int, 4, .inl (fun _ => 0))) := ab_other e604 (by omega) c594
  have c612 : h603[m+104]? = some (.inl (.int, 256, .inl (fun _ => 0))) := ab_other e604 (by omega) c595
  have c613 : h603[m+105]? = some (.inl (.byte, 58000, .inl (fun _ => 0))) := ab_other e604 (by omega) c596
  have c614 : h603[m+106]? = some (.inl (.boolean, 8, .inl (a0_M w 25))) := ab_other e604 (by omega) c597
  have c615 : h603[m+107]? = some (.inl (.boolean, 8, .inl (fun _ => 0))) := ab_other e604 (by omega) c598
  have fr616 : ab_fr (fun _ => True) h h603 := ab_fr_set fr599 e604 (by trivial)
  clear c588 c601 c590 c591 c592 c593 c594 c595 c596 c597 c598 fr599 e604
  try clear h586
  refine ab_iinc (v := 16) (lv' := [some (.ref m), some (.int a), some (.int b), some (.int c), some (.int d), some (.int e), some (.int 16), some (.int d)]) d_M_feed_111 rfl (by decide) (by decide) rfl ?_
  refine ab_goto (tgt := 23) d_M_feed_114 (by decide) ?_
  refine ab_iload d_M_feed_23 rfl ?_
  refine ab_bipush (v := 20) d_M_feed_25 (by decide) ?_
  refine ab_icmp_ge (tgt := 117) d_M_feed_27 (by decide) (fun q617 => by exact absurd q617 (by decide)) (fun q617 => ?_)
  refine ab_iload d_M_feed_30 rfl ?_
  refine ab_iconst (v := 4) d_M_feed_32 (by decide) ?_
  refine ab_icmp_ge (tgt := 40) d_M_feed_33 (by decide) (fun q618 => ?_) (fun q618 => by exact absurd (by decide) q618)
  refine ab_iload d_M_feed_40 rfl ?_
  refine ab_bipush (v := 8) d_M_feed_42 (by decide) ?_
  refine ab_icmp_ge (tgt := 51) d_M_feed_44 (by decide) (fun q619 => ?_) (fun q619 => by exact absurd (by decide) q619)
  refine ab_iload d_M_feed_51 rfl ?_
  refine ab_bipush (v := 12) d_M_feed_53 (by decide) ?_
  refine ab_icmp_ge (tgt := 62) d_M_feed_55 (by decide) (fun q620 => ?_) (fun q620 => by exact absurd (by decide) q620)
  refine ab_iload d_M_feed_62 rfl ?_
  refine ab_bipush (v := 16) d_M_feed_64 (by decide) ?_
  refine ab_icmp_ge (tgt := 74) d_M_feed_66 (by decide) (fun q621 => ?_) (fun q621 => by exact absurd (by decide) q621)
  refine ab_iload d_M_feed_74 rfl ?_
  refine ab_istore (lv' := [some (.ref m), some (.int a), some (.int b), some (.int c), some (.int d), some (.int e), some (.int 16), some (.int e)]) d_M_feed_76 (by decide) rfl ?_
  refine ab_aload_n d_M_feed_78 rfl rfl rfl ?_
  refine ab_get (f := 1) d_M_feed_79 c605 rfl (by decide) (k9 234 rfl rfl) rfl ?_
  refine ab_aload_n d_M_feed_82 rfl rfl rfl ?_
  refine ab_get (f := 2) d_M_feed_83 c605 rfl (by decide) (k9 235 rfl rfl) rfl ?_
  refine ab_iload d_M_feed_86 rfl ?_
  refine ab_bipush (v := 24) d_M_feed_88 (by decide) ?_
  refine ab_bipush (v := 8) d_M_feed_90 (by decide) ?_
  refine ab_iload d_M_feed_92 rfl ?_
  refine ab_iconst (v := 4) d_M_feed_94 (by decide) ?_
  refine ab_irem d_M_feed_95 (by decide) ?_
  refine ab_topi (fun x622 ex622 => ?_)
  obtain rfl : x622 = 0 := ex622.trans (by decide)
  clear ex622
  refine ab_imul d_M_feed_96 ?_
  refine ab_topi (fun x623 ex623 => ?_)
  obtain rfl : x623 = 0 := ex623.trans (by decide)
  clear ex623
  refine ab_isub d_M_feed_97 ?_
  refine ab_topi (fun x624 ex624 => ?_)
  obtain rfl : x624 = 24 := ex624.trans (by decide)
  clear ex624
  refine ab_ishr d_M_feed_98 ?_
  refine ab_i2b d_M_feed_99 ?_
  refine ab_bast d_M_feed_100 tB c606 (in_of (by decide) (by decide) (by decide)) ?_
  refine ab_gen (fun h625 e626 => ?_)
  have c627 : h625[m]? = some (.inr (12, [.int 0, .ref (m + 1), .int 16, .ref (m + 2), .ref (m + 33), .int 0, .int (-1), .int (-1), .ref (m + 64), .ref (m + 74), .ref (m + 84), .ref (m + 94), .int 1, .int 0, .ref (m + 99), .ref (m + 100), .ref (m + 101), .ref (m + 102), .ref (m + 103), .ref (m + 104), .int 0, .ref (m + 105), .int 0, .int 0, .int 0, .ref (m + 106), .ref (m + 107), .int 0, .int 0])) := ab_other e626 (by omega) c605
  have c628 : h625[m+1]? = some (.inl (.byte, 6000, .inl (upd y600 (16 : Int32).toNatClampNeg (vp_nar .byte (((e >>> (24 &&& 31)) : Int32).toInt8.toInt32))))) := ab_self e626 c606
  have c629 : h625[m+99]? = some (.inl (.int, 256, .inl (fun _ => 0))) := ab_other e626 (by omega) c607
  have c630 : h625[m+100]? = some (.inl (.boolean, 256, .inl (fun _ => 0))) := ab_other e626 (by omega) c608
  have c631 : h625[m+101]? = some (.inl (.int, 64, .inl (fun _ => 0))) := ab_other e626 (by omega) c609
  have c632 : h625[m+102]? = some (.inl (.int, 4, .inl (fun _ => 0))) := ab_other e626 (by omega) c610
  have c633 : h625[m+103]? = some (.inl (.int, 4, .inl (fun _ => 0))) := ab_other e626 (by omega) c611
  have c634 : h625[m+104]? = some (.inl (.int, 256, .inl (fun _ => 0))) := ab_other e626 (by omega) c612
  have c635 : h625[m+105]? = some (.inl (.byte, 58000, .inl (fun _ => 0))) := ab_other e626 (by omega) c613
  have c636 : h625[m+106]? = some (.inl (.boolean, 8, .inl (a0_M w 25))) := ab_other e626 (by omega) c614
  have c637 : h625[m+107]? = some (.inl (.boolean, 8, .inl (fun _ => 0))) := ab_other e626 (by omega) c615
  have fr638 : ab_fr (fun _ => True) h h625 := ab_fr_set fr616 e626 (by trivial)
  clear c605 c606 c607 c608 c609 c610 c611 c612 c613 c614 c615 fr616 e626
  try clear h603
  obtain ⟨y639, c640⟩ : ∃ f : Nat → Int32, h625[m+1]? = some (.inl (.byte, 6000, .inl f)) := ⟨_, c628⟩
  clear c628
  refine ab_aload_n d_M_feed_101 rfl rfl rfl ?_
  refine ab_dup d_M_feed_102 rfl ?_
  refine ab_get (f := 2) d_M_feed_103 c627 rfl (by decide) (k9 235 rfl rfl) rfl ?_
  refine ab_iconst (v := 1) d_M_feed_106 (by decide) ?_
  refine ab_iadd d_M_feed_107 ?_
  refine ab_topi (fun x641 ex641 => ?_)
  obtain rfl : x641 = 17 := ex641.trans (by decide)
  clear ex641
  refine ab_put (f := 2) d_M_feed_108 c627 rfl (by decide) (k9 235 rfl rfl) rfl rfl (fun _ => rfl) (fun _ => rfl) (Nat.le_of_ble_eq_true rfl) ?_
  show ab_V _ _ _ _ _ _ _ 111 [some (.ref m), some (.int a), some (.int b), some (.int c), some (.int d), some (.int e), some (.int 16), some (.int e)] [] (h625.set m (.inr (12, [.int 0, .ref (m + 1), .int 17, .ref (m + 2), .ref (m + 33), .int 0, .int (-1), .int (-1), .ref (m + 64), .ref (m + 74), .ref (m + 84), .ref (m + 94), .int 1, .int 0, .ref (m + 99), .ref (m + 100), .ref (m + 101), .ref (m + 102), .ref (m + 103), .ref (m + 104), .int 0, .ref (m + 105), .int 0, .int 0, .int 0, .ref (m + 106), .ref (m + 107), .int 0, .int 0])))
  refine ab_gen (fun h642 e643 => ?_)
  have c644 : h642[m]? = some (.inr (12, [.int 0, .ref (m + 1), .int 17, .ref (m + 2), .ref (m + 33), .int 0, .int (-1), .int (-1), .ref (m + 64), .ref (m + 74), .ref (m + 84), .ref (m + 94), .int 1, .int 0, .ref (m + 99), .ref (m + 100), .ref (m + 101), .ref (m + 102), .ref (m + 103), .ref (m + 104), .int 0, .ref (m + 105), .int 0, .int 0, .int 0, .ref (m + 106), .ref (m + 107), .int 0, .int 0])) := ab_self e643 c627
  have c645 : h642[m+1]? = some (.inl (.byte, 6000, .inl y639)) := ab_other e643 (by omega) c640
  have c646 : h642[m+99]? = some (.inl (.int, 256, .inl (fun _ => 0))) := ab_other e643 (by omega) c629
  have c647 : h642[m+100]? = some (.inl (.boolean, 256, .inl (fun _ => 0))) := ab_other e643 (by omega) c630
  have c648 : h642[m+101]? = some (.inl (.int, 64, .inl (fun _ => 0))) := ab_other e643 (by omega) c631
  have c649 : h642[m+102]? = some (.inl (.int, 4, .inl (fun _ => 0))) := ab_other e643 (by omega) c632
  have c650 : h642[m+103]? = some (.inl (.int, 4, .inl (fun _ => 0))) := ab_other e643 (by omega) c633
  have c651 : h642[m+104]? = some (.inl (.int, 256, .inl (fun _ => 0))) := ab_other e643 (by omega) c634
  have c652 : h642[m+105]? = some (.inl (.byte, 58000, .inl (fun _ => 0))) := ab_other e643 (by omega) c635
  have c653 : h642[m+106]? = some (.inl (.boolean, 8, .inl (a0_M w 25))) := ab_other e643 (by omega) c636
  have c654 : h642[m+107]? = some (.inl (.boolean, 8, .inl (fun _ => 0))) := ab_other e643 (by omega) c637
  have fr655 : ab_fr (fun _ => True) h h642 := ab_fr_set fr638 e643 (by trivial)
  clear c627 c640 c629 c630 c631 c632 c633 c634 c635 c636 c637 fr638 e643
  try clear h625
  refine ab_iinc (v := 17) (lv' := [some (.ref m), some (.int a), some (.int b), some (.int c), some (.int d), some (.int e), some (.int 17), some (.int e)]) d_M_feed_111 rfl (by decide) (by decide) rfl ?_
  refine ab_goto (tgt := 23) d_M_feed_114 (by decide) ?_
  refine ab_iload d_M_feed_23 rfl ?_
  refine ab_bipush (v := 20) d_M_feed_25 (by decide) ?_
  refine ab_icmp_ge (tgt := 117) d_M_feed_27 (by decide) (fun q656 => by exact absurd q656 (by decide)) (fun q656 => ?_)
  refine ab_iload d_M_feed_30 rfl ?_
  refine ab_iconst (v := 4) d_M_feed_32 (by decide) ?_
  refine ab_icmp_ge (tgt := 40) d_M_feed_33 (by decide) (fun q657 => ?_) (fun q657 => by exact absurd (by decide) q657)
  refine ab_iload d_M_feed_40 rfl ?_
  refine ab_bipush (v := 8) d_M_feed_42 (by decide) ?_
  refine ab_icmp_ge (tgt := 51) d_M_feed_44 (by decide) (fun q658 => ?_) (fun q658 => by exact absurd (by decide) q658)
  refine ab_iload d_M_feed_51 rfl ?_
  refine ab_bipush (v := 12) d_M_feed_53 (by decide) ?_
  refine ab_icmp_ge (tgt := 62) d_M_feed_55 (by decide) (fun q659 => ?_) (fun q659 => by exact absurd (by decide) q659)
  refine ab_iload d_M_feed_62 rfl ?_
  refine ab_bipush (v := 16) d_M_feed_64 (by decide) ?_
  refine ab_icmp_ge (tgt := 74) d_M_feed_66 (by decide) (fun q660 => ?_) (fun q660 => by exact absurd (by decide) q660)
  refine ab_iload d_M_feed_74 rfl ?_
  refine ab_istore (lv' := [some (.ref m), some (.int a), some (.int b), some (.int c), some (.int d), some (.int e), some (.int 17), some (.int e)]) d_M_feed_76 (by decide) rfl ?_
  refine ab_aload_n d_M_feed_78 rfl rfl rfl ?_
  refine ab_get (f := 1) d_M_feed_79 c644 rfl (by decide) (k9 234 rfl rfl) rfl ?_
  refine ab_aload_n d_M_feed_82 rfl rfl rfl ?_
  refine ab_get (f := 2) d_M_feed_83 c644 rfl (by decide) (k9 235 rfl rfl) rfl ?_
  refine ab_iload d_M_feed_86 rfl ?_
  refine ab_bipush (v := 24) d_M_feed_88 (by decide) ?_
  refine ab_bipush (v := 8) d_M_feed_90 (by decide) ?_
  refine ab_iload d_M_feed_92 rfl ?_
  refine ab_iconst (v := 4) d_M_feed_94 (by decide) ?_
  refine ab_irem d_M_feed_95 (by decide) ?_
  refine ab_topi (fun x661 ex661 => ?_)
  obtain rfl : x661 = 1 := ex661.trans (by decide)
  clear ex661
  refine ab_imul d_M_feed_96 ?_
  refine ab_topi (fun x662 ex662 => ?_)
  obtain rfl : x662 = 8 := ex662.trans (by decide)
  clear ex662
  refine ab_isub d_M_feed_97 ?_
  refine ab_topi (fun x663 ex663 => ?_)
  obtain rfl : x663 = 16 := ex663.trans (by decide)
  clear ex663
  refine ab_ishr d_M_feed_98 ?_
  refine ab_i2b d_M_feed_99 ?_
  refine ab_bast d_M_feed_100 tB c645 (in_of (by decide) (by decide) (by decide)) ?_
  refine ab_gen (fun h664 e665 => ?_)
  have c666 : h664[m]? = some (.inr (12, [.int 0, .ref (m + 1), .int 17, .ref (m + 2), .ref (m + 33), .int 0, .int (-1), .int (-1), .ref (m + 64), .ref (m + 74), .ref (m + 84), .ref (m + 94), .int 1, .int 0, .ref (m + 99), .ref (m + 100), .ref (m + 101), .ref (m + 102), .ref (m + 103), .ref (m + 104), .int 0, .ref (m + 105), .int 0, .int 0, .int 0, .ref (m + 106), .ref (m + 107), .int 0, .int 0])) := ab_other e665 (by omega) c644
  have c667 : h664[m+1]? = some (.inl (.byte, 6000, .inl (upd y639 (17 : Int32).toNatClampNeg (vp_nar .byte (((e >>> (16 &&& 31)) : Int32).toInt8.toInt32))))) := ab_self e665 c645
  have c668 : h664[m+99]? = some (.inl (.int, 256, .inl (fun _ => 0))) := ab_other e665 (by omega) c646
  have c669 : h664[m+100]? = some (.inl (.boolean, 256, .inl (fun _ => 0))) := ab_other e665 (by omega) c647
  have c670 : h664[m+101]? = some (.inl (.int, 64, .inl (fun _ => 0))) := ab_other e665 (by omega) c648
  have c671 : h664[m+102]? = some (.inl (.int, 4, .inl (fun _ => 0))) := ab_other e665 (by omega) c649
  have c672 : h664[m+103]? = some (.inl (.int, 4, .inl (fun _ => 0))) := ab_other e665 (by omega) c650
  have c673 : h664[m+104]? = some (.inl (.int, 256, .inl (fun _ => 0))) := ab_other e665 (by omega) c651
  have c674 : h664[m+105]? = some (.inl (.byte, 58000, .inl (fun _ => 0))) := ab_other e665 (by omega) c652
  have c675 : h664[m+106]? = some (.inl (.boolean, 8, .inl (a0_M w 25))) := ab_other e665 (by omega) c653
  have c676 : h664[m+107]? = some (.inl (.boolean, 8, .inl (fun _ => 0))) := ab_other e665 (by omega) c654
  have fr677 : ab_fr (fun _ => True) h h664 := ab_fr_set fr655 e665 (by trivial)
  clear c644 c645 c646 c647 c648 c649 c650 c651 c652 c653 c654 fr655 e665
  try clear h642
  obtain ⟨y678, c679⟩ : ∃ f : Nat → Int32, h664[m+1]? = some (.inl (.byte, 6000, .inl f)) := ⟨_, c667⟩
  clear c667
  refine ab_aload_n d_M_feed_101 rfl rfl rfl ?_
  refine ab_dup d_M_feed_102 rfl ?_
  refine ab_get (f := 2) d_M_feed_103 c666 rfl (by decide) (k9 235 rfl rfl) rfl ?_
  refine ab_iconst (v := 1) d_M_feed_106 (by decide) ?_
  refine ab_iadd d_M_feed_107 ?_
  refine ab_topi (fun x680 ex680 => ?_)
  obtain rfl : x680 = 18 := ex680.trans (by decide)
  clear ex680
  refine ab_put (f := 2) d_M_feed_108 c666 rfl (by decide) (k9 235 rfl rfl) rfl rfl (fun _ => rfl) (fun _ => rfl) (Nat.le_of_ble_eq_true rfl) ?_
  show ab_V _ _ _ _ _ _ _ 111 [some (.ref m), some (.int a), some (.int b), some (.int c), some (.int d), some (.int e), some (.int 17), some (.int e)] [] (h664.set m (.inr (12, [.int 0, .ref (m + 1), .int 18, .ref (m + 2), .ref (m + 33), .int 0, .int (-1), .int (-1), .ref (m + 64), .ref (m + 74), .ref (m + 84), .ref (m + 94), .int 1, .int 0, .ref (m + 99), .ref (m + 100), .ref (m + 101), .ref (m + 102), .ref (m + 103), .ref (m + 104), .int 0, .ref (m + 105), .int 0, .int 0, .int 0, .ref (m + 106), .ref (m + 107), .int 0, .int 0])))
  refine ab_gen (fun h681 e682 => ?_)
  have c683 : h681[m]? = some (.inr (12, [.int 0, .ref (m + 1), .int 18, .ref (m + 2), .ref (m + 33), .int 0, .int (-1), .int (-1), .ref (m + 64), .ref (m + 74), .ref (m + 84), .ref (m + 94), .int 1, .int 0, .ref (m + 99), .ref (m + 100), .ref (m + 101), .ref (m + 102), .ref (m + 103), .ref (m + 104), .int 0, .ref (m + 105), .int 0, .int 0, .int 0, .ref (m + 106), .ref (m + 107), .int 0, .int 0])) := ab_self e682 c666
  have c684 : h681[m+1]? = some (.inl (.byte, 6000, .inl y678)) := ab_other e682 (by omega) c679
  have c685 : h681[m+99]? = some (.inl (.int, 256, .inl (fun _ => 0))) := ab_other e682 (by omega) c668
  have c686 : h681[m+100]? = some (.inl (.boolean, 256, .inl (fun _ => 0))) := ab_other e682 (by omega) c669
  have c687 : h681[m+101]? = some (.inl (.int, 64, .inl (fun _ => 0))) := ab_other e682 (by omega) c670
  have c688 : h681[m+102]? = some (.inl (.int, 4, .inl (fun _ => 0))) := ab_other e682 (by omega) c671
  have c689 : h681[m+103]? = some (.inl (.int, 4, .inl (fun _ => 0))) := ab_other e682 (by omega) c672
  have c690 : h681[m+104]? = some (.inl (.int, 256, .inl (fun _ => 0))) := ab_other e682 (by omega) c673
  have c691 : h681[m+105]? = some (.inl (.byte, 58000, .inl (fun _ => 0))) := ab_other e682 (by omega) c674
  have c692 : h681[m+106]? = some (.inl (.boolean, 8, .inl (a0_M w 25))) := ab_other e682 (by omega) c675
  have c693 : h681[m+107]? = some (.inl (.boolean, 8, .inl (fun _ => 0))) := ab_other e682 (by omega) c676
  have fr694 : ab_fr (fun _ => True) h h681 := ab_fr_set fr677 e682 (by trivial)
  clear c666 c679 c668 c669 c670 c671 c672 c673 c674 c675 c676 fr677 e682
  try clear h664
  refine ab_iinc (v := 18) (lv' := [some (.ref m), some (.int a), some (.int b), some (.int c), some (.int d), some (.int e), some (.int 18), some (.int e)]) d_M_feed_111 rfl (by decide) (by decide) rfl ?_
  refine ab_goto (tgt := 23) d_M_feed_114 (by decide) ?_
  refine ab_iload d_M_feed_23 rfl ?_
  refine ab_bipush (v := 20) d_M_feed_25 (by decide) ?_
  refine ab_icmp_ge (tgt := 117) d_M_feed_27 (by decide) (fun q695 => by exact absurd q695 (by decide)) (fun q695 => ?_)
  refine ab_iload d_M_feed_30 rfl ?_
  refine ab_iconst (v := 4) d_M_feed_32 (by decide) ?_
  refine ab_icmp_ge (tgt := 40) d_M_feed_33 (by decide) (fun q696 => ?_) (fun q696 => by exact absurd (by decide) q696)
  refine ab_iload d_M_feed_40 rfl ?_
  refine ab_bipush (v := 8) d_M_feed_42 (by decide) ?_
  refine ab_icmp_ge (tgt := 51) d_M_feed_44 (by decide) (fun q697 => ?_) (fun q697 => by exact absurd (by decide) q697)
  refine ab_iload d_M_feed_51 rfl ?_
  refine ab_bipush (v := 12) d_M_feed_53 (by decide) ?_
  refine ab_icmp_ge (tgt := 62) d_M_feed_55 (by decide) (fun q698 => ?_) (fun q698 => by exact absurd (by decide) q698)
  refine ab_iload d_M_feed_62 rfl ?_
  refine ab_bipush (v := 16) d_M_feed_64 (by decide) ?_
  refine ab_icmp_ge (tgt := 74) d_M_feed_66 (by decide) (fun q699 => ?_) (fun q699 => by exact absurd (by decide) q699)
  refine ab_iload d_M_feed_74 rfl ?_
  refine ab_istore (lv' := [some (.ref m), some (.int a), some (.int b), some (.int c), some (.int d), some (.int e), some (.int 18), some (.int e)]) d_M_feed_76 (by decide) rfl ?_
  refine ab_aload_n d_M_feed_78 rfl rfl rfl ?_
  refine ab_get (f := 1) d_M_feed_79 c683 rfl (by decide) (k9 234 rfl rfl) rfl ?_
  refine ab_aload_n d_M_feed_82 rfl rfl rfl ?_
  refine ab_get (f := 2) d_M_feed_83 c683 rfl (by decide) (k9 235 rfl rfl) rfl ?_
  refine ab_iload d_M_feed_86 rfl ?_
  refine ab_bipush (v := 24) d_M_feed_88 (by decide) ?_
  refine ab_bipush (v := 8) d_M_feed_90 (by decide) ?_
  refine ab_iload d_M_feed_92 rfl ?_
  refine ab_iconst (v := 4) d_M_feed_94 (by decide) ?_
  refine ab_irem d_M_feed_95 (by decide) ?_
  refine ab_topi (fun x700 ex700 => ?_)
  obtain rfl : x700 = 2 := ex700.trans (by decide)
  clear ex700
  refine ab_imul d_M_feed_96 ?_
  refine ab_topi (fun x701 ex701 => ?_)
  obtain rfl : x701 = 16 := ex701.trans (by decide)
  clear ex701
  refine ab_isub d_M_feed_97 ?_
  refine ab_topi (fun x702 ex702 => ?_)
  obtain rfl : x702 = 8 := ex702.trans (by decide)
  clear ex702
  refine ab_ishr d_M_feed_98 ?_
  refine ab_i2b d_M_feed_99 ?_
  refine ab_bast d_M_feed_100 tB c684 (in_of (by decide) (by decide) (by decide)) ?_
  refine ab_gen (fun h703 e704 => ?_)
  have c705 : h703[m]? = some (.inr (12, [.int 0, .ref (m + 1), .int 18, .ref (m + 2), .ref (m + 33), .int 0, .int (-1), .int (-1), .ref (m + 64), .ref (m + 74), .ref (m + 84), .ref (m + 94), .int 1, .int 0, .ref (m + 99), .ref (m + 100), .ref (m + 101), .ref (m + 102), .ref (m + 103), .ref (m + 104), .int 0, .ref (m + 105), .int 0, .int 0, .int 0, .ref (m + 106), .ref (m + 107), .int 0, .int 0])) := ab_other e704 (by omega) c683
  have c706 : h703[m+1]? = some (.inl (.byte, 6000, .inl (upd y678 (18 : Int32).toNatClampNeg (vp_nar .byte (((e >>> (8 &&& 31)) : Int32).toInt8.toInt32))))) := ab_self e704 c684
  have c707 : h703[m+99]? = some (.inl (.int, 256, .inl (fun _ => 0))) := ab_other e704 (by omega) c685
  have c708 : h703[m+100]? = some (.inl (.boolean, 256, .inl (fun _ => 0))) := ab_other e704 (by omega) c686
  have c709 : h703[m+101]? = some (.inl (.int, 64, .inl (fun _ => 0))) := ab_other e704 (by omega) c687
  have c710 : h703[m+102]? = some (.inl (.int, 4, .inl (fun _ => 0))) := ab_other e704 (by omega) c688
  have c711 : h703[m+103]? = some (.inl (.int, 4, .inl (fun _ => 0))) := ab_other e704 (by omega) c689
  have c712 : h703[m+104]? = some (.inl (.int, 256, .inl (fun _ => 0))) := ab_other e704 (by omega) c690
  have c713 : h703[m+105]? = some (.inl (.byte, 58000, .inl (fun _ => 0))) := ab_other e704 (by omega) c691
  have c714 : h703[m+106]? = some (.inl (.boolean, 8, .inl (a0_M w 25))) := ab_other e704 (by omega) c692
  have c715 : h703[m+107]? = some (.inl (.boolean, 8, .inl (fun _ => 0))) := ab_other e704 (by omega) c693
  have fr716 : ab_fr (fun _ => True) h h703 := ab_fr_set fr694 e704 (by trivial)
  clear c683 c684 c685 c686 c687 c688 c689 c690 c691 c692 c693 fr694 e704
  try clear h681
  obtain ⟨y717, c718⟩ : ∃ f : Nat → Int32, h703[m+1]? = some (.inl (.byte, 6000, .inl f)) := ⟨_, c706⟩
  clear c706
  refine ab_aload_n d_M_feed_101 rfl rfl rfl ?_
  refine ab_dup d_M_feed_102 rfl ?_
  refine ab_get (f := 2) d_M_feed_103 c705 rfl (by decide) (k9 235 rfl rfl) rfl ?_
  refine ab_iconst (v := 1) d_M_feed_106 (by decide) ?_
  refine ab_iadd d_M_feed_107 ?_
  refine ab_topi (fun x719 ex719 => ?_)
  obtain rfl : x719 = 19 := ex719.trans (by decide)
  clear ex719
  refine ab_put (f := 2) d_M_feed_108 c705 rfl (by decide) (k9 235 rfl rfl) rfl rfl (fun _ => rfl) (fun _ => rfl) (Nat.le_of_ble_eq_true rfl) ?_
  show ab_V _ _ _ _ _ _ _ 111 [some (.ref m), some (.int a), some (.int b), some (.int c), some (.int d), some (.int e), some (.int 18), some (.int e)] [] (h703.set m (.inr (12, [.int 0, .ref (m + 1), .int 19, .ref (m + 2), .ref (m + 33), .int 0, .int (-1), .int (-1), .ref (m + 64), .ref (m + 74), .ref (m + 84), .ref (m + 94), .int 1, .int 0, .ref (m + 99), .ref (m + 100), .ref (m + 101), .ref (m + 102), .ref (m + 103), .ref (m + 104), .int 0, .ref (m + 105), .int 0, .int 0, .int 0, .ref (m + 106), .ref (m + 107), .int 0, .int 0])))
  refine ab_gen (fun h720 e721 => ?_)
  have c722 : h720[m]? = some (.inr (12, [.int 0, .ref (m + 1), .int 19, .ref (m + 2), .ref (m + 33), .int 0, .int (-1), .int (-1), .ref (m + 64), .ref (m + 74), .ref (m + 84), .ref (m + 94), .int 1, .int 0, .ref (m + 99), .ref (m + 100), .ref (m + 101), .ref (m + 102), .ref (m + 103), .ref (m + 104), .int 0, .ref (m + 105), .int 0, .int 0, .int 0, .ref (m + 106), .ref (m + 107), .int 0, .int 0])) := ab_self e721 c705
  have c723 : h720[m+1]? = some (.inl (.byte, 6000, .inl y717)) := ab_other e721 (by omega) c718
  have c724 : h720[m+99]? = some (.inl (.int, 256, .inl (fun _ => 0))) := ab_other e721 (by omega) c707
  have c725 : h720[m+100]? = some (.inl (.boolean, 256, .inl (fun _ => 0))) := ab_other e721 (by omega) c708
  have c726 : h720[m+101]? = some (.inl (.int, 64, .inl (fun _ => 0))) := ab_other e721 (by omega) c709
  have c727 : h720[m+102]? = some (.inl (.int, 4, .inl (fun _ => 0))) := ab_other e721 (by omega) c710
  have c728 : h720[m+103]? = some (.inl (.int, 4, .inl (fun _ => 0))) := ab_other e721 (by omega) c711
  have c729 : h720[m+104]? = some (.inl (.int, 256, .inl (fun _ => 0))) := ab_other e721 (by omega) c712
  have c730 : h720[m+105]? = some (.inl (.byte, 58000, .inl (fun _ => 0))) := ab_other e721 (by omega) c713
  have c731 : h720[m+106]? = some (.inl (.boolean, 8, .inl (a0_M w 25))) := ab_other e721 (by omega) c714
  have c732 : h720[m+107]? = some (.inl (.boolean, 8, .inl (fun _ => 0))) := ab_other e721 (by omega) c715
  have fr733 : ab_fr (fun _ => True) h h720 := ab_fr_set fr716 e721 (by trivial)
  clear c705 c718 c707 c708 c709 c710 c711 c712 c713 c714 c715 fr716 e721
  try clear h703
  refine ab_iinc (v := 19) (lv' := [some (.ref m), some (.int a), some (.int b), some (.int c), some (.int d), some (.int e), some (.int 19), some (.int e)]) d_M_feed_111 rfl (by decide) (by decide) rfl ?_
  refine ab_goto (tgt := 23) d_M_feed_114 (by decide) ?_
  refine ab_iload d_M_feed_23 rfl ?_
  refine ab_bipush (v := 20) d_M_feed_25 (by decide) ?_
  refine ab_icmp_ge (tgt := 117) d_M_feed_27 (by decide) (fun q734 => by exact absurd q734 (by decide)) (fun q734 => ?_)
  refine ab_iload d_M_feed_30 rfl ?_
  refine ab_iconst (v := 4) d_M_feed_32 (by decide) ?_
  refine ab_icmp_ge (tgt := 40) d_M_feed_33 (by decide) (fun q735 => ?_) (fun q735 => by exact absurd (by decide) q735)
  refine ab_iload d_M_feed_40 rfl ?_
  refine ab_bipush (v := 8) d_M_feed_42 (by decide) ?_
  refine ab_icmp_ge (tgt := 51) d_M_feed_44 (by decide) (fun q736 => ?_) (fun q736 => by exact absurd (by decide) q736)
  refine ab_iload d_M_feed_51 rfl ?_
  refine ab_bipush (v := 12) d_M_feed_53 (by decide) ?_
  refine ab_icmp_ge (tgt := 62) d_M_feed_55 (by decide) (fun q737 => ?_) (fun q737 => by exact absurd (by decide) q737)
  refine ab_iload d_M_feed_62 rfl ?_
  refine ab_bipush (v := 16) d_M_feed_64 (by decide) ?_
  refine ab_icmp_ge (tgt := 74) d_M_feed_66 (by decide) (fun q738 => ?_) (fun q738 => by exact absurd (by decide) q738)
  refine ab_iload d_M_feed_74 rfl ?_
  refine ab_istore (lv' := [some (.ref m), some (.int a), some (.int b), some (.int c), some (.int d), some (.int e), some (.int 19), some (.int e)]) d_M_feed_76 (by decide) rfl ?_
  refine ab_aload_n d_M_feed_78 rfl rfl rfl ?_
  refine ab_get (f := 1) d_M_feed_79 c722 rfl (by decide) (k9 234 rfl rfl) rfl ?_
  refine ab_aload_n d_M_feed_82 rfl rfl rfl ?_
  refine ab_get (f := 2) d_M_feed_83 c722 rfl (by decide) (k9 235 rfl rfl) rfl ?_
  refine ab_iload d_M_feed_86 rfl ?_
  refine ab_bipush (v := 24) d_M_feed_88 (by decide) ?_
  refine ab_bipush (v := 8) d_M_feed_90 (by decide) ?_
  refine ab_iload d_M_feed_92 rfl ?_
  refine ab_iconst (v := 4) d_M_feed_94 (by decide) ?_
  refine ab_irem d_M_feed_95 (by decide) ?_
  refine ab_topi (fun x739 ex739 => ?_)
  obtain rfl : x739 = 3 := ex739.trans (by decide)
  clear ex739
  refine ab_imul d_M_feed_96 ?_
  refine ab_topi (fun x740 ex740 => ?_)
  obtain rfl : x740 = 24 := ex740.trans (by decide)
  clear ex740
  refine ab_isub d_M_feed_97 ?_
  refine ab_topi (fun x741 ex741 => ?_)
  obtain rfl : x741 = 0 := ex741.trans (by decide)
  clear ex741
  refine ab_ishr d_M_feed_98 ?_
  refine ab_i2b d_M_feed_99 ?_
  refine ab_bast d_M_feed_100 tB c723 (in_of (by decide) (by decide) (by decide)) ?_
  refine ab_gen (fun h742 e743 => ?_)
  have c744 : h742[m]? = some (.inr (12, [.int 0, .ref (m + 1), .int 19, .ref (m + 2), .ref (m + 33), .int 0, .int (-1), .int (-1), .ref (m + 64), .ref (m + 74), .ref (m + 84), .ref (m + 94), .int 1, .int 0, .ref (m + 99), .ref (m + 100), .ref (m + 101), .ref (m + 102), .ref (m + 103), .ref (m + 104), .int 0, .ref (m + 105), .int 0, .int 0, .int 0, .ref (m + 106), .ref (m + 107), .int 0, .int 0])) := ab_other e743 (by omega) c722
  have c745 : h742[m+1]? = some (.inl (.byte, 6000, .inl (upd y717 (19 : Int32).toNatClampNeg (vp_nar .byte (((e >>> (0 &&& 31)) : Int32).toInt8.toInt32))))) := ab_self e743 c723
  have c746 : h742[m+99]? = some (.inl (.int, 256, .inl (fun _ => 0))) := ab_other e743 (by omega) c724
  have c747 : h742[m+100]? = some (.inl (.boolean, 256, .inl (fun _ => 0))) := ab_other e743 (by omega) c725
  have c748 : h742[m+101]? = some (.inl (.int, 64, .inl (fun _ => 0))) := ab_other e743 (by omega) c726
  have c749 : h742[m+102]? = some (.inl (.int, 4, .inl (fun _ => 0))) := ab_other e743 (by omega) c727
  have c750 : h742[m+103]? = some (.inl (.int, 4, .inl (fun _ => 0))) := ab_other e743 (by omega) c728
  have c751 : h742[m+104]? = some (.inl (.int, 256, .inl (fun _ => 0))) := ab_other e743 (by omega) c729
  have c752 : h742[m+105]? = some (.inl (.byte, 58000, .inl (fun _ => 0))) := ab_other e743 (by omega) c730
  have c753 : h742[m+106]? = some (.inl (.boolean, 8, .inl (a0_M w 25))) := ab_other e743 (by omega) c731
  have c754 : h742[m+107]? = some (.inl (.boolean, 8, .inl (fun _ => 0))) := ab_other e743 (by omega) c732
  have fr755 : ab_fr (fun _ => True) h h742 := ab_fr_set fr733 e743 (by trivial)
  clear c722 c723 c724 c725 c726 c727 c728 c729 c730 c731 c732 fr733 e743
  try clear h720
  obtain ⟨y756, c757⟩ : ∃ f : Nat → Int32, h742[m+1]? = some (.inl (.byte, 6000, .inl f)) := ⟨_, c745⟩
  clear c745
  refine ab_aload_n d_M_feed_101 rfl rfl rfl ?_
  refine ab_dup d_M_feed_102 rfl ?_
  refine ab_get (f := 2) d_M_feed_103 c744 rfl (by decide) (k9 235 rfl rfl) rfl ?_
  refine ab_iconst (v := 1) d_M_feed_106 (by decide) ?_
  refine ab_iadd d_M_feed_107 ?_
  refine ab_topi (fun x758 ex758 => ?_)
  obtain rfl : x758 = 20 := ex758.trans (by decide)
  clear ex758
  refine ab_put (f := 2) d_M_feed_108 c744 rfl (by decide) (k9 235 rfl rfl) rfl rfl (fun _ => rfl) (fun _ => rfl) (Nat.le_of_ble_eq_true rfl) ?_
  show ab_V _ _ _ _ _ _ _ 111 [some (.ref m), some (.int a), some (.int b), some (.int c), some (.int d), some (.int e), some (.int 19), some (.int e)] [] (h742.set m (.inr (12, [.int 0, .ref (m + 1), .int 20, .ref (m + 2), .ref (m + 33), .int 0, .int (-1), .int (-1), .ref (m + 64), .ref (m + 74), .ref (m + 84), .ref (m + 94), .int 1, .int 0, .ref (m + 99), .ref (m + 100), .ref (m + 101), .ref (m + 102), .ref (m + 103), .ref (m + 104), .int 0, .ref (m + 105), .int 0, .int 0, .int 0, .ref (m + 106), .ref (m + 107), .int 0, .int 0])))
  refine ab_gen (fun h759 e760 => ?_)
  have c761 : h759[m]? = some (.inr (12, [.int 0, .ref (m + 1), .int 20, .ref (m + 2), .ref (m + 33), .int 0, .int (-1), .int (-1), .ref (m + 64), .ref (m + 74), .ref (m + 84), .ref (m + 94), .int 1, .int 0, .ref (m + 99), .ref (m + 100), .ref (m + 101), .ref (m + 102), .ref (m + 103), .ref (m + 104), .int 0, .ref (m + 105), .int 0, .int 0, .int 0, .ref (m + 106), .ref (m + 107), .int 0, .int 0])) := ab_self e760 c744
  have c762 : h759[m+1]? = some (.inl (.byte, 6000, .inl y756)) := ab_other e760 (by omega) c757
  have c763 : h759[m+99]? = some (.inl (.int, 256, .inl (fun _ => 0))) := ab_other e760 (by omega) c746
  have c764 : h759[m+100]? = some (.inl (.boolean, 256, .inl (fun _ => 0))) := ab_other e760 (by omega) c747
  have c765 : h759[m+101]? = some (.inl (.int, 64, .inl (fun _ => 0))) := ab_other e760 (by omega) c748
  have c766 : h759[m+102]? = some (.inl (.int, 4, .inl (fun _ => 0))) := ab_other e760 (by omega) c749
  have c767 : h759[m+103]? = some (.inl (.int, 4, .inl (fun _ => 0))) := ab_other e760 (by omega) c750
  have c768 : h759[m+104]? = some (.inl (.int, 256, .inl (fun _ => 0))) := ab_other e760 (by omega) c751
  have c769 : h759[m+105]? = some (.inl (.byte, 58000, .inl (fun _ => 0))) := ab_other e760 (by omega) c752
  have c770 : h759[m+106]? = some (.inl (.boolean, 8, .inl (a0_M w 25))) := ab_other e760 (by omega) c753
  have c771 : h759[m+107]? = some (.inl (.boolean, 8, .inl (fun _ => 0))) := ab_other e760 (by omega) c754
  have fr772 : ab_fr (fun _ => True) h h759 := ab_fr_set fr755 e760 (by trivial)
  clear c744 c757 c746 c747 c748 c749 c750 c751 c752 c753 c754 fr755 e760
  try clear h742
  refine ab_iinc (v := 20) (lv' := [some (.ref m), some (.int a), some (.int b), some (.int c), some (.int d), some (.int e), some (.int 20), some (.int e)]) d_M_feed_111 rfl (by decide) (by decide) rfl ?_
  refine ab_goto (tgt := 23) d_M_feed_114 (by decide) ?_
  refine ab_iload d_M_feed_23 rfl ?_
  refine ab_bipush (v := 20) d_M_feed_25 (by decide) ?_
  refine ab_icmp_ge (tgt := 117) d_M_feed_27 (by decide) (fun q773 => ?_) (fun q773 => by exact absurd (by decide) q773)
  refine ab_iconst (v := 1) d_M_feed_117 (by decide) ?_
  exact ab_zret d_M_feed_118 rfl rfl (Nat.le_refl _) (Nat.le_refl _) (by unfold sq_M_feed; exact ⟨rfl, trivial⟩)
