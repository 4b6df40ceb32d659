def mt_byte (s : Nat → Int32) (a : Nat → Nat → Int32) (i : Int32) : Int32 := if s 1 ≤ i then 0 else a 0 i.toNatClampNeg
theorem mt_in {s : Nat → Int32} {a : Nat → Nat → Int32} {mf : Int32 → Int32} {T : Nat} {i : Int32} (hT : s 1 = nI T) (hm : ∀ i, mt_byte s a i = mf i) (h : ¬ nI T ≤ i) : a 0 i.toNatClampNeg = mf i := by
  rw [← hm]
  unfold mt_byte
  rw [hT, if_neg h]
def sp_nl  (mf : Int32 → Int32) (T : Nat) : Nat → Nat → Nat
  | 0, i => i
  | n + 1, i => if (nI T) ≤ (nI i) then i else if (mf (nI i)) = (10 : Int32) then i else sp_nl  mf T n (i + 1) 
termination_by n => n
theorem sp_nl_0  (mf : Int32 → Int32) (T : Nat) (i : Nat)  : sp_nl  mf T 0 i  = i := by rw [sp_nl]
set_option maxRecDepth 20000 in
set_option maxHeartbeats 2000000 in
theorem l_nl {h : List ab_E} {t : Nat} {s : Nat → Int32} {a : Nat → Nat → Int32} {mf : Int32 → Int32} {T : Nat} {Po : Outcome → List ab_E → Prop} {mc ms cells slots : Nat} (hl : at_MText h t s a) {f c : Int32} (hT : s 1 = nI T) (hT2 : T ≤ 6000) (hm : ∀ i, mt_byte s a i = mf i) (hcl : cells ≤ ({ frames := 0, cells := 0, slots := 0, locals := 0 } : Room).cells) (hsl : slots ≤ ({ frames := 0, cells := 0, slots := 0, locals := 0 } : Room).slots) : ∀ (n i : Nat) , T ≤ i + n → i ≤ T → (i ≤ (sp_nl  mf T n i ) → (sp_nl  mf T n i ) ≤ T → ab_V y_MText_skips { frames := 0, cells := 0, slots := 0, locals := 0 } Po mc ms cells slots 102 [some (.ref t), some (.int f), some (.int (nI (sp_nl  mf T n i ))), some (.int 1), some (.int c)] [] h) → ab_V y_MText_skips { frames := 0, cells := 0, slots := 0, locals := 0 } Po mc ms cells slots 31 [some (.ref t), some (.int f), some (.int (nI i)), some (.int 1), some (.int c)] [] h := by
  have hl0 := hl; obtain ⟨go, g0, g3, g4, g5, g6, g7, g8, g13, g14, g15, g17, g18, g19, g20, g22, g23, g24, g25, g27, g28, g30, g31, g32, g33, g34, g35, g36, g38, g39, g40⟩ := hl
  replace go : h[t]? = some (.inr (14, [.ref (t + 1), .int (nI T), .int (s 2), .ref (t + 2), .ref (t + 3), .ref (t + 4), .ref (t + 5), .ref (t + 6), .ref (t + 7), .int (s 9), .int (s 10), .int (s 11), .int (s 12), .ref (t + 8), .ref (t + 9), .ref (t + 10), .int (s 16), .ref (t + 11), .ref (t + 12), .ref (t + 13), .ref (t + 14), .int (s 21), .ref (t + 15), .ref (t + 16), .ref (t + 17), .ref (t + 18), .int (s 26), .ref (t + 19), .ref (t + 20), .int (s 29), .ref (t + 21), .ref (t + 22), .ref (t + 23), .ref (t + 24), .ref (t + 25), .ref (t + 26), .ref (t + 27), .int (s 37), .ref (t + 28), .ref (t + 29), .ref (t + 30), .int (s 41), .int (s 42)])) := (by rw [← hT]; exact go)
  intro n
  induction n with
  | zero =>
    intro i  hif hiT hk
    refine ab_iload_n d_MText_skips_31 rfl rfl ?_
    refine ab_aload_n d_MText_skips_32 rfl rfl rfl ?_
    refine ab_get (f := 1) d_MText_skips_33 go rfl (by decide) (k8 160 rfl rfl) rfl ?_
    refine ab_icmp_ge (tgt := 102) d_MText_skips_36 (by decide) (fun q1 => ?_) (fun q1 => ?_)
    · rw [sp_nl_0] at hk
      exact hk (Nat.le_refl _) hiT
    · exact absurd (nI_le (a := T) (b := i) (by omega) (by omega)) q1
  | succ n ih =>
    intro i  hif hiT hk
    refine ab_iload_n d_MText_skips_31 rfl rfl ?_
    refine ab_aload_n d_MText_skips_32 rfl rfl rfl ?_
    refine ab_get (f := 1) d_MText_skips_33 go rfl (by decide) (k8 160 rfl rfl) rfl ?_
    refine ab_icmp_ge (tgt := 102) d_MText_skips_36 (by decide) (fun q1 => ?_) (fun q1 => ?_)
    · have heq : (sp_nl  mf T (n + 1) i ) = i := by rw [sp_nl]; rw [if_pos q1]; try rfl
      refine ab_widen (cells' := cells) (slots' := slots) (by first | exact Nat.le_refl _ | (show _ ≤ _; omega)) (by first | exact Nat.le_refl _ | (show _ ≤ _; omega)) ?_
      rw [heq] at hk
      exact hk (by first | omega | (show _ ≤ _; omega)) (by first | omega | (show _ ≤ _; omega))
    · have hlt : i < T := Nat.lt_of_not_le (fun z => q1 (by first | exact nI_le z (by omega) | (rw [hT]; exact nI_le z (by omega))))
      refine ab_aload_n d_MText_skips_39 rfl rfl rfl ?_
      refine ab_get (f := 0) d_MText_skips_40 go rfl (by decide) (k8 159 rfl rfl) rfl ?_
      refine ab_iload_n d_MText_skips_43 rfl rfl ?_
      refine ab_bald d_MText_skips_44 tB g0 (vp_in_nI (by omega) (by decide)) ?_
      refine ab_topi (fun x2 ex2 => ?_)
      obtain rfl : x2 = mf (nI i) := ex2.trans (mt_in hT hm q1)
      clear ex2
      refine ab_bipush (v := 10) d_MText_skips_45 (by decide) ?_
      refine ab_icmp_eq (tgt := 102) d_MText_skips_47 (by decide) (fun q3 => ?_) (fun q3 => ?_)
      · have heq : (sp_nl  mf T (n + 1) i ) = i := by rw [sp_nl]; rw [if_neg q1]; rw [if_pos q3]; try rfl
        refine ab_widen (cells' := cells) (slots' := slots) (by first | exact Nat.le_refl _ | (show _ ≤ _; omega)) (by first | exact Nat.le_refl _ | (show _ ≤ _; omega)) ?_
        rw [heq] at hk
        exact hk (by first | omega | (show _ ≤ _; omega)) (by first | omega | (show _ ≤ _; omega))
      · obtain ⟨x4, ex4⟩ : ∃ q : Int32, q = nI i + 1 := ⟨_, rfl⟩
        refine ab_iinc (v := x4) (lv' := [some (.ref t), some (.int f), some (.int x4), some (.int 1), some (.int c)]) d_MText_skips_50 rfl (by rw [ex4]; rfl) (by decide) rfl ?_
        refine ab_goto (tgt := 31) d_MText_skips_53 (by decide) ?_
        subst ex4
        have heq : (sp_nl  mf T (n + 1) i ) = (sp_nl  mf T n (i + 1) ) := by rw [sp_nl]; rw [if_neg q1]; rw [if_neg q3]; try rfl
        rw [nI_1]
        refine ab_widen (cells' := cells) (slots' := slots) (by first | exact Nat.le_refl _ | (show _ ≤ _; omega)) (by first | exact Nat.le_refl _ | (show _ ≤ _; omega)) ?_
        rw [heq] at hk
        exact ih (i + 1)  (by omega) (by omega) (fun q1 q2 => hk (by omega) q2)
theorem nl_ge {mf : Int32 → Int32} {T : Nat} : ∀ (n i : Nat), i ≤ sp_nl mf T n i ∧ (i + n ≤ T → sp_nl mf T n i ≤ T) := by
  intro n
  induction n with
  | zero => intro i; rw [sp_nl_0]; exact ⟨Nat.le_refl _, fun h => by omega⟩
  | succ n ih =>
    intro i
    have go := ih (i + 1)
    rw [sp_nl]
    repeat' split
    all_goals first | exact ⟨Nat.le_refl _, fun h => by omega⟩ | exact ⟨by omega, fun h => go.2 (by omega)⟩
def mt_nl (mf : Int32 → Int32) (T i : Nat) : Nat := sp_nl mf T (T - i) i
theorem mt_nl_adv {mf : Int32 → Int32} {T i : Nat} (hT : T ≤ 6000) (hi : i < T) (h : mf (nI i) = 35) : i + 1 ≤ mt_nl mf T i ∧ mt_nl mf T i ≤ T := by
  unfold mt_nl
  refine ⟨?_, (nl_ge _ _).2 (by omega)⟩
  obtain ⟨k, hk⟩ : ∃ k, T - i = k + 1 := ⟨T - i - 1, by omega⟩
  rw [hk, sp_nl, if_neg (fun z => absurd ((nI_leI (by omega) (by omega)).mp z) (by omega)), if_neg (by rw [h]; decide)]
  exact (nl_ge k (i + 1)).1
/-- where the blanks and remarks from i on end -/
def mt_sk (mf : Int32 → Int32) (T : Nat) : Nat → Nat → Nat
  | 0, i => i
  | n + 1, i => if T ≤ i then i else if ¬ mf (nI i) = 35 then if mf (nI i) = 9 then mt_sk mf T n (i + 1) else if mf (nI i) = 10 then mt_sk mf T n (i + 1) else if mf (nI i) = 13 then mt_sk mf T n (i + 1) else if ¬ mf (nI i) = 32 then i else mt_sk mf T n (i + 1)
      else mt_sk mf T n (mt_nl mf T i)
termination_by n => n
set_option maxRecDepth 20000 in
set_option maxHeartbeats 2000000 in
theorem l_sk {h : List ab_E} {t : Nat} {s : Nat → Int32} {a : Nat → Nat → Int32} {mf : Int32 → Int32} {T : Nat} {f : Int32} {Po : Outcome → List ab_E → Prop} {mc ms cells slots : Nat} (hcl : cells ≤ ({ frames := 0, cells := 0, slots := 0, locals := 0 } : Room).cells) (hsl : slots ≤ ({ frames := 0, cells := 0, slots := 0, locals := 0 } : Room).slots) (hl : at_MText h t s a) (hT : s 1 = nI T) (hT2 : T ≤ 6000) (hm : ∀ i, mt_byte s a i = mf i) : ∀ (n i : Nat), T ≤ i + n → i ≤ T → (i ≤ mt_sk mf T n i → mt_sk mf T n i ≤ T → ab_V y_MText_skips { frames := 0, cells := 0, slots := 0, locals := 0 } Po mc ms cells slots 105 [some (.ref t), some (.int f), some (.int (nI (mt_sk mf T n i))), none, none] [] h) → ab_V y_MText_skips { frames := 0, cells := 0, slots := 0, locals := 0 } Po mc ms cells slots 4 [some (.ref t), some (.int f), some (.int (nI i)), some (.int 1), none] [] h := by
  have hl0 := hl; obtain ⟨go, g0, g3, g4, g5, g6, g7, g8, g13, g14, g15, g17, g18, g19, g20, g22, g23, g24, g25, g27, g28, g30, g31, g32, g33, g34, g35, g36, g38, g39, g40⟩ := hl
  replace go : h[t]? = some (.inr (14, [.ref (t + 1), .int (nI T), .int (s 2), .ref (t + 2), .ref (t + 3), .ref (t + 4), .ref (t + 5), .ref (t + 6), .ref (t + 7), .int (s 9), .int (s 10), .int (s 11), .int (s 12), .ref (t + 8), .ref (t + 9), .ref (t + 10), .int (s 16), .ref (t + 11), .ref (t + 12), .ref (t + 13), .ref (t + 14), .int (s 21), .ref (t + 15), .ref (t + 16), .ref (t + 17), .ref (t + 18), .int (s 26), .ref (t + 19), .ref (t + 20), .int (s 29), .ref (t + 21), .ref (t + 22), .ref (t + 23), .ref (t + 24), .ref (t + 25), .ref (t + 26), .ref (t + 27), .int (s 37), .ref (t + 28), .ref (t + 29), .ref (t + 30), .int (s 41), .int (s 42)])) := (by rw [← hT]; exact go)
  intro n
  induction n with
  | zero =>
    intro i hif hiT hk
    refine ab_iload_n d_MText_skips_4 rfl rfl ?_
    refine ab_if_eq (tgt := 105) d_MText_skips_5 (by decide) (fun q1 => by exact absurd q1 (by decide)) (fun q1 => ?_)
    refine ab_iload_n d_MText_skips_8 rfl rfl ?_
    refine ab_aload_n d_MText_skips_9 rfl rfl rfl ?_
    refine ab_get (f := 1) d_MText_skips_10 go rfl (by decide) (k8 160 rfl rfl) rfl ?_
    refine ab_icmp_ge (tgt := 105) d_MText_skips_13 (by decide) (fun q2 => ?_) (fun q2 => ?_)
    · have hTi : T ≤ i := (nI_leI (by omega) (by omega)).mp q2
      have heq : mt_sk mf T 0 i = i := by rw [mt_sk]
      rw [heq] at hk
      refine ab_sub (lv' := [some (.ref t), some (.int f), some (.int (nI i)), none, none]) (by intro i v hv; match i, hv with | 0, hv => exact hv | 1, hv => exact hv | 2, hv => exact hv | 3, hv => exact nomatch (show some (none : Option Value) = some (some v) from hv) | 4, hv => exact nomatch (show some (none : Option Value) = some (some v) from hv) | k + 5, hv => exact nomatch (show (none : Option (Option Value)) = some (some v) from hv)) ?_
      exact hk (Nat.le_refl _) hiT
    · exact absurd (nI_le (a := T) (b := i) (by omega) (by omega)) q2
  | succ n ih =>
    intro i hif hiT hk
    refine ab_iload_n d_MText_skips_4 rfl rfl ?_
    refine ab_if_eq (tgt := 105) d_MText_skips_5 (by decide) (fun q1 => by exact absurd q1 (by decide)) (fun q1 => ?_)
    refine ab_iload_n d_MText_skips_8 rfl rfl ?_
    refine ab_aload_n d_MText_skips_9 rfl rfl rfl ?_
    refine ab_get (f := 1) d_MText_skips_10 go rfl (by decide) (k8 160 rfl rfl) rfl ?_
    refine ab_icmp_ge (tgt := 105) d_MText_skips_13 (by decide) (fun q2 => ?_) (fun q2 => ?_)
    · have hTi : T ≤ i := (nI_leI (by omega) (by omega)).mp q2
      have heq : mt_sk mf T (n + 1) i = i := by rw [mt_sk]; rw [if_pos hTi]
      rw [heq] at hk
      refine ab_sub (lv' := [some (.ref t), some (.int f), some (.int (nI i)), none, none]) (by intro i v hv; match i, hv with | 0, hv => exact hv | 1, hv => exact hv | 2, hv => exact hv | 3, hv => exact nomatch (show some (none : Option Value) = some (some v) from hv) | 4, hv => exact nomatch (show some (none : Option Value) = some (some v) from hv) | k + 5, hv => exact nomatch (show (none : Option (Option Value)) = some (some v) from hv)) ?_
      exact hk (Nat.le_refl _) hiT
    · have hlt : i < T := Nat.lt_of_not_le (fun z => q2 (nI_le z (by omega)))
      refine ab_aload_n d_MText_skips_16 rfl rfl rfl ?_
      refine ab_get (f := 0) d_MText_skips_17 go rfl (by decide) (k8 159 rfl rfl) rfl ?_
      refine ab_iload_n d_MText_skips_20 rfl rfl ?_
      refine ab_bald d_MText_skips_21 tB g0 (vp_in_nI (by omega) (by decide)) ?_
      refine ab_topi (fun x3 ex3 => ?_)
      obtain rfl : x3 = mf (nI i) := ex3.trans (mt_in hT hm q2)
      clear ex3
      refine ab_istore (lv' := [some (.ref t), some (.int f), some (.int (nI i)), some (.int 1), some (.int (mf (nI i)))]) d_MText_skips_22 (by decide) rfl ?_
      refine ab_iload d_MText_skips_24 rfl ?_
      refine ab_bipush (v := 35) d_MText_skips_26 (by decide) ?_
      refine ab_icmp_ne (tgt := 56) d_MText_skips_28 (by decide) (fun q4 => ?_) (fun q4 => ?_)
      · refine ab_iload d_MText_skips_56 rfl ?_
        refine ab_bipush (v := 9) d_MText_skips_58 (by decide) ?_
        refine ab_icmp_eq (tgt := 84) d_MText_skips_60 (by decide) (fun q5 => ?_) (fun q5 => ?_)
        · refine ab_iconst (v := 1) d_MText_skips_84 (by decide) ?_
          refine ab_goto (tgt := 89) d_MText_skips_85 (by decide) ?_
          refine ab_istore_n (lv' := [some (.ref t), some (.int f), some (.int (nI i)), some (.int 1), some (.int (mf (nI i)))]) d_MText_skips_89 rfl (by decide) rfl ?_
          refine ab_iload_n d_MText_skips_90 rfl rfl ?_
          refine ab_iload_n d_MText_skips_91 rfl rfl ?_
          refine ab_if_eq (tgt := 99) d_MText_skips_92 (by decide) (fun q6 => by exact absurd q6 (by decide)) (fun q6 => ?_)
          refine ab_iconst (v := 1) d_MText_skips_95 (by decide) ?_
          refine ab_goto (tgt := 100) d_MText_skips_96 (by decide) ?_
          refine ab_iadd d_MText_skips_100 ?_
          refine ab_topi (fun x7 ex7 => ?_)
          obtain rfl : x7 = nI (i + 1) := ex7.trans (nI_1 _)
          clear ex7
          refine ab_istore_n (lv' := [some (.ref t), some (.int f), some (.int (nI (i + 1))), some (.int 1), some (.int (mf (nI i)))]) d_MText_skips_101 rfl (by decide) rfl ?_
          refine ab_goto (tgt := 4) d_MText_skips_102 (by decide) ?_
          have heq : mt_sk mf T (n + 1) i = mt_sk mf T n (i + 1) := by rw [mt_sk]; rw [if_neg (by omega)]; rw [if_pos q4]; rw [if_pos q5]; try rfl
          rw [heq] at hk
          refine ab_sub (lv' := [some (.ref t), some (.int f), some (.int (nI (i + 1))), some (.int 1), none]) (by intro i v hv; match i, hv with | 0, hv => exact hv | 1, hv => exact hv | 2, hv => exact hv | 3, hv => exact hv | 4, hv => exact nomatch (show some (none : Option Value) = some (some v) from hv) | k + 5, hv => exact nomatch (show (none : Option (Option Value)) = some (some v) from hv)) ?_
          exact ih (i + 1) (by omega) (by omega) (fun q1 q2 => hk (by omega) q2)
        · refine ab_iload d_MText_skips_63 rfl ?_
          refine ab_bipush (v := 10) d_MText_skips_65 (by decide) ?_
          refine ab_icmp_eq (tgt := 84) d_MText_skips_67 (by decide) (fun q8 => ?_) (fun q8 => ?_)
          · refine ab_iconst (v := 1) d_MText_skips_84 (by decide) ?_
            refine ab_goto (tgt := 89) d_MText_skips_85 (by decide) ?_
            refine ab_istore_n (lv' := [some (.ref t), some (.int f), some (.int (nI i)), some (.int 1), some (.int (mf (nI i)))]) d_MText_skips_89 rfl (by decide) rfl ?_
            refine ab_iload_n d_MText_skips_90 rfl rfl ?_
            refine ab_iload_n d_MText_skips_91 rfl rfl ?_
            refine ab_if_eq (tgt := 99) d_MText_skips_92 (by decide) (fun q9 => by exact absurd q9 (by decide)) (fun q9 => ?_)
            refine ab_iconst (v := 1) d_MText_skips_95 (by decide) ?_
            refine ab_goto (tgt := 100) d_MText_skips_96 (by decide) ?_
            refine ab_iadd d_MText_skips_100 ?_
            refine ab_topi (fun x10 ex10 => ?_)
            obtain rfl : x10 = nI (i + 1) := ex10.trans (nI_1 _)
            clear ex10
            refine ab_istore_n (lv' := [some (.ref t), some (.int f), some (.int (nI (i + 1))), some (.int 1), some (.int (mf (nI i)))]) d_MText_skips_101 rfl (by decide) rfl ?_
            refine ab_goto (tgt := 4) d_MText_skips_102 (by decide) ?_
            have heq : mt_sk mf T (n + 1) i = mt_sk mf T n (i + 1) := by rw [mt_sk]; rw [if_neg (by omega)]; rw [if_pos q4]; rw [if_neg q5]; rw [if_pos q8]; try rfl
            rw [heq] at hk
            refine ab_sub (lv' := [some (.ref t), some (.int f), some (.int (nI (i + 1))), some (.int 1), none]) (by intro i v hv; match i, hv with | 0, hv => exact hv | 1, hv => exact hv | 2, hv => exact hv | 3, hv => exact hv | 4, hv => exact nomatch (show some (none : Option Value) = some (some v) from hv) | k + 5, hv => exact nomatch (show (none : Option (Option Value)) = some (some v) from hv)) ?_
            exact ih (i + 1) (by omega) (by omega) (fun q1 q2 => hk (by omega) q2)
          · refine ab_iload d_MText_skips_70 rfl ?_
            refine ab_bipush (v := 13) d_MText_skips_72 (by decide) ?_
            refine ab_icmp_eq (tgt := 84) d_MText_skips_74 (by decide) (fun q11 => ?_) (fun q11 => ?_)
            · refine ab_iconst (v := 1) d_MText_skips_84 (by decide) ?_
              refine ab_goto (tgt := 89) d_MText_skips_85 (by decide) ?_
              refine ab_istore_n (lv' := [some (.ref t), some (.int f), some (.int (nI i)), some (.int 1), some (.int (mf (nI i)))]) d_MText_skips_89 rfl (by decide) rfl ?_
              refine ab_iload_n d_MText_skips_90 rfl rfl ?_
              refine ab_iload_n d_MText_skips_91 rfl rfl ?_
              refine ab_if_eq (tgt := 99) d_MText_skips_92 (by decide) (fun q12 => by exact absurd q12 (by decide)) (fun q12 => ?_)
              refine ab_iconst (v := 1) d_MText_skips_95 (by decide) ?_
              refine ab_goto (tgt := 100) d_MText_skips_96 (by decide) ?_
              refine ab_iadd d_MText_skips_100 ?_
              refine ab_topi (fun x13 ex13 => ?_)
              obtain rfl : x13 = nI (i + 1) := ex13.trans (nI_1 _)
              clear ex13
              refine ab_istore_n (lv' := [some (.ref t), some (.int f), some (.int (nI (i + 1))), some (.int 1), some (.int (mf (nI i)))]) d_MText_skips_101 rfl (by decide) rfl ?_
              refine ab_goto (tgt := 4) d_MText_skips_102 (by decide) ?_
              have heq : mt_sk mf T (n + 1) i = mt_sk mf T n (i + 1) := by rw [mt_sk]; rw [if_neg (by omega)]; rw [if_pos q4]; rw [if_neg q5]; rw [if_neg q8]; rw [if_pos q11]; try rfl
              rw [heq] at hk
              refine ab_sub (lv' := [some (.ref t), some (.int f), some (.int (nI (i + 1))), some (.int 1), none]) (by intro i v hv; match i, hv with | 0, hv => exact hv | 1, hv => exact hv | 2, hv => exact hv | 3, hv => exact hv | 4, hv => exact nomatch (show some (none : Option Value) = some (some v) from hv) | k + 5, hv => exact nomatch (show (none : Option (Option Value)) = some (some v) from hv)) ?_
              exact ih (i + 1) (by omega) (by omega) (fun q1 q2 => hk (by omega) q2)
            · refine ab_iload d_MText_skips_77 rfl ?_
              refine ab_bipush (v := 32) d_MText_skips_79 (by decide) ?_
              refine ab_icmp_ne (tgt := 88) d_MText_skips_81 (by decide) (fun q14 => ?_) (fun q14 => ?_)
              · refine ab_iconst (v := 0) d_MText_skips_88 (by decide) ?_
                refine ab_istore_n (lv' := [some (.ref t), some (.int f), some (.int (nI i)), some (.int 0), some (.int (mf (nI i)))]) d_MText_skips_89 rfl (by decide) rfl ?_
                refine ab_iload_n d_MText_skips_90 rfl rfl ?_
                refine ab_iload_n d_MText_skips_91 rfl rfl ?_
                refine ab_if_eq (tgt := 99) d_MText_skips_92 (by decide) (fun q15 => ?_) (fun q15 => by exact absurd (by decide) q15)
                refine ab_iconst (v := 0) d_MText_skips_99 (by decide) ?_
                refine ab_iadd d_MText_skips_100 ?_
                refine ab_topi (fun x16 ex16 => ?_)
                obtain rfl : x16 = nI i := ex16.trans (Int32.add_zero _)
                clear ex16
                refine ab_istore_n (lv' := [some (.ref t), some (.int f), some (.int (nI i)), some (.int 0), some (.int (mf (nI i)))]) d_MText_skips_101 rfl (by decide) rfl ?_
                refine ab_goto (tgt := 4) d_MText_skips_102 (by decide) ?_
                have heq : mt_sk mf T (n + 1) i = i := by rw [mt_sk]; rw [if_neg (by omega)]; rw [if_pos q4]; rw [if_neg q5]; rw [if_neg q8]; rw [if_neg q11]; rw [if_pos q14]; try rfl
                rw [heq] at hk
                refine ab_iload_n d_MText_skips_4 rfl rfl ?_
                refine ab_if_eq (tgt := 105) d_MText_skips_5 (by decide) (fun q17 => ?_) (fun q17 => by exact absurd (by decide) q17)
                refine ab_sub (lv' := [some (.ref t), some (.int f), some (.int (nI i)), none, none]) (by intro i v hv; match i, hv with | 0, hv => exact hv | 1, hv => exact hv | 2, hv => exact hv | 3, hv => exact nomatch (show some (none : Option Value) = some (some v) from hv) | 4, hv => exact nomatch (show some (none : Option Value) = some (some v) from hv) | k + 5, hv => exact nomatch (show (none : Option (Option Value)) = some (some v) from hv)) ?_
                exact hk (Nat.le_refl _) hiT
              · refine ab_iconst (v := 1) d_MText_skips_84 (by decide) ?_
                refine ab_goto (tgt := 89) d_MText_skips_85 (by decide) ?_
                refine ab_istore_n (lv' := [some (.ref t), some (.int f), some (.int (nI i)), some (.int 1), some (.int (mf (nI i)))]) d_MText_skips_89 rfl (by decide) rfl ?_
                refine ab_iload_n d_MText_skips_90 rfl rfl ?_
                refine ab_iload_n d_MText_skips_91 rfl rfl ?_
                refine ab_if_eq (tgt := 99) d_MText_skips_92 (by decide) (fun q18 => by exact absurd q18 (by decide)) (fun q18 => ?_)
                refine ab_iconst (v := 1) d_MText_skips_95 (by decide) ?_
                refine ab_goto (tgt := 100) d_MText_skips_96 (by decide) ?_
                refine ab_iadd d_MText_skips_100 ?_
                refine ab_topi (fun x19 ex19 => ?_)
                obtain rfl : x19 = nI (i + 1) := ex19.trans (nI_1 _)
                clear ex19
                refine ab_istore_n (lv' := [some (.ref t), some (.int f), some (.int (nI (i + 1))), some (.int 1), some (.int (mf (nI i)))]) d_MText_skips_101 rfl (by decide) rfl ?_
                refine ab_goto (tgt := 4) d_MText_skips_102 (by decide) ?_
                have heq : mt_sk mf T (n + 1) i = mt_sk mf T n (i + 1) := by rw [mt_sk]; rw [if_neg (by omega)]; rw [if_pos q4]; rw [if_neg q5]; rw [if_neg q8]; rw [if_neg q11]; rw [if_neg (fun z => z q14)]; try rfl
                rw [heq] at hk
                refine ab_sub (lv' := [some (.ref t), some (.int f), some (.int (nI (i + 1))), some (.int 1), none]) (by intro i v hv; match i, hv with | 0, hv => exact hv | 1, hv => exact hv | 2, hv => exact hv | 3, hv => exact hv | 4, hv => exact nomatch (show some (none : Option Value) = some (some v) from hv) | k + 5, hv => exact nomatch (show (none : Option (Option Value)) = some (some v) from hv)) ?_
                exact ih (i + 1) (by omega) (by omega) (fun q1 q2 => hk (by omega) q2)
      · have h35 : mf (nI i) = 35 := q4
        refine l_nl hl0 hT hT2 hm hcl hsl (T - i) i (by omega) (by omega) (fun g20 g21 => ?_)
        obtain ⟨ad1, ad2⟩ := mt_nl_adv hT2 hlt h35
        show ab_V _ _ _ _ _ _ _ _ [some (.ref t), some (.int f), some (.int (nI (mt_nl mf T i))), some (.int 1), some (.int (mf (nI i)))] _ _
        refine ab_goto (tgt := 4) d_MText_skips_102 (by decide) ?_
        have heq : mt_sk mf T (n + 1) i = mt_sk mf T n (mt_nl mf T i) := by rw [mt_sk]; rw [if_neg (by omega)]; rw [if_neg (fun z => z q4)]; try rfl
        rw [heq] at hk
        refine ab_sub (lv' := [some (.ref t), some (.int f), some (.int (nI (mt_nl mf T i))), some (.int 1), none]) (by intro i v hv; match i, hv with | 0, hv => exact hv | 1, hv => exact hv | 2, hv => exact hv | 3, hv => exact hv | 4, hv => exact nomatch (show some (none : Option Value) = some (some v) from hv) | k + 5, hv => exact nomatch (show (none : Option (Option Value)) = some (some v) from hv)) ?_
        exact ih (mt_nl mf T i) (by omega) (by omega) (fun q1 q2 => hk (by omega) q2)
