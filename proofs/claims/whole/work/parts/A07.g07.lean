set_option maxRecDepth 20000 in
set_option maxHeartbeats 2000000 in
theorem gB_W_shown_21 {N : Nat} {Q : Nat → Prop} {p0 : Nat} {p1 : Int32} {B : Nat} (hn : ∀ a, B ≤ a → Q a) (q_p0 : Q p0)  {H : Hp} {r : (Ot Int32) × Hp} (hF : B_W_shown_21 N p0 p1  H = some r) (hc0 : Cl Q H) (hB : B ≤ H.sh.length) : Rg Q H r.2 ∧ (∀ x, r.1 = .inr x → Q x) := by
  unfold B_W_shown_21 at hF
  have hm := Rg.rf hc0
  have hr := Option.some.inj hF; subst hr
  exact ⟨hm.tr (Rg.nx hm.1), (fun x e => by cases e; exact hn _ hB)⟩
set_option maxRecDepth 20000 in
set_option maxHeartbeats 2000000 in
theorem g_W_shown {N : Nat} {Q : Nat → Prop} {p0 : Nat} {p1 : Int32} {H : Hp} {r : (Ot Int32) × Hp} {B : Nat} (hn : ∀ a, B ≤ a → Q a) (hF : F_W_shown N p0 p1 H = some r) (hc0 : Cl Q H) (hB : B ≤ H.sh.length) (q_p0 : Q p0) : Rg Q H r.2 ∧ (∀ x, r.1 = .inr x → Q x) := by
  unfold F_W_shown at hF
  have hm := Rg.rf hc0
  rcases ite_s hF with ⟨q_5, hG⟩ | ⟨q_5, hG⟩
  · clear hF
    have gz := gB_W_shown_21 hn q_p0 hG hm.1 hB
    exact ⟨hm.tr gz.1, gz.2⟩
  · clear hF
    obtain ⟨q51, hF⟩ := ck_s hG; clear hG
    obtain ⟨a52, e53, hG⟩ := rf_s hF; clear hF
    have qa52 : Q a52 := hm.1 _ _ _ q_p0 e53
    obtain ⟨q54, hF⟩ := ck_s hG; clear hG
    obtain ⟨x55, -, hG⟩ := bnd_g hF; clear hF
    obtain ⟨v57, H58, z56, hF⟩ := bC_s hG; clear hG
    have gz_6 := (g_Math_min z56 hm.1)
    replace hm : Rg Q H H58 := hm.tr gz_6
    replace hB : B ≤ H58.sh.length := Nat.le_trans hB ((m_Math_min z56)).mo.len
    have s_7 : Sa H H58 := (m_Math_min z56)
    rcases ite_s hF with ⟨q_8, hG⟩ | ⟨q_8, hG⟩
    · clear hF
      obtain ⟨a60, e61, hF⟩ := rf_s hG; clear hG
      have qa60 : Q a60 := hm.1 _ _ _ q_p0 e61
      obtain ⟨q62, hG⟩ := ck_s hF; clear hF
      rw [(s_7).1] at q62
      obtain ⟨a63, e64, hF⟩ := rf_s hG; clear hG
      have qa63 : Q a63 := hm.1 _ _ _ qa60 e64
      obtain ⟨a65, e66, hG⟩ := rf_s hF; clear hF
      have qa65 : Q a65 := hm.1 _ _ _ q_p0 e66
      obtain ⟨q67, hF⟩ := ck_s hG; clear hG
      rw [(s_7).1] at q67
      obtain ⟨x68, -, hG⟩ := bnd_g hF; clear hF
      obtain ⟨n69, q70, hF⟩ := ar_s hG; clear hG
      rw [(s_7).1] at q70
      obtain ⟨q71, hG⟩ := ck_s hF; clear hF
      obtain ⟨x72, -, hF⟩ := bnd_g hG; clear hG
      have hr := Option.some.inj hF; subst hr
      exact ⟨hm, (fun x e => by cases e)⟩
    · clear hF
      have gz := gB_W_shown_21 hn q_p0 hG hm.1 hB
      exact ⟨hm.tr gz.1, gz.2⟩
set_option maxRecDepth 20000 in
set_option maxHeartbeats 2000000 in
theorem gB_Law_shown_12 {N : Nat} {Q : Nat → Prop} {p0 : Nat} {p1 : Int32} {p2 : Nat} {B : Nat} (hn : ∀ a, B ≤ a → Q a) (q_p0 : Q p0) (q_p2 : Q p2) {w0 : Nat} {H : Hp} {r : Int32 × Hp} (hF : B_Law_shown_12 N p0 p1 p2 w0 H = some r) (hc0 : Cl Q H) (hB : B ≤ H.sh.length) (q_w0 : Q w0) : Rg Q H r.2 := by
  unfold B_Law_shown_12 at hF
  have hm := Rg.rf hc0
  have hr := Option.some.inj hF; subst hr
  exact hm
set_option maxRecDepth 20000 in
set_option maxHeartbeats 2000000 in
theorem g_Law_shown {N : Nat} {Q : Nat → Prop} {p0 : Nat} {p1 : Int32} {p2 : Nat} {H : Hp} {r : Int32 × Hp} {B : Nat} (hn : ∀ a, B ≤ a → Q a) (hF : F_Law_shown N p0 p1 p2 H = some r) (hc0 : Cl Q H) (hB : B ≤ H.sh.length) (q_p0 : Q p0) (q_p2 : Q p2) : Rg Q H r.2 := by
  unfold F_Law_shown at hF
  have hm := Rg.rf hc0
  obtain ⟨q21, hG⟩ := ck_s hF; clear hF
  refine bH_c hG (fun x25 H24 z22 hF => ?_) (fun v23 H24 z22 hF => ?_)
  · clear hG
    have gz := (g_W_shown hn z22 hm.1 hB q_p0)
    replace hm : Rg Q H H24 := hm.tr gz.1
    replace hB : B ≤ H24.sh.length := Nat.le_trans hB ((m_W_shown z22)).len
    have qx25 : Q x25 := gz.2 _ rfl
    obtain ⟨q26, hG⟩ := ck_s hF; clear hF
    exact hm.tr (gB_Law_shown_12 hn q_p0 q_p2 hG hm.1 hB qx25)
  clear hG
  have gz_10 := (g_W_shown hn z22 hm.1 hB q_p0)
  replace hm : Rg Q H H24 := hm.tr gz_10.1
  replace hB : B ≤ H24.sh.length := Nat.le_trans hB ((m_W_shown z22)).len
  have mz_11 : Mo H H24 := (m_W_shown z22)
  have q_12 := (mz_11).get q21
  obtain ⟨n27, q28, hG⟩ := ar_s hF; clear hF
  obtain ⟨q29, hF⟩ := ck_s hG; clear hG
  obtain ⟨H30, eH30, hG⟩ := bnd_g hF; clear hF
  replace hm : Rg Q H H30 := hm.tr (by rw [eH30]; exact Rg.sL hm.1 q_p2)
  have s_13 : Sa H24 H30 := by rw [eH30]; exact Sa.rf _
  replace hB : B ≤ H30.sh.length := by rw [eH30]; exact hB
  have hr := Option.some.inj hG; subst hr
  exact hm
set_option maxRecDepth 20000 in
set_option maxHeartbeats 2000000 in
theorem gB_MWorld_begin_37 {N : Nat} {Q : Nat → Prop} {p0 : Nat} (q_p0 : Q p0) : ∀ (n : Nat) (l1 : Int32) (H : Hp) (r : Unit × Hp), B_MWorld_begin_37 N p0 n l1 H = some r → Cl Q H → Rg Q H r.2 := by
  intro n
  induction n with
  | zero => intro l1 H r hF; rw [B_MWorld_begin_37] at hF; cases hF
  | succ n ih =>
    intro l1 H r hF hc0
    rw [B_MWorld_begin_37] at hF
    have hm := Rg.rf hc0
    rcases ite_s hF with ⟨q_22, hG⟩ | ⟨q_22, hG⟩
    · clear hF
      have hr := Option.some.inj hG; subst hr
      exact hm
    · clear hF
      obtain ⟨q58, hF⟩ := ck_s hG; clear hG
      obtain ⟨a59, e60, hG⟩ := rf_s hF; clear hF
      have qa59 : Q a59 := hm.1 _ _ _ q_p0 e60
      obtain ⟨n61, q62, hF⟩ := ar_s hG; clear hG
      obtain ⟨q63, hG⟩ := ck_s hF; clear hF
      obtain ⟨H64, eH64, hF⟩ := bnd_g hG; clear hG
      replace hm : Rg Q H H64 := hm.tr (by rw [eH64]; exact Rg.sD hm.1 qa59)
      have s_23 : Sa H H64 := by rw [eH64]; exact Sa.rf _
      obtain ⟨a65, e66, hG⟩ := rf_s hF; clear hF
      have qa65 : Q a65 := hm.1 _ _ _ q_p0 e66
      obtain ⟨n67, q68, hF⟩ := ar_s hG; clear hG
      rw [(s_23).1] at q68
      obtain ⟨q69, hG⟩ := ck_s hF; clear hF
      obtain ⟨H70, eH70, hF⟩ := bnd_g hG; clear hG
      replace hm : Rg Q H H70 := hm.tr (by rw [eH70]; exact Rg.sD hm.1 qa65)
      have s_24 : Sa H H70 := by rw [eH70]; exact s_23
      obtain ⟨a71, e72, hG⟩ := rf_s hF; clear hF
      have qa71 : Q a71 := hm.1 _ _ _ q_p0 e72
      obtain ⟨n73, q74, hF⟩ := ar_s hG; clear hG
      rw [(s_24).1] at q74
      obtain ⟨q75, hG⟩ := ck_s hF; clear hF
      obtain ⟨H76, eH76, hF⟩ := bnd_g hG; clear hG
      replace hm : Rg Q H H76 := hm.tr (by rw [eH76]; exact Rg.sD hm.1 qa71)
      have s_25 : Sa H H76 := by rw [eH76]; exact s_24
      exact hm.tr (ih (l1 + 1) H76 r hF hm.1)
set_option maxRecDepth 20000 in
set_option maxHeartbeats 2000000 in
theorem g_MWorld_begin {N : Nat} {Q : Nat → Prop} {p0 : Nat} {H : Hp} {r : Unit × Hp} (hF : F_MWorld_begin N p0 H = some r) (hc0 : Cl Q H) (q_p0 : Q p0) : Rg Q H r.2 := by
  unfold F_MWorld_begin at hF
  have hm := Rg.rf hc0
  obtain ⟨q77, hG⟩ := ck_s hF; clear hF
  obtain ⟨H78, eH78, hF⟩ := bnd_g hG; clear hG
  replace hm : Rg Q H H78 := hm.tr (by rw [eH78]; exact Rg.sD hm.1 q_p0)
  have s_26 : Sa H H78 := by rw [eH78]; exact Sa.rf _
  obtain ⟨H79, eH79, hG⟩ := bnd_g hF; clear hF
  replace hm : Rg Q H H79 := hm.tr (by rw [eH79]; exact Rg.sD hm.1 q_p0)
  have s_27 : Sa H H79 := by rw [eH79]; exact s_26
  obtain ⟨H80, eH80, hF⟩ := bnd_g hG; clear hG
  replace hm : Rg Q H H80 := hm.tr (by rw [eH80]; exact Rg.sD hm.1 q_p0)
  have s_28 : Sa H H80 := by rw [eH80]; exact s_27
  obtain ⟨H81, eH81, hG⟩ := bnd_g hF; clear hF
  replace hm : Rg Q H H81 := hm.tr (by rw [eH81]; exact Rg.sD hm.1 q_p0)
  have s_29 : Sa H H81 := by rw [eH81]; exact s_28
  obtain ⟨H82, eH82, hF⟩ := bnd_g hG; clear hG
  replace hm : Rg Q H H82 := hm.tr (by rw [eH82]; exact Rg.sD hm.1 q_p0)
  have s_30 : Sa H H82 := by rw [eH82]; exact s_29
  obtain ⟨H83, eH83, hG⟩ := bnd_g hF; clear hF
  replace hm : Rg Q H H83 := hm.tr (by rw [eH83]; exact Rg.sD hm.1 q_p0)
  have s_31 : Sa H H83 := by rw [eH83]; exact s_30
  obtain ⟨H84, eH84, hF⟩ := bnd_g hG; clear hG
  replace hm : Rg Q H H84 := hm.tr (by rw [eH84]; exact Rg.sD hm.1 q_p0)
  have s_32 : Sa H H84 := by rw [eH84]; exact s_31
  exact hm.tr (gB_MWorld_begin_37 q_p0 N 0 H84 r hF hm.1)
set_option maxRecDepth 20000 in
set_option maxHeartbeats 2000000 in
theorem g_M_thrown {N : Nat} {Q : Nat → Prop} {p0 : Nat} {H : Hp} {r : Int32 × Hp} (hF : F_M_thrown N p0 H = some r) (hc0 : Cl Q H) (q_p0 : Q p0) : Rg Q H r.2 := by
  unfold F_M_thrown at hF
  have hm := Rg.rf hc0
  obtain ⟨q5, hG⟩ := ck_s hF; clear hF
  obtain ⟨x6, -, hF⟩ := bnd_g hG; clear hG
  have hr := Option.some.inj hF; subst hr
  exact hm
set_option maxRecDepth 20000 in
set_option maxHeartbeats 2000000 in
theorem gB_M_feed_76 {N : Nat} {Q : Nat → Prop} {p0 : Nat} {p1 : Int32} {p2 : Int32} {p3 : Int32} {p4 : Int32} {p5 : Int32} {kq23 : Int32 → Hp → Option (Int32 × Hp)} (q_p0 : Q p0) (hg23 : ∀ (l6 : Int32) (H : Hp) (r : Int32 × Hp), kq23 l6 H = some r → Cl Q H → Rg Q H r.2) {l6 : Int32} {w0 : Int32} {H : Hp} {r : Int32 × Hp} (hF : B_M_feed_76 N p0 p1 p2 p3 p4 p5 kq23 l6 w0 H = some r) (hc0 : Cl Q H) : Rg Q H r.2 := by
  unfold B_M_feed_76 at hF
  have hm := Rg.rf hc0
  obtain ⟨q41, hG⟩ := ck_s hF; clear hF
  obtain ⟨a42, e43, hF⟩ := rf_s hG; clear hG
  have qa42 : Q a42 := hm.1 _ _ _ q_p0 e43
  obtain ⟨x44, -, hG⟩ := bnd_g hF; clear hF
  obtain ⟨x45, -, hF⟩ := bnd_g hG; clear hG
  obtain ⟨n46, q47, hG⟩ := ar_s hF; clear hF
  obtain ⟨q48, hF⟩ := ck_s hG; clear hG
  obtain ⟨H49, eH49, hG⟩ := bnd_g hF; clear hF
  replace hm : Rg Q H H49 := hm.tr (by rw [eH49]; exact Rg.sD hm.1 qa42)
  have s_13 : Sa H H49 := by rw [eH49]; exact Sa.rf _
  obtain ⟨x50, -, hF⟩ := bnd_g hG; clear hG
  obtain ⟨H51, eH51, hG⟩ := bnd_g hF; clear hF
  replace hm : Rg Q H H51 := hm.tr (by rw [eH51]; exact Rg.sD hm.1 q_p0)
  have s_14 : Sa H H51 := by rw [eH51]; exact s_13
  exact hm.tr (hg23 (l6 + 1) H51 r hG hm.1)
set_option maxRecDepth 20000 in
set_option maxHeartbeats 2000000 in
theorem gB_M_feed_23 {N : Nat} {Q : Nat → Prop} {p0 : Nat} {p1 : Int32} {p2 : Int32} {p3 : Int32} {p4 : Int32} {p5 : Int32} (q_p0 : Q p0) : ∀ (n : Nat) (l6 : Int32) (H : Hp) (r : Int32 × Hp), B_M_feed_23 N p0 p1 p2 p3 p4 p5 n l6 H = some r → Cl Q H → Rg Q H r.2 := by
  intro n
  induction n with
  | zero => intro l6 H r hF; rw [B_M_feed_23] at hF; cases hF
  | succ n ih =>
    intro l6 H r hF hc0
    rw [B_M_feed_23] at hF
    have hm := Rg.rf hc0
    rcases ite_s hF with ⟨q_15, hG⟩ | ⟨q_15, hG⟩
    · clear hF
      have hr := Option.some.inj hG; subst hr
      exact hm
    · clear hF
      rcases ite_s hG with ⟨q_16, hF⟩ | ⟨q_16, hF⟩
      · clear hG
        rcases ite_s hF with ⟨q_17, hG⟩ | ⟨q_17, hG⟩
        · clear hF
          rcases ite_s hG with ⟨q_18, hF⟩ | ⟨q_18, hF⟩
          · clear hG
            rcases ite_s hF with ⟨q_19, hG⟩ | ⟨q_19, hG⟩
            · clear hF
              exact hm.tr (gB_M_feed_76 q_p0 ih hG hm.1)
            · clear hF
              exact hm.tr (gB_M_feed_76 q_p0 ih hG hm.1)
          · clear hG
            exact hm.tr (gB_M_feed_76 q_p0 ih hF hm.1)
        · clear hF
          exact hm.tr (gB_M_feed_76 q_p0 ih hG hm.1)
      · clear hG
        exact hm.tr (gB_M_feed_76 q_p0 ih hF hm.1)
set_option maxRecDepth 20000 in
set_option maxHeartbeats 2000000 in
theorem g_M_feed {N : Nat} {Q : Nat → Prop} {p0 : Nat} {p1 : Int32} {p2 : Int32} {p3 : Int32} {p4 : Int32} {p5 : Int32} {H : Hp} {r : Int32 × Hp} (hF : F_M_feed N p0 p1 p2 p3 p4 p5 H = some r) (hc0 : Cl Q H) (q_p0 : Q p0) : Rg Q H r.2 := by
  unfold F_M_feed at hF
  have hm := Rg.rf hc0
  obtain ⟨q57, hG⟩ := ck_s hF; clear hF
  obtain ⟨H58, eH58, hF⟩ := bnd_g hG; clear hG
  replace hm : Rg Q H H58 := hm.tr (by rw [eH58]; exact Rg.sD hm.1 q_p0)
  have s_20 : Sa H H58 := by rw [eH58]; exact Sa.rf _
  obtain ⟨x59, -, hG⟩ := bnd_g hF; clear hF
  rcases ite_s hG with ⟨q_21, hF⟩ | ⟨q_21, hF⟩
  · clear hG
    exact hm.tr (gB_M_feed_23 q_p0 N 0 H58 r hF hm.1)
  · clear hG
    have hr := Option.some.inj hF; subst hr
    exact hm
set_option maxRecDepth 20000 in
set_option maxHeartbeats 2000000 in
theorem g_M_in {N : Nat} {Q : Nat → Prop} {p0 : Int64} {p2 : Int64} {p4 : Int64} {H : Hp} {r : Int32 × Hp} (hF : F_M_in N p0 p2 p4 H = some r) (hc0 : Cl Q H) : Rg Q H r.2 := by
  unfold F_M_in at hF
  have hm := Rg.rf hc0
  rcases ite_s hF with ⟨q_3, hG⟩ | ⟨q_3, hG⟩
  · clear hF
    have hr := Option.some.inj hG; subst hr
    exact hm
  · clear hF
    rcases ite_s hG with ⟨q_4, hF⟩ | ⟨q_4, hF⟩
    · clear hG
      have hr := Option.some.inj hF; subst hr
      exact hm
    · clear hG
      have hr := Option.some.inj hF; subst hr
      exact hm
set_option maxRecDepth 20000 in
set_option maxHeartbeats 2000000 in
theorem g_M_end {N : Nat} {Q : Nat → Prop} {p0 : Nat} {p1 : Int32} {H : Hp} {r : Int32 × Hp} (hF : F_M_end N p0 p1 H = some r) (hc0 : Cl Q H) (q_p0 : Q p0) : Rg Q H r.2 := by
  unfold F_M_end at hF
  have hm := Rg.rf hc0
  obtain ⟨q17, hG⟩ := ck_s hF; clear hF
  obtain ⟨H18, eH18, hF⟩ := bnd_g hG; clear hG
  replace hm : Rg Q H H18 := hm.tr (by rw [eH18]; exact Rg.sD hm.1 q_p0)
  have s_8 : Sa H H18 := by rw [eH18]; exact Sa.rf _
  obtain ⟨x19, -, hG⟩ := bnd_g hF; clear hF
  obtain ⟨v21, H22, z20, hF⟩ := bC_s hG; clear hG
  have gz_9 := (g_M_in z20 hm.1)
  replace hm : Rg Q H H22 := hm.tr gz_9
  have s_10 : Sa H H22 := (s_8).tr (m_M_in z20)
  rcases ite_s hF with ⟨q_11, hG⟩ | ⟨q_11, hG⟩
  · clear hF
    have hr := Option.some.inj hG; subst hr
    exact hm
  · clear hF
    obtain ⟨H24, eH24, hF⟩ := bnd_g hG; clear hG
    replace hm : Rg Q H H24 := hm.tr (by rw [eH24]; exact Rg.sD hm.1 q_p0)
    have s_12 : Sa H H24 := by rw [eH24]; exact s_10
    have hr := Option.some.inj hF; subst hr
    exact hm
set_option maxRecDepth 20000 in
set_option maxHeartbeats 2000000 in
theorem gB_MText_skips_102 {N : Nat} {Q : Nat → Prop} {p0 : Nat} {p1 : Int32} {kq4 : Int32 → Int32 → Hp → Option (Int32 × Hp)} (q_p0 : Q p0) (hg4 : ∀ (l2 : Int32) (l3 : Int32) (H : Hp) (r : Int32 × Hp), kq4 l2 l3 H = some r → Cl Q H → Rg Q H r.2) {l2 : Int32} {l3 : Int32} {H : Hp} {r : Int32 × Hp} (hF : B_MText_skips_102 N p0 p1 kq4 l2 l3 H = some r) (hc0 : Cl Q H) : Rg Q H r.2 := by
  unfold B_MText_skips_102 at hF
  have hm := Rg.rf hc0
  exact hm.tr (hg4 l2 l3 H r hF hm.1)
set_option maxRecDepth 20000 in
set_option maxHeartbeats 2000000 in
theorem gB_MText_skips_100 {N : Nat} {Q : Nat → Prop} {p0 : Nat} {p1 : Int32} {kq4 : Int32 → Int32 → Hp → Option (Int32 × Hp)} (q_p0 : Q p0) (hg4 : ∀ (l2 : Int32) (l3 : Int32) (H : Hp) (r : Int32 × Hp), kq4 l2 l3 H = some r → Cl Q H → Rg Q H r.2) {l3 : Int32} {w0 : Int32} {w1 : Int32} {H : Hp} {r : Int32 × Hp} (hF : B_MText_skips_100 N p0 p1 kq4 l3 w0 w1 H = some r) (hc0 : Cl Q H) : Rg Q H r.2 := by
  unfold B_MText_skips_100 at hF
  have hm := Rg.rf hc0
  exact hm.tr (gB_MText_skips_102 q_p0 hg4 hF hm.1)
set_option maxRecDepth 20000 in
set_option maxHeartbeats 2000000 in
theorem gB_MText_skips_89 {N : Nat} {Q : Nat → Prop} {p0 : Nat} {p1 : Int32} {kq4 : Int32 → Int32 → Hp → Option (Int32 × Hp)} (q_p0 : Q p0) (hg4 : ∀ (l2 : Int32) (l3 : Int32) (H : Hp) (r : Int32 × Hp), kq4 l2 l3 H = some r → Cl Q H → Rg Q H r.2) {l2 : Int32} {w0 : Int32} {H : Hp} {r : Int32 × Hp} (hF : B_MText_skips_89 N p0 p1 kq4 l2 w0 H = some r) (hc0 : Cl Q H) : Rg Q H r.2 := by
  unfold B_MText_skips_89 at hF
  have hm := Rg.rf hc0
  rcases ite_s hF with ⟨q_11, hG⟩ | ⟨q_11, hG⟩
  · clear hF
    exact hm.tr (gB_MText_skips_100 q_p0 hg4 hG hm.1)
  · clear hF
    exact hm.tr (gB_MText_skips_100 q_p0 hg4 hG hm.1)
set_option maxRecDepth 20000 in
set_option maxHeartbeats 2000000 in
theorem gB_MText_skips_84 {N : Nat} {Q : Nat → Prop} {p0 : Nat} {p1 : Int32} {kq4 : Int32 → Int32 → Hp → Option (Int32 × Hp)} (q_p0 : Q p0) (hg4 : ∀ (l2 : Int32) (l3 : Int32) (H : Hp) (r : Int32 × Hp), kq4 l2 l3 H = some r → Cl Q H → Rg Q H r.2) {l2 : Int32} {H : Hp} {r : Int32 × Hp} (hF : B_MText_skips_84 N p0 p1 kq4 l2 H = some r) (hc0 : Cl Q H) : Rg Q H r.2 := by
  unfold B_MText_skips_84 at hF
  have hm := Rg.rf hc0
  exact hm.tr (gB_MText_skips_89 q_p0 hg4 hF hm.1)
set_option maxRecDepth 20000 in
set_option maxHeartbeats 2000000 in
theorem gB_MText_skips_31 {N : Nat} {Q : Nat → Prop} {p0 : Nat} {p1 : Int32} {kq4 : Int32 → Int32 → Hp → Option (Int32 × Hp)} (q_p0 : Q p0) (hg4 : ∀ (l2 : Int32) (l3 : Int32) (H : Hp) (r : Int32 × Hp), kq4 l2 l3 H = some r → Cl Q H → Rg Q H r.2) : ∀ (n : Nat) (l2 : Int32) (l3 : Int32) (H : Hp) (r : Int32 × Hp), B_MText_skips_31 N p0 p1 kq4 n l2 l3 H = some r → Cl Q H → Rg Q H r.2 := by
  intro n
  induction n with
  | zero => intro l2 l3 H r hF; rw [B_MText_skips_31] at hF; cases hF
  | succ n ih =>
    intro l2 l3 H r hF hc0
    rw [B_MText_skips_31] at hF
    have hm := Rg.rf hc0
    obtain ⟨q54, hG⟩ := ck_s hF; clear hF
    obtain ⟨x55, -, hF⟩ := bnd_g hG; clear hG
    rcases ite_s hF with ⟨q_12, hG⟩ | ⟨q_12, hG⟩
    · clear hF
      exact hm.tr (gB_MText_skips_102 q_p0 hg4 hG hm.1)
    · clear hF
      obtain ⟨a57, e58, hF⟩ := rf_s hG; clear hG
      have qa57 : Q a57 := hm.1 _ _ _ q_p0 e58
      obtain ⟨n59, q60, hG⟩ := ar_s hF; clear hF
      obtain ⟨q61, hF⟩ := ck_s hG; clear hG
      obtain ⟨x62, -, hG⟩ := bnd_g hF; clear hF
      rcases ite_s hG with ⟨q_13, hF⟩ | ⟨q_13, hF⟩
      · clear hG
        exact hm.tr (gB_MText_skips_102 q_p0 hg4 hF hm.1)
      · clear hG
        exact hm.tr (ih (l2 + 1) l3 H r hF hm.1)
set_option maxRecDepth 20000 in
set_option maxHeartbeats 2000000 in
theorem gB_MText_skips_4 {N : Nat} {Q : Nat → Prop} {p0 : Nat} {p1 : Int32} (q_p0 : Q p0) : ∀ (n : Nat) (l2 : Int32) (l3 : Int32) (H : Hp) (r : Int32 × Hp), B_MText_skips_4 N p0 p1 n l2 l3 H = some r → Cl Q H → Rg Q H r.2 := by
  intro n
  induction n with
  | zero => intro l2 l3 H r hF; rw [B_MText_skips_4] at hF; cases hF
  | succ n ih =>
    intro l2 l3 H r hF hc0
    rw [B_MText_skips_4] at hF
    have hm := Rg.rf hc0
    rcases ite_s hF with ⟨q_14, hG⟩ | ⟨q_14, hG⟩
    · clear hF
      have hr := Option.some.inj hG; subst hr
      exact hm
    · clear hF
      obtain ⟨q65, hF⟩ := ck_s hG; clear hG
      obtain ⟨x66, -, hG⟩ := bnd_g hF; clear hF
      rcases ite_s hG with ⟨q_15, hF⟩ | ⟨q_15, hF⟩
      · clear hG
        have hr := Option.some.inj hF; subst hr
        exact hm
      · clear hG
        obtain ⟨a68, e69, hG⟩ := rf_s hF; clear hF
        have qa68 : Q a68 := hm.1 _ _ _ q_p0 e69
        obtain ⟨n70, q71, hF⟩ := ar_s hG; clear hG
        obtain ⟨q72, hG⟩ := ck_s hF; clear hF
        obtain ⟨x73, -, hF⟩ := bnd_g hG; clear hG
        rcases ite_s hF with ⟨q_16, hG⟩ | ⟨q_16, hG⟩
        · clear hF
          exact hm.tr (gB_MText_skips_31 q_p0 ih N l2 l3 H r hG hm.1)
        · clear hF
          rcases ite_s hG with ⟨q_17, hF⟩ | ⟨q_17, hF⟩
          · clear hG
            exact hm.tr (gB_MText_skips_84 q_p0 ih hF hm.1)
          · clear hG
            rcases ite_s hF with ⟨q_18, hG⟩ | ⟨q_18, hG⟩
            · clear hF
              exact hm.tr (gB_MText_skips_84 q_p0 ih hG hm.1)
            · clear hF
              rcases ite_s hG with ⟨q_19, hF⟩ | ⟨q_19, hF⟩
              · clear hG
                exact hm.tr (gB_MText_skips_84 q_p0 ih hF hm.1)
              · clear hG
                rcases ite_s hF with ⟨q_20, hG⟩ | ⟨q_20, hG⟩
                · clear hF
                  exact hm.tr (gB_MText_skips_84 q_p0 ih hG hm.1)
                · clear hF
                  exact hm.tr (gB_MText_skips_89 q_p0 ih hG hm.1)
set_option maxRecDepth 20000 in
set_option maxHeartbeats 2000000 in
theorem g_MText_skips {N : Nat} {Q : Nat → Prop} {p0 : Nat} {p1 : Int32} {H : Hp} {r : Int32 × Hp} (hF : F_MText_skips N p0 p1 H = some r) (hc0 : Cl Q H) (q_p0 : Q p0) : Rg Q H r.2 := by
  unfold F_MText_skips at hF
  have hm := Rg.rf hc0
  exact hm.tr (gB_MText_skips_4 q_p0 N p1 1 H r hF hm.1)
set_option maxRecDepth 20000 in
set_option maxHeartbeats 2000000 in
theorem g_MText_letter {N : Nat} {Q : Nat → Prop} {p0 : Nat} {p1 : Int32} {H : Hp} {r : Int32 × Hp} (hF : F_MText_letter N p0 p1 H = some r) (hc0 : Cl Q H) (q_p0 : Q p0) : Rg Q H r.2 := by
  unfold F_MText_letter at hF
  have hm := Rg.rf hc0
  obtain ⟨q19, hG⟩ := ck_s hF; clear hF
  obtain ⟨x20, -, hF⟩ := bnd_g hG; clear hG
  rcases ite_s hF with ⟨q_2, hG⟩ | ⟨q_2, hG⟩
  · clear hF
    have hr := Option.some.inj hG; subst hr
    exact hm
  · clear hF
    obtain ⟨a22, e23, hF⟩ := rf_s hG; clear hG
    have qa22 : Q a22 := hm.1 _ _ _ q_p0 e23
    obtain ⟨n24, q25, hG⟩ := ar_s hF; clear hF
    obtain ⟨q26, hF⟩ := ck_s hG; clear hG
    obtain ⟨x27, -, hG⟩ := bnd_g hF; clear hF
    have hr := Option.some.inj hG; subst hr
    exact hm
set_option maxRecDepth 20000 in
set_option maxHeartbeats 2000000 in
theorem g_MText_token {N : Nat} {Q : Nat → Prop} {p0 : Nat} {p1 : Int32} {p2 : Int32} {p3 : Int32} {H : Hp} {r : Unit × Hp} (hF : F_MText_token N p0 p1 p2 p3 H = some r) (hc0 : Cl Q H) (q_p0 : Q p0) : Rg Q H r.2 := by
  unfold F_MText_token at hF
  have hm := Rg.rf hc0
  obtain ⟨q77, hG⟩ := ck_s hF; clear hF
  obtain ⟨a78, e79, hF⟩ := rf_s hG; clear hG
  have qa78 : Q a78 := hm.1 _ _ _ q_p0 e79
  obtain ⟨x80, -, hG⟩ := bnd_g hF; clear hF
  obtain ⟨n81, q82, hF⟩ := ar_s hG; clear hG
  obtain ⟨q83, hG⟩ := ck_s hF; clear hF
  obtain ⟨H84, eH84, hF⟩ := bnd_g hG; clear hG
  replace hm : Rg Q H H84 := hm.tr (by rw [eH84]; exact Rg.sD hm.1 qa78)
  have s_13 : Sa H H84 := by rw [eH84]; exact Sa.rf _
  obtain ⟨a85, e86, hG⟩ := rf_s hF; clear hF
  have qa85 : Q a85 := hm.1 _ _ _ q_p0 e86
  obtain ⟨x87, -, hF⟩ := bnd_g hG; clear hG
  obtain ⟨n88, q89, hG⟩ := ar_s hF; clear hF
  rw [(s_13).1] at q89
  obtain ⟨q90, hF⟩ := ck_s hG; clear hG
  obtain ⟨H91, eH91, hG⟩ := bnd_g hF; clear hF
  replace hm : Rg Q H H91 := hm.tr (by rw [eH91]; exact Rg.sD hm.1 qa85)
  have s_14 : Sa H H91 := by rw [eH91]; exact s_13
  obtain ⟨a92, e93, hF⟩ := rf_s hG; clear hG
  have qa92 : Q a92 := hm.1 _ _ _ q_p0 e93
  obtain ⟨x94, -, hG⟩ := bnd_g hF; clear hF
  obtain ⟨n95, q96, hF⟩ := ar_s hG; clear hG
  rw [(s_14).1] at q96
  obtain ⟨q97, hG⟩ := ck_s hF; clear hF
  obtain ⟨H98, eH98, hF⟩ := bnd_g hG; clear hG
  replace hm : Rg Q H H98 := hm.tr (by rw [eH98]; exact Rg.sD hm.1 qa92)
  have s_15 : Sa H H98 := by rw [eH98]; exact s_14
  obtain ⟨a99, e100, hG⟩ := rf_s hF; clear hF
  have qa99 : Q a99 := hm.1 _ _ _ q_p0 e100
  obtain ⟨x101, -, hF⟩ := bnd_g hG; clear hG
  obtain ⟨n102, q103, hG⟩ := ar_s hF; clear hF
  rw [(s_15).1] at q103
  obtain ⟨q104, hF⟩ := ck_s hG; clear hG
  obtain ⟨H105, eH105, hG⟩ := bnd_g hF; clear hF
  replace hm : Rg Q H H105 := hm.tr (by rw [eH105]; exact Rg.sD hm.1 qa99)
  have s_16 : Sa H H105 := by rw [eH105]; exact s_15
  obtain ⟨a106, e107, hF⟩ := rf_s hG; clear hG
  have qa106 : Q a106 := hm.1 _ _ _ q_p0 e107
  obtain ⟨x108, -, hG⟩ := bnd_g hF; clear hF
  obtain ⟨n109, q110, hF⟩ := ar_s hG; clear hG
  rw [(s_16).1] at q110
  obtain ⟨q111, hG⟩ := ck_s hF; clear hF
  obtain ⟨H112, eH112, hF⟩ := bnd_g hG; clear hG
  replace hm : Rg Q H H112 := hm.tr (by rw [eH112]; exact Rg.sD hm.1 qa106)
  have s_17 : Sa H H112 := by rw [eH112]; exact s_16
  obtain ⟨x113, -, hG⟩ := bnd_g hF; clear hF
  obtain ⟨H114, eH114, hF⟩ := bnd_g hG; clear hG
  replace hm : Rg Q H H114 := hm.tr (by rw [eH114]; exact Rg.sD hm.1 q_p0)
  have s_18 : Sa H H114 := by rw [eH114]; exact s_17
  have hr := Option.some.inj hF; subst hr
  exact hm
set_option maxRecDepth 20000 in
set_option maxHeartbeats 2000000 in
theorem gB_MText_isLetter_24 {N : Nat} {Q : Nat → Prop} {p0 : Int32}  {H : Hp} {r : Int32 × Hp} (hF : B_MText_isLetter_24 N p0  H = some r) (hc0 : Cl Q H) : Rg Q H r.2 := by
  unfold B_MText_isLetter_24 at hF
  have hm := Rg.rf hc0
  have hr := Option.some.inj hF; subst hr
  exact hm
set_option maxRecDepth 20000 in
set_option maxHeartbeats 2000000 in
theorem gB_MText_isLetter_12 {N : Nat} {Q : Nat → Prop} {p0 : Int32}  {H : Hp} {r : Int32 × Hp} (hF : B_MText_isLetter_12 N p0  H = some r) (hc0 : Cl Q H) : Rg Q H r.2 := by
  unfold B_MText_isLetter_12 at hF
  have hm := Rg.rf hc0
  rcases ite_s hF with ⟨q_5, hG⟩ | ⟨q_5, hG⟩
  · clear hF
    have hr := Option.some.inj hG; subst hr
    exact hm
  · clear hF
    rcases ite_s hG with ⟨q_6, hF⟩ | ⟨q_6, hF⟩
    · clear hG
      have hr := Option.some.inj hF; subst hr
      exact hm
    · clear hG
      exact hm.tr (gB_MText_isLetter_24 hF hm.1)
set_option maxRecDepth 20000 in
set_option maxHeartbeats 2000000 in
theorem g_MText_isLetter {N : Nat} {Q : Nat → Prop} {p0 : Int32} {H : Hp} {r : Int32 × Hp} (hF : F_MText_isLetter N p0 H = some r) (hc0 : Cl Q H) : Rg Q H r.2 := by
  unfold F_MText_isLetter at hF
  have hm := Rg.rf hc0
  rcases ite_s hF with ⟨q_7, hG⟩ | ⟨q_7, hG⟩
  · clear hF
    exact hm.tr (gB_MText_isLetter_12 hG hm.1)
  · clear hF
    rcases ite_s hG with ⟨q_8, hF⟩ | ⟨q_8, hF⟩
    · clear hG
      exact hm.tr (gB_MText_isLetter_24 hF hm.1)
    · clear hG
      exact hm.tr (gB_MText_isLetter_12 hF hm.1)
set_option maxRecDepth 20000 in
set_option maxHeartbeats 2000000 in
theorem g_MText_isDigit {N : Nat} {Q : Nat → Prop} {p0 : Int32} {H : Hp} {r : Int32 × Hp} (hF : F_MText_isDigit N p0 H = some r) (hc0 : Cl Q H) : Rg Q H r.2 := by
  unfold F_MText_isDigit at hF
  have hm := Rg.rf hc0
  rcases ite_s hF with ⟨q_3, hG⟩ | ⟨q_3, hG⟩
  · clear hF
    have hr := Option.some.inj hG; subst hr
    exact hm
  · clear hF
    rcases ite_s hG with ⟨q_4, hF⟩ | ⟨q_4, hF⟩
    · clear hG
      have hr := Option.some.inj hF; subst hr
      exact hm
    · clear hG
      have hr := Option.some.inj hF; subst hr
      exact hm
set_option maxRecDepth 20000 in
set_option maxHeartbeats 2000000 in
theorem g_Str_coder_K0 {N : Nat} {Q : Nat → Prop}  {H : Hp} {r : Int32 × Hp} (hF : F_Str_coder_K0 N  H = some r) (hc0 : Cl Q H) : Rg Q H r.2 := by
  unfold F_Str_coder_K0 at hF
  have hm := Rg.rf hc0
  rcases ite_s hF with ⟨q_2, hG⟩ | ⟨q_2, hG⟩
  · clear hF
    have hr := Option.some.inj hG; subst hr
    exact hm
  · clear hF
    have hr := Option.some.inj hG; subst hr
    exact hm
set_option maxRecDepth 20000 in
set_option maxHeartbeats 2000000 in
theorem g_Str_length_K0 {N : Nat} {Q : Nat → Prop}  {H : Hp} {r : Int32 × Hp} (hF : F_Str_length_K0 N  H = some r) (hc0 : Cl Q H) : Rg Q H r.2 := by
  unfold F_Str_length_K0 at hF
  have hm := Rg.rf hc0
  obtain ⟨v8, H9, z7, hG⟩ := bC_s hF; clear hF
  have gz_3 := (g_Str_coder_K0 z7 hm.1)
  replace hm : Rg Q H H9 := hm.tr gz_3
  have s_4 : Sa H H9 := (m_Str_coder_K0 z7)
  have hr := Option.some.inj hG; subst hr
  exact hm
set_option maxRecDepth 20000 in
set_option maxHeartbeats 2000000 in
theorem gB_MText_word_24 {N : Nat} {Q : Nat → Prop} {p0 : Nat} {p1 : Int32} {kq2 : Int32 → Hp → Option (Int32 × Hp)} (q_p0 : Q p0) (hg2 : ∀ (l2 : Int32) (H : Hp) (r : Int32 × Hp), kq2 l2 H = some r → Cl Q H → Rg Q H r.2) {l2 : Int32} {H : Hp} {r : Int32 × Hp} (hF : B_MText_word_24 N p0 p1 kq2 l2 H = some r) (hc0 : Cl Q H) : Rg Q H r.2 := by
  unfold B_MText_word_24 at hF
  have hm := Rg.rf hc0
  exact hm.tr (hg2 (l2 + 1) H r hF hm.1)
set_option maxRecDepth 20000 in
set_option maxHeartbeats 2000000 in
theorem gB_MText_word_164 {N : Nat} {Q : Nat → Prop} {p0 : Nat} {p1 : Int32} (q_p0 : Q p0) {l2 : Int32} {l3 : Int32} {H : Hp} {r : Int32 × Hp} (hF : B_MText_word_164 N p0 p1 l2 l3 H = some r) (hc0 : Cl Q H) : Rg Q H r.2 := by
  unfold B_MText_word_164 at hF
  have hm := Rg.rf hc0
  obtain ⟨q135, hG⟩ := ck_s hF; clear hF
  obtain ⟨v137, H138, z136, hF⟩ := bC_s hG; clear hG
  have gz_39 := (g_MText_token z136 hm.1 q_p0)
  replace hm : Rg Q H H138 := hm.tr gz_39
  have s_40 : Sa H H138 := (m_MText_token z136)
  obtain ⟨a139, e140, hG⟩ := rf_s hF; clear hF
  have qa139 : Q a139 := hm.1 _ _ _ q_p0 e140
  obtain ⟨x141, -, hF⟩ := bnd_g hG; clear hG
  rcases ite_s hF with ⟨q_41, hG⟩ | ⟨q_41, hG⟩
  · clear hF
    rcases ite_s hG with ⟨q_42, hF⟩ | ⟨q_42, hF⟩
    · clear hG
      obtain ⟨n144, q145, hG⟩ := ar_s hF; clear hF
      rw [(s_40).1] at q145
      obtain ⟨q146, hF⟩ := ck_s hG; clear hG
      obtain ⟨H147, eH147, hG⟩ := bnd_g hF; clear hF
      replace hm : Rg Q H H147 := hm.tr (by rw [eH147]; exact Rg.sD hm.1 qa139)
      have s_43 : Sa H H147 := by rw [eH147]; exact s_40
      have hr := Option.some.inj hG; subst hr
      exact hm
    · clear hG
      obtain ⟨n148, q149, hG⟩ := ar_s hF; clear hF
      rw [(s_40).1] at q149
      obtain ⟨q150, hF⟩ := ck_s hG; clear hG
      obtain ⟨H151, eH151, hG⟩ := bnd_g hF; clear hF
      replace hm : Rg Q H H151 := hm.tr (by rw [eH151]; exact Rg.sD hm.1 qa139)
      have s_44 : Sa H H151 := by rw [eH151]; exact s_40
      have hr := Option.some.inj hG; subst hr
      exact hm
  · clear hF
    obtain ⟨n152, q153, hF⟩ := ar_s hG; clear hG
    rw [(s_40).1] at q153
    obtain ⟨q154, hG⟩ := ck_s hF; clear hF
    obtain ⟨H155, eH155, hF⟩ := bnd_g hG; clear hG
    replace hm : Rg Q H H155 := hm.tr (by rw [eH155]; exact Rg.sD hm.1 qa139)
    have s_45 : Sa H H155 := by rw [eH155]; exact s_40
    have hr := Option.some.inj hF; subst hr
    exact hm
set_option maxRecDepth 20000 in
set_option maxHeartbeats 2000000 in
theorem gB_MText_word_137 {N : Nat} {Q : Nat → Prop} {p0 : Nat} {p1 : Int32} {kq38 : Int32 → Int32 → Int32 → Int32 → Hp → Option (Int32 × Hp)} (q_p0 : Q p0) (hg38 : ∀ (l2 : Int32) (l3 : Int32) (l4 : Int32) (l5 : Int32) (H : Hp) (r : Int32 × Hp), kq38 l2 l3 l4 l5 H = some r → Cl Q H → Rg Q H r.2) : ∀ (n : Nat) (l2 : Int32) (l3 : Int32) (l4 : Int32) (l5 : Int32) (H : Hp) (r : Int32 × Hp), B_MText_word_137 N p0 p1 kq38 n l2 l3 l4 l5 H = some r → Cl Q H → Rg Q H r.2 := by
  intro n
  induction n with
  | zero => intro l2 l3 l4 l5 H r hF; rw [B_MText_word_137] at hF; cases hF
  | succ n ih =>
    intro l2 l3 l4 l5 H r hF hc0
    rw [B_MText_word_137] at hF
    have hm := Rg.rf hc0
    obtain ⟨v157, H158, z156, hG⟩ := bC_s hF; clear hF
    have gz_46 := (g_Str_charAt_K0 z156 hm.1)
    replace hm : Rg Q H H158 := hm.tr gz_46
    have s_47 : Sa H H158 := (m_Str_charAt_K0 z156)
    rcases ite_s hG with ⟨q_48, hF⟩ | ⟨q_48, hF⟩
    · clear hG
      exact hm.tr (hg38 l2 l3 (l4 + 1) (l5 + 1) H158 r hF hm.1)
    · clear hG
      exact hm.tr (ih l2 l3 l4 (l5 + 1) H158 r hF hm.1)
set_option maxRecDepth 20000 in
set_option maxHeartbeats 2000000 in
theorem gB_MText_word_107 {N : Nat} {Q : Nat → Prop} {p0 : Nat} {p1 : Int32} {kq38 : Int32 → Int32 → Int32 → Int32 → Hp → Option (Int32 × Hp)} (q_p0 : Q p0) (hg38 : ∀ (l2 : Int32) (l3 : Int32) (l4 : Int32) (l5 : Int32) (H : Hp) (r : Int32 × Hp), kq38 l2 l3 l4 l5 H = some r → Cl Q H → Rg Q H r.2) {l2 : Int32} {l3 : Int32} {l4 : Int32} {l5 : Int32} {l6 : Int32} {H : Hp} {r : Int32 × Hp} (hF : B_MText_word_107 N p0 p1 kq38 l2 l3 l4 l5 l6 H = some r) (hc0 : Cl Q H) : Rg Q H r.2 := by
  unfold B_MText_word_107 at hF
  have hm := Rg.rf hc0
  rcases ite_s hF with ⟨q_49, hG⟩ | ⟨q_49, hG⟩
  · clear hF
    obtain ⟨v162, H163, z161, hF⟩ := bC_s hG; clear hG
    have gz_50 := (g_Str_charAt_K0 z161 hm.1)
    replace hm : Rg Q H H163 := hm.tr gz_50
    have s_51 : Sa H H163 := (m_Str_charAt_K0 z161)
    rcases ite_s hF with ⟨q_52, hG⟩ | ⟨q_52, hG⟩
    · clear hF
      obtain ⟨x165, -, hF⟩ := bnd_g hG; clear hG
      exact hm.tr (gB_MText_word_137 q_p0 hg38 N l2 x165 l4 l5 H163 r hF hm.1)
    · clear hF
      exact hm.tr (gB_MText_word_137 q_p0 hg38 N l2 l3 l4 l5 H163 r hG hm.1)
  · clear hF
    exact hm.tr (gB_MText_word_137 q_p0 hg38 N l2 l3 l4 l5 H r hG hm.1)
set_option maxRecDepth 20000 in
set_option maxHeartbeats 2000000 in
theorem gB_MText_word_56 {N : Nat} {Q : Nat → Prop} {p0 : Nat} {p1 : Int32} {kq38 : Int32 → Int32 → Int32 → Int32 → Hp → Option (Int32 × Hp)} (q_p0 : Q p0) (hg38 : ∀ (l2 : Int32) (l3 : Int32) (l4 : Int32) (l5 : Int32) (H : Hp) (r : Int32 × Hp), kq38 l2 l3 l4 l5 H = some r → Cl Q H → Rg Q H r.2) : ∀ (n : Nat) (l2 : Int32) (l3 : Int32) (l4 : Int32) (l5 : Int32) (l6 : Int32) (H : Hp) (r : Int32 × Hp), B_MText_word_56 N p0 p1 kq38 n l2 l3 l4 l5 l6 H = some r → Cl Q H → Rg Q H r.2 := by
  intro n
  induction n with
  | zero => intro l2 l3 l4 l5 l6 H r hF; rw [B_MText_word_56] at hF; cases hF
  | succ n ih =>
    intro l2 l3 l4 l5 l6 H r hF hc0
    rw [B_MText_word_56] at hF
    have hm := Rg.rf hc0
    obtain ⟨v167, H168, z166, hG⟩ := bC_s hF; clear hF
    have gz_53 := (g_Str_charAt_K0 z166 hm.1)
    replace hm : Rg Q H H168 := hm.tr gz_53
    have s_54 : Sa H H168 := (m_Str_charAt_K0 z166)
    rcases ite_s hG with ⟨q_55, hF⟩ | ⟨q_55, hF⟩
    · clear hG
      exact hm.tr (gB_MText_word_107 q_p0 hg38 hF hm.1)
    · clear hG
      rcases ite_s hF with ⟨q_56, hG⟩ | ⟨q_56, hG⟩
      · clear hF
        exact hm.tr (gB_MText_word_107 q_p0 hg38 hG hm.1)
      · clear hF
        obtain ⟨v172, H173, z171, hF⟩ := bC_s hG; clear hG
        have gz_57 := (g_Str_charAt_K0 z171 hm.1)
        replace hm : Rg Q H H173 := hm.tr gz_57
        have s_58 : Sa H H173 := (s_54).tr (m_Str_charAt_K0 z171)
        obtain ⟨q174, hG⟩ := ck_s hF; clear hF
        rw [(s_58).1] at q174
        obtain ⟨a175, e176, hF⟩ := rf_s hG; clear hG
        have qa175 : Q a175 := hm.1 _ _ _ q_p0 e176
        obtain ⟨n177, q178, hG⟩ := ar_s hF; clear hF
        rw [(s_58).1] at q178
        obtain ⟨q179, hF⟩ := ck_s hG; clear hG
        obtain ⟨x180, -, hG⟩ := bnd_g hF; clear hF
        rcases ite_s hG with ⟨q_59, hF⟩ | ⟨q_59, hF⟩
        · clear hG
          exact hm.tr (ih l2 l3 l4 l5 (l6 + 1) H173 r hF hm.1)
        · clear hG
          exact hm.tr (gB_MText_word_107 q_p0 hg38 hF hm.1)
set_option maxRecDepth 20000 in
set_option maxHeartbeats 2000000 in
theorem gB_MText_word_38 {N : Nat} {Q : Nat → Prop} {p0 : Nat} {p1 : Int32} (q_p0 : Q p0) : ∀ (n : Nat) (l2 : Int32) (l3 : Int32) (l4 : Int32) (l5 : Int32) (H : Hp) (r : Int32 × Hp), B_MText_word_38 N p0 p1 n l2 l3 l4 l5 H = some r → Cl Q H → Rg Q H r.2 := by
  intro n
  induction n with
  | zero => intro l2 l3 l4 l5 H r hF; rw [B_MText_word_38] at hF; cases hF
  | succ n ih =>
    intro l2 l3 l4 l5 H r hF hc0
    rw [B_MText_word_38] at hF
    have hm := Rg.rf hc0
    obtain ⟨v183, H184, z182, hG⟩ := bC_s hF; clear hF
    have gz_60 := (g_Str_length_K0 z182 hm.1)
    replace hm : Rg Q H H184 := hm.tr gz_60
    have s_61 : Sa H H184 := (m_Str_length_K0 z182)
    rcases ite_s hG with ⟨q_62, hF⟩ | ⟨q_62, hF⟩
    · clear hG
      exact hm.tr (gB_MText_word_164 q_p0 hF hm.1)
    · clear hG
      rcases ite_s hF with ⟨q_63, hG⟩ | ⟨q_63, hG⟩
      · clear hF
        exact hm.tr (gB_MText_word_56 q_p0 ih N l2 l3 l4 l5 0 H184 r hG hm.1)
      · clear hF
        exact hm.tr (gB_MText_word_164 q_p0 hG hm.1)
set_option maxRecDepth 20000 in
set_option maxHeartbeats 2000000 in
theorem gB_MText_word_2 {N : Nat} {Q : Nat → Prop} {p0 : Nat} {p1 : Int32} (q_p0 : Q p0) : ∀ (n : Nat) (l2 : Int32) (H : Hp) (r : Int32 × Hp), B_MText_word_2 N p0 p1 n l2 H = some r → Cl Q H → Rg Q H r.2 := by
  intro n
  induction n with
  | zero => intro l2 H r hF; rw [B_MText_word_2] at hF; cases hF
  | succ n ih =>
    intro l2 H r hF hc0
    rw [B_MText_word_2] at hF
    have hm := Rg.rf hc0
    obtain ⟨q187, hG⟩ := ck_s hF; clear hF
    obtain ⟨v189, H190, z188, hF⟩ := bC_s hG; clear hG
    have gz_64 := (g_MText_letter z188 hm.1 q_p0)
    replace hm : Rg Q H H190 := hm.tr gz_64
    have s_65 : Sa H H190 := (m_MText_letter z188)
    obtain ⟨v192, H193, z191, hG⟩ := bC_s hF; clear hF
    have gz_66 := (g_MText_isLetter z191 hm.1)
    replace hm : Rg Q H H193 := hm.tr gz_66
    have s_67 : Sa H H193 := (s_65).tr (m_MText_isLetter z191)
    rcases ite_s hG with ⟨q_68, hF⟩ | ⟨q_68, hF⟩
    · clear hG
      obtain ⟨v196, H197, z195, hG⟩ := bC_s hF; clear hF
      have gz_69 := (g_MText_letter z195 hm.1 q_p0)
      replace hm : Rg Q H H197 := hm.tr gz_69
      have s_70 : Sa H H197 := (s_67).tr (m_MText_letter z195)
      obtain ⟨v199, H200, z198, hF⟩ := bC_s hG; clear hG
      have gz_71 := (g_MText_isDigit z198 hm.1)
      replace hm : Rg Q H H200 := hm.tr gz_71
      have s_72 : Sa H H200 := (s_70).tr (m_MText_isDigit z198)
      rcases ite_s hF with ⟨q_73, hG⟩ | ⟨q_73, hG⟩
      · clear hF
        exact hm.tr (gB_MText_word_38 q_p0 N l2 1 0 0 H200 r hG hm.1)
      · clear hF
        exact hm.tr (gB_MText_word_24 q_p0 ih hG hm.1)
    · clear hG
      exact hm.tr (gB_MText_word_24 q_p0 ih hF hm.1)
set_option maxRecDepth 20000 in
set_option maxHeartbeats 2000000 in
theorem g_MText_word {N : Nat} {Q : Nat → Prop} {p0 : Nat} {p1 : Int32} {H : Hp} {r : Int32 × Hp} (hF : F_MText_word N p0 p1 H = some r) (hc0 : Cl Q H) (q_p0 : Q p0) : Rg Q H r.2 := by
  unfold F_MText_word at hF
  have hm := Rg.rf hc0
  exact hm.tr (gB_MText_word_2 q_p0 N p1 H r hF hm.1)
set_option maxRecDepth 20000 in
set_option maxHeartbeats 2000000 in
theorem gB_MText_digits_104 {N : Nat} {Q : Nat → Prop} {p0 : Nat} {p1 : Int32} (q_p0 : Q p0) {l2 : Int32} {l3 : Int64} {w0 : Nat} {w1 : Int32} {w2 : Int32} {H : Hp} {r : Int32 × Hp} (hF : B_MText_digits_104 N p0 p1 l2 l3 w0 w1 w2 H = some r) (hc0 : Cl Q H) (q_w0 : Q w0) : Rg Q H r.2 := by
  unfold B_MText_digits_104 at hF
  have hm := Rg.rf hc0
  obtain ⟨n173, q174, hG⟩ := ar_s hF; clear hF
  obtain ⟨q175, hF⟩ := ck_s hG; clear hG
  obtain ⟨H176, eH176, hG⟩ := bnd_g hF; clear hF
  replace hm : Rg Q H H176 := hm.tr (by rw [eH176]; exact Rg.sD hm.1 q_w0)
  have s_36 : Sa H H176 := by rw [eH176]; exact Sa.rf _
  obtain ⟨q177, hF⟩ := ck_s hG; clear hG
  rw [(s_36).1] at q177
  obtain ⟨a178, e179, hG⟩ := rf_s hF; clear hF
  have qa178 : Q a178 := hm.1 _ _ _ q_p0 e179
  obtain ⟨x180, -, hF⟩ := bnd_g hG; clear hG
  obtain ⟨n181, q182, hG⟩ := ar_s hF; clear hF
  rw [(s_36).1] at q182
  obtain ⟨q183, hF⟩ := ck_s hG; clear hG
  obtain ⟨H184, eH184, hG⟩ := bnd_g hF; clear hF
  replace hm : Rg Q H H184 := hm.tr (by rw [eH184]; exact Rg.sD hm.1 qa178)
  have s_37 : Sa H H184 := by rw [eH184]; exact s_36
  have hr := Option.some.inj hG; subst hr
  exact hm
set_option maxRecDepth 20000 in
set_option maxHeartbeats 2000000 in
theorem gB_MText_digits_74 {N : Nat} {Q : Nat → Prop} {p0 : Nat} {p1 : Int32} (q_p0 : Q p0) {l2 : Int32} {l3 : Int64} {H : Hp} {r : Int32 × Hp} (hF : B_MText_digits_74 N p0 p1 l2 l3 H = some r) (hc0 : Cl Q H) : Rg Q H r.2 := by
  unfold B_MText_digits_74 at hF
  have hm := Rg.rf hc0
  obtain ⟨q185, hG⟩ := ck_s hF; clear hF
  obtain ⟨v187, H188, z186, hF⟩ := bC_s hG; clear hG
  have gz_38 := (g_MText_token z186 hm.1 q_p0)
  replace hm : Rg Q H H188 := hm.tr gz_38
  have s_39 : Sa H H188 := (m_MText_token z186)
  obtain ⟨a189, e190, hG⟩ := rf_s hF; clear hF
  have qa189 : Q a189 := hm.1 _ _ _ q_p0 e190
  obtain ⟨x191, -, hF⟩ := bnd_g hG; clear hG
  rcases ite_s hF with ⟨q_40, hG⟩ | ⟨q_40, hG⟩
  · clear hF
    exact hm.tr (gB_MText_digits_104 q_p0 hG hm.1 qa189)
  · clear hF
    exact hm.tr (gB_MText_digits_104 q_p0 hG hm.1 qa189)
set_option maxRecDepth 20000 in
set_option maxHeartbeats 2000000 in
theorem gB_MText_digits_223 {N : Nat} {Q : Nat → Prop} {p0 : Nat} {p1 : Int32} (q_p0 : Q p0) {l2 : Int32} {l3 : Int64} {l6 : Int64} {l8 : Int64} {w0 : Nat} {w1 : Int32} {w2 : Int32} {H : Hp} {r : Int32 × Hp} (hF : B_MText_digits_223 N p0 p1 l2 l3 l6 l8 w0 w1 w2 H = some r) (hc0 : Cl Q H) (q_w0 : Q w0) : Rg Q H r.2 := by
  unfold B_MText_digits_223 at hF
  have hm := Rg.rf hc0
  obtain ⟨n193, q194, hG⟩ := ar_s hF; clear hF
  obtain ⟨q195, hF⟩ := ck_s hG; clear hG
  obtain ⟨H196, eH196, hG⟩ := bnd_g hF; clear hF
  replace hm : Rg Q H H196 := hm.tr (by rw [eH196]; exact Rg.sD hm.1 q_w0)
  have s_41 : Sa H H196 := by rw [eH196]; exact Sa.rf _
  obtain ⟨q197, hF⟩ := ck_s hG; clear hG
  rw [(s_41).1] at q197
  obtain ⟨a198, e199, hG⟩ := rf_s hF; clear hF
  have qa198 : Q a198 := hm.1 _ _ _ q_p0 e199
  obtain ⟨x200, -, hF⟩ := bnd_g hG; clear hG
  obtain ⟨q201, hG⟩ := ck_s hF; clear hF
  obtain ⟨x202, -, hF⟩ := bnd_g hG; clear hG
  obtain ⟨n203, q204, hG⟩ := ar_s hF; clear hF
  rw [(s_41).1] at q204
  obtain ⟨q205, hF⟩ := ck_s hG; clear hG
  obtain ⟨H206, eH206, hG⟩ := bnd_g hF; clear hF
  replace hm : Rg Q H H206 := hm.tr (by rw [eH206]; exact Rg.sD hm.1 qa198)
  have s_42 : Sa H H206 := by rw [eH206]; exact s_41
  have hr := Option.some.inj hG; subst hr
  exact hm
set_option maxRecDepth 20000 in
set_option maxHeartbeats 2000000 in
theorem gB_MText_digits_218 {N : Nat} {Q : Nat → Prop} {p0 : Nat} {p1 : Int32} (q_p0 : Q p0) {l2 : Int32} {l3 : Int64} {l6 : Int64} {l8 : Int64} {w0 : Nat} {w1 : Int32} {H : Hp} {r : Int32 × Hp} (hF : B_MText_digits_218 N p0 p1 l2 l3 l6 l8 w0 w1 H = some r) (hc0 : Cl Q H) (q_w0 : Q w0) : Rg Q H r.2 := by
  unfold B_MText_digits_218 at hF
  have hm := Rg.rf hc0
  exact hm.tr (gB_MText_digits_223 q_p0 hF hm.1 q_w0)
set_option maxRecDepth 20000 in
set_option maxHeartbeats 2000000 in
theorem gB_MText_digits_179 {N : Nat} {Q : Nat → Prop} {p0 : Nat} {p1 : Int32} {kq132 : Int32 → Int64 → Int32 → Int64 → Int64 → Hp → Option (Int32 × Hp)} (q_p0 : Q p0) (hg132 : ∀ (l2 : Int32) (l3 : Int64) (l5 : Int32) (l6 : Int64) (l8 : Int64) (H : Hp) (r : Int32 × Hp), kq132 l2 l3 l5 l6 l8 H = some r → Cl Q H → Rg Q H r.2) {l2 : Int32} {l3 : Int64} {l5 : Int32} {l6 : Int64} {l8 : Int64} {H : Hp} {r : Int32 × Hp} (hF : B_MText_digits_179 N p0 p1 kq132 l2 l3 l5 l6 l8 H = some r) (hc0 : Cl Q H) : Rg Q H r.2 := by
  unfold B_MText_digits_179 at hF
  have hm := Rg.rf hc0
  exact hm.tr (hg132 (l2 + 1) l3 l5 l6 l8 H r hF hm.1)
set_option maxRecDepth 20000 in
set_option maxHeartbeats 2000000 in
theorem gB_MText_digits_132 {N : Nat} {Q : Nat → Prop} {p0 : Nat} {p1 : Int32} (q_p0 : Q p0) : ∀ (n : Nat) (l2 : Int32) (l3 : Int64) (l5 : Int32) (l6 : Int64) (l8 : Int64) (H : Hp) (r : Int32 × Hp), B_MText_digits_132 N p0 p1 n l2 l3 l5 l6 l8 H = some r → Cl Q H → Rg Q H r.2 := by
  intro n
  induction n with
  | zero => intro l2 l3 l5 l6 l8 H r hF; rw [B_MText_digits_132] at hF; cases hF
  | succ n ih =>
    intro l2 l3 l5 l6 l8 H r hF hc0
    rw [B_MText_digits_132] at hF
    have hm := Rg.rf hc0
    obtain ⟨q207, hG⟩ := ck_s hF; clear hF
    obtain ⟨v209, H210, z208, hF⟩ := bC_s hG; clear hG
    have gz_43 := (g_MText_letter z208 hm.1 q_p0)
    replace hm : Rg Q H H210 := hm.tr gz_43
    have s_44 : Sa H H210 := (m_MText_letter z208)
    obtain ⟨v212, H213, z211, hG⟩ := bC_s hF; clear hF
    have gz_45 := (g_MText_isDigit z211 hm.1)
    replace hm : Rg Q H H213 := hm.tr gz_45
    have s_46 : Sa H H213 := (s_44).tr (m_MText_isDigit z211)
    rcases ite_s hG with ⟨q_47, hF⟩ | ⟨q_47, hF⟩
    · clear hG
      obtain ⟨v216, H217, z215, hG⟩ := bC_s hF; clear hF
      have gz_48 := (g_MText_token z215 hm.1 q_p0)
      replace hm : Rg Q H H217 := hm.tr gz_48
      have s_49 : Sa H H217 := (s_46).tr (m_MText_token z215)
      obtain ⟨a218, e219, hF⟩ := rf_s hG; clear hG
      have qa218 : Q a218 := hm.1 _ _ _ q_p0 e219
      obtain ⟨x220, -, hG⟩ := bnd_g hF; clear hF
      rcases ite_s hG with ⟨q_50, hF⟩ | ⟨q_50, hF⟩
      · clear hG
        exact hm.tr (gB_MText_digits_218 q_p0 hF hm.1 qa218)
      · clear hG
        rcases ite_s hF with ⟨q_51, hG⟩ | ⟨q_51, hG⟩
        · clear hF
          exact hm.tr (gB_MText_digits_223 q_p0 hG hm.1 qa218)
        · clear hF
          exact hm.tr (gB_MText_digits_218 q_p0 hG hm.1 qa218)
    · clear hG
      rcases ite_s hF with ⟨q_52, hG⟩ | ⟨q_52, hG⟩
      · clear hF
        exact hm.tr (gB_MText_digits_179 q_p0 ih hG hm.1)
      · clear hF
        obtain ⟨a224, e225, hF⟩ := rf_s hG; clear hG
        have qa224 : Q a224 := hm.1 _ _ _ q_p0 e225
        obtain ⟨n226, q227, hG⟩ := ar_s hF; clear hF
        rw [(s_46).1] at q227
        obtain ⟨q228, hF⟩ := ck_s hG; clear hG
        obtain ⟨x229, -, hG⟩ := bnd_g hF; clear hF
        obtain ⟨x230, -, hF⟩ := bnd_g hG; clear hG
        obtain ⟨x231, -, hG⟩ := bnd_g hF; clear hF
        exact hm.tr (gB_MText_digits_179 q_p0 ih hG hm.1)
set_option maxRecDepth 20000 in
set_option maxHeartbeats 2000000 in
theorem gB_MText_digits_44 {N : Nat} {Q : Nat → Prop} {p0 : Nat} {p1 : Int32} {kq4 : Int32 → Int64 → Hp → Option (Int32 × Hp)} (q_p0 : Q p0) (hg4 : ∀ (l2 : Int32) (l3 : Int64) (H : Hp) (r : Int32 × Hp), kq4 l2 l3 H = some r → Cl Q H → Rg Q H r.2) {l2 : Int32} {w0 : Int64} {H : Hp} {r : Int32 × Hp} (hF : B_MText_digits_44 N p0 p1 kq4 l2 w0 H = some r) (hc0 : Cl Q H) : Rg Q H r.2 := by
  unfold B_MText_digits_44 at hF
  have hm := Rg.rf hc0
  exact hm.tr (hg4 (l2 + 1) w0 H r hF hm.1)
set_option maxRecDepth 20000 in
set_option maxHeartbeats 2000000 in
theorem gB_MText_digits_4 {N : Nat} {Q : Nat → Prop} {p0 : Nat} {p1 : Int32} (q_p0 : Q p0) : ∀ (n : Nat) (l2 : Int32) (l3 : Int64) (H : Hp) (r : Int32 × Hp), B_MText_digits_4 N p0 p1 n l2 l3 H = some r → Cl Q H → Rg Q H r.2 := by
  intro n
  induction n with
  | zero => intro l2 l3 H r hF; rw [B_MText_digits_4] at hF; cases hF
  | succ n ih =>
    intro l2 l3 H r hF hc0
    rw [B_MText_digits_4] at hF
    have hm := Rg.rf hc0
    obtain ⟨q232, hG⟩ := ck_s hF; clear hF
    obtain ⟨v234, H235, z233, hF⟩ := bC_s hG; clear hG
    have gz_53 := (g_MText_letter z233 hm.1 q_p0)
    replace hm : Rg Q H H235 := hm.tr gz_53
    have s_54 : Sa H H235 := (m_MText_letter z233)
    obtain ⟨v237, H238, z236, hG⟩ := bC_s hF; clear hF
    have gz_55 := (g_MText_isDigit z236 hm.1)
    replace hm : Rg Q H H238 := hm.tr gz_55
    have s_56 : Sa H H238 := (s_54).tr (m_MText_isDigit z236)
    rcases ite_s hG with ⟨q_57, hF⟩ | ⟨q_57, hF⟩
    · clear hG
      obtain ⟨v241, H242, z240, hG⟩ := bC_s hF; clear hF
      have gz_58 := (g_MText_letter z240 hm.1 q_p0)
      replace hm : Rg Q H H242 := hm.tr gz_58
      have s_59 : Sa H H242 := (s_56).tr (m_MText_letter z240)
      rcases ite_s hG with ⟨q_60, hF⟩ | ⟨q_60, hF⟩
      · clear hG
        obtain ⟨v245, H246, z244, hG⟩ := bC_s hF; clear hF
        have gz_61 := (g_MText_letter z244 hm.1 q_p0)
        replace hm : Rg Q H H246 := hm.tr gz_61
        have s_62 : Sa H H246 := (s_59).tr (m_MText_letter z244)
        obtain ⟨v248, H249, z247, hF⟩ := bC_s hG; clear hG
        have gz_63 := (g_MText_isDigit z247 hm.1)
        replace hm : Rg Q H H249 := hm.tr gz_63
        have s_64 : Sa H H249 := (s_62).tr (m_MText_isDigit z247)
        rcases ite_s hF with ⟨q_65, hG⟩ | ⟨q_65, hG⟩
        · clear hF
          exact hm.tr (gB_MText_digits_74 q_p0 hG hm.1)
        · clear hF
          exact hm.tr (gB_MText_digits_132 q_p0 N (l2 + 1) l3 (l2 + 1) 0 1 H249 r hG hm.1)
      · clear hG
        exact hm.tr (gB_MText_digits_74 q_p0 hF hm.1)
    · clear hG
      rcases ite_s hF with ⟨q_66, hG⟩ | ⟨q_66, hG⟩
      · clear hF
        obtain ⟨a252, e253, hF⟩ := rf_s hG; clear hG
        have qa252 : Q a252 := hm.1 _ _ _ q_p0 e253
        obtain ⟨n254, q255, hG⟩ := ar_s hF; clear hF
        rw [(s_56).1] at q255
        obtain ⟨q256, hF⟩ := ck_s hG; clear hG
        obtain ⟨x257, -, hG⟩ := bnd_g hF; clear hF
        obtain ⟨x258, -, hF⟩ := bnd_g hG; clear hG
        exact hm.tr (gB_MText_digits_44 q_p0 ih hF hm.1)
      · clear hF
        exact hm.tr (gB_MText_digits_44 q_p0 ih hG hm.1)
set_option maxRecDepth 20000 in
set_option maxHeartbeats 2000000 in
theorem g_MText_digits {N : Nat} {Q : Nat → Prop} {p0 : Nat} {p1 : Int32} {H : Hp} {r : Int32 × Hp} (hF : F_MText_digits N p0 p1 H = some r) (hc0 : Cl Q H) (q_p0 : Q p0) : Rg Q H r.2 := by
  unfold F_MText_digits at hF
  have hm := Rg.rf hc0
  exact hm.tr (gB_MText_digits_4 q_p0 N p1 0 H r hF hm.1)
set_option maxRecDepth 20000 in
set_option maxHeartbeats 2000000 in
theorem gB_MText_sign_240 {N : Nat} {Q : Nat → Prop} {p0 : Nat} {p1 : Int32} {p2 : Int32} {p3 : Int32} (q_p0 : Q p0) {l4 : Int32} {w0 : Nat} {w1 : Int32} {w2 : Int32} {w3 : Int32} {w4 : Int32} {H : Hp} {r : Int32 × Hp} (hF : B_MText_sign_240 N p0 p1 p2 p3 l4 w0 w1 w2 w3 w4 H = some r) (hc0 : Cl Q H) (q_w0 : Q w0) : Rg Q H r.2 := by
  unfold B_MText_sign_240 at hF
  have hm := Rg.rf hc0
  obtain ⟨q73, hG⟩ := ck_s hF; clear hF
  obtain ⟨v75, H76, z74, hF⟩ := bC_s hG; clear hG
  have gz_35 := (g_MText_token z74 hm.1 q_w0)
  replace hm : Rg Q H H76 := hm.tr gz_35
  have s_36 : Sa H H76 := (m_MText_token z74)
  rcases ite_s hF with ⟨q_37, hG⟩ | ⟨q_37, hG⟩
  · clear hF
    have hr := Option.some.inj hG; subst hr
    exact hm
  · clear hF
    have hr := Option.some.inj hG; subst hr
    exact hm
set_option maxRecDepth 20000 in
set_option maxHeartbeats 2000000 in
theorem gB_MText_sign_228 {N : Nat} {Q : Nat → Prop} {p0 : Nat} {p1 : Int32} {p2 : Int32} {p3 : Int32} (q_p0 : Q p0) {l4 : Int32} {w0 : Nat} {w1 : Int32} {H : Hp} {r : Int32 × Hp} (hF : B_MText_sign_228 N p0 p1 p2 p3 l4 w0 w1 H = some r) (hc0 : Cl Q H) (q_w0 : Q w0) : Rg Q H r.2 := by
  unfold B_MText_sign_228 at hF
  have hm := Rg.rf hc0
  rcases ite_s hF with ⟨q_38, hG⟩ | ⟨q_38, hG⟩
  · clear hF
    exact hm.tr (gB_MText_sign_240 q_p0 hG hm.1 q_w0)
  · clear hF
    exact hm.tr (gB_MText_sign_240 q_p0 hG hm.1 q_w0)
set_option maxRecDepth 20000 in
set_option maxHeartbeats 2000000 in
theorem gB_MText_sign_205 {N : Nat} {Q : Nat → Prop} {p0 : Nat} {p1 : Int32} {p2 : Int32} {p3 : Int32} (q_p0 : Q p0) {l4 : Int32} {w0 : Int32} {H : Hp} {r : Int32 × Hp} (hF : B_MText_sign_205 N p0 p1 p2 p3 l4 w0 H = some r) (hc0 : Cl Q H) : Rg Q H r.2 := by
  unfold B_MText_sign_205 at hF
  have hm := Rg.rf hc0
  rcases ite_s hF with ⟨q_39, hG⟩ | ⟨q_39, hG⟩
  · clear hF
    rcases ite_s hG with ⟨q_40, hF⟩ | ⟨q_40, hF⟩
    · clear hG
      exact hm.tr (gB_MText_sign_228 q_p0 hF hm.1 q_p0)
    · clear hG
      exact hm.tr (gB_MText_sign_228 q_p0 hF hm.1 q_p0)
  · clear hF
    exact hm.tr (gB_MText_sign_228 q_p0 hG hm.1 q_p0)
set_option maxRecDepth 20000 in
set_option maxHeartbeats 2000000 in
theorem gB_MText_sign_200 {N : Nat} {Q : Nat → Prop} {p0 : Nat} {p1 : Int32} {p2 : Int32} {p3 : Int32} (q_p0 : Q p0) {l4 : Int32} {H : Hp} {r : Int32 × Hp} (hF : B_MText_sign_200 N p0 p1 p2 p3 l4 H = some r) (hc0 : Cl Q H) : Rg Q H r.2 := by
  unfold B_MText_sign_200 at hF
  have hm := Rg.rf hc0
  exact hm.tr (gB_MText_sign_205 q_p0 hF hm.1)
set_option maxRecDepth 20000 in
set_option maxHeartbeats 2000000 in
theorem gB_MText_sign_102 {N : Nat} {Q : Nat → Prop} {p0 : Nat} {p1 : Int32} {p2 : Int32} {p3 : Int32} (q_p0 : Q p0) {w0 : Int32} {H : Hp} {r : Int32 × Hp} (hF : B_MText_sign_102 N p0 p1 p2 p3 w0 H = some r) (hc0 : Cl Q H) : Rg Q H r.2 := by
  unfold B_MText_sign_102 at hF
  have hm := Rg.rf hc0
  rcases ite_s hF with ⟨q_41, hG⟩ | ⟨q_41, hG⟩
  · clear hF
    exact hm.tr (gB_MText_sign_200 q_p0 hG hm.1)
  · clear hF
    rcases ite_s hG with ⟨q_42, hF⟩ | ⟨q_42, hF⟩
    · clear hG
      exact hm.tr (gB_MText_sign_200 q_p0 hF hm.1)
    · clear hG
      rcases ite_s hF with ⟨q_43, hG⟩ | ⟨q_43, hG⟩
      · clear hF
        exact hm.tr (gB_MText_sign_200 q_p0 hG hm.1)
      · clear hF
        rcases ite_s hG with ⟨q_44, hF⟩ | ⟨q_44, hF⟩
        · clear hG
          exact hm.tr (gB_MText_sign_200 q_p0 hF hm.1)
        · clear hG
          rcases ite_s hF with ⟨q_45, hG⟩ | ⟨q_45, hG⟩
          · clear hF
            exact hm.tr (gB_MText_sign_200 q_p0 hG hm.1)
          · clear hF
            rcases ite_s hG with ⟨q_46, hF⟩ | ⟨q_46, hF⟩
            · clear hG
              exact hm.tr (gB_MText_sign_200 q_p0 hF hm.1)
            · clear hG
              rcases ite_s hF with ⟨q_47, hG⟩ | ⟨q_47, hG⟩
              · clear hF
                exact hm.tr (gB_MText_sign_200 q_p0 hG hm.1)
              · clear hF
                rcases ite_s hG with ⟨q_48, hF⟩ | ⟨q_48, hF⟩
                · clear hG
                  exact hm.tr (gB_MText_sign_200 q_p0 hF hm.1)
                · clear hG
                  rcases ite_s hF with ⟨q_49, hG⟩ | ⟨q_49, hG⟩
                  · clear hF
                    exact hm.tr (gB_MText_sign_200 q_p0 hG hm.1)
                  · clear hF
                    rcases ite_s hG with ⟨q_50, hF⟩ | ⟨q_50, hF⟩
                    · clear hG
                      exact hm.tr (gB_MText_sign_200 q_p0 hF hm.1)
                    · clear hG
                      rcases ite_s hF with ⟨q_51, hG⟩ | ⟨q_51, hG⟩
                      · clear hF
                        exact hm.tr (gB_MText_sign_200 q_p0 hG hm.1)
                      · clear hF
                        rcases ite_s hG with ⟨q_52, hF⟩ | ⟨q_52, hF⟩
                        · clear hG
                          exact hm.tr (gB_MText_sign_200 q_p0 hF hm.1)
                        · clear hG
                          rcases ite_s hF with ⟨q_53, hG⟩ | ⟨q_53, hG⟩
                          · clear hF
                            exact hm.tr (gB_MText_sign_200 q_p0 hG hm.1)
                          · clear hF
                            rcases ite_s hG with ⟨q_54, hF⟩ | ⟨q_54, hF⟩
                            · clear hG
                              exact hm.tr (gB_MText_sign_200 q_p0 hF hm.1)
                            · clear hG
                              rcases ite_s hF with ⟨q_55, hG⟩ | ⟨q_55, hG⟩
                              · clear hF
                                exact hm.tr (gB_MText_sign_200 q_p0 hG hm.1)
                              · clear hF
                                rcases ite_s hG with ⟨q_56, hF⟩ | ⟨q_56, hF⟩
                                · clear hG
                                  exact hm.tr (gB_MText_sign_200 q_p0 hF hm.1)
                                · clear hG
                                  exact hm.tr (gB_MText_sign_205 q_p0 hF hm.1)
set_option maxRecDepth 20000 in
set_option maxHeartbeats 2000000 in
theorem gB_MText_sign_101 {N : Nat} {Q : Nat → Prop} {p0 : Nat} {p1 : Int32} {p2 : Int32} {p3 : Int32} (q_p0 : Q p0)  {H : Hp} {r : Int32 × Hp} (hF : B_MText_sign_101 N p0 p1 p2 p3  H = some r) (hc0 : Cl Q H) : Rg Q H r.2 := by
  unfold B_MText_sign_101 at hF
  have hm := Rg.rf hc0
  exact hm.tr (gB_MText_sign_102 q_p0 hF hm.1)
set_option maxRecDepth 20000 in
set_option maxHeartbeats 2000000 in
theorem gB_MText_sign_84 {N : Nat} {Q : Nat → Prop} {p0 : Nat} {p1 : Int32} {p2 : Int32} {p3 : Int32} (q_p0 : Q p0)  {H : Hp} {r : Int32 × Hp} (hF : B_MText_sign_84 N p0 p1 p2 p3  H = some r) (hc0 : Cl Q H) : Rg Q H r.2 := by
  unfold B_MText_sign_84 at hF
  have hm := Rg.rf hc0
  rcases ite_s hF with ⟨q_57, hG⟩ | ⟨q_57, hG⟩
  · clear hF
    rcases ite_s hG with ⟨q_58, hF⟩ | ⟨q_58, hF⟩
    · clear hG
      exact hm.tr (gB_MText_sign_102 q_p0 hF hm.1)
    · clear hG
      exact hm.tr (gB_MText_sign_101 q_p0 hF hm.1)
  · clear hF
    exact hm.tr (gB_MText_sign_101 q_p0 hG hm.1)
set_option maxRecDepth 20000 in
set_option maxHeartbeats 2000000 in
theorem gB_MText_sign_67 {N : Nat} {Q : Nat → Prop} {p0 : Nat} {p1 : Int32} {p2 : Int32} {p3 : Int32} (q_p0 : Q p0)  {H : Hp} {r : Int32 × Hp} (hF : B_MText_sign_67 N p0 p1 p2 p3  H = some r) (hc0 : Cl Q H) : Rg Q H r.2 := by
  unfold B_MText_sign_67 at hF
  have hm := Rg.rf hc0
  rcases ite_s hF with ⟨q_59, hG⟩ | ⟨q_59, hG⟩
  · clear hF
    rcases ite_s hG with ⟨q_60, hF⟩ | ⟨q_60, hF⟩
    · clear hG
      exact hm.tr (gB_MText_sign_102 q_p0 hF hm.1)
    · clear hG
      exact hm.tr (gB_MText_sign_84 q_p0 hF hm.1)
  · clear hF
    exact hm.tr (gB_MText_sign_84 q_p0 hG hm.1)
set_option maxRecDepth 20000 in
set_option maxHeartbeats 2000000 in
theorem gB_MText_sign_50 {N : Nat} {Q : Nat → Prop} {p0 : Nat} {p1 : Int32} {p2 : Int32} {p3 : Int32} (q_p0 : Q p0)  {H : Hp} {r : Int32 × Hp} (hF : B_MText_sign_50 N p0 p1 p2 p3  H = some r) (hc0 : Cl Q H) : Rg Q H r.2 := by
  unfold B_MText_sign_50 at hF
  have hm := Rg.rf hc0
  rcases ite_s hF with ⟨q_61, hG⟩ | ⟨q_61, hG⟩
  · clear hF
    rcases ite_s hG with ⟨q_62, hF⟩ | ⟨q_62, hF⟩
    · clear hG
      exact hm.tr (gB_MText_sign_102 q_p0 hF hm.1)
    · clear hG
      exact hm.tr (gB_MText_sign_67 q_p0 hF hm.1)
  · clear hF
    exact hm.tr (gB_MText_sign_67 q_p0 hG hm.1)
set_option maxRecDepth 20000 in
set_option maxHeartbeats 2000000 in
theorem gB_MText_sign_33 {N : Nat} {Q : Nat → Prop} {p0 : Nat} {p1 : Int32} {p2 : Int32} {p3 : Int32} (q_p0 : Q p0)  {H : Hp} {r : Int32 × Hp} (hF : B_MText_sign_33 N p0 p1 p2 p3  H = some r) (hc0 : Cl Q H) : Rg Q H r.2 := by
  unfold B_MText_sign_33 at hF
  have hm := Rg.rf hc0
  rcases ite_s hF with ⟨q_63, hG⟩ | ⟨q_63, hG⟩
  · clear hF
    rcases ite_s hG with ⟨q_64, hF⟩ | ⟨q_64, hF⟩
    · clear hG
      exact hm.tr (gB_MText_sign_102 q_p0 hF hm.1)
    · clear hG
      exact hm.tr (gB_MText_sign_50 q_p0 hF hm.1)
  · clear hF
    exact hm.tr (gB_MText_sign_50 q_p0 hG hm.1)
set_option maxRecDepth 20000 in
set_option maxHeartbeats 2000000 in
theorem gB_MText_sign_16 {N : Nat} {Q : Nat → Prop} {p0 : Nat} {p1 : Int32} {p2 : Int32} {p3 : Int32} (q_p0 : Q p0)  {H : Hp} {r : Int32 × Hp} (hF : B_MText_sign_16 N p0 p1 p2 p3  H = some r) (hc0 : Cl Q H) : Rg Q H r.2 := by
  unfold B_MText_sign_16 at hF
  have hm := Rg.rf hc0
  rcases ite_s hF with ⟨q_65, hG⟩ | ⟨q_65, hG⟩
  · clear hF
    rcases ite_s hG with ⟨q_66, hF⟩ | ⟨q_66, hF⟩
    · clear hG
      exact hm.tr (gB_MText_sign_102 q_p0 hF hm.1)
    · clear hG
      exact hm.tr (gB_MText_sign_33 q_p0 hF hm.1)
  · clear hF
    exact hm.tr (gB_MText_sign_33 q_p0 hG hm.1)
set_option maxRecDepth 20000 in
set_option maxHeartbeats 2000000 in
theorem g_MText_sign {N : Nat} {Q : Nat → Prop} {p0 : Nat} {p1 : Int32} {p2 : Int32} {p3 : Int32} {H : Hp} {r : Int32 × Hp} (hF : F_MText_sign N p0 p1 p2 p3 H = some r) (hc0 : Cl Q H) (q_p0 : Q p0) : Rg Q H r.2 := by
  unfold F_MText_sign at hF
  have hm := Rg.rf hc0
  rcases ite_s hF with ⟨q_67, hG⟩ | ⟨q_67, hG⟩
  · clear hF
    rcases ite_s hG with ⟨q_68, hF⟩ | ⟨q_68, hF⟩
    · clear hG
      exact hm.tr (gB_MText_sign_102 q_p0 hF hm.1)
    · clear hG
      exact hm.tr (gB_MText_sign_16 q_p0 hF hm.1)
  · clear hF
    exact hm.tr (gB_MText_sign_16 q_p0 hG hm.1)
set_option maxRecDepth 20000 in
set_option maxHeartbeats 2000000 in
theorem gB_MText_scans_153 {N : Nat} {Q : Nat → Prop} {p0 : Nat} {p1 : Nat} {p2 : Int32} {kq37 : Int32 → Int32 → Hp → Option (Unit × Hp)} (q_p0 : Q p0) (q_p1 : Q p1) (hg37 : ∀ (l3 : Int32) (l4 : Int32) (H : Hp) (r : Unit × Hp), kq37 l3 l4 H = some r → Cl Q H → Rg Q H r.2) {l3 : Int32} {l4 : Int32} {H : Hp} {r : Unit × Hp} (hF : B_MText_scans_153 N p0 p1 p2 kq37 l3 l4 H = some r) (hc0 : Cl Q H) : Rg Q H r.2 := by
  unfold B_MText_scans_153 at hF
  have hm := Rg.rf hc0
  exact hm.tr (hg37 l3 l4 H r hF hm.1)
set_option maxRecDepth 20000 in
set_option maxHeartbeats 2000000 in
theorem gB_MText_scans_151 {N : Nat} {Q : Nat → Prop} {p0 : Nat} {p1 : Nat} {p2 : Int32} {kq37 : Int32 → Int32 → Hp → Option (Unit × Hp)} (q_p0 : Q p0) (q_p1 : Q p1) (hg37 : ∀ (l3 : Int32) (l4 : Int32) (H : Hp) (r : Unit × Hp), kq37 l3 l4 H = some r → Cl Q H → Rg Q H r.2) {l3 : Int32} {w0 : Int32} {H : Hp} {r : Unit × Hp} (hF : B_MText_scans_151 N p0 p1 p2 kq37 l3 w0 H = some r) (hc0 : Cl Q H) : Rg Q H r.2 := by
  unfold B_MText_scans_151 at hF
  have hm := Rg.rf hc0
  exact hm.tr (gB_MText_scans_153 q_p0 q_p1 hg37 hF hm.1)
set_option maxRecDepth 20000 in
set_option maxHeartbeats 2000000 in
theorem gB_MText_scans_37 {N : Nat} {Q : Nat → Prop} {p0 : Nat} {p1 : Nat} {p2 : Int32} (q_p0 : Q p0) (q_p1 : Q p1) : ∀ (n : Nat) (l3 : Int32) (l4 : Int32) (H : Hp) (r : Unit × Hp), B_MText_scans_37 N p0 p1 p2 n l3 l4 H = some r → Cl Q H → Rg Q H r.2 := by
  intro n
  induction n with
  | zero => intro l3 l4 H r hF; rw [B_MText_scans_37] at hF; cases hF
  | succ n ih =>
    intro l3 l4 H r hF hc0
    rw [B_MText_scans_37] at hF
    have hm := Rg.rf hc0
    rcases ite_s hF with ⟨q_31, hG⟩ | ⟨q_31, hG⟩
    · clear hF
      have hr := Option.some.inj hG; subst hr
      exact hm
    · clear hF
      obtain ⟨q120, hF⟩ := ck_s hG; clear hG
      obtain ⟨v122, H123, z121, hG⟩ := bC_s hF; clear hF
      have gz_32 := (g_MText_skips z121 hm.1 q_p0)
      replace hm : Rg Q H H123 := hm.tr gz_32
      have s_33 : Sa H H123 := (m_MText_skips z121)
      obtain ⟨v125, H126, z124, hF⟩ := bC_s hG; clear hG
      have gz_34 := (g_MText_letter z124 hm.1 q_p0)
      replace hm : Rg Q H H126 := hm.tr gz_34
      have s_35 : Sa H H126 := (s_33).tr (m_MText_letter z124)
      obtain ⟨x127, -, hG⟩ := bnd_g hF; clear hF
      rcases ite_s hG with ⟨q_36, hF⟩ | ⟨q_36, hF⟩
      · clear hG
        obtain ⟨v130, H131, z129, hG⟩ := bC_s hF; clear hF
        have gz_37 := (g_MText_isLetter z129 hm.1)
        replace hm : Rg Q H H131 := hm.tr gz_37
        have s_38 : Sa H H131 := (s_35).tr (m_MText_isLetter z129)
        rcases ite_s hG with ⟨q_39, hF⟩ | ⟨q_39, hF⟩
        · clear hG
          obtain ⟨v134, H135, z133, hG⟩ := bC_s hF; clear hF
          have gz_40 := (g_MText_isDigit z133 hm.1)
          replace hm : Rg Q H H135 := hm.tr gz_40
          have s_41 : Sa H H135 := (s_38).tr (m_MText_isDigit z133)
          rcases ite_s hG with ⟨q_42, hF⟩ | ⟨q_42, hF⟩
          · clear hG
            obtain ⟨v138, H139, z137, hG⟩ := bC_s hF; clear hF
            have gz_43 := (g_MText_letter z137 hm.1 q_p0)
            replace hm : Rg Q H H139 := hm.tr gz_43
            have s_44 : Sa H H139 := (s_41).tr (m_MText_letter z137)
            obtain ⟨v141, H142, z140, hF⟩ := bC_s hG; clear hG
            have gz_45 := (g_MText_sign z140 hm.1 q_p0)
            replace hm : Rg Q H H142 := hm.tr gz_45
            have s_46 : Sa H H142 := (s_44).tr (m_MText_sign z140)
            obtain ⟨a143, e144, hG⟩ := rf_s hF; clear hF
            have qa143 : Q a143 := hm.1 _ _ _ q_p0 e144
            obtain ⟨x145, -, hF⟩ := bnd_g hG; clear hG
            obtain ⟨n146, q147, hG⟩ := ar_s hF; clear hF
            rw [(s_46).1] at q147
            obtain ⟨q148, hF⟩ := ck_s hG; clear hG
            obtain ⟨x149, -, hG⟩ := bnd_g hF; clear hF
            rcases ite_s hG with ⟨q_47, hF⟩ | ⟨q_47, hF⟩
            · clear hG
              exact hm.tr (gB_MText_scans_151 q_p0 q_p1 ih hF hm.1)
            · clear hG
              exact hm.tr (gB_MText_scans_151 q_p0 q_p1 ih hF hm.1)
          · clear hG
            obtain ⟨v152, H153, z151, hG⟩ := bC_s hF; clear hF
            have gz_48 := (g_MText_digits z151 hm.1 q_p0)
            replace hm : Rg Q H H153 := hm.tr gz_48
            have s_49 : Sa H H153 := (s_41).tr (m_MText_digits z151)
            exact hm.tr (gB_MText_scans_153 q_p0 q_p1 ih hG hm.1)
        · clear hG
          obtain ⟨v155, H156, z154, hG⟩ := bC_s hF; clear hF
          have gz_50 := (g_MText_word z154 hm.1 q_p0)
          replace hm : Rg Q H H156 := hm.tr gz_50
          have s_51 : Sa H H156 := (s_38).tr (m_MText_word z154)
          exact hm.tr (gB_MText_scans_153 q_p0 q_p1 ih hG hm.1)
      · clear hG
        obtain ⟨x157, -, hG⟩ := bnd_g hF; clear hF
        obtain ⟨x158, -, hF⟩ := bnd_g hG; clear hG
        obtain ⟨v160, H161, z159, hG⟩ := bC_s hF; clear hF
        have gz_52 := (g_MText_token z159 hm.1 q_p0)
        replace hm : Rg Q H H161 := hm.tr gz_52
        have s_53 : Sa H H161 := (s_35).tr (m_MText_token z159)
        exact hm.tr (gB_MText_scans_153 q_p0 q_p1 ih hG hm.1)
set_option maxRecDepth 20000 in
set_option maxHeartbeats 2000000 in
theorem gB_MText_scans_7 {N : Nat} {Q : Nat → Prop} {p0 : Nat} {p1 : Nat} {p2 : Int32} (q_p0 : Q p0) (q_p1 : Q p1) : ∀ (n : Nat) (l3 : Int32) (H : Hp) (r : Unit × Hp), B_MText_scans_7 N p0 p1 p2 n l3 H = some r → Cl Q H → Rg Q H r.2 := by
  intro n
  induction n with
  | zero => intro l3 H r hF; rw [B_MText_scans_7] at hF; cases hF
  | succ n ih =>
    intro l3 H r hF hc0
    rw [B_MText_scans_7] at hF
    have hm := Rg.rf hc0
    rcases ite_s hF with ⟨q_54, hG⟩ | ⟨q_54, hG⟩
    · clear hF
      obtain ⟨q163, hF⟩ := ck_s hG; clear hG
      obtain ⟨H164, eH164, hG⟩ := bnd_g hF; clear hF
      replace hm : Rg Q H H164 := hm.tr (by rw [eH164]; exact Rg.sD hm.1 q_p0)
      have s_55 : Sa H H164 := by rw [eH164]; exact Sa.rf _
      exact hm.tr (gB_MText_scans_37 q_p0 q_p1 N 0 1 H164 r hG hm.1)
    · clear hF
      obtain ⟨q165, hF⟩ := ck_s hG; clear hG
      obtain ⟨a166, e167, hG⟩ := rf_s hF; clear hF
      have qa166 : Q a166 := hm.1 _ _ _ q_p0 e167
      obtain ⟨n168, q169, hF⟩ := ar_s hG; clear hG
      obtain ⟨q170, hG⟩ := ck_s hF; clear hF
      obtain ⟨x171, -, hF⟩ := bnd_g hG; clear hG
      obtain ⟨n172, q173, hG⟩ := ar_s hF; clear hF
      obtain ⟨q174, hF⟩ := ck_s hG; clear hG
      obtain ⟨H175, eH175, hG⟩ := bnd_g hF; clear hF
      replace hm : Rg Q H H175 := hm.tr (by rw [eH175]; exact Rg.sD hm.1 qa166)
      have s_56 : Sa H H175 := by rw [eH175]; exact Sa.rf _
      exact hm.tr (ih (l3 + 1) H175 r hG hm.1)
set_option maxRecDepth 20000 in
set_option maxHeartbeats 2000000 in
theorem g_MText_scans {N : Nat} {Q : Nat → Prop} {p0 : Nat} {p1 : Nat} {p2 : Int32} {H : Hp} {r : Unit × Hp} (hF : F_MText_scans N p0 p1 p2 H = some r) (hc0 : Cl Q H) (q_p0 : Q p0) (q_p1 : Q p1) : Rg Q H r.2 := by
  unfold F_MText_scans at hF
  have hm := Rg.rf hc0
  obtain ⟨q176, hG⟩ := ck_s hF; clear hF
  obtain ⟨H177, eH177, hF⟩ := bnd_g hG; clear hG
  replace hm : Rg Q H H177 := hm.tr (by rw [eH177]; exact Rg.sD hm.1 q_p0)
  have s_57 : Sa H H177 := by rw [eH177]; exact Sa.rf _
  exact hm.tr (gB_MText_scans_7 q_p0 q_p1 N 0 H177 r hF hm.1)
set_option maxRecDepth 20000 in
set_option maxHeartbeats 2000000 in
theorem g_MText_fails {N : Nat} {Q : Nat → Prop} {p0 : Nat} {p1 : Int32} {p2 : Int32} {H : Hp} {r : Unit × Hp} (hF : F_MText_fails N p0 p1 p2 H = some r) (hc0 : Cl Q H) (q_p0 : Q p0) : Rg Q H r.2 := by
  unfold F_MText_fails at hF
  have hm := Rg.rf hc0
  obtain ⟨q23, hG⟩ := ck_s hF; clear hF
  obtain ⟨x24, -, hF⟩ := bnd_g hG; clear hG
  rcases ite_s hF with ⟨q_6, hG⟩ | ⟨q_6, hG⟩
  · clear hF
    obtain ⟨H26, eH26, hF⟩ := bnd_g hG; clear hG
    replace hm : Rg Q H H26 := hm.tr (by rw [eH26]; exact Rg.sD hm.1 q_p0)
    have s_7 : Sa H H26 := by rw [eH26]; exact Sa.rf _
    obtain ⟨a27, e28, hG⟩ := rf_s hF; clear hF
    have qa27 : Q a27 := hm.1 _ _ _ q_p0 e28
    obtain ⟨n29, q30, hF⟩ := ar_s hG; clear hG
    rw [(s_7).1] at q30
    obtain ⟨q31, hG⟩ := ck_s hF; clear hF
    obtain ⟨x32, -, hF⟩ := bnd_g hG; clear hG
    obtain ⟨H33, eH33, hG⟩ := bnd_g hF; clear hF
    replace hm : Rg Q H H33 := hm.tr (by rw [eH33]; exact Rg.sD hm.1 q_p0)
    have s_8 : Sa H H33 := by rw [eH33]; exact s_7
    have hr := Option.some.inj hG; subst hr
    exact hm
  · clear hF
    have hr := Option.some.inj hG; subst hr
    exact hm
set_option maxRecDepth 20000 in
set_option maxHeartbeats 2000000 in
theorem gB_MText_begins_14 {N : Nat} {Q : Nat → Prop} {p0 : Nat} {p1 : Int32} {p2 : Int32} (q_p0 : Q p0)  {H : Hp} {r : Unit × Hp} (hF : B_MText_begins_14 N p0 p1 p2  H = some r) (hc0 : Cl Q H) : Rg Q H r.2 := by
  unfold B_MText_begins_14 at hF
  have hm := Rg.rf hc0
  obtain ⟨q25, hG⟩ := ck_s hF; clear hF
  obtain ⟨x26, -, hF⟩ := bnd_g hG; clear hG
  obtain ⟨x27, -, hG⟩ := bnd_g hF; clear hF
  rcases ite_s hG with ⟨q_9, hF⟩ | ⟨q_9, hF⟩
  · clear hG
    obtain ⟨H29, eH29, hG⟩ := bnd_g hF; clear hF
    replace hm : Rg Q H H29 := hm.tr (by rw [eH29]; exact Rg.sD hm.1 q_p0)
    have s_10 : Sa H H29 := by rw [eH29]; exact Sa.rf _
    have hr := Option.some.inj hG; subst hr
    exact hm
  · clear hG
    obtain ⟨H30, eH30, hG⟩ := bnd_g hF; clear hF
    replace hm : Rg Q H H30 := hm.tr (by rw [eH30]; exact Rg.sD hm.1 q_p0)
    have s_11 : Sa H H30 := by rw [eH30]; exact Sa.rf _
    have hr := Option.some.inj hG; subst hr
    exact hm
set_option maxRecDepth 20000 in
set_option maxHeartbeats 2000000 in
theorem g_MText_begins {N : Nat} {Q : Nat → Prop} {p0 : Nat} {p1 : Int32} {p2 : Int32} {H : Hp} {r : Unit × Hp} (hF : F_MText_begins N p0 p1 p2 H = some r) (hc0 : Cl Q H) (q_p0 : Q p0) : Rg Q H r.2 := by
  unfold F_MText_begins at hF
  have hm := Rg.rf hc0
  rcases ite_s hF with ⟨q_12, hG⟩ | ⟨q_12, hG⟩
  · clear hF
    obtain ⟨q32, hF⟩ := ck_s hG; clear hG
    obtain ⟨x33, -, hG⟩ := bnd_g hF; clear hF
    obtain ⟨v35, H36, z34, hF⟩ := bC_s hG; clear hG
    have gz_13 := (g_MText_fails z34 hm.1 q_p0)
    replace hm : Rg Q H H36 := hm.tr gz_13
    have s_14 : Sa H H36 := (m_MText_fails z34)
    exact hm.tr (gB_MText_begins_14 q_p0 hF hm.1)
  · clear hF
    exact hm.tr (gB_MText_begins_14 q_p0 hG hm.1)
set_option maxRecDepth 20000 in
set_option maxHeartbeats 2000000 in
theorem g_MText_is {N : Nat} {Q : Nat → Prop} {p0 : Nat} {p1 : Int32} {H : Hp} {r : Int32 × Hp} (hF : F_MText_is N p0 p1 H = some r) (hc0 : Cl Q H) (q_p0 : Q p0) : Rg Q H r.2 := by
  unfold F_MText_is at hF
  have hm := Rg.rf hc0
  obtain ⟨q23, hG⟩ := ck_s hF; clear hF
  obtain ⟨x24, -, hF⟩ := bnd_g hG; clear hG
  rcases ite_s hF with ⟨q_3, hG⟩ | ⟨q_3, hG⟩
  · clear hF
    obtain ⟨a26, e27, hF⟩ := rf_s hG; clear hG
    have qa26 : Q a26 := hm.1 _ _ _ q_p0 e27
    obtain ⟨x28, -, hG⟩ := bnd_g hF; clear hF
    obtain ⟨n29, q30, hF⟩ := ar_s hG; clear hG
    obtain ⟨q31, hG⟩ := ck_s hF; clear hF
    obtain ⟨x32, -, hF⟩ := bnd_g hG; clear hG
    rcases ite_s hF with ⟨q_4, hG⟩ | ⟨q_4, hG⟩
    · clear hF
      have hr := Option.some.inj hG; subst hr
      exact hm
    · clear hF
      have hr := Option.some.inj hG; subst hr
      exact hm
  · clear hF
    have hr := Option.some.inj hG; subst hr
    exact hm
set_option maxRecDepth 20000 in
set_option maxHeartbeats 2000000 in
theorem g_MText_accepts {N : Nat} {Q : Nat → Prop} {p0 : Nat} {p1 : Int32} {H : Hp} {r : Int32 × Hp} (hF : F_MText_accepts N p0 p1 H = some r) (hc0 : Cl Q H) (q_p0 : Q p0) : Rg Q H r.2 := by
  unfold F_MText_accepts at hF
  have hm := Rg.rf hc0
  obtain ⟨q21, hG⟩ := ck_s hF; clear hF
  obtain ⟨v23, H24, z22, hF⟩ := bC_s hG; clear hG
  have gz_8 := (g_MText_is z22 hm.1 q_p0)
  replace hm : Rg Q H H24 := hm.tr gz_8
  have s_9 : Sa H H24 := (m_MText_is z22)
  obtain ⟨x25, -, hG⟩ := bnd_g hF; clear hF
  rcases ite_s hG with ⟨q_10, hF⟩ | ⟨q_10, hF⟩
  · clear hG
    obtain ⟨H27, eH27, hG⟩ := bnd_g hF; clear hF
    replace hm : Rg Q H H27 := hm.tr (by rw [eH27]; exact Rg.sD hm.1 q_p0)
    have s_11 : Sa H H27 := by rw [eH27]; exact s_9
    obtain ⟨q28, hF⟩ := ck_s hG; clear hG
    have hr := Option.some.inj hF; subst hr
    exact hm
  · clear hG
    obtain ⟨H29, eH29, hG⟩ := bnd_g hF; clear hF
    replace hm : Rg Q H H29 := hm.tr (by rw [eH29]; exact Rg.sD hm.1 q_p0)
    have s_12 : Sa H H29 := by rw [eH29]; exact s_9
    obtain ⟨q30, hF⟩ := ck_s hG; clear hG
    have hr := Option.some.inj hF; subst hr
    exact hm
set_option maxRecDepth 20000 in
set_option maxHeartbeats 2000000 in
theorem g_MText_takes {N : Nat} {Q : Nat → Prop} {p0 : Nat} {p1 : Int32} {H : Hp} {r : Unit × Hp} (hF : F_MText_takes N p0 p1 H = some r) (hc0 : Cl Q H) (q_p0 : Q p0) : Rg Q H r.2 := by
  unfold F_MText_takes at hF
  have hm := Rg.rf hc0
  obtain ⟨q19, hG⟩ := ck_s hF; clear hF
  obtain ⟨v21, H22, z20, hF⟩ := bC_s hG; clear hG
  have gz_6 := (g_MText_accepts z20 hm.1 q_p0)
  replace hm : Rg Q H H22 := hm.tr gz_6
  have s_7 : Sa H H22 := (m_MText_accepts z20)
  rcases ite_s hF with ⟨q_8, hG⟩ | ⟨q_8, hG⟩
  · clear hF
    obtain ⟨x24, -, hF⟩ := bnd_g hG; clear hG
    obtain ⟨v26, H27, z25, hG⟩ := bC_s hF; clear hF
    have gz_9 := (g_MText_fails z25 hm.1 q_p0)
    replace hm : Rg Q H H27 := hm.tr gz_9
    have s_10 : Sa H H27 := (s_7).tr (m_MText_fails z25)
    have hr := Option.some.inj hG; subst hr
    exact hm
  · clear hF
    have hr := Option.some.inj hG; subst hr
    exact hm
set_option maxRecDepth 20000 in
set_option maxHeartbeats 2000000 in
theorem g_MText_name {N : Nat} {Q : Nat → Prop} {p0 : Nat} {H : Hp} {r : Int32 × Hp} (hF : F_MText_name N p0 H = some r) (hc0 : Cl Q H) (q_p0 : Q p0) : Rg Q H r.2 := by
  unfold F_MText_name at hF
  have hm := Rg.rf hc0
  obtain ⟨q35, hG⟩ := ck_s hF; clear hF
  obtain ⟨x36, -, hF⟩ := bnd_g hG; clear hG
  obtain ⟨v38, H39, z37, hG⟩ := bC_s hF; clear hF
  have gz_7 := (g_MText_takes z37 hm.1 q_p0)
  replace hm : Rg Q H H39 := hm.tr gz_7
  have s_8 : Sa H H39 := (m_MText_takes z37)
  obtain ⟨x40, -, hF⟩ := bnd_g hG; clear hG
  rcases ite_s hF with ⟨q_9, hG⟩ | ⟨q_9, hG⟩
  · clear hF
    obtain ⟨a42, e43, hF⟩ := rf_s hG; clear hG
    have qa42 : Q a42 := hm.1 _ _ _ q_p0 e43
    obtain ⟨n44, q45, hG⟩ := ar_s hF; clear hF
    rw [(s_8).1] at q45
    obtain ⟨q46, hF⟩ := ck_s hG; clear hG
    obtain ⟨x47, -, hG⟩ := bnd_g hF; clear hF
    rcases ite_s hG with ⟨q_10, hF⟩ | ⟨q_10, hF⟩
    · clear hG
      have hr := Option.some.inj hF; subst hr
      exact hm
    · clear hG
      obtain ⟨v50, H51, z49, hG⟩ := bC_s hF; clear hF
      have gz_11 := (g_MText_fails z49 hm.1 q_p0)
      replace hm : Rg Q H H51 := hm.tr gz_11
      have s_12 : Sa H H51 := (s_8).tr (m_MText_fails z49)
      have hr := Option.some.inj hG; subst hr
      exact hm
  · clear hF
    have hr := Option.some.inj hG; subst hr
    exact hm
set_option maxRecDepth 20000 in
set_option maxHeartbeats 2000000 in
theorem gB_MText_isSame_77 {N : Nat} {Q : Nat → Prop} {p0 : Nat} {p1 : Int32} {p2 : Nat} {p3 : Int32} {kq25 : Int32 → Int32 → Hp → Option (Int32 × Hp)} (q_p0 : Q p0) (q_p2 : Q p2) (hg25 : ∀ (l4 : Int32) (l5 : Int32) (H : Hp) (r : Int32 × Hp), kq25 l4 l5 H = some r → Cl Q H → Rg Q H r.2) {l5 : Int32} {w0 : Int32} {H : Hp} {r : Int32 × Hp} (hF : B_MText_isSame_77 N p0 p1 p2 p3 kq25 l5 w0 H = some r) (hc0 : Cl Q H) : Rg Q H r.2 := by
  unfold B_MText_isSame_77 at hF
  have hm := Rg.rf hc0
  exact hm.tr (hg25 w0 (l5 + 1) H r hF hm.1)
set_option maxRecDepth 20000 in
set_option maxHeartbeats 2000000 in
theorem gB_MText_isSame_25 {N : Nat} {Q : Nat → Prop} {p0 : Nat} {p1 : Int32} {p2 : Nat} {p3 : Int32} (q_p0 : Q p0) (q_p2 : Q p2) : ∀ (n : Nat) (l4 : Int32) (l5 : Int32) (H : Hp) (r : Int32 × Hp), B_MText_isSame_25 N p0 p1 p2 p3 n l4 l5 H = some r → Cl Q H → Rg Q H r.2 := by
  intro n
  induction n with
  | zero => intro l4 l5 H r hF; rw [B_MText_isSame_25] at hF; cases hF
  | succ n ih =>
    intro l4 l5 H r hF hc0
    rw [B_MText_isSame_25] at hF
    have hm := Rg.rf hc0
    obtain ⟨q105, hG⟩ := ck_s hF; clear hF
    obtain ⟨a106, e107, hF⟩ := rf_s hG; clear hG
    have qa106 : Q a106 := hm.1 _ _ _ q_p0 e107
    obtain ⟨n108, q109, hG⟩ := ar_s hF; clear hF
    obtain ⟨q110, hF⟩ := ck_s hG; clear hG
    obtain ⟨x111, -, hG⟩ := bnd_g hF; clear hF
    rcases ite_s hG with ⟨q_5, hF⟩ | ⟨q_5, hF⟩
    · clear hG
      obtain ⟨q113, hG⟩ := ck_s hF; clear hF
      have hr := Option.some.inj hG; subst hr
      exact hm
    · clear hG
      rcases ite_s hF with ⟨q_6, hG⟩ | ⟨q_6, hG⟩
      · clear hF
        obtain ⟨q115, hF⟩ := ck_s hG; clear hG
        have hr := Option.some.inj hF; subst hr
        exact hm
      · clear hF
        obtain ⟨a116, e117, hF⟩ := rf_s hG; clear hG
        have qa116 : Q a116 := hm.1 _ _ _ q_p0 e117
        obtain ⟨a118, e119, hG⟩ := rf_s hF; clear hF
        have qa118 : Q a118 := hm.1 _ _ _ q_p0 e119
        obtain ⟨n120, q121, hF⟩ := ar_s hG; clear hG
        obtain ⟨q122, hG⟩ := ck_s hF; clear hF
        obtain ⟨x123, -, hF⟩ := bnd_g hG; clear hG
        obtain ⟨n124, q125, hG⟩ := ar_s hF; clear hF
        obtain ⟨q126, hF⟩ := ck_s hG; clear hG
        obtain ⟨x127, -, hG⟩ := bnd_g hF; clear hF
        obtain ⟨q128, hF⟩ := ck_s hG; clear hG
        obtain ⟨a129, e130, hG⟩ := rf_s hF; clear hF
        have qa129 : Q a129 := hm.1 _ _ _ q_p2 e130
        obtain ⟨a131, e132, hF⟩ := rf_s hG; clear hG
        have qa131 : Q a131 := hm.1 _ _ _ q_p2 e132
        obtain ⟨n133, q134, hG⟩ := ar_s hF; clear hF
        obtain ⟨q135, hF⟩ := ck_s hG; clear hG
        obtain ⟨x136, -, hG⟩ := bnd_g hF; clear hF
        obtain ⟨n137, q138, hF⟩ := ar_s hG; clear hG
        obtain ⟨q139, hG⟩ := ck_s hF; clear hF
        obtain ⟨x140, -, hF⟩ := bnd_g hG; clear hG
        rcases ite_s hF with ⟨q_7, hG⟩ | ⟨q_7, hG⟩
        · clear hF
          exact hm.tr (gB_MText_isSame_77 q_p0 q_p2 ih hG hm.1)
        · clear hF
          exact hm.tr (gB_MText_isSame_77 q_p0 q_p2 ih hG hm.1)
set_option maxRecDepth 20000 in
set_option maxHeartbeats 2000000 in
theorem gB_MText_isSame_20 {N : Nat} {Q : Nat → Prop} {p0 : Nat} {p1 : Int32} {p2 : Nat} {p3 : Int32} (q_p0 : Q p0) (q_p2 : Q p2) {w0 : Int32} {H : Hp} {r : Int32 × Hp} (hF : B_MText_isSame_20 N p0 p1 p2 p3 w0 H = some r) (hc0 : Cl Q H) : Rg Q H r.2 := by
  unfold B_MText_isSame_20 at hF
  have hm := Rg.rf hc0
  exact hm.tr (gB_MText_isSame_25 q_p0 q_p2 N w0 0 H r hF hm.1)
set_option maxRecDepth 20000 in
set_option maxHeartbeats 2000000 in
theorem g_MText_isSame {N : Nat} {Q : Nat → Prop} {p0 : Nat} {p1 : Int32} {p2 : Nat} {p3 : Int32} {H : Hp} {r : Int32 × Hp} (hF : F_MText_isSame N p0 p1 p2 p3 H = some r) (hc0 : Cl Q H) (q_p0 : Q p0) (q_p2 : Q p2) : Rg Q H r.2 := by
  unfold F_MText_isSame at hF
  have hm := Rg.rf hc0
  obtain ⟨q142, hG⟩ := ck_s hF; clear hF
  obtain ⟨a143, e144, hF⟩ := rf_s hG; clear hG
  have qa143 : Q a143 := hm.1 _ _ _ q_p0 e144
  obtain ⟨n145, q146, hG⟩ := ar_s hF; clear hF
  obtain ⟨q147, hF⟩ := ck_s hG; clear hG
  obtain ⟨x148, -, hG⟩ := bnd_g hF; clear hF
  obtain ⟨q149, hF⟩ := ck_s hG; clear hG
  obtain ⟨a150, e151, hG⟩ := rf_s hF; clear hF
  have qa150 : Q a150 := hm.1 _ _ _ q_p2 e151
  obtain ⟨n152, q153, hF⟩ := ar_s hG; clear hG
  obtain ⟨q154, hG⟩ := ck_s hF; clear hF
  obtain ⟨x155, -, hF⟩ := bnd_g hG; clear hG
  rcases ite_s hF with ⟨q_8, hG⟩ | ⟨q_8, hG⟩
  · clear hF
    exact hm.tr (gB_MText_isSame_20 q_p0 q_p2 hG hm.1)
  · clear hF
    exact hm.tr (gB_MText_isSame_20 q_p0 q_p2 hG hm.1)
set_option maxRecDepth 20000 in
set_option maxHeartbeats 2000000 in
theorem gB_MText_index_2 {N : Nat} {Q : Nat → Prop} {p0 : Nat} {p1 : Int32} (q_p0 : Q p0) : ∀ (n : Nat) (l2 : Int32) (H : Hp) (r : Int32 × Hp), B_MText_index_2 N p0 p1 n l2 H = some r → Cl Q H → Rg Q H r.2 := by
  intro n
  induction n with
  | zero => intro l2 H r hF; rw [B_MText_index_2] at hF; cases hF
  | succ n ih =>
    intro l2 H r hF hc0
    rw [B_MText_index_2] at hF
    have hm := Rg.rf hc0
    obtain ⟨q27, hG⟩ := ck_s hF; clear hF
    obtain ⟨x28, -, hF⟩ := bnd_g hG; clear hG
    rcases ite_s hF with ⟨q_5, hG⟩ | ⟨q_5, hG⟩
    · clear hF
      have hr := Option.some.inj hG; subst hr
      exact hm
    · clear hF
      obtain ⟨a30, e31, hF⟩ := rf_s hG; clear hG
      have qa30 : Q a30 := hm.1 _ _ _ q_p0 e31
      obtain ⟨n32, q33, hG⟩ := ar_s hF; clear hF
      obtain ⟨q34, hF⟩ := ck_s hG; clear hG
      obtain ⟨x35, -, hG⟩ := bnd_g hF; clear hF
      obtain ⟨v37, H38, z36, hF⟩ := bC_s hG; clear hG
      have gz_6 := (g_MText_isSame z36 hm.1 q_p0 q_p0)
      replace hm : Rg Q H H38 := hm.tr gz_6
      have s_7 : Sa H H38 := (m_MText_isSame z36)
      rcases ite_s hF with ⟨q_8, hG⟩ | ⟨q_8, hG⟩
      · clear hF
        exact hm.tr (ih (l2 + 1) H38 r hG hm.1)
      · clear hF
        have hr := Option.some.inj hG; subst hr
        exact hm
set_option maxRecDepth 20000 in
set_option maxHeartbeats 2000000 in
theorem g_MText_index {N : Nat} {Q : Nat → Prop} {p0 : Nat} {p1 : Int32} {H : Hp} {r : Int32 × Hp} (hF : F_MText_index N p0 p1 H = some r) (hc0 : Cl Q H) (q_p0 : Q p0) : Rg Q H r.2 := by
  unfold F_MText_index at hF
  have hm := Rg.rf hc0
  exact hm.tr (gB_MText_index_2 q_p0 N 0 H r hF hm.1)
set_option maxRecDepth 20000 in
set_option maxHeartbeats 2000000 in
theorem gB_MText_told_26 {N : Nat} {Q : Nat → Prop} {p0 : Nat} {p1 : Int32} {p2 : Int32} (q_p0 : Q p0) {l3 : Int32} {H : Hp} {r : Int32 × Hp} (hF : B_MText_told_26 N p0 p1 p2 l3 H = some r) (hc0 : Cl Q H) : Rg Q H r.2 := by
  unfold B_MText_told_26 at hF
  have hm := Rg.rf hc0
  obtain ⟨q79, hG⟩ := ck_s hF; clear hF
  obtain ⟨x80, -, hF⟩ := bnd_g hG; clear hG
  rcases ite_s hF with ⟨q_18, hG⟩ | ⟨q_18, hG⟩
  · clear hF
    obtain ⟨a82, e83, hF⟩ := rf_s hG; clear hG
    have qa82 : Q a82 := hm.1 _ _ _ q_p0 e83
    obtain ⟨x84, -, hG⟩ := bnd_g hF; clear hF
    obtain ⟨n85, q86, hF⟩ := ar_s hG; clear hG
    obtain ⟨q87, hG⟩ := ck_s hF; clear hF
    obtain ⟨H88, eH88, hF⟩ := bnd_g hG; clear hG
    replace hm : Rg Q H H88 := hm.tr (by rw [eH88]; exact Rg.sD hm.1 qa82)
    have s_19 : Sa H H88 := by rw [eH88]; exact Sa.rf _
    obtain ⟨a89, e90, hG⟩ := rf_s hF; clear hF
    have qa89 : Q a89 := hm.1 _ _ _ q_p0 e90
    obtain ⟨x91, -, hF⟩ := bnd_g hG; clear hG
    obtain ⟨n92, q93, hG⟩ := ar_s hF; clear hF
    rw [(s_19).1] at q93
    obtain ⟨q94, hF⟩ := ck_s hG; clear hG
    obtain ⟨H95, eH95, hG⟩ := bnd_g hF; clear hF
    replace hm : Rg Q H H95 := hm.tr (by rw [eH95]; exact Rg.sD hm.1 qa89)
    have s_20 : Sa H H95 := by rw [eH95]; exact s_19
    obtain ⟨a96, e97, hF⟩ := rf_s hG; clear hG
    have qa96 : Q a96 := hm.1 _ _ _ q_p0 e97
    obtain ⟨x98, -, hG⟩ := bnd_g hF; clear hF
    obtain ⟨n99, q100, hF⟩ := ar_s hG; clear hG
    rw [(s_20).1] at q100
    obtain ⟨q101, hG⟩ := ck_s hF; clear hF
    obtain ⟨H102, eH102, hF⟩ := bnd_g hG; clear hG
    replace hm : Rg Q H H102 := hm.tr (by rw [eH102]; exact Rg.sD hm.1 qa96)
    have s_21 : Sa H H102 := by rw [eH102]; exact s_20
    obtain ⟨x103, -, hG⟩ := bnd_g hF; clear hF
    obtain ⟨H104, eH104, hF⟩ := bnd_g hG; clear hG
    replace hm : Rg Q H H104 := hm.tr (by rw [eH104]; exact Rg.sD hm.1 q_p0)
    have s_22 : Sa H H104 := by rw [eH104]; exact s_21
    have hr := Option.some.inj hF; subst hr
    exact hm
  · clear hF
    have hr := Option.some.inj hG; subst hr
    exact hm
set_option maxRecDepth 20000 in
set_option maxHeartbeats 2000000 in
theorem g_MText_told {N : Nat} {Q : Nat → Prop} {p0 : Nat} {p1 : Int32} {p2 : Int32} {H : Hp} {r : Int32 × Hp} (hF : F_MText_told N p0 p1 p2 H = some r) (hc0 : Cl Q H) (q_p0 : Q p0) : Rg Q H r.2 := by
  unfold F_MText_told at hF
  have hm := Rg.rf hc0
  obtain ⟨q105, hG⟩ := ck_s hF; clear hF
  obtain ⟨v107, H108, z106, hF⟩ := bC_s hG; clear hG
  have gz_23 := (g_MText_name z106 hm.1 q_p0)
  replace hm : Rg Q H H108 := hm.tr gz_23
  have s_24 : Sa H H108 := (m_MText_name z106)
  obtain ⟨x109, -, hG⟩ := bnd_g hF; clear hF
  rcases ite_s hG with ⟨q_25, hF⟩ | ⟨q_25, hF⟩
  · clear hG
    obtain ⟨v112, H113, z111, hG⟩ := bC_s hF; clear hF
    have gz_26 := (g_MText_index z111 hm.1 q_p0)
    replace hm : Rg Q H H113 := hm.tr gz_26
    have s_27 : Sa H H113 := (s_24).tr (m_MText_index z111)
    rcases ite_s hG with ⟨q_28, hF⟩ | ⟨q_28, hF⟩
    · clear hG
      exact hm.tr (gB_MText_told_26 q_p0 hF hm.1)
    · clear hG
      obtain ⟨v116, H117, z115, hG⟩ := bC_s hF; clear hF
      have gz_29 := (g_MText_fails z115 hm.1 q_p0)
      replace hm : Rg Q H H117 := hm.tr gz_29
      have s_30 : Sa H H117 := (s_27).tr (m_MText_fails z115)
      exact hm.tr (gB_MText_told_26 q_p0 hG hm.1)
  · clear hG
    exact hm.tr (gB_MText_told_26 q_p0 hF hm.1)
set_option maxRecDepth 20000 in
set_option maxHeartbeats 2000000 in
theorem g_MText_isKind {N : Nat} {Q : Nat → Prop} {p0 : Nat} {H : Hp} {r : Int32 × Hp} (hF : F_MText_isKind N p0 H = some r) (hc0 : Cl Q H) (q_p0 : Q p0) : Rg Q H r.2 := by
  unfold F_MText_isKind at hF
  have hm := Rg.rf hc0
  obtain ⟨q39, hG⟩ := ck_s hF; clear hF
  obtain ⟨x40, -, hF⟩ := bnd_g hG; clear hG
  rcases ite_s hF with ⟨q_4, hG⟩ | ⟨q_4, hG⟩
  · clear hF
    obtain ⟨a42, e43, hF⟩ := rf_s hG; clear hG
    have qa42 : Q a42 := hm.1 _ _ _ q_p0 e43
    obtain ⟨x44, -, hG⟩ := bnd_g hF; clear hF
    obtain ⟨n45, q46, hF⟩ := ar_s hG; clear hG
    obtain ⟨q47, hG⟩ := ck_s hF; clear hF
    obtain ⟨x48, -, hF⟩ := bnd_g hG; clear hG
    rcases ite_s hF with ⟨q_5, hG⟩ | ⟨q_5, hG⟩
    · clear hF
      have hr := Option.some.inj hG; subst hr
      exact hm
    · clear hF
      obtain ⟨a50, e51, hF⟩ := rf_s hG; clear hG
      have qa50 : Q a50 := hm.1 _ _ _ q_p0 e51
      obtain ⟨x52, -, hG⟩ := bnd_g hF; clear hF
      obtain ⟨n53, q54, hF⟩ := ar_s hG; clear hG
      obtain ⟨q55, hG⟩ := ck_s hF; clear hF
      obtain ⟨x56, -, hF⟩ := bnd_g hG; clear hG
      rcases ite_s hF with ⟨q_6, hG⟩ | ⟨q_6, hG⟩
      · clear hF
        have hr := Option.some.inj hG; subst hr
        exact hm
      · clear hF
        have hr := Option.some.inj hG; subst hr
        exact hm
  · clear hF
    have hr := Option.some.inj hG; subst hr
    exact hm
set_option maxRecDepth 20000 in
set_option maxHeartbeats 2000000 in
theorem gB_MText_kind_47 {N : Nat} {Q : Nat → Prop} {p0 : Nat} (q_p0 : Q p0) {l1 : Int32} {w0 : Nat} {w1 : Int32} {w2 : Int32} {H : Hp} {r : Int32 × Hp} (hF : B_MText_kind_47 N p0 l1 w0 w1 w2 H = some r) (hc0 : Cl Q H) (q_w0 : Q w0) : Rg Q H r.2 := by
  unfold B_MText_kind_47 at hF
  have hm := Rg.rf hc0
  obtain ⟨q53, hG⟩ := ck_s hF; clear hF
  obtain ⟨H54, eH54, hF⟩ := bnd_g hG; clear hG
  replace hm : Rg Q H H54 := hm.tr (by rw [eH54]; exact Rg.sD hm.1 q_w0)
  have s_10 : Sa H H54 := by rw [eH54]; exact Sa.rf _
  obtain ⟨q55, hG⟩ := ck_s hF; clear hF
  rw [(s_10).1] at q55
  obtain ⟨x56, -, hF⟩ := bnd_g hG; clear hG
  rcases ite_s hF with ⟨q_11, hG⟩ | ⟨q_11, hG⟩
  · clear hF
    have hr := Option.some.inj hG; subst hr
    exact hm
  · clear hF
    have hr := Option.some.inj hG; subst hr
    exact hm
set_option maxRecDepth 20000 in
set_option maxHeartbeats 2000000 in
theorem gB_MText_kind_30 {N : Nat} {Q : Nat → Prop} {p0 : Nat} (q_p0 : Q p0) {l1 : Int32} {H : Hp} {r : Int32 × Hp} (hF : B_MText_kind_30 N p0 l1 H = some r) (hc0 : Cl Q H) : Rg Q H r.2 := by
  unfold B_MText_kind_30 at hF
  have hm := Rg.rf hc0
  obtain ⟨q58, hG⟩ := ck_s hF; clear hF
  obtain ⟨x59, -, hF⟩ := bnd_g hG; clear hG
  obtain ⟨x60, -, hG⟩ := bnd_g hF; clear hF
  rcases ite_s hG with ⟨q_12, hF⟩ | ⟨q_12, hF⟩
  · clear hG
    exact hm.tr (gB_MText_kind_47 q_p0 hF hm.1 q_p0)
  · clear hG
    exact hm.tr (gB_MText_kind_47 q_p0 hF hm.1 q_p0)
set_option maxRecDepth 20000 in
set_option maxHeartbeats 2000000 in
theorem g_MText_kind {N : Nat} {Q : Nat → Prop} {p0 : Nat} {H : Hp} {r : Int32 × Hp} (hF : F_MText_kind N p0 H = some r) (hc0 : Cl Q H) (q_p0 : Q p0) : Rg Q H r.2 := by
  unfold F_MText_kind at hF
  have hm := Rg.rf hc0
  obtain ⟨q62, hG⟩ := ck_s hF; clear hF
  obtain ⟨a63, e64, hF⟩ := rf_s hG; clear hG
  have qa63 : Q a63 := hm.1 _ _ _ q_p0 e64
  obtain ⟨x65, -, hG⟩ := bnd_g hF; clear hF
  obtain ⟨n66, q67, hF⟩ := ar_s hG; clear hG
  obtain ⟨q68, hG⟩ := ck_s hF; clear hF
  obtain ⟨x69, -, hF⟩ := bnd_g hG; clear hG
  obtain ⟨x70, -, hG⟩ := bnd_g hF; clear hF
  obtain ⟨v72, H73, z71, hF⟩ := bC_s hG; clear hG
  have gz_13 := (g_MText_isKind z71 hm.1 q_p0)
  replace hm : Rg Q H H73 := hm.tr gz_13
  have s_14 : Sa H H73 := (m_MText_isKind z71)
  rcases ite_s hF with ⟨q_15, hG⟩ | ⟨q_15, hG⟩
  · clear hF
    obtain ⟨x75, -, hF⟩ := bnd_g hG; clear hG
    obtain ⟨v77, H78, z76, hG⟩ := bC_s hF; clear hF
    have gz_16 := (g_MText_fails z76 hm.1 q_p0)
    replace hm : Rg Q H H78 := hm.tr gz_16
    have s_17 : Sa H H78 := (s_14).tr (m_MText_fails z76)
    exact hm.tr (gB_MText_kind_30 q_p0 hG hm.1)
  · clear hF
    exact hm.tr (gB_MText_kind_30 q_p0 hG hm.1)
set_option maxRecDepth 20000 in
set_option maxHeartbeats 2000000 in
theorem gB_MText_member_8 {N : Nat} {Q : Nat → Prop} {p0 : Nat} {p1 : Int32} {p2 : Nat} {p3 : Int32} (q_p0 : Q p0) (q_p2 : Q p2) : ∀ (n : Nat) (l4 : Int32) (H : Hp) (r : Int32 × Hp), B_MText_member_8 N p0 p1 p2 p3 n l4 H = some r → Cl Q H → Rg Q H r.2 := by
  intro n
  induction n with
  | zero => intro l4 H r hF; rw [B_MText_member_8] at hF; cases hF
  | succ n ih =>
    intro l4 H r hF hc0
    rw [B_MText_member_8] at hF
    have hm := Rg.rf hc0
    obtain ⟨q51, hG⟩ := ck_s hF; clear hF
    obtain ⟨a52, e53, hF⟩ := rf_s hG; clear hG
    have qa52 : Q a52 := hm.1 _ _ _ q_p0 e53
    obtain ⟨n54, q55, hG⟩ := ar_s hF; clear hF
    obtain ⟨q56, hF⟩ := ck_s hG; clear hG
    obtain ⟨x57, -, hG⟩ := bnd_g hF; clear hF
    rcases ite_s hG with ⟨q_5, hF⟩ | ⟨q_5, hF⟩
    · clear hG
      have hr := Option.some.inj hF; subst hr
      exact hm
    · clear hG
      obtain ⟨a59, e60, hG⟩ := rf_s hF; clear hF
      have qa59 : Q a59 := hm.1 _ _ _ q_p0 e60
      obtain ⟨n61, q62, hF⟩ := ar_s hG; clear hG
      obtain ⟨q63, hG⟩ := ck_s hF; clear hF
      obtain ⟨x64, -, hF⟩ := bnd_g hG; clear hG
      obtain ⟨v66, H67, z65, hG⟩ := bC_s hF; clear hF
      have gz_6 := (g_MText_isSame z65 hm.1 q_p0 q_p2)
      replace hm : Rg Q H H67 := hm.tr gz_6
      have s_7 : Sa H H67 := (m_MText_isSame z65)
      rcases ite_s hG with ⟨q_8, hF⟩ | ⟨q_8, hF⟩
      · clear hG
        exact hm.tr (ih (l4 + 1) H67 r hF hm.1)
      · clear hG
        have hr := Option.some.inj hF; subst hr
        exact hm
set_option maxRecDepth 20000 in
set_option maxHeartbeats 2000000 in
theorem g_MText_member {N : Nat} {Q : Nat → Prop} {p0 : Nat} {p1 : Int32} {p2 : Nat} {p3 : Int32} {H : Hp} {r : Int32 × Hp} (hF : F_MText_member N p0 p1 p2 p3 H = some r) (hc0 : Cl Q H) (q_p0 : Q p0) (q_p2 : Q p2) : Rg Q H r.2 := by
  unfold F_MText_member at hF
  have hm := Rg.rf hc0
  obtain ⟨q69, hG⟩ := ck_s hF; clear hF
  obtain ⟨a70, e71, hF⟩ := rf_s hG; clear hG
  have qa70 : Q a70 := hm.1 _ _ _ q_p0 e71
  obtain ⟨n72, q73, hG⟩ := ar_s hF; clear hF
  obtain ⟨q74, hF⟩ := ck_s hG; clear hG
  obtain ⟨x75, -, hG⟩ := bnd_g hF; clear hF
  exact hm.tr (gB_MText_member_8 q_p0 q_p2 N x75 H r hG hm.1)
set_option maxRecDepth 20000 in
set_option maxHeartbeats 2000000 in
theorem gB_MText_component_164 {N : Nat} {Q : Nat → Prop} {p0 : Nat} {kq67 : Int32 → Hp → Option (Unit × Hp)} (q_p0 : Q p0) (hg67 : ∀ (l1 : Int32) (H : Hp) (r : Unit × Hp), kq67 l1 H = some r → Cl Q H → Rg Q H r.2) {l1 : Int32} {l3 : Int32} {l4 : Int32} {l5 : Int32} {H : Hp} {r : Unit × Hp} (hF : B_MText_component_164 N p0 kq67 l1 l3 l4 l5 H = some r) (hc0 : Cl Q H) : Rg Q H r.2 := by
  unfold B_MText_component_164 at hF
  have hm := Rg.rf hc0
  obtain ⟨q213, hG⟩ := ck_s hF; clear hF
  obtain ⟨v215, H216, z214, hF⟩ := bC_s hG; clear hG
  have gz_44 := (g_MText_takes z214 hm.1 q_p0)
  replace hm : Rg Q H H216 := hm.tr gz_44
  have s_45 : Sa H H216 := (m_MText_takes z214)
  obtain ⟨x217, -, hG⟩ := bnd_g hF; clear hF
  rcases ite_s hG with ⟨q_46, hF⟩ | ⟨q_46, hF⟩
  · clear hG
    obtain ⟨a219, e220, hG⟩ := rf_s hF; clear hF
    have qa219 : Q a219 := hm.1 _ _ _ q_p0 e220
    obtain ⟨n221, q222, hF⟩ := ar_s hG; clear hG
    rw [(s_45).1] at q222
    obtain ⟨q223, hG⟩ := ck_s hF; clear hF
    obtain ⟨H224, eH224, hF⟩ := bnd_g hG; clear hG
    replace hm : Rg Q H H224 := hm.tr (by rw [eH224]; exact Rg.sD hm.1 qa219)
    have s_47 : Sa H H224 := by rw [eH224]; exact s_45
    obtain ⟨a225, e226, hG⟩ := rf_s hF; clear hF
    have qa225 : Q a225 := hm.1 _ _ _ q_p0 e226
    obtain ⟨n227, q228, hF⟩ := ar_s hG; clear hG
    rw [(s_47).1] at q228
    obtain ⟨q229, hG⟩ := ck_s hF; clear hF
    obtain ⟨H230, eH230, hF⟩ := bnd_g hG; clear hG
    replace hm : Rg Q H H230 := hm.tr (by rw [eH230]; exact Rg.sD hm.1 qa225)
    have s_48 : Sa H H230 := by rw [eH230]; exact s_47
    obtain ⟨a231, e232, hG⟩ := rf_s hF; clear hF
    have qa231 : Q a231 := hm.1 _ _ _ q_p0 e232
    obtain ⟨n233, q234, hF⟩ := ar_s hG; clear hG
    rw [(s_48).1] at q234
    obtain ⟨q235, hG⟩ := ck_s hF; clear hF
    obtain ⟨x236, -, hF⟩ := bnd_g hG; clear hG
    obtain ⟨q237, hG⟩ := ck_s hF; clear hF
    obtain ⟨H238, eH238, hF⟩ := bnd_g hG; clear hG
    replace hm : Rg Q H H238 := hm.tr (by rw [eH238]; exact Rg.sD hm.1 qa231)
    have s_49 : Sa H H238 := by rw [eH238]; exact s_48
    exact hm.tr (hg67 l1 H238 r hF hm.1)
  · clear hG
    have hr := Option.some.inj hF; subst hr
    exact hm
set_option maxRecDepth 20000 in
set_option maxHeartbeats 2000000 in
theorem gB_MText_component_127 {N : Nat} {Q : Nat → Prop} {p0 : Nat} {kq67 : Int32 → Hp → Option (Unit × Hp)} (q_p0 : Q p0) (hg67 : ∀ (l1 : Int32) (H : Hp) (r : Unit × Hp), kq67 l1 H = some r → Cl Q H → Rg Q H r.2) {l1 : Int32} {l3 : Int32} {H : Hp} {r : Unit × Hp} (hF : B_MText_component_127 N p0 kq67 l1 l3 H = some r) (hc0 : Cl Q H) : Rg Q H r.2 := by
  unfold B_MText_component_127 at hF
  have hm := Rg.rf hc0
  obtain ⟨q239, hG⟩ := ck_s hF; clear hF
  obtain ⟨v241, H242, z240, hF⟩ := bC_s hG; clear hG
  have gz_50 := (g_MText_kind z240 hm.1 q_p0)
  replace hm : Rg Q H H242 := hm.tr gz_50
  have s_51 : Sa H H242 := (m_MText_kind z240)
  obtain ⟨v244, H245, z243, hG⟩ := bC_s hF; clear hF
  have gz_52 := (g_MText_name z243 hm.1 q_p0)
  replace hm : Rg Q H H245 := hm.tr gz_52
  have s_53 : Sa H H245 := (s_51).tr (m_MText_name z243)
  obtain ⟨x246, -, hF⟩ := bnd_g hG; clear hG
  rcases ite_s hF with ⟨q_54, hG⟩ | ⟨q_54, hG⟩
  · clear hF
    obtain ⟨v249, H250, z248, hF⟩ := bC_s hG; clear hG
    have gz_55 := (g_MText_member z248 hm.1 q_p0 q_p0)
    replace hm : Rg Q H H250 := hm.tr gz_55
    have s_56 : Sa H H250 := (s_53).tr (m_MText_member z248)
    rcases ite_s hF with ⟨q_57, hG⟩ | ⟨q_57, hG⟩
    · clear hF
      exact hm.tr (gB_MText_component_164 q_p0 hg67 hG hm.1)
    · clear hF
      obtain ⟨v253, H254, z252, hF⟩ := bC_s hG; clear hG
      have gz_58 := (g_MText_fails z252 hm.1 q_p0)
      replace hm : Rg Q H H254 := hm.tr gz_58
      have s_59 : Sa H H254 := (s_56).tr (m_MText_fails z252)
      exact hm.tr (gB_MText_component_164 q_p0 hg67 hF hm.1)
  · clear hF
    exact hm.tr (gB_MText_component_164 q_p0 hg67 hG hm.1)
set_option maxRecDepth 20000 in
set_option maxHeartbeats 2000000 in
theorem gB_MText_component_118 {N : Nat} {Q : Nat → Prop} {p0 : Nat} {kq67 : Int32 → Hp → Option (Unit × Hp)} (q_p0 : Q p0) (hg67 : ∀ (l1 : Int32) (H : Hp) (r : Unit × Hp), kq67 l1 H = some r → Cl Q H → Rg Q H r.2) {l1 : Int32} {l3 : Int32} {H : Hp} {r : Unit × Hp} (hF : B_MText_component_118 N p0 kq67 l1 l3 H = some r) (hc0 : Cl Q H) : Rg Q H r.2 := by
  unfold B_MText_component_118 at hF
  have hm := Rg.rf hc0
  obtain ⟨q255, hG⟩ := ck_s hF; clear hF
  obtain ⟨x256, -, hF⟩ := bnd_g hG; clear hG
  obtain ⟨v258, H259, z257, hG⟩ := bC_s hF; clear hF
  have gz_60 := (g_MText_fails z257 hm.1 q_p0)
  replace hm : Rg Q H H259 := hm.tr gz_60
  have s_61 : Sa H H259 := (m_MText_fails z257)
  exact hm.tr (gB_MText_component_127 q_p0 hg67 hG hm.1)
set_option maxRecDepth 20000 in
set_option maxHeartbeats 2000000 in
theorem gB_MText_component_67 {N : Nat} {Q : Nat → Prop} {p0 : Nat} (q_p0 : Q p0) : ∀ (n : Nat) (l1 : Int32) (H : Hp) (r : Unit × Hp), B_MText_component_67 N p0 n l1 H = some r → Cl Q H → Rg Q H r.2 := by
  intro n
  induction n with
  | zero => intro l1 H r hF; rw [B_MText_component_67] at hF; cases hF
  | succ n ih =>
    intro l1 H r hF hc0
    rw [B_MText_component_67] at hF
    have hm := Rg.rf hc0
    obtain ⟨q260, hG⟩ := ck_s hF; clear hF
    obtain ⟨x261, -, hF⟩ := bnd_g hG; clear hG
    rcases ite_s hF with ⟨q_62, hG⟩ | ⟨q_62, hG⟩
    · clear hF
      obtain ⟨v264, H265, z263, hF⟩ := bC_s hG; clear hG
      have gz_63 := (g_MText_accepts z263 hm.1 q_p0)
      replace hm : Rg Q H H265 := hm.tr gz_63
      have s_64 : Sa H H265 := (m_MText_accepts z263)
      rcases ite_s hF with ⟨q_65, hG⟩ | ⟨q_65, hG⟩
      · clear hF
        obtain ⟨a267, e268, hF⟩ := rf_s hG; clear hG
        have qa267 : Q a267 := hm.1 _ _ _ q_p0 e268
        obtain ⟨n269, q270, hG⟩ := ar_s hF; clear hF
        rw [(s_64).1] at q270
        obtain ⟨q271, hF⟩ := ck_s hG; clear hG
        obtain ⟨x272, -, hG⟩ := bnd_g hF; clear hF
        obtain ⟨v274, H275, z273, hF⟩ := bC_s hG; clear hG
        have gz_66 := (g_MText_isKind z273 hm.1 q_p0)
        replace hm : Rg Q H H275 := hm.tr gz_66
        have s_67 : Sa H H275 := (s_64).tr (m_MText_isKind z273)
        rcases ite_s hF with ⟨q_68, hG⟩ | ⟨q_68, hG⟩
        · clear hF
          exact hm.tr (gB_MText_component_127 q_p0 ih hG hm.1)
        · clear hF
          obtain ⟨a277, e278, hF⟩ := rf_s hG; clear hG
          have qa277 : Q a277 := hm.1 _ _ _ q_p0 e278
          obtain ⟨n279, q280, hG⟩ := ar_s hF; clear hF
          rw [(s_67).1] at q280
          obtain ⟨q281, hF⟩ := ck_s hG; clear hG
          obtain ⟨x282, -, hG⟩ := bnd_g hF; clear hF
          rcases ite_s hG with ⟨q_69, hF⟩ | ⟨q_69, hF⟩
          · clear hG
            exact hm.tr (gB_MText_component_118 q_p0 ih hF hm.1)
          · clear hG
            rcases ite_s hF with ⟨q_70, hG⟩ | ⟨q_70, hG⟩
            · clear hF
              exact hm.tr (gB_MText_component_118 q_p0 ih hG hm.1)
            · clear hF
              exact hm.tr (gB_MText_component_127 q_p0 ih hG hm.1)
      · clear hF
        have hr := Option.some.inj hG; subst hr
        exact hm
    · clear hF
      have hr := Option.some.inj hG; subst hr
      exact hm
set_option maxRecDepth 20000 in
set_option maxHeartbeats 2000000 in
theorem g_MText_component {N : Nat} {Q : Nat → Prop} {p0 : Nat} {H : Hp} {r : Unit × Hp} (hF : F_MText_component N p0 H = some r) (hc0 : Cl Q H) (q_p0 : Q p0) : Rg Q H r.2 := by
  unfold F_MText_component at hF
  have hm := Rg.rf hc0
  obtain ⟨q285, hG⟩ := ck_s hF; clear hF
  obtain ⟨x286, -, hF⟩ := bnd_g hG; clear hG
  obtain ⟨v288, H289, z287, hG⟩ := bC_s hF; clear hF
  have gz_71 := (g_MText_begins z287 hm.1 q_p0)
  replace hm : Rg Q H H289 := hm.tr gz_71
  have s_72 : Sa H H289 := (m_MText_begins z287)
  obtain ⟨x290, -, hF⟩ := bnd_g hG; clear hG
  obtain ⟨v292, H293, z291, hG⟩ := bC_s hF; clear hF
  have gz_73 := (g_MText_told z291 hm.1 q_p0)
  replace hm : Rg Q H H293 := hm.tr gz_73
  have s_74 : Sa H H293 := (s_72).tr (m_MText_told z291)
  obtain ⟨x294, -, hF⟩ := bnd_g hG; clear hG
  rcases ite_s hF with ⟨q_75, hG⟩ | ⟨q_75, hG⟩
  · clear hF
    obtain ⟨a296, e297, hF⟩ := rf_s hG; clear hG
    have qa296 : Q a296 := hm.1 _ _ _ q_p0 e297
    obtain ⟨n298, q299, hG⟩ := ar_s hF; clear hF
    rw [(s_74).1] at q299
    obtain ⟨q300, hF⟩ := ck_s hG; clear hG
    obtain ⟨H301, eH301, hG⟩ := bnd_g hF; clear hF
    replace hm : Rg Q H H301 := hm.tr (by rw [eH301]; exact Rg.sD hm.1 qa296)
    have s_76 : Sa H H301 := by rw [eH301]; exact s_74
    obtain ⟨a302, e303, hF⟩ := rf_s hG; clear hG
    have qa302 : Q a302 := hm.1 _ _ _ q_p0 e303
    obtain ⟨a304, e305, hG⟩ := rf_s hF; clear hF
    have qa304 : Q a304 := hm.1 _ _ _ q_p0 e305
    obtain ⟨n306, q307, hF⟩ := ar_s hG; clear hG
    rw [(s_76).1] at q307
    obtain ⟨q308, hG⟩ := ck_s hF; clear hF
    obtain ⟨x309, -, hF⟩ := bnd_g hG; clear hG
    obtain ⟨n310, q311, hG⟩ := ar_s hF; clear hF
    rw [(s_76).1] at q311
    obtain ⟨q312, hF⟩ := ck_s hG; clear hG
    obtain ⟨H313, eH313, hG⟩ := bnd_g hF; clear hF
    replace hm : Rg Q H H313 := hm.tr (by rw [eH313]; exact Rg.sD hm.1 qa302)
    have s_77 : Sa H H313 := by rw [eH313]; exact s_76
    obtain ⟨x314, -, hF⟩ := bnd_g hG; clear hG
    obtain ⟨H315, eH315, hG⟩ := bnd_g hF; clear hF
    replace hm : Rg Q H H315 := hm.tr (by rw [eH315]; exact Rg.sD hm.1 q_p0)
    have s_78 : Sa H H315 := by rw [eH315]; exact s_77
    obtain ⟨v317, H318, z316, hF⟩ := bC_s hG; clear hG
    have gz_79 := (g_MText_takes z316 hm.1 q_p0)
    replace hm : Rg Q H H318 := hm.tr gz_79
    have s_80 : Sa H H318 := (s_78).tr (m_MText_takes z316)
    exact hm.tr (gB_MText_component_67 q_p0 N x290 H318 r hF hm.1)
  · clear hF
    have hr := Option.some.inj hG; subst hr
    exact hm
set_option maxRecDepth 20000 in
set_option maxHeartbeats 2000000 in
theorem gB_MText_eventMemberOf_2 {N : Nat} {Q : Nat → Prop} {p0 : Nat} {p1 : Int32} {p2 : Int32} (q_p0 : Q p0) : ∀ (n : Nat) (l3 : Int32) (H : Hp) (r : Int32 × Hp), B_MText_eventMemberOf_2 N p0 p1 p2 n l3 H = some r → Cl Q H → Rg Q H r.2 := by
  intro n
  induction n with
  | zero => intro l3 H r hF; rw [B_MText_eventMemberOf_2] at hF; cases hF
  | succ n ih =>
    intro l3 H r hF hc0
    rw [B_MText_eventMemberOf_2] at hF
    have hm := Rg.rf hc0
    obtain ⟨q37, hG⟩ := ck_s hF; clear hF
    obtain ⟨a38, e39, hF⟩ := rf_s hG; clear hG
    have qa38 : Q a38 := hm.1 _ _ _ q_p0 e39
    obtain ⟨n40, q41, hG⟩ := ar_s hF; clear hF
    obtain ⟨q42, hF⟩ := ck_s hG; clear hG
    obtain ⟨x43, -, hG⟩ := bnd_g hF; clear hF
    rcases ite_s hG with ⟨q_5, hF⟩ | ⟨q_5, hF⟩
    · clear hG
      have hr := Option.some.inj hF; subst hr
      exact hm
    · clear hG
      obtain ⟨a45, e46, hG⟩ := rf_s hF; clear hF
      have qa45 : Q a45 := hm.1 _ _ _ q_p0 e46
      obtain ⟨n47, q48, hF⟩ := ar_s hG; clear hG
      obtain ⟨q49, hG⟩ := ck_s hF; clear hF
      obtain ⟨x50, -, hF⟩ := bnd_g hG; clear hG
      obtain ⟨v52, H53, z51, hG⟩ := bC_s hF; clear hF
      have gz_6 := (g_MText_isSame z51 hm.1 q_p0 q_p0)
      replace hm : Rg Q H H53 := hm.tr gz_6
      have s_7 : Sa H H53 := (m_MText_isSame z51)
      rcases ite_s hG with ⟨q_8, hF⟩ | ⟨q_8, hF⟩
      · clear hG
        exact hm.tr (ih (l3 + 1) H53 r hF hm.1)
      · clear hG
        have hr := Option.some.inj hF; subst hr
        exact hm
set_option maxRecDepth 20000 in
set_option maxHeartbeats 2000000 in
theorem g_MText_eventMemberOf {N : Nat} {Q : Nat → Prop} {p0 : Nat} {p1 : Int32} {p2 : Int32} {H : Hp} {r : Int32 × Hp} (hF : F_MText_eventMemberOf N p0 p1 p2 H = some r) (hc0 : Cl Q H) (q_p0 : Q p0) : Rg Q H r.2 := by
  unfold F_MText_eventMemberOf at hF
  have hm := Rg.rf hc0
  exact hm.tr (gB_MText_eventMemberOf_2 q_p0 N 0 H r hF hm.1)
set_option maxRecDepth 20000 in
set_option maxHeartbeats 2000000 in
theorem gB_MText_event_210 {N : Nat} {Q : Nat → Prop} {p0 : Nat} (q_p0 : Q p0)  {H : Hp} {r : Unit × Hp} (hF : B_MText_event_210 N p0  H = some r) (hc0 : Cl Q H) : Rg Q H r.2 := by
  unfold B_MText_event_210 at hF
  have hm := Rg.rf hc0
  obtain ⟨q225, hG⟩ := ck_s hF; clear hF
  obtain ⟨v227, H228, z226, hF⟩ := bC_s hG; clear hG
  have gz_48 := (g_MText_takes z226 hm.1 q_p0)
  replace hm : Rg Q H H228 := hm.tr gz_48
  have s_49 : Sa H H228 := (m_MText_takes z226)
  obtain ⟨v230, H231, z229, hG⟩ := bC_s hF; clear hF
  have gz_50 := (g_MText_takes z229 hm.1 q_p0)
  replace hm : Rg Q H H231 := hm.tr gz_50
  have s_51 : Sa H H231 := (s_49).tr (m_MText_takes z229)
  have hr := Option.some.inj hG; subst hr
  exact hm
set_option maxRecDepth 20000 in
set_option maxHeartbeats 2000000 in
theorem gB_MText_event_148 {N : Nat} {Q : Nat → Prop} {p0 : Nat} {kq75 : Int32 → Int32 → Hp → Option (Unit × Hp)} (q_p0 : Q p0) (hg75 : ∀ (l1 : Int32) (l3 : Int32) (H : Hp) (r : Unit × Hp), kq75 l1 l3 H = some r → Cl Q H → Rg Q H r.2) {l1 : Int32} {l4 : Int32} {l5 : Int32} {H : Hp} {r : Unit × Hp} (hF : B_MText_event_148 N p0 kq75 l1 l4 l5 H = some r) (hc0 : Cl Q H) : Rg Q H r.2 := by
  unfold B_MText_event_148 at hF
  have hm := Rg.rf hc0
  obtain ⟨q232, hG⟩ := ck_s hF; clear hF
  obtain ⟨x233, -, hF⟩ := bnd_g hG; clear hG
  rcases ite_s hF with ⟨q_52, hG⟩ | ⟨q_52, hG⟩
  · clear hF
    obtain ⟨a235, e236, hF⟩ := rf_s hG; clear hG
    have qa235 : Q a235 := hm.1 _ _ _ q_p0 e236
    obtain ⟨a237, e238, hG⟩ := rf_s hF; clear hF
    have qa237 : Q a237 := hm.1 _ _ _ q_p0 e238
    obtain ⟨n239, q240, hF⟩ := ar_s hG; clear hG
    obtain ⟨q241, hG⟩ := ck_s hF; clear hF
    obtain ⟨x242, -, hF⟩ := bnd_g hG; clear hG
    obtain ⟨n243, q244, hG⟩ := ar_s hF; clear hF
    obtain ⟨q245, hF⟩ := ck_s hG; clear hG
    obtain ⟨H246, eH246, hG⟩ := bnd_g hF; clear hF
    replace hm : Rg Q H H246 := hm.tr (by rw [eH246]; exact Rg.sD hm.1 qa235)
    have s_53 : Sa H H246 := by rw [eH246]; exact Sa.rf _
    obtain ⟨a247, e248, hF⟩ := rf_s hG; clear hG
    have qa247 : Q a247 := hm.1 _ _ _ q_p0 e248
    obtain ⟨a249, e250, hG⟩ := rf_s hF; clear hF
    have qa249 : Q a249 := hm.1 _ _ _ q_p0 e250
    obtain ⟨n251, q252, hF⟩ := ar_s hG; clear hG
    rw [(s_53).1] at q252
    obtain ⟨q253, hG⟩ := ck_s hF; clear hF
    obtain ⟨x254, -, hF⟩ := bnd_g hG; clear hG
    obtain ⟨n255, q256, hG⟩ := ar_s hF; clear hF
    rw [(s_53).1] at q256
    obtain ⟨q257, hF⟩ := ck_s hG; clear hG
    obtain ⟨H258, eH258, hG⟩ := bnd_g hF; clear hF
    replace hm : Rg Q H H258 := hm.tr (by rw [eH258]; exact Rg.sD hm.1 qa247)
    have s_54 : Sa H H258 := by rw [eH258]; exact s_53
    obtain ⟨a259, e260, hF⟩ := rf_s hG; clear hG
    have qa259 : Q a259 := hm.1 _ _ _ q_p0 e260
    obtain ⟨n261, q262, hG⟩ := ar_s hF; clear hF
    rw [(s_54).1] at q262
    obtain ⟨q263, hF⟩ := ck_s hG; clear hG
    obtain ⟨x264, -, hG⟩ := bnd_g hF; clear hF
    obtain ⟨q265, hF⟩ := ck_s hG; clear hG
    obtain ⟨H266, eH266, hG⟩ := bnd_g hF; clear hF
    replace hm : Rg Q H H266 := hm.tr (by rw [eH266]; exact Rg.sD hm.1 qa259)
    have s_55 : Sa H H266 := by rw [eH266]; exact s_54
    obtain ⟨v268, H269, z267, hF⟩ := bC_s hG; clear hG
    have gz_56 := (g_MText_accepts z267 hm.1 q_p0)
    replace hm : Rg Q H H269 := hm.tr gz_56
    have s_57 : Sa H H269 := (s_55).tr (m_MText_accepts z267)
    exact hm.tr (hg75 l1 v268 H269 r hF hm.1)
  · clear hF
    have hr := Option.some.inj hG; subst hr
    exact hm
set_option maxRecDepth 20000 in
set_option maxHeartbeats 2000000 in
theorem gB_MText_event_112 {N : Nat} {Q : Nat → Prop} {p0 : Nat} {kq75 : Int32 → Int32 → Hp → Option (Unit × Hp)} (q_p0 : Q p0) (hg75 : ∀ (l1 : Int32) (l3 : Int32) (H : Hp) (r : Unit × Hp), kq75 l1 l3 H = some r → Cl Q H → Rg Q H r.2) {l1 : Int32} {H : Hp} {r : Unit × Hp} (hF : B_MText_event_112 N p0 kq75 l1 H = some r) (hc0 : Cl Q H) : Rg Q H r.2 := by
  unfold B_MText_event_112 at hF
  have hm := Rg.rf hc0
  obtain ⟨q270, hG⟩ := ck_s hF; clear hF
  obtain ⟨v272, H273, z271, hF⟩ := bC_s hG; clear hG
  have gz_58 := (g_MText_kind z271 hm.1 q_p0)
  replace hm : Rg Q H H273 := hm.tr gz_58
  have s_59 : Sa H H273 := (m_MText_kind z271)
  obtain ⟨v275, H276, z274, hG⟩ := bC_s hF; clear hF
  have gz_60 := (g_MText_name z274 hm.1 q_p0)
  replace hm : Rg Q H H276 := hm.tr gz_60
  have s_61 : Sa H H276 := (s_59).tr (m_MText_name z274)
  obtain ⟨x277, -, hF⟩ := bnd_g hG; clear hG
  rcases ite_s hF with ⟨q_62, hG⟩ | ⟨q_62, hG⟩
  · clear hF
    obtain ⟨v280, H281, z279, hF⟩ := bC_s hG; clear hG
    have gz_63 := (g_MText_eventMemberOf z279 hm.1 q_p0)
    replace hm : Rg Q H H281 := hm.tr gz_63
    have s_64 : Sa H H281 := (s_61).tr (m_MText_eventMemberOf z279)
    rcases ite_s hF with ⟨q_65, hG⟩ | ⟨q_65, hG⟩
    · clear hF
      exact hm.tr (gB_MText_event_148 q_p0 hg75 hG hm.1)
    · clear hF
      obtain ⟨v284, H285, z283, hF⟩ := bC_s hG; clear hG
      have gz_66 := (g_MText_fails z283 hm.1 q_p0)
      replace hm : Rg Q H H285 := hm.tr gz_66
      have s_67 : Sa H H285 := (s_64).tr (m_MText_fails z283)
      exact hm.tr (gB_MText_event_148 q_p0 hg75 hF hm.1)
  · clear hF
    exact hm.tr (gB_MText_event_148 q_p0 hg75 hG hm.1)
set_option maxRecDepth 20000 in
set_option maxHeartbeats 2000000 in
theorem gB_MText_event_75 {N : Nat} {Q : Nat → Prop} {p0 : Nat} (q_p0 : Q p0) : ∀ (n : Nat) (l1 : Int32) (l3 : Int32) (H : Hp) (r : Unit × Hp), B_MText_event_75 N p0 n l1 l3 H = some r → Cl Q H → Rg Q H r.2 := by
  intro n
  induction n with
  | zero => intro l1 l3 H r hF; rw [B_MText_event_75] at hF; cases hF
  | succ n ih =>
    intro l1 l3 H r hF hc0
    rw [B_MText_event_75] at hF
    have hm := Rg.rf hc0
    obtain ⟨q286, hG⟩ := ck_s hF; clear hF
    obtain ⟨x287, -, hF⟩ := bnd_g hG; clear hG
    rcases ite_s hF with ⟨q_68, hG⟩ | ⟨q_68, hG⟩
    · clear hF
      rcases ite_s hG with ⟨q_69, hF⟩ | ⟨q_69, hF⟩
      · clear hG
        exact hm.tr (gB_MText_event_210 q_p0 hF hm.1)
      · clear hG
        obtain ⟨v291, H292, z290, hG⟩ := bC_s hF; clear hF
        have gz_70 := (g_MText_isKind z290 hm.1 q_p0)
        replace hm : Rg Q H H292 := hm.tr gz_70
        have s_71 : Sa H H292 := (m_MText_isKind z290)
        rcases ite_s hG with ⟨q_72, hF⟩ | ⟨q_72, hF⟩
        · clear hG
          exact hm.tr (gB_MText_event_112 q_p0 ih hF hm.1)
        · clear hG
          obtain ⟨a294, e295, hG⟩ := rf_s hF; clear hF
          have qa294 : Q a294 := hm.1 _ _ _ q_p0 e295
          obtain ⟨n296, q297, hF⟩ := ar_s hG; clear hG
          rw [(s_71).1] at q297
          obtain ⟨q298, hG⟩ := ck_s hF; clear hF
          obtain ⟨x299, -, hF⟩ := bnd_g hG; clear hG
          rcases ite_s hF with ⟨q_73, hG⟩ | ⟨q_73, hG⟩
          · clear hF
            obtain ⟨x301, -, hF⟩ := bnd_g hG; clear hG
            obtain ⟨v303, H304, z302, hG⟩ := bC_s hF; clear hF
            have gz_74 := (g_MText_fails z302 hm.1 q_p0)
            replace hm : Rg Q H H304 := hm.tr gz_74
            have s_75 : Sa H H304 := (s_71).tr (m_MText_fails z302)
            exact hm.tr (gB_MText_event_112 q_p0 ih hG hm.1)
          · clear hF
            exact hm.tr (gB_MText_event_112 q_p0 ih hG hm.1)
    · clear hF
      exact hm.tr (gB_MText_event_210 q_p0 hG hm.1)
set_option maxRecDepth 20000 in
set_option maxHeartbeats 2000000 in
theorem gB_MText_event_74 {N : Nat} {Q : Nat → Prop} {p0 : Nat} (q_p0 : Q p0) {l1 : Int32} {w0 : Int32} {H : Hp} {r : Unit × Hp} (hF : B_MText_event_74 N p0 l1 w0 H = some r) (hc0 : Cl Q H) : Rg Q H r.2 := by
  unfold B_MText_event_74 at hF
  have hm := Rg.rf hc0
  exact hm.tr (gB_MText_event_75 q_p0 N l1 w0 H r hF hm.1)
set_option maxRecDepth 20000 in
set_option maxHeartbeats 2000000 in
theorem g_MText_event {N : Nat} {Q : Nat → Prop} {p0 : Nat} {H : Hp} {r : Unit × Hp} (hF : F_MText_event N p0 H = some r) (hc0 : Cl Q H) (q_p0 : Q p0) : Rg Q H r.2 := by
  unfold F_MText_event at hF
  have hm := Rg.rf hc0
  obtain ⟨q305, hG⟩ := ck_s hF; clear hF
  obtain ⟨x306, -, hF⟩ := bnd_g hG; clear hG
  obtain ⟨v308, H309, z307, hG⟩ := bC_s hF; clear hF
  have gz_76 := (g_MText_begins z307 hm.1 q_p0)
  replace hm : Rg Q H H309 := hm.tr gz_76
  have s_77 : Sa H H309 := (m_MText_begins z307)
  obtain ⟨x310, -, hF⟩ := bnd_g hG; clear hG
  obtain ⟨v312, H313, z311, hG⟩ := bC_s hF; clear hF
  have gz_78 := (g_MText_told z311 hm.1 q_p0)
  replace hm : Rg Q H H313 := hm.tr gz_78
  have s_79 : Sa H H313 := (s_77).tr (m_MText_told z311)
  obtain ⟨x314, -, hF⟩ := bnd_g hG; clear hG
  rcases ite_s hF with ⟨q_80, hG⟩ | ⟨q_80, hG⟩
  · clear hF
    obtain ⟨a316, e317, hF⟩ := rf_s hG; clear hG
    have qa316 : Q a316 := hm.1 _ _ _ q_p0 e317
    obtain ⟨n318, q319, hG⟩ := ar_s hF; clear hF
    rw [(s_79).1] at q319
    obtain ⟨q320, hF⟩ := ck_s hG; clear hG
    obtain ⟨H321, eH321, hG⟩ := bnd_g hF; clear hF
    replace hm : Rg Q H H321 := hm.tr (by rw [eH321]; exact Rg.sD hm.1 qa316)
    have s_81 : Sa H H321 := by rw [eH321]; exact s_79
    obtain ⟨a322, e323, hF⟩ := rf_s hG; clear hG
    have qa322 : Q a322 := hm.1 _ _ _ q_p0 e323
    obtain ⟨n324, q325, hG⟩ := ar_s hF; clear hF
    rw [(s_81).1] at q325
    obtain ⟨q326, hF⟩ := ck_s hG; clear hG
    obtain ⟨H327, eH327, hG⟩ := bnd_g hF; clear hF
    replace hm : Rg Q H H327 := hm.tr (by rw [eH327]; exact Rg.sD hm.1 qa322)
    have s_82 : Sa H H327 := by rw [eH327]; exact s_81
    obtain ⟨x328, -, hF⟩ := bnd_g hG; clear hG
    obtain ⟨H329, eH329, hG⟩ := bnd_g hF; clear hF
    replace hm : Rg Q H H329 := hm.tr (by rw [eH329]; exact Rg.sD hm.1 q_p0)
    have s_83 : Sa H H329 := by rw [eH329]; exact s_82
    obtain ⟨v331, H332, z330, hF⟩ := bC_s hG; clear hG
    have gz_84 := (g_MText_takes z330 hm.1 q_p0)
    replace hm : Rg Q H H332 := hm.tr gz_84
    have s_85 : Sa H H332 := (s_83).tr (m_MText_takes z330)
    obtain ⟨v334, H335, z333, hG⟩ := bC_s hF; clear hF
    have gz_86 := (g_MText_is z333 hm.1 q_p0)
    replace hm : Rg Q H H335 := hm.tr gz_86
    have s_87 : Sa H H335 := (s_85).tr (m_MText_is z333)
    rcases ite_s hG with ⟨q_88, hF⟩ | ⟨q_88, hF⟩
    · clear hG
      exact hm.tr (gB_MText_event_74 q_p0 hF hm.1)
    · clear hG
      exact hm.tr (gB_MText_event_74 q_p0 hF hm.1)
  · clear hF
    have hr := Option.some.inj hG; subst hr
    exact hm
set_option maxRecDepth 20000 in
set_option maxHeartbeats 2000000 in
theorem gB_MText_local_2 {N : Nat} {Q : Nat → Prop} {p0 : Nat} {p1 : Int32} (q_p0 : Q p0) : ∀ (n : Nat) (l2 : Int32) (H : Hp) (r : Int32 × Hp), B_MText_local_2 N p0 p1 n l2 H = some r → Cl Q H → Rg Q H r.2 := by
  intro n
  induction n with
  | zero => intro l2 H r hF; rw [B_MText_local_2] at hF; cases hF
  | succ n ih =>
    intro l2 H r hF hc0
    rw [B_MText_local_2] at hF
    have hm := Rg.rf hc0
    obtain ⟨q27, hG⟩ := ck_s hF; clear hF
    obtain ⟨x28, -, hF⟩ := bnd_g hG; clear hG
    rcases ite_s hF with ⟨q_5, hG⟩ | ⟨q_5, hG⟩
    · clear hF
      have hr := Option.some.inj hG; subst hr
      exact hm
    · clear hF
      obtain ⟨a30, e31, hF⟩ := rf_s hG; clear hG
      have qa30 : Q a30 := hm.1 _ _ _ q_p0 e31
      obtain ⟨n32, q33, hG⟩ := ar_s hF; clear hF
      obtain ⟨q34, hF⟩ := ck_s hG; clear hG
      obtain ⟨x35, -, hG⟩ := bnd_g hF; clear hF
      obtain ⟨v37, H38, z36, hF⟩ := bC_s hG; clear hG
      have gz_6 := (g_MText_isSame z36 hm.1 q_p0 q_p0)
      replace hm : Rg Q H H38 := hm.tr gz_6
      have s_7 : Sa H H38 := (m_MText_isSame z36)
      rcases ite_s hF with ⟨q_8, hG⟩ | ⟨q_8, hG⟩
      · clear hF
        exact hm.tr (ih (l2 + 1) H38 r hG hm.1)
      · clear hF
        have hr := Option.some.inj hG; subst hr
        exact hm
set_option maxRecDepth 20000 in
set_option maxHeartbeats 2000000 in
theorem g_MText_local {N : Nat} {Q : Nat → Prop} {p0 : Nat} {p1 : Int32} {H : Hp} {r : Int32 × Hp} (hF : F_MText_local N p0 p1 H = some r) (hc0 : Cl Q H) (q_p0 : Q p0) : Rg Q H r.2 := by
  unfold F_MText_local at hF
  have hm := Rg.rf hc0
  exact hm.tr (gB_MText_local_2 q_p0 N 0 H r hF hm.1)
set_option maxRecDepth 20000 in
set_option maxHeartbeats 2000000 in
theorem gB_MText_sort_35 {N : Nat} {Q : Nat → Prop} {p0 : Nat} {p1 : Int32} (q_p0 : Q p0) {l2 : Int32} {H : Hp} {r : Int32 × Hp} (hF : B_MText_sort_35 N p0 p1 l2 H = some r) (hc0 : Cl Q H) : Rg Q H r.2 := by
  unfold B_MText_sort_35 at hF
  have hm := Rg.rf hc0
  rcases ite_s hF with ⟨q_11, hG⟩ | ⟨q_11, hG⟩
  · clear hF
    obtain ⟨q46, hF⟩ := ck_s hG; clear hG
    obtain ⟨a47, e48, hG⟩ := rf_s hF; clear hF
    have qa47 : Q a47 := hm.1 _ _ _ q_p0 e48
    obtain ⟨n49, q50, hF⟩ := ar_s hG; clear hG
    obtain ⟨q51, hG⟩ := ck_s hF; clear hF
    obtain ⟨x52, -, hF⟩ := bnd_g hG; clear hG
    have hr := Option.some.inj hF; subst hr
    exact hm
  · clear hF
    have hr := Option.some.inj hG; subst hr
    exact hm
set_option maxRecDepth 20000 in
set_option maxHeartbeats 2000000 in
theorem g_MText_sort {N : Nat} {Q : Nat → Prop} {p0 : Nat} {p1 : Int32} {H : Hp} {r : Int32 × Hp} (hF : F_MText_sort N p0 p1 H = some r) (hc0 : Cl Q H) (q_p0 : Q p0) : Rg Q H r.2 := by
  unfold F_MText_sort at hF
  have hm := Rg.rf hc0
  obtain ⟨q53, hG⟩ := ck_s hF; clear hF
  obtain ⟨x54, -, hF⟩ := bnd_g hG; clear hG
  rcases ite_s hF with ⟨q_12, hG⟩ | ⟨q_12, hG⟩
  · clear hF
    obtain ⟨v57, H58, z56, hF⟩ := bC_s hG; clear hG
    have gz_13 := (g_MText_local z56 hm.1 q_p0)
    replace hm : Rg Q H H58 := hm.tr gz_13
    have s_14 : Sa H H58 := (m_MText_local z56)
    rcases ite_s hF with ⟨q_15, hG⟩ | ⟨q_15, hG⟩
    · clear hF
      obtain ⟨v61, H62, z60, hF⟩ := bC_s hG; clear hG
      have gz_16 := (g_MText_index z60 hm.1 q_p0)
      replace hm : Rg Q H H62 := hm.tr gz_16
      have s_17 : Sa H H62 := (s_14).tr (m_MText_index z60)
      rcases ite_s hF with ⟨q_18, hG⟩ | ⟨q_18, hG⟩
      · clear hF
        exact hm.tr (gB_MText_sort_35 q_p0 hG hm.1)
      · clear hF
        obtain ⟨v65, H66, z64, hF⟩ := bC_s hG; clear hG
        have gz_19 := (g_MText_fails z64 hm.1 q_p0)
        replace hm : Rg Q H H66 := hm.tr gz_19
        have s_20 : Sa H H66 := (s_17).tr (m_MText_fails z64)
        exact hm.tr (gB_MText_sort_35 q_p0 hF hm.1)
    · clear hF
      have hr := Option.some.inj hG; subst hr
      exact hm
  · clear hF
    have hr := Option.some.inj hG; subst hr
    exact hm
set_option maxRecDepth 20000 in
set_option maxHeartbeats 2000000 in
theorem gB_MText_numberOf_24 {N : Nat} {Q : Nat → Prop} {p0 : Nat} {p1 : Int32} {p2 : Int32} (q_p0 : Q p0)  {H : Hp} {r : Int32 × Hp} (hF : B_MText_numberOf_24 N p0 p1 p2  H = some r) (hc0 : Cl Q H) : Rg Q H r.2 := by
  unfold B_MText_numberOf_24 at hF
  have hm := Rg.rf hc0
  obtain ⟨q69, hG⟩ := ck_s hF; clear hF
  obtain ⟨x70, -, hF⟩ := bnd_g hG; clear hG
  rcases ite_s hF with ⟨q_12, hG⟩ | ⟨q_12, hG⟩
  · clear hF
    obtain ⟨a72, e73, hF⟩ := rf_s hG; clear hG
    have qa72 : Q a72 := hm.1 _ _ _ q_p0 e73
    obtain ⟨a74, e75, hG⟩ := rf_s hF; clear hF
    have qa74 : Q a74 := hm.1 _ _ _ q_p0 e75
    obtain ⟨v77, H78, z76, hF⟩ := bC_s hG; clear hG
    have gz_13 := (g_MText_index z76 hm.1 q_p0)
    replace hm : Rg Q H H78 := hm.tr gz_13
    have s_14 : Sa H H78 := (m_MText_index z76)
    obtain ⟨n79, q80, hG⟩ := ar_s hF; clear hF
    rw [(s_14).1] at q80
    obtain ⟨q81, hF⟩ := ck_s hG; clear hG
    obtain ⟨x82, -, hG⟩ := bnd_g hF; clear hF
    obtain ⟨n83, q84, hF⟩ := ar_s hG; clear hG
    rw [(s_14).1] at q84
    obtain ⟨q85, hG⟩ := ck_s hF; clear hF
    obtain ⟨H86, eH86, hF⟩ := bnd_g hG; clear hG
    replace hm : Rg Q H H86 := hm.tr (by rw [eH86]; exact Rg.sD hm.1 qa72)
    have s_15 : Sa H H86 := by rw [eH86]; exact s_14
    obtain ⟨a87, e88, hG⟩ := rf_s hF; clear hF
    have qa87 : Q a87 := hm.1 _ _ _ q_p0 e88
    obtain ⟨n89, q90, hF⟩ := ar_s hG; clear hG
    rw [(s_15).1] at q90
    obtain ⟨q91, hG⟩ := ck_s hF; clear hF
    obtain ⟨x92, -, hF⟩ := bnd_g hG; clear hG
    have hr := Option.some.inj hF; subst hr
    exact hm
  · clear hF
    have hr := Option.some.inj hG; subst hr
    exact hm
set_option maxRecDepth 20000 in
set_option maxHeartbeats 2000000 in
theorem g_MText_numberOf {N : Nat} {Q : Nat → Prop} {p0 : Nat} {p1 : Int32} {p2 : Int32} {H : Hp} {r : Int32 × Hp} (hF : F_MText_numberOf N p0 p1 p2 H = some r) (hc0 : Cl Q H) (q_p0 : Q p0) : Rg Q H r.2 := by
  unfold F_MText_numberOf at hF
  have hm := Rg.rf hc0
  obtain ⟨q93, hG⟩ := ck_s hF; clear hF
  obtain ⟨v95, H96, z94, hF⟩ := bC_s hG; clear hG
  have gz_16 := (g_MText_sort z94 hm.1 q_p0)
  replace hm : Rg Q H H96 := hm.tr gz_16
  have s_17 : Sa H H96 := (m_MText_sort z94)
  obtain ⟨x97, -, hG⟩ := bnd_g hF; clear hF
  rcases ite_s hG with ⟨q_18, hF⟩ | ⟨q_18, hF⟩
  · clear hG
    rcases ite_s hF with ⟨q_19, hG⟩ | ⟨q_19, hG⟩
    · clear hF
      exact hm.tr (gB_MText_numberOf_24 q_p0 hG hm.1)
    · clear hF
      obtain ⟨v101, H102, z100, hF⟩ := bC_s hG; clear hG
      have gz_20 := (g_MText_fails z100 hm.1 q_p0)
      replace hm : Rg Q H H102 := hm.tr gz_20
      have s_21 : Sa H H102 := (s_17).tr (m_MText_fails z100)
      exact hm.tr (gB_MText_numberOf_24 q_p0 hF hm.1)
  · clear hG
    exact hm.tr (gB_MText_numberOf_24 q_p0 hF hm.1)
set_option maxRecDepth 20000 in
set_option maxHeartbeats 2000000 in
theorem gB_MText_componentOf_77 {N : Nat} {Q : Nat → Prop} {p0 : Nat} {p1 : Int32} {p2 : Int32} {p3 : Int32} {p4 : Int32} (q_p0 : Q p0)  {H : Hp} {r : Int32 × Hp} (hF : B_MText_componentOf_77 N p0 p1 p2 p3 p4  H = some r) (hc0 : Cl Q H) : Rg Q H r.2 := by
  unfold B_MText_componentOf_77 at hF
  have hm := Rg.rf hc0
  obtain ⟨q83, hG⟩ := ck_s hF; clear hF
  obtain ⟨v85, H86, z84, hF⟩ := bC_s hG; clear hG
  have gz_19 := (g_MText_numberOf z84 hm.1 q_p0)
  replace hm : Rg Q H H86 := hm.tr gz_19
  have s_20 : Sa H H86 := (m_MText_numberOf z84)
  obtain ⟨x87, -, hG⟩ := bnd_g hF; clear hF
  rcases ite_s hG with ⟨q_21, hF⟩ | ⟨q_21, hF⟩
  · clear hG
    rcases ite_s hF with ⟨q_22, hG⟩ | ⟨q_22, hG⟩
    · clear hF
      obtain ⟨v91, H92, z90, hF⟩ := bC_s hG; clear hG
      have gz_23 := (g_MText_fails z90 hm.1 q_p0)
      replace hm : Rg Q H H92 := hm.tr gz_23
      have s_24 : Sa H H92 := (s_20).tr (m_MText_fails z90)
      have hr := Option.some.inj hF; subst hr
      exact hm
    · clear hF
      have hr := Option.some.inj hG; subst hr
      exact hm
  · clear hG
    have hr := Option.some.inj hF; subst hr
    exact hm
set_option maxRecDepth 20000 in
set_option maxHeartbeats 2000000 in
theorem gB_MText_componentOf_47 {N : Nat} {Q : Nat → Prop} {p0 : Nat} {p1 : Int32} {p2 : Int32} {p3 : Int32} {p4 : Int32} (q_p0 : Q p0) {l5 : Int32} {w0 : Int32} {H : Hp} {r : Int32 × Hp} (hF : B_MText_componentOf_47 N p0 p1 p2 p3 p4 l5 w0 H = some r) (hc0 : Cl Q H) : Rg Q H r.2 := by
  unfold B_MText_componentOf_47 at hF
  have hm := Rg.rf hc0
  rcases ite_s hF with ⟨q_25, hG⟩ | ⟨q_25, hG⟩
  · clear hF
    exact hm.tr (gB_MText_componentOf_77 q_p0 hG hm.1)
  · clear hF
    obtain ⟨q94, hF⟩ := ck_s hG; clear hG
    obtain ⟨a95, e96, hG⟩ := rf_s hF; clear hF
    have qa95 : Q a95 := hm.1 _ _ _ q_p0 e96
    obtain ⟨n97, q98, hF⟩ := ar_s hG; clear hG
    obtain ⟨q99, hG⟩ := ck_s hF; clear hF
    obtain ⟨x100, -, hF⟩ := bnd_g hG; clear hG
    rcases ite_s hF with ⟨q_26, hG⟩ | ⟨q_26, hG⟩
    · clear hF
      obtain ⟨v103, H104, z102, hF⟩ := bC_s hG; clear hG
      have gz_27 := (g_MText_fails z102 hm.1 q_p0)
      replace hm : Rg Q H H104 := hm.tr gz_27
      have s_28 : Sa H H104 := (m_MText_fails z102)
      exact hm.tr (gB_MText_componentOf_77 q_p0 hF hm.1)
    · clear hF
      exact hm.tr (gB_MText_componentOf_77 q_p0 hG hm.1)
set_option maxRecDepth 20000 in
set_option maxHeartbeats 2000000 in
theorem gB_MText_componentOf_46 {N : Nat} {Q : Nat → Prop} {p0 : Nat} {p1 : Int32} {p2 : Int32} {p3 : Int32} {p4 : Int32} (q_p0 : Q p0) {l5 : Int32} {H : Hp} {r : Int32 × Hp} (hF : B_MText_componentOf_46 N p0 p1 p2 p3 p4 l5 H = some r) (hc0 : Cl Q H) : Rg Q H r.2 := by
  unfold B_MText_componentOf_46 at hF
  have hm := Rg.rf hc0
  exact hm.tr (gB_MText_componentOf_47 q_p0 hF hm.1)
set_option maxRecDepth 20000 in
set_option maxHeartbeats 2000000 in
theorem gB_MText_componentOf_24 {N : Nat} {Q : Nat → Prop} {p0 : Nat} {p1 : Int32} {p2 : Int32} {p3 : Int32} {p4 : Int32} (q_p0 : Q p0) {w0 : Int32} {H : Hp} {r : Int32 × Hp} (hF : B_MText_componentOf_24 N p0 p1 p2 p3 p4 w0 H = some r) (hc0 : Cl Q H) : Rg Q H r.2 := by
  unfold B_MText_componentOf_24 at hF
  have hm := Rg.rf hc0
  rcases ite_s hF with ⟨q_29, hG⟩ | ⟨q_29, hG⟩
  · clear hF
    exact hm.tr (gB_MText_componentOf_46 q_p0 hG hm.1)
  · clear hF
    obtain ⟨q106, hF⟩ := ck_s hG; clear hG
    obtain ⟨a107, e108, hG⟩ := rf_s hF; clear hF
    have qa107 : Q a107 := hm.1 _ _ _ q_p0 e108
    obtain ⟨n109, q110, hF⟩ := ar_s hG; clear hG
    obtain ⟨q111, hG⟩ := ck_s hF; clear hF
    obtain ⟨x112, -, hF⟩ := bnd_g hG; clear hG
    rcases ite_s hF with ⟨q_30, hG⟩ | ⟨q_30, hG⟩
    · clear hF
      exact hm.tr (gB_MText_componentOf_47 q_p0 hG hm.1)
    · clear hF
      exact hm.tr (gB_MText_componentOf_46 q_p0 hG hm.1)
set_option maxRecDepth 20000 in
set_option maxHeartbeats 2000000 in
theorem gB_MText_componentOf_15 {N : Nat} {Q : Nat → Prop} {p0 : Nat} {p1 : Int32} {p2 : Int32} {p3 : Int32} {p4 : Int32} (q_p0 : Q p0)  {H : Hp} {r : Int32 × Hp} (hF : B_MText_componentOf_15 N p0 p1 p2 p3 p4  H = some r) (hc0 : Cl Q H) : Rg Q H r.2 := by
  unfold B_MText_componentOf_15 at hF
  have hm := Rg.rf hc0
  exact hm.tr (gB_MText_componentOf_24 q_p0 hF hm.1)
set_option maxRecDepth 20000 in
set_option maxHeartbeats 2000000 in
theorem g_MText_componentOf {N : Nat} {Q : Nat → Prop} {p0 : Nat} {p1 : Int32} {p2 : Int32} {p3 : Int32} {p4 : Int32} {H : Hp} {r : Int32 × Hp} (hF : F_MText_componentOf N p0 p1 p2 p3 p4 H = some r) (hc0 : Cl Q H) (q_p0 : Q p0) : Rg Q H r.2 := by
  unfold F_MText_componentOf at hF
  have hm := Rg.rf hc0
  obtain ⟨q114, hG⟩ := ck_s hF; clear hF
  obtain ⟨x115, -, hF⟩ := bnd_g hG; clear hG
  rcases ite_s hF with ⟨q_31, hG⟩ | ⟨q_31, hG⟩
  · clear hF
    exact hm.tr (gB_MText_componentOf_15 q_p0 hG hm.1)
  · clear hF
    obtain ⟨v118, H119, z117, hF⟩ := bC_s hG; clear hG
    have gz_32 := (g_MText_local z117 hm.1 q_p0)
    replace hm : Rg Q H H119 := hm.tr gz_32
    have s_33 : Sa H H119 := (m_MText_local z117)
    rcases ite_s hF with ⟨q_34, hG⟩ | ⟨q_34, hG⟩
    · clear hF
      obtain ⟨v122, H123, z121, hF⟩ := bC_s hG; clear hG
      have gz_35 := (g_MText_index z121 hm.1 q_p0)
      replace hm : Rg Q H H123 := hm.tr gz_35
      have s_36 : Sa H H123 := (s_33).tr (m_MText_index z121)
      exact hm.tr (gB_MText_componentOf_24 q_p0 hF hm.1)
    · clear hF
      exact hm.tr (gB_MText_componentOf_15 q_p0 hG hm.1)
set_option maxRecDepth 20000 in
set_option maxHeartbeats 2000000 in
theorem g_M_first {N : Nat} {Q : Nat → Prop} {p0 : Int32} {H : Hp} {r : Int32 × Hp} (hF : F_M_first N p0 H = some r) (hc0 : Cl Q H) : Rg Q H r.2 := by
  unfold F_M_first at hF
  have hm := Rg.rf hc0
  rcases ite_s hF with ⟨q_2, hG⟩ | ⟨q_2, hG⟩
  · clear hF
    have hr := Option.some.inj hG; subst hr
    exact hm
  · clear hF
    have hr := Option.some.inj hG; subst hr
    exact hm
set_option maxRecDepth 20000 in
set_option maxHeartbeats 2000000 in
theorem g_M_held {N : Nat} {Q : Nat → Prop} {p0 : Int32} {p1 : Int64} {H : Hp} {r : Int32 × Hp} (hF : F_M_held N p0 p1 H = some r) (hc0 : Cl Q H) : Rg Q H r.2 := by
  unfold F_M_held at hF
  have hm := Rg.rf hc0
  rcases ite_s hF with ⟨q_7, hG⟩ | ⟨q_7, hG⟩
  · clear hF
    rcases ite_s hG with ⟨q_8, hF⟩ | ⟨q_8, hF⟩
    · clear hG
      rcases ite_s hF with ⟨q_9, hG⟩ | ⟨q_9, hG⟩
      · clear hF
        have hr := Option.some.inj hG; subst hr
        exact hm
      · clear hF
        have hr := Option.some.inj hG; subst hr
        exact hm
    · clear hG
      have hr := Option.some.inj hF; subst hr
      exact hm
  · clear hF
    rcases ite_s hG with ⟨q_10, hF⟩ | ⟨q_10, hF⟩
    · clear hG
      rcases ite_s hF with ⟨q_11, hG⟩ | ⟨q_11, hG⟩
      · clear hF
        rcases ite_s hG with ⟨q_12, hF⟩ | ⟨q_12, hF⟩
        · clear hG
          have hr := Option.some.inj hF; subst hr
          exact hm
        · clear hG
          have hr := Option.some.inj hF; subst hr
          exact hm
      · clear hF
        have hr := Option.some.inj hG; subst hr
        exact hm
    · clear hG
      have hr := Option.some.inj hF; subst hr
      exact hm
