set_option maxRecDepth 20000 in
set_option maxHeartbeats 2000000 in
theorem gB_MRunner_commands_149 {N : Nat} {Q : Nat → Prop} {p0 : Nat} {p1 : Int32} (q_p0 : Q p0) {l2 : Int32} {l3 : Int32} {l4 : Int32} {l5 : Int32} {H : Hp} {r : Unit × Hp} (hF : B_MRunner_commands_149 N p0 p1 l2 l3 l4 l5 H = some r) (hc0 : Cl Q H) : Rg Q H r.2 := by
  unfold B_MRunner_commands_149 at hF
  have hm := Rg.rf hc0
  obtain ⟨q189, hG⟩ := ck_s hF; clear hF
  obtain ⟨x190, -, hF⟩ := bnd_g hG; clear hG
  obtain ⟨H191, eH191, hG⟩ := bnd_g hF; clear hF
  replace hm : Rg Q H H191 := hm.tr (by rw [eH191]; exact Rg.sD hm.1 q_p0)
  have s_32 : Sa H H191 := by rw [eH191]; exact Sa.rf _
  obtain ⟨v193, H194, z192, hF⟩ := bC_s hG; clear hG
  have gz_33 := (g_MRunner_commanded z192 hm.1 q_p0)
  replace hm : Rg Q H H194 := hm.tr gz_33
  have s_34 : Sa H H194 := (s_32).tr (m_MRunner_commanded z192)
  rcases ite_s hF with ⟨q_35, hG⟩ | ⟨q_35, hG⟩
  · clear hF
    obtain ⟨a196, e197, hF⟩ := rf_s hG; clear hG
    have qa196 : Q a196 := hm.1 _ _ _ q_p0 e197
    obtain ⟨n198, q199, hG⟩ := ar_s hF; clear hF
    rw [(s_34).1] at q199
    obtain ⟨q200, hF⟩ := ck_s hG; clear hG
    obtain ⟨H201, eH201, hG⟩ := bnd_g hF; clear hF
    replace hm : Rg Q H H201 := hm.tr (by rw [eH201]; exact Rg.sD hm.1 qa196)
    have s_36 : Sa H H201 := by rw [eH201]; exact s_34
    obtain ⟨a202, e203, hF⟩ := rf_s hG; clear hG
    have qa202 : Q a202 := hm.1 _ _ _ q_p0 e203
    obtain ⟨n204, q205, hG⟩ := ar_s hF; clear hF
    rw [(s_36).1] at q205
    obtain ⟨q206, hF⟩ := ck_s hG; clear hG
    obtain ⟨H207, eH207, hG⟩ := bnd_g hF; clear hF
    replace hm : Rg Q H H207 := hm.tr (by rw [eH207]; exact Rg.sD hm.1 qa202)
    have s_37 : Sa H H207 := by rw [eH207]; exact s_36
    obtain ⟨a208, e209, hF⟩ := rf_s hG; clear hG
    have qa208 : Q a208 := hm.1 _ _ _ q_p0 e209
    obtain ⟨n210, q211, hG⟩ := ar_s hF; clear hF
    rw [(s_37).1] at q211
    obtain ⟨q212, hF⟩ := ck_s hG; clear hG
    obtain ⟨H213, eH213, hG⟩ := bnd_g hF; clear hF
    replace hm : Rg Q H H213 := hm.tr (by rw [eH213]; exact Rg.sD hm.1 qa208)
    have s_38 : Sa H H213 := by rw [eH213]; exact s_37
    obtain ⟨a214, e215, hF⟩ := rf_s hG; clear hG
    have qa214 : Q a214 := hm.1 _ _ _ q_p0 e215
    obtain ⟨n216, q217, hG⟩ := ar_s hF; clear hF
    rw [(s_38).1] at q217
    obtain ⟨q218, hF⟩ := ck_s hG; clear hG
    obtain ⟨H219, eH219, hG⟩ := bnd_g hF; clear hF
    replace hm : Rg Q H H219 := hm.tr (by rw [eH219]; exact Rg.sD hm.1 qa214)
    have s_39 : Sa H H219 := by rw [eH219]; exact s_38
    have hr := Option.some.inj hG; subst hr
    exact hm
  · clear hF
    have hr := Option.some.inj hG; subst hr
    exact hm
set_option maxRecDepth 20000 in
set_option maxHeartbeats 2000000 in
theorem gB_MRunner_commands_126 {N : Nat} {Q : Nat → Prop} {p0 : Nat} {p1 : Int32} (q_p0 : Q p0) {l2 : Int32} {l4 : Int32} {l5 : Int32} {H : Hp} {r : Unit × Hp} (hF : B_MRunner_commands_126 N p0 p1 l2 l4 l5 H = some r) (hc0 : Cl Q H) : Rg Q H r.2 := by
  unfold B_MRunner_commands_126 at hF
  have hm := Rg.rf hc0
  obtain ⟨q220, hG⟩ := ck_s hF; clear hF
  obtain ⟨a221, e222, hF⟩ := rf_s hG; clear hG
  have qa221 : Q a221 := hm.1 _ _ _ q_p0 e222
  obtain ⟨q223, hG⟩ := ck_s hF; clear hF
  obtain ⟨a224, e225, hF⟩ := rf_s hG; clear hG
  have qa224 : Q a224 := hm.1 _ _ _ qa221 e225
  obtain ⟨x226, -, hG⟩ := bnd_g hF; clear hF
  obtain ⟨n227, q228, hF⟩ := ar_s hG; clear hG
  obtain ⟨q229, hG⟩ := ck_s hF; clear hF
  obtain ⟨x230, -, hF⟩ := bnd_g hG; clear hG
  obtain ⟨x231, -, hG⟩ := bnd_g hF; clear hF
  obtain ⟨H232, eH232, hF⟩ := bnd_g hG; clear hG
  replace hm : Rg Q H H232 := hm.tr (by rw [eH232]; exact Rg.sD hm.1 q_p0)
  have s_40 : Sa H H232 := by rw [eH232]; exact Sa.rf _
  exact hm.tr (gB_MRunner_commands_149 q_p0 hF hm.1)
set_option maxRecDepth 20000 in
set_option maxHeartbeats 2000000 in
theorem gB_MRunner_commands_107 {N : Nat} {Q : Nat → Prop} {p0 : Nat} {p1 : Int32} (q_p0 : Q p0) {l2 : Int32} {l3 : Int32} {l4 : Int32} {w0 : Int32} {H : Hp} {r : Unit × Hp} (hF : B_MRunner_commands_107 N p0 p1 l2 l3 l4 w0 H = some r) (hc0 : Cl Q H) : Rg Q H r.2 := by
  unfold B_MRunner_commands_107 at hF
  have hm := Rg.rf hc0
  exact hm.tr (gB_MRunner_commands_149 q_p0 hF hm.1)
set_option maxRecDepth 20000 in
set_option maxHeartbeats 2000000 in
theorem g_MRunner_commands {N : Nat} {Q : Nat → Prop} {p0 : Nat} {p1 : Int32} {H : Hp} {r : Unit × Hp} (hF : F_MRunner_commands N p0 p1 H = some r) (hc0 : Cl Q H) (q_p0 : Q p0) : Rg Q H r.2 := by
  unfold F_MRunner_commands at hF
  have hm := Rg.rf hc0
  obtain ⟨q233, hG⟩ := ck_s hF; clear hF
  obtain ⟨x234, -, hF⟩ := bnd_g hG; clear hG
  obtain ⟨H235, eH235, hG⟩ := bnd_g hF; clear hF
  replace hm : Rg Q H H235 := hm.tr (by rw [eH235]; exact Rg.sD hm.1 q_p0)
  have s_41 : Sa H H235 := by rw [eH235]; exact Sa.rf _
  obtain ⟨v237, H238, z236, hF⟩ := bC_s hG; clear hG
  have gz_42 := ((gX_RunE 50).1 _ _ _ z236 hm.1 q_p0)
  replace hm : Rg Q H H238 := hm.tr gz_42
  have s_43 : Sa H H238 := (s_41).tr ((moX_RunE 50).1 _ _ _ z236)
  obtain ⟨x239, -, hG⟩ := bnd_g hF; clear hF
  obtain ⟨H240, eH240, hF⟩ := bnd_g hG; clear hG
  replace hm : Rg Q H H240 := hm.tr (by rw [eH240]; exact Rg.sD hm.1 q_p0)
  have s_44 : Sa H H240 := by rw [eH240]; exact s_43
  rcases ite_s hF with ⟨q_45, hG⟩ | ⟨q_45, hG⟩
  · clear hF
    obtain ⟨a242, e243, hF⟩ := rf_s hG; clear hG
    have qa242 : Q a242 := hm.1 _ _ _ q_p0 e243
    obtain ⟨q244, hG⟩ := ck_s hF; clear hF
    rw [(s_44).1] at q244
    obtain ⟨a245, e246, hF⟩ := rf_s hG; clear hG
    have qa245 : Q a245 := hm.1 _ _ _ qa242 e246
    obtain ⟨x247, -, hG⟩ := bnd_g hF; clear hF
    obtain ⟨n248, q249, hF⟩ := ar_s hG; clear hG
    rw [(s_44).1] at q249
    obtain ⟨q250, hG⟩ := ck_s hF; clear hF
    obtain ⟨x251, -, hF⟩ := bnd_g hG; clear hG
    obtain ⟨a252, e253, hG⟩ := rf_s hF; clear hF
    have qa252 : Q a252 := hm.1 _ _ _ q_p0 e253
    obtain ⟨q254, hF⟩ := ck_s hG; clear hG
    rw [(s_44).1] at q254
    obtain ⟨a255, e256, hG⟩ := rf_s hF; clear hF
    have qa255 : Q a255 := hm.1 _ _ _ qa252 e256
    obtain ⟨x257, -, hF⟩ := bnd_g hG; clear hG
    obtain ⟨n258, q259, hG⟩ := ar_s hF; clear hF
    rw [(s_44).1] at q259
    obtain ⟨q260, hF⟩ := ck_s hG; clear hG
    obtain ⟨x261, -, hG⟩ := bnd_g hF; clear hF
    obtain ⟨x262, -, hF⟩ := bnd_g hG; clear hG
    obtain ⟨H263, eH263, hG⟩ := bnd_g hF; clear hF
    replace hm : Rg Q H H263 := hm.tr (by rw [eH263]; exact Rg.sD hm.1 q_p0)
    have s_46 : Sa H H263 := by rw [eH263]; exact s_44
    obtain ⟨x264, -, hF⟩ := bnd_g hG; clear hG
    rcases ite_s hF with ⟨q_47, hG⟩ | ⟨q_47, hG⟩
    · clear hF
      obtain ⟨a266, e267, hF⟩ := rf_s hG; clear hG
      have qa266 : Q a266 := hm.1 _ _ _ q_p0 e267
      obtain ⟨q268, hG⟩ := ck_s hF; clear hF
      rw [(s_46).1] at q268
      obtain ⟨a269, e270, hF⟩ := rf_s hG; clear hG
      have qa269 : Q a269 := hm.1 _ _ _ qa266 e270
      obtain ⟨n271, q272, hG⟩ := ar_s hF; clear hF
      rw [(s_46).1] at q272
      obtain ⟨q273, hF⟩ := ck_s hG; clear hG
      obtain ⟨x274, -, hG⟩ := bnd_g hF; clear hF
      obtain ⟨v276, H277, z275, hF⟩ := bC_s hG; clear hG
      have gz_48 := ((gX_RunE 50).1 _ _ _ z275 hm.1 q_p0)
      replace hm : Rg Q H H277 := hm.tr gz_48
      have s_49 : Sa H H277 := (s_46).tr ((moX_RunE 50).1 _ _ _ z275)
      obtain ⟨v279, H280, z278, hG⟩ := bC_s hF; clear hF
      have gz_50 := (g_MRunner_given z278 hm.1)
      replace hm : Rg Q H H280 := hm.tr gz_50
      have s_51 : Sa H H280 := (s_49).tr (m_MRunner_given z278)
      exact hm.tr (gB_MRunner_commands_107 q_p0 hG hm.1)
    · clear hF
      exact hm.tr (gB_MRunner_commands_107 q_p0 hG hm.1)
  · clear hF
    rcases ite_s hG with ⟨q_52, hF⟩ | ⟨q_52, hF⟩
    · clear hG
      exact hm.tr (gB_MRunner_commands_126 q_p0 hF hm.1)
    · clear hG
      rcases ite_s hF with ⟨q_53, hG⟩ | ⟨q_53, hG⟩
      · clear hF
        exact hm.tr (gB_MRunner_commands_126 q_p0 hG hm.1)
      · clear hF
        exact hm.tr (gB_MRunner_commands_149 q_p0 hG hm.1)
def rg_RunS (Q : Nat → Prop) (o : Orc_RunS) : Prop :=
  (∀ (a0 : Nat) (H : Hp) (r : Unit × Hp), o a0 H = some r → Cl Q H → Q a0 → Rg Q H r.2)
set_option maxRecDepth 20000 in
set_option maxHeartbeats 2000000 in
theorem gB_MRunner_hears_145 {N : Nat} {Q : Nat → Prop} {o : Orc_RunS} {hmo : mo_RunS o} (hgo : rg_RunS Q o) {p0 : Nat} (q_p0 : Q p0) {l1 : Int32} {l2 : Int32} {l3 : Int32} {H : Hp} {r : Unit × Hp} (hF : B_MRunner_hears_145 N o p0 l1 l2 l3 H = some r) (hc0 : Cl Q H) : Rg Q H r.2 := by
  unfold B_MRunner_hears_145 at hF
  have hm := Rg.rf hc0
  obtain ⟨q179, hG⟩ := ck_s hF; clear hF
  obtain ⟨a180, e181, hF⟩ := rf_s hG; clear hG
  have qa180 : Q a180 := hm.1 _ _ _ q_p0 e181
  obtain ⟨n182, q183, hG⟩ := ar_s hF; clear hF
  obtain ⟨q184, hF⟩ := ck_s hG; clear hG
  obtain ⟨H185, eH185, hG⟩ := bnd_g hF; clear hF
  replace hm : Rg Q H H185 := hm.tr (by rw [eH185]; exact Rg.sD hm.1 qa180)
  have s_23 : Sa H H185 := by rw [eH185]; exact Sa.rf _
  obtain ⟨H186, eH186, hF⟩ := bnd_g hG; clear hG
  replace hm : Rg Q H H186 := hm.tr (by rw [eH186]; exact Rg.sD hm.1 q_p0)
  have s_24 : Sa H H186 := by rw [eH186]; exact s_23
  obtain ⟨v188, H189, z187, hG⟩ := bC_s hF; clear hF
  have gz_25 := (g_MRunner_skips z187 hm.1 q_p0)
  replace hm : Rg Q H H189 := hm.tr gz_25
  have s_26 : Sa H H189 := (s_24).tr (m_MRunner_skips z187)
  have hr := Option.some.inj hG; subst hr
  exact hm
set_option maxRecDepth 20000 in
set_option maxHeartbeats 2000000 in
theorem gB_MRunner_hears_139 {N : Nat} {Q : Nat → Prop} {o : Orc_RunS} {hmo : mo_RunS o} (hgo : rg_RunS Q o) {p0 : Nat} {kq38 : Int32 → Int32 → Int32 → Int32 → Hp → Option (Unit × Hp)} (q_p0 : Q p0) (hg38 : ∀ (l1 : Int32) (l2 : Int32) (l3 : Int32) (l4 : Int32) (H : Hp) (r : Unit × Hp), kq38 l1 l2 l3 l4 H = some r → Cl Q H → Rg Q H r.2) {l1 : Int32} {l2 : Int32} {l3 : Int32} {l4 : Int32} {H : Hp} {r : Unit × Hp} (hF : B_MRunner_hears_139 N o p0 kq38 l1 l2 l3 l4 H = some r) (hc0 : Cl Q H) : Rg Q H r.2 := by
  unfold B_MRunner_hears_139 at hF
  have hm := Rg.rf hc0
  exact hm.tr (hg38 l1 l2 l3 (l4 + 1) H r hF hm.1)
set_option maxRecDepth 20000 in
set_option maxHeartbeats 2000000 in
theorem gB_MRunner_hears_38 {N : Nat} {Q : Nat → Prop} {o : Orc_RunS} {hmo : mo_RunS o} (hgo : rg_RunS Q o) {p0 : Nat} (q_p0 : Q p0) : ∀ (n : Nat) (l1 : Int32) (l2 : Int32) (l3 : Int32) (l4 : Int32) (H : Hp) (r : Unit × Hp), B_MRunner_hears_38 N o p0 n l1 l2 l3 l4 H = some r → Cl Q H → Rg Q H r.2 := by
  intro n
  induction n with
  | zero => intro l1 l2 l3 l4 H r hF; rw [B_MRunner_hears_38] at hF; cases hF
  | succ n ih =>
    intro l1 l2 l3 l4 H r hF hc0
    rw [B_MRunner_hears_38] at hF
    have hm := Rg.rf hc0
    obtain ⟨q190, hG⟩ := ck_s hF; clear hF
    obtain ⟨a191, e192, hF⟩ := rf_s hG; clear hG
    have qa191 : Q a191 := hm.1 _ _ _ q_p0 e192
    obtain ⟨q193, hG⟩ := ck_s hF; clear hF
    obtain ⟨x194, -, hF⟩ := bnd_g hG; clear hG
    rcases ite_s hF with ⟨q_27, hG⟩ | ⟨q_27, hG⟩
    · clear hF
      exact hm.tr (gB_MRunner_hears_145 (hmo := hmo) hgo q_p0 hG hm.1)
    · clear hF
      obtain ⟨x196, -, hF⟩ := bnd_g hG; clear hG
      rcases ite_s hF with ⟨q_28, hG⟩ | ⟨q_28, hG⟩
      · clear hF
        obtain ⟨a198, e199, hF⟩ := rf_s hG; clear hG
        have qa198 : Q a198 := hm.1 _ _ _ q_p0 e199
        obtain ⟨q200, hG⟩ := ck_s hF; clear hF
        obtain ⟨a201, e202, hF⟩ := rf_s hG; clear hG
        have qa201 : Q a201 := hm.1 _ _ _ qa198 e202
        obtain ⟨n203, q204, hG⟩ := ar_s hF; clear hF
        obtain ⟨q205, hF⟩ := ck_s hG; clear hG
        obtain ⟨x206, -, hG⟩ := bnd_g hF; clear hF
        rcases ite_s hG with ⟨q_29, hF⟩ | ⟨q_29, hF⟩
        · clear hG
          obtain ⟨a208, e209, hG⟩ := rf_s hF; clear hF
          have qa208 : Q a208 := hm.1 _ _ _ q_p0 e209
          obtain ⟨q210, hF⟩ := ck_s hG; clear hG
          obtain ⟨a211, e212, hG⟩ := rf_s hF; clear hF
          have qa211 : Q a211 := hm.1 _ _ _ qa208 e212
          obtain ⟨n213, q214, hF⟩ := ar_s hG; clear hG
          obtain ⟨q215, hG⟩ := ck_s hF; clear hF
          obtain ⟨x216, -, hF⟩ := bnd_g hG; clear hG
          obtain ⟨a217, e218, hG⟩ := rf_s hF; clear hF
          have qa217 : Q a217 := hm.1 _ _ _ q_p0 e218
          obtain ⟨q219, hF⟩ := ck_s hG; clear hG
          obtain ⟨x220, -, hG⟩ := bnd_g hF; clear hF
          rcases ite_s hG with ⟨q_30, hF⟩ | ⟨q_30, hF⟩
          · clear hG
            obtain ⟨a222, e223, hG⟩ := rf_s hF; clear hF
            have qa222 : Q a222 := hm.1 _ _ _ q_p0 e223
            obtain ⟨q224, hF⟩ := ck_s hG; clear hG
            obtain ⟨a225, e226, hG⟩ := rf_s hF; clear hF
            have qa225 : Q a225 := hm.1 _ _ _ qa222 e226
            obtain ⟨n227, q228, hF⟩ := ar_s hG; clear hG
            obtain ⟨q229, hG⟩ := ck_s hF; clear hF
            obtain ⟨x230, -, hF⟩ := bnd_g hG; clear hG
            obtain ⟨x231, -, hG⟩ := bnd_g hF; clear hF
            rcases ite_s hG with ⟨q_31, hF⟩ | ⟨q_31, hF⟩
            · clear hG
              obtain ⟨v234, H235, z233, hG⟩ := bC_s hF; clear hF
              have gz_32 := (g_MRunner_counts z233 hm.1 q_p0)
              replace hm : Rg Q H H235 := hm.tr gz_32
              have s_33 : Sa H H235 := (m_MRunner_counts z233)
              obtain ⟨a236, e237, hF⟩ := rf_s hG; clear hG
              have qa236 : Q a236 := hm.1 _ _ _ q_p0 e237
              obtain ⟨n238, q239, hG⟩ := ar_s hF; clear hF
              rw [(s_33).1] at q239
              obtain ⟨q240, hF⟩ := ck_s hG; clear hG
              obtain ⟨H241, eH241, hG⟩ := bnd_g hF; clear hF
              replace hm : Rg Q H H241 := hm.tr (by rw [eH241]; exact Rg.sD hm.1 qa236)
              have s_34 : Sa H H241 := by rw [eH241]; exact s_33
              obtain ⟨H242, eH242, hF⟩ := bnd_g hG; clear hG
              replace hm : Rg Q H H242 := hm.tr (by rw [eH242]; exact Rg.sD hm.1 q_p0)
              have s_35 : Sa H H242 := by rw [eH242]; exact s_34
              obtain ⟨x243, -, hG⟩ := bnd_g hF; clear hF
              rcases ite_s hG with ⟨q_36, hF⟩ | ⟨q_36, hF⟩
              · clear hG
                obtain ⟨v246, H247, z245, hG⟩ := bC_s hF; clear hF
                have gz_37 := (hgo _ _ _ z245 hm.1 q_p0)
                replace hm : Rg Q H H247 := hm.tr gz_37
                have s_38 : Sa H H247 := (s_35).tr (hmo _ _ _ z245)
                exact hm.tr (gB_MRunner_hears_139 (hmo := hmo) hgo q_p0 ih hG hm.1)
              · clear hG
                exact hm.tr (gB_MRunner_hears_139 (hmo := hmo) hgo q_p0 ih hF hm.1)
            · clear hG
              exact hm.tr (gB_MRunner_hears_139 (hmo := hmo) hgo q_p0 ih hF hm.1)
          · clear hG
            exact hm.tr (gB_MRunner_hears_139 (hmo := hmo) hgo q_p0 ih hF hm.1)
        · clear hG
          exact hm.tr (gB_MRunner_hears_139 (hmo := hmo) hgo q_p0 ih hF hm.1)
      · clear hF
        exact hm.tr (gB_MRunner_hears_145 (hmo := hmo) hgo q_p0 hG hm.1)
set_option maxRecDepth 20000 in
set_option maxHeartbeats 2000000 in
theorem g_MRunner_hears {N : Nat} {Q : Nat → Prop} {o : Orc_RunS} {hmo : mo_RunS o} (hgo : rg_RunS Q o) {p0 : Nat} {H : Hp} {r : Unit × Hp} (hF : F_MRunner_hears N o p0 H = some r) (hc0 : Cl Q H) (q_p0 : Q p0) : Rg Q H r.2 := by
  unfold F_MRunner_hears at hF
  have hm := Rg.rf hc0
  obtain ⟨q248, hG⟩ := ck_s hF; clear hF
  obtain ⟨a249, e250, hF⟩ := rf_s hG; clear hG
  have qa249 : Q a249 := hm.1 _ _ _ q_p0 e250
  obtain ⟨q251, hG⟩ := ck_s hF; clear hF
  obtain ⟨a252, e253, hF⟩ := rf_s hG; clear hG
  have qa252 : Q a252 := hm.1 _ _ _ qa249 e253
  obtain ⟨x254, -, hG⟩ := bnd_g hF; clear hF
  obtain ⟨n255, q256, hF⟩ := ar_s hG; clear hG
  obtain ⟨q257, hG⟩ := ck_s hF; clear hF
  obtain ⟨x258, -, hF⟩ := bnd_g hG; clear hG
  obtain ⟨x259, -, hG⟩ := bnd_g hF; clear hF
  obtain ⟨H260, eH260, hF⟩ := bnd_g hG; clear hG
  replace hm : Rg Q H H260 := hm.tr (by rw [eH260]; exact Rg.sD hm.1 q_p0)
  have s_39 : Sa H H260 := by rw [eH260]; exact Sa.rf _
  obtain ⟨x261, -, hG⟩ := bnd_g hF; clear hF
  obtain ⟨a262, e263, hF⟩ := rf_s hG; clear hG
  have qa262 : Q a262 := hm.1 _ _ _ q_p0 e263
  obtain ⟨n264, q265, hG⟩ := ar_s hF; clear hF
  rw [(s_39).1] at q265
  obtain ⟨q266, hF⟩ := ck_s hG; clear hG
  obtain ⟨x267, -, hG⟩ := bnd_g hF; clear hF
  exact hm.tr (gB_MRunner_hears_38 (hmo := hmo) hgo q_p0 N x258 x261 x267 0 H260 r hG hm.1)
set_option maxRecDepth 20000 in
set_option maxHeartbeats 2000000 in
theorem gB_MRunner_goes_234 {N : Nat} {Q : Nat → Prop} {o : Orc_RunS} {hmo : mo_RunS o} (hgo : rg_RunS Q o) {p0 : Nat} (q_p0 : Q p0) {l5 : Int32} {H : Hp} {r : Unit × Hp} (hF : B_MRunner_goes_234 N o p0 l5 H = some r) (hc0 : Cl Q H) : Rg Q H r.2 := by
  unfold B_MRunner_goes_234 at hF
  have hm := Rg.rf hc0
  obtain ⟨q237, hG⟩ := ck_s hF; clear hF
  obtain ⟨H238, eH238, hF⟩ := bnd_g hG; clear hG
  replace hm : Rg Q H H238 := hm.tr (by rw [eH238]; exact Rg.sD hm.1 q_p0)
  have s_37 : Sa H H238 := by rw [eH238]; exact Sa.rf _
  obtain ⟨v240, H241, z239, hG⟩ := bC_s hF; clear hF
  have gz_38 := (g_MRunner_skips z239 hm.1 q_p0)
  replace hm : Rg Q H H241 := hm.tr gz_38
  have s_39 : Sa H H241 := (s_37).tr (m_MRunner_skips z239)
  have hr := Option.some.inj hG; subst hr
  exact hm
set_option maxRecDepth 20000 in
set_option maxHeartbeats 2000000 in
theorem gB_MRunner_goes_228 {N : Nat} {Q : Nat → Prop} {o : Orc_RunS} {hmo : mo_RunS o} (hgo : rg_RunS Q o) {p0 : Nat} {kq104 : Int32 → Int32 → Int32 → Int32 → Int32 → Int32 → Hp → Option (Unit × Hp)} (q_p0 : Q p0) (hg104 : ∀ (l1 : Int32) (l2 : Int32) (l3 : Int32) (l4 : Int32) (l5 : Int32) (l6 : Int32) (H : Hp) (r : Unit × Hp), kq104 l1 l2 l3 l4 l5 l6 H = some r → Cl Q H → Rg Q H r.2) {l1 : Int32} {l2 : Int32} {l3 : Int32} {l4 : Int32} {l5 : Int32} {l6 : Int32} {H : Hp} {r : Unit × Hp} (hF : B_MRunner_goes_228 N o p0 kq104 l1 l2 l3 l4 l5 l6 H = some r) (hc0 : Cl Q H) : Rg Q H r.2 := by
  unfold B_MRunner_goes_228 at hF
  have hm := Rg.rf hc0
  exact hm.tr (hg104 l1 l2 l3 l4 l5 (l6 + 1) H r hF hm.1)
set_option maxRecDepth 20000 in
set_option maxHeartbeats 2000000 in
theorem gB_MRunner_goes_192 {N : Nat} {Q : Nat → Prop} {o : Orc_RunS} {hmo : mo_RunS o} (hgo : rg_RunS Q o) {p0 : Nat} {kq104 : Int32 → Int32 → Int32 → Int32 → Int32 → Int32 → Hp → Option (Unit × Hp)} (q_p0 : Q p0) (hg104 : ∀ (l1 : Int32) (l2 : Int32) (l3 : Int32) (l4 : Int32) (l5 : Int32) (l6 : Int32) (H : Hp) (r : Unit × Hp), kq104 l1 l2 l3 l4 l5 l6 H = some r → Cl Q H → Rg Q H r.2) {l1 : Int32} {l2 : Int32} {l3 : Int32} {l4 : Int32} {l5 : Int32} {l6 : Int32} {H : Hp} {r : Unit × Hp} (hF : B_MRunner_goes_192 N o p0 kq104 l1 l2 l3 l4 l5 l6 H = some r) (hc0 : Cl Q H) : Rg Q H r.2 := by
  unfold B_MRunner_goes_192 at hF
  have hm := Rg.rf hc0
  obtain ⟨q242, hG⟩ := ck_s hF; clear hF
  obtain ⟨v244, H245, z243, hF⟩ := bC_s hG; clear hG
  have gz_40 := (g_MRunner_counts z243 hm.1 q_p0)
  replace hm : Rg Q H H245 := hm.tr gz_40
  have s_41 : Sa H H245 := (m_MRunner_counts z243)
  obtain ⟨a246, e247, hG⟩ := rf_s hF; clear hF
  have qa246 : Q a246 := hm.1 _ _ _ q_p0 e247
  obtain ⟨a248, e249, hF⟩ := rf_s hG; clear hG
  have qa248 : Q a248 := hm.1 _ _ _ q_p0 e249
  obtain ⟨q250, hG⟩ := ck_s hF; clear hF
  rw [(s_41).1] at q250
  obtain ⟨v252, H253, z251, hF⟩ := bC_s hG; clear hG
  have gz_42 := (g_MWorld_number z251 hm.1 qa248)
  replace hm : Rg Q H H253 := hm.tr gz_42
  have s_43 : Sa H H253 := (s_41).tr (m_MWorld_number z251)
  obtain ⟨n254, q255, hG⟩ := ar_s hF; clear hF
  rw [(s_43).1] at q255
  obtain ⟨q256, hF⟩ := ck_s hG; clear hG
  obtain ⟨H257, eH257, hG⟩ := bnd_g hF; clear hF
  replace hm : Rg Q H H257 := hm.tr (by rw [eH257]; exact Rg.sD hm.1 qa246)
  have s_44 : Sa H H257 := by rw [eH257]; exact s_43
  obtain ⟨H258, eH258, hF⟩ := bnd_g hG; clear hG
  replace hm : Rg Q H H258 := hm.tr (by rw [eH258]; exact Rg.sD hm.1 q_p0)
  have s_45 : Sa H H258 := by rw [eH258]; exact s_44
  obtain ⟨x259, -, hG⟩ := bnd_g hF; clear hF
  rcases ite_s hG with ⟨q_46, hF⟩ | ⟨q_46, hF⟩
  · clear hG
    obtain ⟨v262, H263, z261, hG⟩ := bC_s hF; clear hF
    have gz_47 := (hgo _ _ _ z261 hm.1 q_p0)
    replace hm : Rg Q H H263 := hm.tr gz_47
    have s_48 : Sa H H263 := (s_45).tr (hmo _ _ _ z261)
    exact hm.tr (gB_MRunner_goes_228 (hmo := hmo) hgo q_p0 hg104 hG hm.1)
  · clear hG
    exact hm.tr (gB_MRunner_goes_228 (hmo := hmo) hgo q_p0 hg104 hF hm.1)
set_option maxRecDepth 20000 in
set_option maxHeartbeats 2000000 in
theorem gB_MRunner_goes_104 {N : Nat} {Q : Nat → Prop} {o : Orc_RunS} {hmo : mo_RunS o} (hgo : rg_RunS Q o) {p0 : Nat} (q_p0 : Q p0) : ∀ (n : Nat) (l1 : Int32) (l2 : Int32) (l3 : Int32) (l4 : Int32) (l5 : Int32) (l6 : Int32) (H : Hp) (r : Unit × Hp), B_MRunner_goes_104 N o p0 n l1 l2 l3 l4 l5 l6 H = some r → Cl Q H → Rg Q H r.2 := by
  intro n
  induction n with
  | zero => intro l1 l2 l3 l4 l5 l6 H r hF; rw [B_MRunner_goes_104] at hF; cases hF
  | succ n ih =>
    intro l1 l2 l3 l4 l5 l6 H r hF hc0
    rw [B_MRunner_goes_104] at hF
    have hm := Rg.rf hc0
    rcases ite_s hF with ⟨q_49, hG⟩ | ⟨q_49, hG⟩
    · clear hF
      exact hm.tr (gB_MRunner_goes_234 (hmo := hmo) hgo q_p0 hG hm.1)
    · clear hF
      obtain ⟨q265, hF⟩ := ck_s hG; clear hG
      obtain ⟨x266, -, hG⟩ := bnd_g hF; clear hF
      rcases ite_s hG with ⟨q_50, hF⟩ | ⟨q_50, hF⟩
      · clear hG
        obtain ⟨a268, e269, hG⟩ := rf_s hF; clear hF
        have qa268 : Q a268 := hm.1 _ _ _ q_p0 e269
        obtain ⟨q270, hF⟩ := ck_s hG; clear hG
        obtain ⟨a271, e272, hG⟩ := rf_s hF; clear hF
        have qa271 : Q a271 := hm.1 _ _ _ qa268 e272
        obtain ⟨n273, q274, hF⟩ := ar_s hG; clear hG
        obtain ⟨q275, hG⟩ := ck_s hF; clear hF
        obtain ⟨x276, -, hF⟩ := bnd_g hG; clear hG
        rcases ite_s hF with ⟨q_51, hG⟩ | ⟨q_51, hG⟩
        · clear hF
          exact hm.tr (gB_MRunner_goes_228 (hmo := hmo) hgo q_p0 ih hG hm.1)
        · clear hF
          obtain ⟨a278, e279, hF⟩ := rf_s hG; clear hG
          have qa278 : Q a278 := hm.1 _ _ _ q_p0 e279
          obtain ⟨q280, hG⟩ := ck_s hF; clear hF
          obtain ⟨a281, e282, hF⟩ := rf_s hG; clear hG
          have qa281 : Q a281 := hm.1 _ _ _ qa278 e282
          obtain ⟨n283, q284, hG⟩ := ar_s hF; clear hF
          obtain ⟨q285, hF⟩ := ck_s hG; clear hG
          obtain ⟨x286, -, hG⟩ := bnd_g hF; clear hF
          rcases ite_s hG with ⟨q_52, hF⟩ | ⟨q_52, hF⟩
          · clear hG
            exact hm.tr (gB_MRunner_goes_228 (hmo := hmo) hgo q_p0 ih hF hm.1)
          · clear hG
            obtain ⟨a288, e289, hG⟩ := rf_s hF; clear hF
            have qa288 : Q a288 := hm.1 _ _ _ q_p0 e289
            obtain ⟨q290, hF⟩ := ck_s hG; clear hG
            obtain ⟨v292, H293, z291, hG⟩ := bC_s hF; clear hF
            have gz_53 := (g_MWorld_number z291 hm.1 qa288)
            replace hm : Rg Q H H293 := hm.tr gz_53
            have s_54 : Sa H H293 := (m_MWorld_number z291)
            obtain ⟨x294, -, hF⟩ := bnd_g hG; clear hG
            rcases ite_s hF with ⟨q_55, hG⟩ | ⟨q_55, hG⟩
            · clear hF
              exact hm.tr (gB_MRunner_goes_228 (hmo := hmo) hgo q_p0 ih hG hm.1)
            · clear hF
              rcases ite_s hG with ⟨q_56, hF⟩ | ⟨q_56, hF⟩
              · clear hG
                exact hm.tr (gB_MRunner_goes_192 (hmo := hmo) hgo q_p0 ih hF hm.1)
              · clear hG
                obtain ⟨a297, e298, hG⟩ := rf_s hF; clear hF
                have qa297 : Q a297 := hm.1 _ _ _ q_p0 e298
                obtain ⟨q299, hF⟩ := ck_s hG; clear hG
                rw [(s_54).1] at q299
                obtain ⟨a300, e301, hG⟩ := rf_s hF; clear hF
                have qa300 : Q a300 := hm.1 _ _ _ qa297 e301
                obtain ⟨n302, q303, hF⟩ := ar_s hG; clear hG
                rw [(s_54).1] at q303
                obtain ⟨q304, hG⟩ := ck_s hF; clear hF
                obtain ⟨x305, -, hF⟩ := bnd_g hG; clear hG
                obtain ⟨v307, H308, z306, hG⟩ := bC_s hF; clear hF
                have gz_57 := (g_MRunner_isNear z306 hm.1 q_p0)
                replace hm : Rg Q H H308 := hm.tr gz_57
                have s_58 : Sa H H308 := (s_54).tr (m_MRunner_isNear z306)
                rcases ite_s hG with ⟨q_59, hF⟩ | ⟨q_59, hF⟩
                · clear hG
                  exact hm.tr (gB_MRunner_goes_228 (hmo := hmo) hgo q_p0 ih hF hm.1)
                · clear hG
                  exact hm.tr (gB_MRunner_goes_192 (hmo := hmo) hgo q_p0 ih hF hm.1)
      · clear hG
        exact hm.tr (gB_MRunner_goes_234 (hmo := hmo) hgo q_p0 hF hm.1)
set_option maxRecDepth 20000 in
set_option maxHeartbeats 2000000 in
theorem gB_MRunner_goes_95 {N : Nat} {Q : Nat → Prop} {o : Orc_RunS} {hmo : mo_RunS o} (hgo : rg_RunS Q o) {p0 : Nat} (q_p0 : Q p0) {l1 : Int32} {l2 : Int32} {l3 : Int32} {l4 : Int32} {H : Hp} {r : Unit × Hp} (hF : B_MRunner_goes_95 N o p0 l1 l2 l3 l4 H = some r) (hc0 : Cl Q H) : Rg Q H r.2 := by
  unfold B_MRunner_goes_95 at hF
  have hm := Rg.rf hc0
  obtain ⟨q310, hG⟩ := ck_s hF; clear hF
  obtain ⟨x311, -, hF⟩ := bnd_g hG; clear hG
  exact hm.tr (gB_MRunner_goes_104 (hmo := hmo) hgo q_p0 N l1 l2 l3 l4 x311 0 H r hF hm.1)
set_option maxRecDepth 20000 in
set_option maxHeartbeats 2000000 in
theorem gB_MRunner_goes_61 {N : Nat} {Q : Nat → Prop} {o : Orc_RunS} {hmo : mo_RunS o} (hgo : rg_RunS Q o) {p0 : Nat} (q_p0 : Q p0) {l1 : Int32} {l2 : Int32} {w0 : Int32} {H : Hp} {r : Unit × Hp} (hF : B_MRunner_goes_61 N o p0 l1 l2 w0 H = some r) (hc0 : Cl Q H) : Rg Q H r.2 := by
  unfold B_MRunner_goes_61 at hF
  have hm := Rg.rf hc0
  rcases ite_s hF with ⟨q_60, hG⟩ | ⟨q_60, hG⟩
  · clear hF
    exact hm.tr (gB_MRunner_goes_95 (hmo := hmo) hgo q_p0 hG hm.1)
  · clear hF
    obtain ⟨q313, hF⟩ := ck_s hG; clear hG
    obtain ⟨x314, -, hG⟩ := bnd_g hF; clear hF
    obtain ⟨H315, eH315, hF⟩ := bnd_g hG; clear hG
    replace hm : Rg Q H H315 := hm.tr (by rw [eH315]; exact Rg.sD hm.1 q_p0)
    have s_61 : Sa H H315 := by rw [eH315]; exact Sa.rf _
    obtain ⟨v317, H318, z316, hG⟩ := bC_s hF; clear hF
    have gz_62 := ((gX_RunE 50).1 _ _ _ z316 hm.1 q_p0)
    replace hm : Rg Q H H318 := hm.tr gz_62
    have s_63 : Sa H H318 := (s_61).tr ((moX_RunE 50).1 _ _ _ z316)
    obtain ⟨x319, -, hF⟩ := bnd_g hG; clear hG
    obtain ⟨H320, eH320, hG⟩ := bnd_g hF; clear hF
    replace hm : Rg Q H H320 := hm.tr (by rw [eH320]; exact Rg.sD hm.1 q_p0)
    have s_64 : Sa H H320 := by rw [eH320]; exact s_63
    exact hm.tr (gB_MRunner_goes_95 (hmo := hmo) hgo q_p0 hG hm.1)
set_option maxRecDepth 20000 in
set_option maxHeartbeats 2000000 in
theorem g_MRunner_goes {N : Nat} {Q : Nat → Prop} {o : Orc_RunS} {hmo : mo_RunS o} (hgo : rg_RunS Q o) {p0 : Nat} {H : Hp} {r : Unit × Hp} (hF : F_MRunner_goes N o p0 H = some r) (hc0 : Cl Q H) (q_p0 : Q p0) : Rg Q H r.2 := by
  unfold F_MRunner_goes at hF
  have hm := Rg.rf hc0
  obtain ⟨q321, hG⟩ := ck_s hF; clear hF
  obtain ⟨a322, e323, hF⟩ := rf_s hG; clear hG
  have qa322 : Q a322 := hm.1 _ _ _ q_p0 e323
  obtain ⟨q324, hG⟩ := ck_s hF; clear hF
  obtain ⟨a325, e326, hF⟩ := rf_s hG; clear hG
  have qa325 : Q a325 := hm.1 _ _ _ qa322 e326
  obtain ⟨x327, -, hG⟩ := bnd_g hF; clear hF
  obtain ⟨n328, q329, hF⟩ := ar_s hG; clear hG
  obtain ⟨q330, hG⟩ := ck_s hF; clear hF
  obtain ⟨x331, -, hF⟩ := bnd_g hG; clear hG
  obtain ⟨a332, e333, hG⟩ := rf_s hF; clear hF
  have qa332 : Q a332 := hm.1 _ _ _ q_p0 e333
  obtain ⟨q334, hF⟩ := ck_s hG; clear hG
  obtain ⟨a335, e336, hG⟩ := rf_s hF; clear hF
  have qa335 : Q a335 := hm.1 _ _ _ qa332 e336
  obtain ⟨x337, -, hF⟩ := bnd_g hG; clear hG
  obtain ⟨n338, q339, hG⟩ := ar_s hF; clear hF
  obtain ⟨q340, hF⟩ := ck_s hG; clear hG
  obtain ⟨x341, -, hG⟩ := bnd_g hF; clear hF
  obtain ⟨x342, -, hF⟩ := bnd_g hG; clear hG
  obtain ⟨H343, eH343, hG⟩ := bnd_g hF; clear hF
  replace hm : Rg Q H H343 := hm.tr (by rw [eH343]; exact Rg.sD hm.1 q_p0)
  have s_65 : Sa H H343 := by rw [eH343]; exact Sa.rf _
  obtain ⟨a344, e345, hF⟩ := rf_s hG; clear hG
  have qa344 : Q a344 := hm.1 _ _ _ q_p0 e345
  obtain ⟨q346, hG⟩ := ck_s hF; clear hF
  rw [(s_65).1] at q346
  obtain ⟨a347, e348, hF⟩ := rf_s hG; clear hG
  have qa347 : Q a347 := hm.1 _ _ _ qa344 e348
  obtain ⟨x349, -, hG⟩ := bnd_g hF; clear hF
  obtain ⟨n350, q351, hF⟩ := ar_s hG; clear hG
  rw [(s_65).1] at q351
  obtain ⟨q352, hG⟩ := ck_s hF; clear hF
  obtain ⟨x353, -, hF⟩ := bnd_g hG; clear hG
  rcases ite_s hF with ⟨q_66, hG⟩ | ⟨q_66, hG⟩
  · clear hF
    exact hm.tr (gB_MRunner_goes_61 (hmo := hmo) hgo q_p0 hG hm.1)
  · clear hF
    exact hm.tr (gB_MRunner_goes_61 (hmo := hmo) hgo q_p0 hG hm.1)
set_option maxRecDepth 20000 in
set_option maxHeartbeats 2000000 in
theorem gB_MRunner_repeats_83 {N : Nat} {Q : Nat → Prop} {o : Orc_RunS} {hmo : mo_RunS o} (hgo : rg_RunS Q o) {p0 : Nat} {kq7 : Int32 → Int32 → Hp → Option (Unit × Hp)} (q_p0 : Q p0) (hg7 : ∀ (l1 : Int32) (l2 : Int32) (H : Hp) (r : Unit × Hp), kq7 l1 l2 H = some r → Cl Q H → Rg Q H r.2) {l1 : Int32} {w0 : Int32} {H : Hp} {r : Unit × Hp} (hF : B_MRunner_repeats_83 N o p0 kq7 l1 w0 H = some r) (hc0 : Cl Q H) : Rg Q H r.2 := by
  unfold B_MRunner_repeats_83 at hF
  have hm := Rg.rf hc0
  exact hm.tr (hg7 l1 w0 H r hF hm.1)
set_option maxRecDepth 20000 in
set_option maxHeartbeats 2000000 in
theorem gB_MRunner_repeats_82 {N : Nat} {Q : Nat → Prop} {o : Orc_RunS} {hmo : mo_RunS o} (hgo : rg_RunS Q o) {p0 : Nat} {kq7 : Int32 → Int32 → Hp → Option (Unit × Hp)} (q_p0 : Q p0) (hg7 : ∀ (l1 : Int32) (l2 : Int32) (H : Hp) (r : Unit × Hp), kq7 l1 l2 H = some r → Cl Q H → Rg Q H r.2) {l1 : Int32} {H : Hp} {r : Unit × Hp} (hF : B_MRunner_repeats_82 N o p0 kq7 l1 H = some r) (hc0 : Cl Q H) : Rg Q H r.2 := by
  unfold B_MRunner_repeats_82 at hF
  have hm := Rg.rf hc0
  exact hm.tr (gB_MRunner_repeats_83 (hmo := hmo) hgo q_p0 hg7 hF hm.1)
set_option maxRecDepth 20000 in
set_option maxHeartbeats 2000000 in
theorem gB_MRunner_repeats_67 {N : Nat} {Q : Nat → Prop} {o : Orc_RunS} {hmo : mo_RunS o} (hgo : rg_RunS Q o) {p0 : Nat} {kq7 : Int32 → Int32 → Hp → Option (Unit × Hp)} (q_p0 : Q p0) (hg7 : ∀ (l1 : Int32) (l2 : Int32) (H : Hp) (r : Unit × Hp), kq7 l1 l2 H = some r → Cl Q H → Rg Q H r.2) {l1 : Int32} {l2 : Int32} {H : Hp} {r : Unit × Hp} (hF : B_MRunner_repeats_67 N o p0 kq7 l1 l2 H = some r) (hc0 : Cl Q H) : Rg Q H r.2 := by
  unfold B_MRunner_repeats_67 at hF
  have hm := Rg.rf hc0
  rcases ite_s hF with ⟨q_21, hG⟩ | ⟨q_21, hG⟩
  · clear hF
    exact hm.tr (gB_MRunner_repeats_82 (hmo := hmo) hgo q_p0 hg7 hG hm.1)
  · clear hF
    obtain ⟨q72, hF⟩ := ck_s hG; clear hG
    obtain ⟨x73, -, hG⟩ := bnd_g hF; clear hF
    rcases ite_s hG with ⟨q_22, hF⟩ | ⟨q_22, hF⟩
    · clear hG
      exact hm.tr (gB_MRunner_repeats_83 (hmo := hmo) hgo q_p0 hg7 hF hm.1)
    · clear hG
      exact hm.tr (gB_MRunner_repeats_82 (hmo := hmo) hgo q_p0 hg7 hF hm.1)
set_option maxRecDepth 20000 in
set_option maxHeartbeats 2000000 in
theorem gB_MRunner_repeats_52 {N : Nat} {Q : Nat → Prop} {o : Orc_RunS} {hmo : mo_RunS o} (hgo : rg_RunS Q o) {p0 : Nat} {kq7 : Int32 → Int32 → Hp → Option (Unit × Hp)} (q_p0 : Q p0) (hg7 : ∀ (l1 : Int32) (l2 : Int32) (H : Hp) (r : Unit × Hp), kq7 l1 l2 H = some r → Cl Q H → Rg Q H r.2) {l1 : Int32} {l2 : Int32} {H : Hp} {r : Unit × Hp} (hF : B_MRunner_repeats_52 N o p0 kq7 l1 l2 H = some r) (hc0 : Cl Q H) : Rg Q H r.2 := by
  unfold B_MRunner_repeats_52 at hF
  have hm := Rg.rf hc0
  rcases ite_s hF with ⟨q_23, hG⟩ | ⟨q_23, hG⟩
  · clear hF
    exact hm.tr (gB_MRunner_repeats_67 (hmo := hmo) hgo q_p0 hg7 hG hm.1)
  · clear hF
    obtain ⟨q76, hF⟩ := ck_s hG; clear hG
    obtain ⟨x77, -, hG⟩ := bnd_g hF; clear hF
    rcases ite_s hG with ⟨q_24, hF⟩ | ⟨q_24, hF⟩
    · clear hG
      obtain ⟨v80, H81, z79, hG⟩ := bC_s hF; clear hF
      have gz_25 := (hgo _ _ _ z79 hm.1 q_p0)
      replace hm : Rg Q H H81 := hm.tr gz_25
      have s_26 : Sa H H81 := (hmo _ _ _ z79)
      exact hm.tr (gB_MRunner_repeats_67 (hmo := hmo) hgo q_p0 hg7 hG hm.1)
    · clear hG
      exact hm.tr (gB_MRunner_repeats_67 (hmo := hmo) hgo q_p0 hg7 hF hm.1)
set_option maxRecDepth 20000 in
set_option maxHeartbeats 2000000 in
theorem gB_MRunner_repeats_35 {N : Nat} {Q : Nat → Prop} {o : Orc_RunS} {hmo : mo_RunS o} (hgo : rg_RunS Q o) {p0 : Nat} {kq7 : Int32 → Int32 → Hp → Option (Unit × Hp)} (q_p0 : Q p0) (hg7 : ∀ (l1 : Int32) (l2 : Int32) (H : Hp) (r : Unit × Hp), kq7 l1 l2 H = some r → Cl Q H → Rg Q H r.2) {l1 : Int32} {w0 : Int32} {H : Hp} {r : Unit × Hp} (hF : B_MRunner_repeats_35 N o p0 kq7 l1 w0 H = some r) (hc0 : Cl Q H) : Rg Q H r.2 := by
  unfold B_MRunner_repeats_35 at hF
  have hm := Rg.rf hc0
  obtain ⟨q82, hG⟩ := ck_s hF; clear hF
  obtain ⟨x83, -, hF⟩ := bnd_g hG; clear hG
  rcases ite_s hF with ⟨q_27, hG⟩ | ⟨q_27, hG⟩
  · clear hF
    rcases ite_s hG with ⟨q_28, hF⟩ | ⟨q_28, hF⟩
    · clear hG
      exact hm.tr (gB_MRunner_repeats_52 (hmo := hmo) hgo q_p0 hg7 hF hm.1)
    · clear hG
      obtain ⟨v87, H88, z86, hG⟩ := bC_s hF; clear hF
      have gz_29 := (g_MRunner_counts z86 hm.1 q_p0)
      replace hm : Rg Q H H88 := hm.tr gz_29
      have s_30 : Sa H H88 := (m_MRunner_counts z86)
      exact hm.tr (gB_MRunner_repeats_52 (hmo := hmo) hgo q_p0 hg7 hG hm.1)
  · clear hF
    have hr := Option.some.inj hG; subst hr
    exact hm
set_option maxRecDepth 20000 in
set_option maxHeartbeats 2000000 in
theorem gB_MRunner_repeats_34 {N : Nat} {Q : Nat → Prop} {o : Orc_RunS} {hmo : mo_RunS o} (hgo : rg_RunS Q o) {p0 : Nat} {kq7 : Int32 → Int32 → Hp → Option (Unit × Hp)} (q_p0 : Q p0) (hg7 : ∀ (l1 : Int32) (l2 : Int32) (H : Hp) (r : Unit × Hp), kq7 l1 l2 H = some r → Cl Q H → Rg Q H r.2) {l1 : Int32} {H : Hp} {r : Unit × Hp} (hF : B_MRunner_repeats_34 N o p0 kq7 l1 H = some r) (hc0 : Cl Q H) : Rg Q H r.2 := by
  unfold B_MRunner_repeats_34 at hF
  have hm := Rg.rf hc0
  exact hm.tr (gB_MRunner_repeats_35 (hmo := hmo) hgo q_p0 hg7 hF hm.1)
set_option maxRecDepth 20000 in
set_option maxHeartbeats 2000000 in
theorem gB_MRunner_repeats_7 {N : Nat} {Q : Nat → Prop} {o : Orc_RunS} {hmo : mo_RunS o} (hgo : rg_RunS Q o) {p0 : Nat} (q_p0 : Q p0) : ∀ (n : Nat) (l1 : Int32) (l2 : Int32) (H : Hp) (r : Unit × Hp), B_MRunner_repeats_7 N o p0 n l1 l2 H = some r → Cl Q H → Rg Q H r.2 := by
  intro n
  induction n with
  | zero => intro l1 l2 H r hF; rw [B_MRunner_repeats_7] at hF; cases hF
  | succ n ih =>
    intro l1 l2 H r hF hc0
    rw [B_MRunner_repeats_7] at hF
    have hm := Rg.rf hc0
    rcases ite_s hF with ⟨q_31, hG⟩ | ⟨q_31, hG⟩
    · clear hF
      obtain ⟨q90, hF⟩ := ck_s hG; clear hG
      obtain ⟨x91, -, hG⟩ := bnd_g hF; clear hF
      rcases ite_s hG with ⟨q_32, hF⟩ | ⟨q_32, hF⟩
      · clear hG
        obtain ⟨v94, H95, z93, hG⟩ := bC_s hF; clear hF
        have gz_33 := (g_MRunner_skips z93 hm.1 q_p0)
        replace hm : Rg Q H H95 := hm.tr gz_33
        have s_34 : Sa H H95 := (m_MRunner_skips z93)
        have hr := Option.some.inj hG; subst hr
        exact hm
      · clear hG
        have hr := Option.some.inj hF; subst hr
        exact hm
    · clear hF
      obtain ⟨q96, hF⟩ := ck_s hG; clear hG
      obtain ⟨H97, eH97, hG⟩ := bnd_g hF; clear hF
      replace hm : Rg Q H H97 := hm.tr (by rw [eH97]; exact Rg.sD hm.1 q_p0)
      have s_35 : Sa H H97 := by rw [eH97]; exact Sa.rf _
      obtain ⟨v99, H100, z98, hF⟩ := bC_s hG; clear hG
      have gz_36 := ((gX_RunE 50).1 _ _ _ z98 hm.1 q_p0)
      replace hm : Rg Q H H100 := hm.tr gz_36
      have s_37 : Sa H H100 := (s_35).tr ((moX_RunE 50).1 _ _ _ z98)
      rcases ite_s hF with ⟨q_38, hG⟩ | ⟨q_38, hG⟩
      · clear hF
        exact hm.tr (gB_MRunner_repeats_34 (hmo := hmo) hgo q_p0 ih hG hm.1)
      · clear hF
        obtain ⟨x102, -, hF⟩ := bnd_g hG; clear hG
        rcases ite_s hF with ⟨q_39, hG⟩ | ⟨q_39, hG⟩
        · clear hF
          exact hm.tr (gB_MRunner_repeats_35 (hmo := hmo) hgo q_p0 ih hG hm.1)
        · clear hF
          exact hm.tr (gB_MRunner_repeats_34 (hmo := hmo) hgo q_p0 ih hG hm.1)
set_option maxRecDepth 20000 in
set_option maxHeartbeats 2000000 in
theorem g_MRunner_repeats {N : Nat} {Q : Nat → Prop} {o : Orc_RunS} {hmo : mo_RunS o} (hgo : rg_RunS Q o) {p0 : Nat} {H : Hp} {r : Unit × Hp} (hF : F_MRunner_repeats N o p0 H = some r) (hc0 : Cl Q H) (q_p0 : Q p0) : Rg Q H r.2 := by
  unfold F_MRunner_repeats at hF
  have hm := Rg.rf hc0
  obtain ⟨q104, hG⟩ := ck_s hF; clear hF
  obtain ⟨x105, -, hF⟩ := bnd_g hG; clear hG
  exact hm.tr (gB_MRunner_repeats_7 (hmo := hmo) hgo q_p0 N x105 1 H r hF hm.1)
set_option maxRecDepth 20000 in
set_option maxHeartbeats 2000000 in
theorem gB_MRunner_chooses_36 {N : Nat} {Q : Nat → Prop} {o : Orc_RunS} {hmo : mo_RunS o} (hgo : rg_RunS Q o) {p0 : Nat} (q_p0 : Q p0) {l1 : Int32} {H : Hp} {r : Unit × Hp} (hF : B_MRunner_chooses_36 N o p0 l1 H = some r) (hc0 : Cl Q H) : Rg Q H r.2 := by
  unfold B_MRunner_chooses_36 at hF
  have hm := Rg.rf hc0
  obtain ⟨q77, hG⟩ := ck_s hF; clear hF
  obtain ⟨x78, -, hF⟩ := bnd_g hG; clear hG
  rcases ite_s hF with ⟨q_19, hG⟩ | ⟨q_19, hG⟩
  · clear hF
    have hr := Option.some.inj hG; subst hr
    exact hm
  · clear hF
    obtain ⟨a80, e81, hF⟩ := rf_s hG; clear hG
    have qa80 : Q a80 := hm.1 _ _ _ q_p0 e81
    obtain ⟨q82, hG⟩ := ck_s hF; clear hF
    obtain ⟨a83, e84, hF⟩ := rf_s hG; clear hG
    have qa83 : Q a83 := hm.1 _ _ _ qa80 e84
    obtain ⟨x85, -, hG⟩ := bnd_g hF; clear hF
    obtain ⟨n86, q87, hF⟩ := ar_s hG; clear hG
    obtain ⟨q88, hG⟩ := ck_s hF; clear hF
    obtain ⟨x89, -, hF⟩ := bnd_g hG; clear hG
    rcases ite_s hF with ⟨q_20, hG⟩ | ⟨q_20, hG⟩
    · clear hF
      obtain ⟨x91, -, hF⟩ := bnd_g hG; clear hG
      obtain ⟨H92, eH92, hG⟩ := bnd_g hF; clear hF
      replace hm : Rg Q H H92 := hm.tr (by rw [eH92]; exact Rg.sD hm.1 q_p0)
      have s_21 : Sa H H92 := by rw [eH92]; exact Sa.rf _
      rcases ite_s hG with ⟨q_22, hF⟩ | ⟨q_22, hF⟩
      · clear hG
        obtain ⟨v95, H96, z94, hG⟩ := bC_s hF; clear hF
        have gz_23 := (hgo _ _ _ z94 hm.1 q_p0)
        replace hm : Rg Q H H96 := hm.tr gz_23
        have s_24 : Sa H H96 := (s_21).tr (hmo _ _ _ z94)
        have hr := Option.some.inj hG; subst hr
        exact hm
      · clear hG
        obtain ⟨v98, H99, z97, hG⟩ := bC_s hF; clear hF
        have gz_25 := (g_MRunner_skips z97 hm.1 q_p0)
        replace hm : Rg Q H H99 := hm.tr gz_25
        have s_26 : Sa H H99 := (s_21).tr (m_MRunner_skips z97)
        have hr := Option.some.inj hG; subst hr
        exact hm
    · clear hF
      have hr := Option.some.inj hG; subst hr
      exact hm
set_option maxRecDepth 20000 in
set_option maxHeartbeats 2000000 in
theorem gB_MRunner_chooses_12 {N : Nat} {Q : Nat → Prop} {o : Orc_RunS} {hmo : mo_RunS o} (hgo : rg_RunS Q o) {p0 : Nat} (q_p0 : Q p0) {w0 : Int32} {H : Hp} {r : Unit × Hp} (hF : B_MRunner_chooses_12 N o p0 w0 H = some r) (hc0 : Cl Q H) : Rg Q H r.2 := by
  unfold B_MRunner_chooses_12 at hF
  have hm := Rg.rf hc0
  obtain ⟨q100, hG⟩ := ck_s hF; clear hF
  obtain ⟨x101, -, hF⟩ := bnd_g hG; clear hG
  rcases ite_s hF with ⟨q_27, hG⟩ | ⟨q_27, hG⟩
  · clear hF
    rcases ite_s hG with ⟨q_28, hF⟩ | ⟨q_28, hF⟩
    · clear hG
      obtain ⟨v105, H106, z104, hG⟩ := bC_s hF; clear hF
      have gz_29 := (g_MRunner_skips z104 hm.1 q_p0)
      replace hm : Rg Q H H106 := hm.tr gz_29
      have s_30 : Sa H H106 := (m_MRunner_skips z104)
      exact hm.tr (gB_MRunner_chooses_36 (hmo := hmo) hgo q_p0 hG hm.1)
    · clear hG
      obtain ⟨v108, H109, z107, hG⟩ := bC_s hF; clear hF
      have gz_31 := (hgo _ _ _ z107 hm.1 q_p0)
      replace hm : Rg Q H H109 := hm.tr gz_31
      have s_32 : Sa H H109 := (hmo _ _ _ z107)
      exact hm.tr (gB_MRunner_chooses_36 (hmo := hmo) hgo q_p0 hG hm.1)
  · clear hF
    have hr := Option.some.inj hG; subst hr
    exact hm
set_option maxRecDepth 20000 in
set_option maxHeartbeats 2000000 in
theorem g_MRunner_chooses {N : Nat} {Q : Nat → Prop} {o : Orc_RunS} {hmo : mo_RunS o} (hgo : rg_RunS Q o) {p0 : Nat} {H : Hp} {r : Unit × Hp} (hF : F_MRunner_chooses N o p0 H = some r) (hc0 : Cl Q H) (q_p0 : Q p0) : Rg Q H r.2 := by
  unfold F_MRunner_chooses at hF
  have hm := Rg.rf hc0
  obtain ⟨q110, hG⟩ := ck_s hF; clear hF
  obtain ⟨v112, H113, z111, hF⟩ := bC_s hG; clear hG
  have gz_33 := ((gX_RunE 50).1 _ _ _ z111 hm.1 q_p0)
  replace hm : Rg Q H H113 := hm.tr gz_33
  have s_34 : Sa H H113 := ((moX_RunE 50).1 _ _ _ z111)
  rcases ite_s hF with ⟨q_35, hG⟩ | ⟨q_35, hG⟩
  · clear hF
    exact hm.tr (gB_MRunner_chooses_12 (hmo := hmo) hgo q_p0 hG hm.1)
  · clear hF
    exact hm.tr (gB_MRunner_chooses_12 (hmo := hmo) hgo q_p0 hG hm.1)
set_option maxRecDepth 20000 in
set_option maxHeartbeats 2000000 in
theorem g_MRunner_statement {N : Nat} {Q : Nat → Prop} {o : Orc_RunS} {hmo : mo_RunS o} (hgo : rg_RunS Q o) {p0 : Nat} {H : Hp} {r : Unit × Hp} (hF : F_MRunner_statement N o p0 H = some r) (hc0 : Cl Q H) (q_p0 : Q p0) : Rg Q H r.2 := by
  unfold F_MRunner_statement at hF
  have hm := Rg.rf hc0
  obtain ⟨q153, hG⟩ := ck_s hF; clear hF
  obtain ⟨v155, H156, z154, hF⟩ := bC_s hG; clear hG
  have gz_41 := (g_MRunner_counts z154 hm.1 q_p0)
  replace hm : Rg Q H H156 := hm.tr gz_41
  have s_42 : Sa H H156 := (m_MRunner_counts z154)
  obtain ⟨x157, -, hG⟩ := bnd_g hF; clear hF
  rcases ite_s hG with ⟨q_43, hF⟩ | ⟨q_43, hF⟩
  · clear hG
    obtain ⟨x159, -, hG⟩ := bnd_g hF; clear hF
    obtain ⟨a160, e161, hF⟩ := rf_s hG; clear hG
    have qa160 : Q a160 := hm.1 _ _ _ q_p0 e161
    obtain ⟨q162, hG⟩ := ck_s hF; clear hF
    rw [(s_42).1] at q162
    obtain ⟨a163, e164, hF⟩ := rf_s hG; clear hG
    have qa163 : Q a163 := hm.1 _ _ _ qa160 e164
    obtain ⟨n165, q166, hG⟩ := ar_s hF; clear hF
    rw [(s_42).1] at q166
    obtain ⟨q167, hF⟩ := ck_s hG; clear hG
    obtain ⟨x168, -, hG⟩ := bnd_g hF; clear hF
    obtain ⟨x169, -, hF⟩ := bnd_g hG; clear hG
    obtain ⟨H170, eH170, hG⟩ := bnd_g hF; clear hF
    replace hm : Rg Q H H170 := hm.tr (by rw [eH170]; exact Rg.sD hm.1 q_p0)
    have s_44 : Sa H H170 := by rw [eH170]; exact s_42
    rcases ite_s hG with ⟨q_45, hF⟩ | ⟨q_45, hF⟩
    · clear hG
      obtain ⟨v173, H174, z172, hG⟩ := bC_s hF; clear hF
      have gz_46 := (g_MRunner_assigns z172 hm.1 q_p0)
      replace hm : Rg Q H H174 := hm.tr gz_46
      have s_47 : Sa H H174 := (s_44).tr (m_MRunner_assigns z172)
      have hr := Option.some.inj hG; subst hr
      exact hm
    clear hG
    rcases ite_s hF with ⟨q_48, hG⟩ | ⟨q_48, hG⟩
    · clear hF
      obtain ⟨x176, -, hF⟩ := bnd_g hG; clear hG
      obtain ⟨H177, eH177, hG⟩ := bnd_g hF; clear hF
      replace hm : Rg Q H H177 := hm.tr (by rw [eH177]; exact Rg.sD hm.1 q_p0)
      have s_49 : Sa H H177 := by rw [eH177]; exact s_44
      obtain ⟨a178, e179, hF⟩ := rf_s hG; clear hG
      have qa178 : Q a178 := hm.1 _ _ _ q_p0 e179
      obtain ⟨a180, e181, hG⟩ := rf_s hF; clear hF
      have qa180 : Q a180 := hm.1 _ _ _ q_p0 e181
      obtain ⟨q182, hF⟩ := ck_s hG; clear hG
      rw [(s_49).1] at q182
      obtain ⟨a183, e184, hG⟩ := rf_s hF; clear hF
      have qa183 : Q a183 := hm.1 _ _ _ qa180 e184
      obtain ⟨n185, q186, hF⟩ := ar_s hG; clear hG
      rw [(s_49).1] at q186
      obtain ⟨q187, hG⟩ := ck_s hF; clear hF
      obtain ⟨x188, -, hF⟩ := bnd_g hG; clear hG
      obtain ⟨v190, H191, z189, hG⟩ := bC_s hF; clear hF
      have gz_50 := ((gX_RunE 50).1 _ _ _ z189 hm.1 q_p0)
      replace hm : Rg Q H H191 := hm.tr gz_50
      have s_51 : Sa H H191 := (s_49).tr ((moX_RunE 50).1 _ _ _ z189)
      obtain ⟨n192, q193, hF⟩ := ar_s hG; clear hG
      rw [(s_51).1] at q193
      obtain ⟨q194, hG⟩ := ck_s hF; clear hF
      obtain ⟨H195, eH195, hF⟩ := bnd_g hG; clear hG
      replace hm : Rg Q H H195 := hm.tr (by rw [eH195]; exact Rg.sD hm.1 qa178)
      have s_52 : Sa H H195 := by rw [eH195]; exact s_51
      obtain ⟨x196, -, hG⟩ := bnd_g hF; clear hF
      obtain ⟨H197, eH197, hF⟩ := bnd_g hG; clear hG
      replace hm : Rg Q H H197 := hm.tr (by rw [eH197]; exact Rg.sD hm.1 q_p0)
      have s_53 : Sa H H197 := by rw [eH197]; exact s_52
      have hr := Option.some.inj hF; subst hr
      exact hm
    clear hF
    rcases ite_s hG with ⟨q_54, hF⟩ | ⟨q_54, hF⟩
    · clear hG
      obtain ⟨v200, H201, z199, hG⟩ := bC_s hF; clear hF
      have gz_55 := (g_MRunner_chooses (hmo := hmo) hgo z199 hm.1 q_p0)
      replace hm : Rg Q H H201 := hm.tr gz_55
      have s_56 : Sa H H201 := (s_44).tr (m_MRunner_chooses hmo z199)
      have hr := Option.some.inj hG; subst hr
      exact hm
    clear hG
    rcases ite_s hF with ⟨q_57, hG⟩ | ⟨q_57, hG⟩
    · clear hF
      obtain ⟨v204, H205, z203, hF⟩ := bC_s hG; clear hG
      have gz_58 := (g_MRunner_repeats (hmo := hmo) hgo z203 hm.1 q_p0)
      replace hm : Rg Q H H205 := hm.tr gz_58
      have s_59 : Sa H H205 := (s_44).tr (m_MRunner_repeats hmo z203)
      have hr := Option.some.inj hF; subst hr
      exact hm
    clear hF
    rcases ite_s hG with ⟨q_60, hF⟩ | ⟨q_60, hF⟩
    · clear hG
      obtain ⟨v208, H209, z207, hG⟩ := bC_s hF; clear hF
      have gz_61 := (g_MRunner_goes (hmo := hmo) hgo z207 hm.1 q_p0)
      replace hm : Rg Q H H209 := hm.tr gz_61
      have s_62 : Sa H H209 := (s_44).tr (m_MRunner_goes hmo z207)
      have hr := Option.some.inj hG; subst hr
      exact hm
    clear hG
    rcases ite_s hF with ⟨q_63, hG⟩ | ⟨q_63, hG⟩
    · clear hF
      obtain ⟨v212, H213, z211, hF⟩ := bC_s hG; clear hG
      have gz_64 := (g_MRunner_hears (hmo := hmo) hgo z211 hm.1 q_p0)
      replace hm : Rg Q H H213 := hm.tr gz_64
      have s_65 : Sa H H213 := (s_44).tr (m_MRunner_hears hmo z211)
      have hr := Option.some.inj hF; subst hr
      exact hm
    clear hF
    rcases ite_s hG with ⟨q_66, hF⟩ | ⟨q_66, hF⟩
    · clear hG
      obtain ⟨v216, H217, z215, hG⟩ := bC_s hF; clear hF
      have gz_67 := (g_MRunner_spawns z215 hm.1 q_p0)
      replace hm : Rg Q H H217 := hm.tr gz_67
      have s_68 : Sa H H217 := (s_44).tr (m_MRunner_spawns z215)
      have hr := Option.some.inj hG; subst hr
      exact hm
    clear hG
    rcases ite_s hF with ⟨q_69, hG⟩ | ⟨q_69, hG⟩
    · clear hF
      obtain ⟨v220, H221, z219, hF⟩ := bC_s hG; clear hG
      have gz_70 := (g_MRunner_emits z219 hm.1 q_p0)
      replace hm : Rg Q H H221 := hm.tr gz_70
      have s_71 : Sa H H221 := (s_44).tr (m_MRunner_emits z219)
      have hr := Option.some.inj hF; subst hr
      exact hm
    clear hF
    rcases ite_s hG with ⟨q_72, hF⟩ | ⟨q_72, hF⟩
    · clear hG
      obtain ⟨v224, H225, z223, hG⟩ := bC_s hF; clear hF
      have gz_73 := (g_MRunner_fails z223 hm.1 q_p0)
      replace hm : Rg Q H H225 := hm.tr gz_73
      have s_74 : Sa H H225 := (s_44).tr (m_MRunner_fails z223)
      have hr := Option.some.inj hG; subst hr
      exact hm
    clear hG
    obtain ⟨v227, H228, z226, hG⟩ := bC_s hF; clear hF
    have gz_75 := (g_MRunner_commands z226 hm.1 q_p0)
    replace hm : Rg Q H H228 := hm.tr gz_75
    have s_76 : Sa H H228 := (s_44).tr (m_MRunner_commands z226)
    have hr := Option.some.inj hG; subst hr
    exact hm
  · clear hG
    have hr := Option.some.inj hF; subst hr
    exact hm
set_option maxRecDepth 20000 in
set_option maxHeartbeats 2000000 in
theorem gB_MRunner_block_45 {N : Nat} {Q : Nat → Prop} {o : Orc_RunS} {hmo : mo_RunS o} (hgo : rg_RunS Q o) {p0 : Nat} (q_p0 : Q p0) {l1 : Int32} {H : Hp} {r : Unit × Hp} (hF : B_MRunner_block_45 N o p0 l1 H = some r) (hc0 : Cl Q H) : Rg Q H r.2 := by
  unfold B_MRunner_block_45 at hF
  have hm := Rg.rf hc0
  obtain ⟨q65, hG⟩ := ck_s hF; clear hF
  obtain ⟨a66, e67, hF⟩ := rf_s hG; clear hG
  have qa66 : Q a66 := hm.1 _ _ _ q_p0 e67
  obtain ⟨q68, hG⟩ := ck_s hF; clear hF
  obtain ⟨a69, e70, hF⟩ := rf_s hG; clear hG
  have qa69 : Q a69 := hm.1 _ _ _ qa66 e70
  obtain ⟨n71, q72, hG⟩ := ar_s hF; clear hF
  obtain ⟨q73, hF⟩ := ck_s hG; clear hG
  obtain ⟨x74, -, hG⟩ := bnd_g hF; clear hF
  obtain ⟨H75, eH75, hF⟩ := bnd_g hG; clear hG
  replace hm : Rg Q H H75 := hm.tr (by rw [eH75]; exact Rg.sD hm.1 q_p0)
  have s_9 : Sa H H75 := by rw [eH75]; exact Sa.rf _
  have hr := Option.some.inj hF; subst hr
  exact hm
set_option maxRecDepth 20000 in
set_option maxHeartbeats 2000000 in
theorem gB_MRunner_block_15 {N : Nat} {Q : Nat → Prop} {o : Orc_RunS} {hmo : mo_RunS o} (hgo : rg_RunS Q o) {p0 : Nat} (q_p0 : Q p0) : ∀ (n : Nat) (l1 : Int32) (H : Hp) (r : Unit × Hp), B_MRunner_block_15 N o p0 n l1 H = some r → Cl Q H → Rg Q H r.2 := by
  intro n
  induction n with
  | zero => intro l1 H r hF; rw [B_MRunner_block_15] at hF; cases hF
  | succ n ih =>
    intro l1 H r hF hc0
    rw [B_MRunner_block_15] at hF
    have hm := Rg.rf hc0
    obtain ⟨q76, hG⟩ := ck_s hF; clear hF
    obtain ⟨x77, -, hF⟩ := bnd_g hG; clear hG
    rcases ite_s hF with ⟨q_10, hG⟩ | ⟨q_10, hG⟩
    · clear hF
      obtain ⟨x79, -, hF⟩ := bnd_g hG; clear hG
      obtain ⟨a80, e81, hG⟩ := rf_s hF; clear hF
      have qa80 : Q a80 := hm.1 _ _ _ q_p0 e81
      obtain ⟨q82, hF⟩ := ck_s hG; clear hG
      obtain ⟨a83, e84, hG⟩ := rf_s hF; clear hF
      have qa83 : Q a83 := hm.1 _ _ _ qa80 e84
      obtain ⟨n85, q86, hF⟩ := ar_s hG; clear hG
      obtain ⟨q87, hG⟩ := ck_s hF; clear hF
      obtain ⟨x88, -, hF⟩ := bnd_g hG; clear hG
      rcases ite_s hF with ⟨q_11, hG⟩ | ⟨q_11, hG⟩
      · clear hF
        exact hm.tr (gB_MRunner_block_45 (hmo := hmo) hgo q_p0 hG hm.1)
      · clear hF
        obtain ⟨v91, H92, z90, hF⟩ := bC_s hG; clear hG
        have gz_12 := (g_MRunner_statement (hmo := hmo) hgo z90 hm.1 q_p0)
        replace hm : Rg Q H H92 := hm.tr gz_12
        have s_13 : Sa H H92 := (m_MRunner_statement hmo z90)
        exact hm.tr (ih l1 H92 r hF hm.1)
    · clear hF
      exact hm.tr (gB_MRunner_block_45 (hmo := hmo) hgo q_p0 hG hm.1)
set_option maxRecDepth 20000 in
set_option maxHeartbeats 2000000 in
theorem g_MRunner_block {N : Nat} {Q : Nat → Prop} {o : Orc_RunS} {hmo : mo_RunS o} (hgo : rg_RunS Q o) {p0 : Nat} {H : Hp} {r : Unit × Hp} (hF : F_MRunner_block N o p0 H = some r) (hc0 : Cl Q H) (q_p0 : Q p0) : Rg Q H r.2 := by
  unfold F_MRunner_block at hF
  have hm := Rg.rf hc0
  obtain ⟨q93, hG⟩ := ck_s hF; clear hF
  obtain ⟨x94, -, hF⟩ := bnd_g hG; clear hG
  obtain ⟨x95, -, hG⟩ := bnd_g hF; clear hF
  obtain ⟨H96, eH96, hF⟩ := bnd_g hG; clear hG
  replace hm : Rg Q H H96 := hm.tr (by rw [eH96]; exact Rg.sD hm.1 q_p0)
  have s_14 : Sa H H96 := by rw [eH96]; exact Sa.rf _
  exact hm.tr (gB_MRunner_block_15 (hmo := hmo) hgo q_p0 N x94 H96 r hF hm.1)
theorem gX_RunS {N : Nat} {Q : Nat → Prop} : ∀ d, rg_RunS Q (X_RunS N d) := by
  intro d
  induction d with
  | zero => exact (fun _ _ _ hz => absurd (show none = some _ from hz) (by simp))
  | succ d ih => exact (fun _ _ _ hz hc qa0 => g_MRunner_block (hmo := moX_RunS d) ih hz hc qa0)
set_option maxRecDepth 20000 in
set_option maxHeartbeats 2000000 in
theorem g_MWorld_failed {N : Nat} {Q : Nat → Prop} {p0 : Nat} {p1 : Int32} {p2 : Int32} {p3 : Int32} {H : Hp} {r : Unit × Hp} (hF : F_MWorld_failed N p0 p1 p2 p3 H = some r) (hc0 : Cl Q H) (q_p0 : Q p0) : Rg Q H r.2 := by
  unfold F_MWorld_failed at hF
  have hm := Rg.rf hc0
  obtain ⟨q17, hG⟩ := ck_s hF; clear hF
  obtain ⟨x18, -, hF⟩ := bnd_g hG; clear hG
  obtain ⟨H19, eH19, hG⟩ := bnd_g hF; clear hF
  replace hm : Rg Q H H19 := hm.tr (by rw [eH19]; exact Rg.sD hm.1 q_p0)
  have s_10 : Sa H H19 := by rw [eH19]; exact Sa.rf _
  obtain ⟨x20, -, hF⟩ := bnd_g hG; clear hG
  rcases ite_s hF with ⟨q_11, hG⟩ | ⟨q_11, hG⟩
  · clear hF
    obtain ⟨H22, eH22, hF⟩ := bnd_g hG; clear hG
    replace hm : Rg Q H H22 := hm.tr (by rw [eH22]; exact Rg.sD hm.1 q_p0)
    have s_12 : Sa H H22 := by rw [eH22]; exact s_10
    obtain ⟨H23, eH23, hG⟩ := bnd_g hF; clear hF
    replace hm : Rg Q H H23 := hm.tr (by rw [eH23]; exact Rg.sD hm.1 q_p0)
    have s_13 : Sa H H23 := by rw [eH23]; exact s_12
    obtain ⟨H24, eH24, hF⟩ := bnd_g hG; clear hG
    replace hm : Rg Q H H24 := hm.tr (by rw [eH24]; exact Rg.sD hm.1 q_p0)
    have s_14 : Sa H H24 := by rw [eH24]; exact s_13
    have hr := Option.some.inj hF; subst hr
    exact hm
  · clear hF
    have hr := Option.some.inj hG; subst hr
    exact hm
set_option maxRecDepth 20000 in
set_option maxHeartbeats 2000000 in
theorem gB_MRunner_row_130 {N : Nat} {Q : Nat → Prop} {p0 : Nat} {p1 : Int32} {p2 : Int32} (q_p0 : Q p0) : ∀ (n : Nat) (l3 : Int32) (H : Hp) (r : Unit × Hp), B_MRunner_row_130 N p0 p1 p2 n l3 H = some r → Cl Q H → Rg Q H r.2 := by
  intro n
  induction n with
  | zero => intro l3 H r hF; rw [B_MRunner_row_130] at hF; cases hF
  | succ n ih =>
    intro l3 H r hF hc0
    rw [B_MRunner_row_130] at hF
    have hm := Rg.rf hc0
    rcases ite_s hF with ⟨q_32, hG⟩ | ⟨q_32, hG⟩
    · clear hF
      have hr := Option.some.inj hG; subst hr
      exact hm
    · clear hF
      obtain ⟨q152, hF⟩ := ck_s hG; clear hG
      obtain ⟨a153, e154, hG⟩ := rf_s hF; clear hF
      have qa153 : Q a153 := hm.1 _ _ _ q_p0 e154
      obtain ⟨q155, hF⟩ := ck_s hG; clear hG
      obtain ⟨a156, e157, hG⟩ := rf_s hF; clear hF
      have qa156 : Q a156 := hm.1 _ _ _ qa153 e157
      obtain ⟨a158, e159, hF⟩ := rf_s hG; clear hG
      have qa158 : Q a158 := hm.1 _ _ _ q_p0 e159
      obtain ⟨n160, q161, hG⟩ := ar_s hF; clear hF
      obtain ⟨q162, hF⟩ := ck_s hG; clear hG
      obtain ⟨x163, -, hG⟩ := bnd_g hF; clear hF
      obtain ⟨n164, q165, hF⟩ := ar_s hG; clear hG
      obtain ⟨q166, hG⟩ := ck_s hF; clear hF
      obtain ⟨H167, eH167, hF⟩ := bnd_g hG; clear hG
      replace hm : Rg Q H H167 := hm.tr (by rw [eH167]; exact Rg.sD hm.1 qa156)
      have s_33 : Sa H H167 := by rw [eH167]; exact Sa.rf _
      exact hm.tr (ih (l3 + 1) H167 r hF hm.1)
set_option maxRecDepth 20000 in
set_option maxHeartbeats 2000000 in
theorem gB_MRunner_row_47 {N : Nat} {Q : Nat → Prop} {p0 : Nat} {p1 : Int32} {p2 : Int32} (q_p0 : Q p0) : ∀ (n : Nat) (l3 : Int32) (H : Hp) (r : Unit × Hp), B_MRunner_row_47 N p0 p1 p2 n l3 H = some r → Cl Q H → Rg Q H r.2 := by
  intro n
  induction n with
  | zero => intro l3 H r hF; rw [B_MRunner_row_47] at hF; cases hF
  | succ n ih =>
    intro l3 H r hF hc0
    rw [B_MRunner_row_47] at hF
    have hm := Rg.rf hc0
    rcases ite_s hF with ⟨q_34, hG⟩ | ⟨q_34, hG⟩
    · clear hF
      obtain ⟨q169, hF⟩ := ck_s hG; clear hG
      obtain ⟨a170, e171, hG⟩ := rf_s hF; clear hF
      have qa170 : Q a170 := hm.1 _ _ _ q_p0 e171
      obtain ⟨q172, hF⟩ := ck_s hG; clear hG
      obtain ⟨a173, e174, hG⟩ := rf_s hF; clear hF
      have qa173 : Q a173 := hm.1 _ _ _ qa170 e174
      obtain ⟨n175, q176, hF⟩ := ar_s hG; clear hG
      obtain ⟨q177, hG⟩ := ck_s hF; clear hF
      obtain ⟨x178, -, hF⟩ := bnd_g hG; clear hG
      obtain ⟨H179, eH179, hG⟩ := bnd_g hF; clear hF
      replace hm : Rg Q H H179 := hm.tr (by rw [eH179]; exact Rg.sD hm.1 q_p0)
      have s_35 : Sa H H179 := by rw [eH179]; exact Sa.rf _
      obtain ⟨v181, H182, z180, hF⟩ := bC_s hG; clear hG
      have gz_36 := ((gX_RunS 24) _ _ _ z180 hm.1 q_p0)
      replace hm : Rg Q H H182 := hm.tr gz_36
      have s_37 : Sa H H182 := (s_35).tr ((moX_RunS 24) _ _ _ z180)
      obtain ⟨x183, -, hG⟩ := bnd_g hF; clear hF
      rcases ite_s hG with ⟨q_38, hF⟩ | ⟨q_38, hF⟩
      · clear hG
        exact hm.tr (gB_MRunner_row_130 q_p0 N 0 H182 r hF hm.1)
      · clear hG
        obtain ⟨x185, -, hG⟩ := bnd_g hF; clear hF
        obtain ⟨H186, eH186, hF⟩ := bnd_g hG; clear hG
        replace hm : Rg Q H H186 := hm.tr (by rw [eH186]; exact Rg.sD hm.1 q_p0)
        have s_39 : Sa H H186 := by rw [eH186]; exact s_37
        obtain ⟨a187, e188, hG⟩ := rf_s hF; clear hF
        have qa187 : Q a187 := hm.1 _ _ _ q_p0 e188
        obtain ⟨x189, -, hF⟩ := bnd_g hG; clear hG
        obtain ⟨x190, -, hG⟩ := bnd_g hF; clear hF
        obtain ⟨q191, hF⟩ := ck_s hG; clear hG
        rw [(s_39).1] at q191
        obtain ⟨v193, H194, z192, hG⟩ := bC_s hF; clear hF
        have gz_40 := (g_MWorld_failed z192 hm.1 qa187)
        replace hm : Rg Q H H194 := hm.tr gz_40
        have s_41 : Sa H H194 := (s_39).tr (m_MWorld_failed z192)
        have hr := Option.some.inj hG; subst hr
        exact hm
    · clear hF
      obtain ⟨q195, hF⟩ := ck_s hG; clear hG
      obtain ⟨a196, e197, hG⟩ := rf_s hF; clear hF
      have qa196 : Q a196 := hm.1 _ _ _ q_p0 e197
      obtain ⟨a198, e199, hF⟩ := rf_s hG; clear hG
      have qa198 : Q a198 := hm.1 _ _ _ q_p0 e199
      obtain ⟨q200, hG⟩ := ck_s hF; clear hF
      obtain ⟨a201, e202, hF⟩ := rf_s hG; clear hG
      have qa201 : Q a201 := hm.1 _ _ _ qa198 e202
      obtain ⟨n203, q204, hG⟩ := ar_s hF; clear hF
      obtain ⟨q205, hF⟩ := ck_s hG; clear hG
      obtain ⟨x206, -, hG⟩ := bnd_g hF; clear hF
      obtain ⟨n207, q208, hF⟩ := ar_s hG; clear hG
      obtain ⟨q209, hG⟩ := ck_s hF; clear hF
      obtain ⟨H210, eH210, hF⟩ := bnd_g hG; clear hG
      replace hm : Rg Q H H210 := hm.tr (by rw [eH210]; exact Rg.sD hm.1 qa196)
      have s_42 : Sa H H210 := by rw [eH210]; exact Sa.rf _
      exact hm.tr (ih (l3 + 1) H210 r hF hm.1)
set_option maxRecDepth 20000 in
set_option maxHeartbeats 2000000 in
theorem g_MRunner_row {N : Nat} {Q : Nat → Prop} {p0 : Nat} {p1 : Int32} {p2 : Int32} {H : Hp} {r : Unit × Hp} (hF : F_MRunner_row N p0 p1 p2 H = some r) (hc0 : Cl Q H) (q_p0 : Q p0) : Rg Q H r.2 := by
  unfold F_MRunner_row at hF
  have hm := Rg.rf hc0
  obtain ⟨q211, hG⟩ := ck_s hF; clear hF
  obtain ⟨H212, eH212, hF⟩ := bnd_g hG; clear hG
  replace hm : Rg Q H H212 := hm.tr (by rw [eH212]; exact Rg.sD hm.1 q_p0)
  have s_43 : Sa H H212 := by rw [eH212]; exact Sa.rf _
  obtain ⟨a213, e214, hG⟩ := rf_s hF; clear hF
  have qa213 : Q a213 := hm.1 _ _ _ q_p0 e214
  obtain ⟨q215, hF⟩ := ck_s hG; clear hG
  rw [(s_43).1] at q215
  obtain ⟨v217, H218, z216, hG⟩ := bC_s hF; clear hF
  have gz_44 := (g_MWorld_number z216 hm.1 qa213)
  replace hm : Rg Q H H218 := hm.tr gz_44
  have s_45 : Sa H H218 := (s_43).tr (m_MWorld_number z216)
  obtain ⟨H219, eH219, hF⟩ := bnd_g hG; clear hG
  replace hm : Rg Q H H219 := hm.tr (by rw [eH219]; exact Rg.sD hm.1 q_p0)
  have s_46 : Sa H H219 := by rw [eH219]; exact s_45
  obtain ⟨x220, -, hG⟩ := bnd_g hF; clear hF
  obtain ⟨H221, eH221, hF⟩ := bnd_g hG; clear hG
  replace hm : Rg Q H H221 := hm.tr (by rw [eH221]; exact Rg.sD hm.1 q_p0)
  have s_47 : Sa H H221 := by rw [eH221]; exact s_46
  obtain ⟨H222, eH222, hG⟩ := bnd_g hF; clear hF
  replace hm : Rg Q H H222 := hm.tr (by rw [eH222]; exact Rg.sD hm.1 q_p0)
  have s_48 : Sa H H222 := by rw [eH222]; exact s_47
  obtain ⟨H223, eH223, hF⟩ := bnd_g hG; clear hG
  replace hm : Rg Q H H223 := hm.tr (by rw [eH223]; exact Rg.sD hm.1 q_p0)
  have s_49 : Sa H H223 := by rw [eH223]; exact s_48
  obtain ⟨H224, eH224, hG⟩ := bnd_g hF; clear hF
  replace hm : Rg Q H H224 := hm.tr (by rw [eH224]; exact Rg.sD hm.1 q_p0)
  have s_50 : Sa H H224 := by rw [eH224]; exact s_49
  obtain ⟨H225, eH225, hF⟩ := bnd_g hG; clear hG
  replace hm : Rg Q H H225 := hm.tr (by rw [eH225]; exact Rg.sD hm.1 q_p0)
  have s_51 : Sa H H225 := by rw [eH225]; exact s_50
  exact hm.tr (gB_MRunner_row_47 q_p0 N 0 H225 r hF hm.1)
set_option maxRecDepth 20000 in
set_option maxHeartbeats 2000000 in
theorem gB_MWorld_spawns_55 {N : Nat} {Q : Nat → Prop} {p0 : Nat} {p1 : Nat} {p2 : Int32} (q_p0 : Q p0) (q_p1 : Q p1) : ∀ (n : Nat) (l3 : Int32) (l4 : Int32) (H : Hp) (r : Int32 × Hp), B_MWorld_spawns_55 N p0 p1 p2 n l3 l4 H = some r → Cl Q H → Rg Q H r.2 := by
  intro n
  induction n with
  | zero => intro l3 l4 H r hF; rw [B_MWorld_spawns_55] at hF; cases hF
  | succ n ih =>
    intro l3 l4 H r hF hc0
    rw [B_MWorld_spawns_55] at hF
    have hm := Rg.rf hc0
    rcases ite_s hF with ⟨q_11, hG⟩ | ⟨q_11, hG⟩
    · clear hF
      have hr := Option.some.inj hG; subst hr
      exact hm
    · clear hF
      obtain ⟨q92, hF⟩ := ck_s hG; clear hG
      obtain ⟨a93, e94, hG⟩ := rf_s hF; clear hF
      have qa93 : Q a93 := hm.1 _ _ _ q_p0 e94
      obtain ⟨q95, hF⟩ := ck_s hG; clear hG
      obtain ⟨a96, e97, hG⟩ := rf_s hF; clear hF
      have qa96 : Q a96 := hm.1 _ _ _ q_p1 e97
      obtain ⟨n98, q99, hF⟩ := ar_s hG; clear hG
      obtain ⟨q100, hG⟩ := ck_s hF; clear hF
      obtain ⟨x101, -, hF⟩ := bnd_g hG; clear hG
      obtain ⟨n102, q103, hG⟩ := ar_s hF; clear hF
      obtain ⟨q104, hF⟩ := ck_s hG; clear hG
      obtain ⟨H105, eH105, hG⟩ := bnd_g hF; clear hF
      replace hm : Rg Q H H105 := hm.tr (by rw [eH105]; exact Rg.sD hm.1 qa93)
      have s_12 : Sa H H105 := by rw [eH105]; exact Sa.rf _
      exact hm.tr (ih l3 (l4 + 1) H105 r hG hm.1)
set_option maxRecDepth 20000 in
set_option maxHeartbeats 2000000 in
theorem gB_MWorld_spawns_24 {N : Nat} {Q : Nat → Prop} {p0 : Nat} {p1 : Nat} {p2 : Int32} (q_p0 : Q p0) (q_p1 : Q p1) {l3 : Int32} {H : Hp} {r : Int32 × Hp} (hF : B_MWorld_spawns_24 N p0 p1 p2 l3 H = some r) (hc0 : Cl Q H) : Rg Q H r.2 := by
  unfold B_MWorld_spawns_24 at hF
  have hm := Rg.rf hc0
  rcases ite_s hF with ⟨q_13, hG⟩ | ⟨q_13, hG⟩
  · clear hF
    have hr := Option.some.inj hG; subst hr
    exact hm
  · clear hF
    obtain ⟨q107, hF⟩ := ck_s hG; clear hG
    obtain ⟨a108, e109, hG⟩ := rf_s hF; clear hF
    have qa108 : Q a108 := hm.1 _ _ _ q_p0 e109
    obtain ⟨n110, q111, hF⟩ := ar_s hG; clear hG
    obtain ⟨q112, hG⟩ := ck_s hF; clear hF
    obtain ⟨H113, eH113, hF⟩ := bnd_g hG; clear hG
    replace hm : Rg Q H H113 := hm.tr (by rw [eH113]; exact Rg.sD hm.1 qa108)
    have s_14 : Sa H H113 := by rw [eH113]; exact Sa.rf _
    obtain ⟨a114, e115, hG⟩ := rf_s hF; clear hF
    have qa114 : Q a114 := hm.1 _ _ _ q_p0 e115
    obtain ⟨q116, hF⟩ := ck_s hG; clear hG
    rw [(s_14).1] at q116
    obtain ⟨a117, e118, hG⟩ := rf_s hF; clear hF
    have qa117 : Q a117 := hm.1 _ _ _ q_p1 e118
    obtain ⟨n119, q120, hF⟩ := ar_s hG; clear hG
    rw [(s_14).1] at q120
    obtain ⟨q121, hG⟩ := ck_s hF; clear hF
    obtain ⟨x122, -, hF⟩ := bnd_g hG; clear hG
    obtain ⟨n123, q124, hG⟩ := ar_s hF; clear hF
    rw [(s_14).1] at q124
    obtain ⟨q125, hF⟩ := ck_s hG; clear hG
    obtain ⟨H126, eH126, hG⟩ := bnd_g hF; clear hF
    replace hm : Rg Q H H126 := hm.tr (by rw [eH126]; exact Rg.sD hm.1 qa114)
    have s_15 : Sa H H126 := by rw [eH126]; exact s_14
    exact hm.tr (gB_MWorld_spawns_55 q_p0 q_p1 N l3 0 H126 r hG hm.1)
set_option maxRecDepth 20000 in
set_option maxHeartbeats 2000000 in
theorem gB_MWorld_spawns_2 {N : Nat} {Q : Nat → Prop} {p0 : Nat} {p1 : Nat} {p2 : Int32} (q_p0 : Q p0) (q_p1 : Q p1) : ∀ (n : Nat) (l3 : Int32) (H : Hp) (r : Int32 × Hp), B_MWorld_spawns_2 N p0 p1 p2 n l3 H = some r → Cl Q H → Rg Q H r.2 := by
  intro n
  induction n with
  | zero => intro l3 H r hF; rw [B_MWorld_spawns_2] at hF; cases hF
  | succ n ih =>
    intro l3 H r hF hc0
    rw [B_MWorld_spawns_2] at hF
    have hm := Rg.rf hc0
    rcases ite_s hF with ⟨q_16, hG⟩ | ⟨q_16, hG⟩
    · clear hF
      exact hm.tr (gB_MWorld_spawns_24 q_p0 q_p1 hG hm.1)
    · clear hF
      obtain ⟨q128, hF⟩ := ck_s hG; clear hG
      obtain ⟨a129, e130, hG⟩ := rf_s hF; clear hF
      have qa129 : Q a129 := hm.1 _ _ _ q_p0 e130
      obtain ⟨n131, q132, hF⟩ := ar_s hG; clear hG
      obtain ⟨q133, hG⟩ := ck_s hF; clear hF
      obtain ⟨x134, -, hF⟩ := bnd_g hG; clear hG
      rcases ite_s hF with ⟨q_17, hG⟩ | ⟨q_17, hG⟩
      · clear hF
        exact hm.tr (gB_MWorld_spawns_24 q_p0 q_p1 hG hm.1)
      · clear hF
        exact hm.tr (ih (l3 + 1) H r hG hm.1)
set_option maxRecDepth 20000 in
set_option maxHeartbeats 2000000 in
theorem g_MWorld_spawns {N : Nat} {Q : Nat → Prop} {p0 : Nat} {p1 : Nat} {p2 : Int32} {H : Hp} {r : Int32 × Hp} (hF : F_MWorld_spawns N p0 p1 p2 H = some r) (hc0 : Cl Q H) (q_p0 : Q p0) (q_p1 : Q p1) : Rg Q H r.2 := by
  unfold F_MWorld_spawns at hF
  have hm := Rg.rf hc0
  exact hm.tr (gB_MWorld_spawns_2 q_p0 q_p1 N 0 H r hF hm.1)
set_option maxRecDepth 20000 in
set_option maxHeartbeats 2000000 in
theorem g_MWorld_drops {N : Nat} {Q : Nat → Prop} {p0 : Nat} {p1 : Int32} {H : Hp} {r : Int32 × Hp} (hF : F_MWorld_drops N p0 p1 H = some r) (hc0 : Cl Q H) (q_p0 : Q p0) : Rg Q H r.2 := by
  unfold F_MWorld_drops at hF
  have hm := Rg.rf hc0
  obtain ⟨q51, hG⟩ := ck_s hF; clear hF
  obtain ⟨v53, H54, z52, hF⟩ := bC_s hG; clear hG
  have gz_10 := (g_MWorld_isAlive z52 hm.1 q_p0)
  replace hm : Rg Q H H54 := hm.tr gz_10
  have s_11 : Sa H H54 := (m_MWorld_isAlive z52)
  rcases ite_s hF with ⟨q_12, hG⟩ | ⟨q_12, hG⟩
  · clear hF
    have hr := Option.some.inj hG; subst hr
    exact hm
  · clear hF
    obtain ⟨a56, e57, hF⟩ := rf_s hG; clear hG
    have qa56 : Q a56 := hm.1 _ _ _ q_p0 e57
    obtain ⟨n58, q59, hG⟩ := ar_s hF; clear hF
    rw [(s_11).1] at q59
    obtain ⟨q60, hF⟩ := ck_s hG; clear hG
    obtain ⟨H61, eH61, hG⟩ := bnd_g hF; clear hF
    replace hm : Rg Q H H61 := hm.tr (by rw [eH61]; exact Rg.sD hm.1 qa56)
    have s_13 : Sa H H61 := by rw [eH61]; exact s_11
    obtain ⟨a62, e63, hF⟩ := rf_s hG; clear hG
    have qa62 : Q a62 := hm.1 _ _ _ q_p0 e63
    obtain ⟨n64, q65, hG⟩ := ar_s hF; clear hF
    rw [(s_13).1] at q65
    obtain ⟨q66, hF⟩ := ck_s hG; clear hG
    obtain ⟨H67, eH67, hG⟩ := bnd_g hF; clear hF
    replace hm : Rg Q H H67 := hm.tr (by rw [eH67]; exact Rg.sD hm.1 qa62)
    have s_14 : Sa H H67 := by rw [eH67]; exact s_13
    obtain ⟨a68, e69, hF⟩ := rf_s hG; clear hG
    have qa68 : Q a68 := hm.1 _ _ _ q_p0 e69
    obtain ⟨n70, q71, hG⟩ := ar_s hF; clear hF
    rw [(s_14).1] at q71
    obtain ⟨q72, hF⟩ := ck_s hG; clear hG
    obtain ⟨x73, -, hG⟩ := bnd_g hF; clear hF
    obtain ⟨q74, hF⟩ := ck_s hG; clear hG
    obtain ⟨H75, eH75, hG⟩ := bnd_g hF; clear hF
    replace hm : Rg Q H H75 := hm.tr (by rw [eH75]; exact Rg.sD hm.1 qa68)
    have s_15 : Sa H H75 := by rw [eH75]; exact s_14
    have hr := Option.some.inj hG; subst hr
    exact hm
set_option maxRecDepth 20000 in
set_option maxHeartbeats 2000000 in
theorem gB_MWorld_gives_43 {N : Nat} {Q : Nat → Prop} {p0 : Nat} {p1 : Nat} {p2 : Int32} {p3 : Int32} (q_p0 : Q p0) (q_p1 : Q p1) : ∀ (n : Nat) (l4 : Int32) (H : Hp) (r : Int32 × Hp), B_MWorld_gives_43 N p0 p1 p2 p3 n l4 H = some r → Cl Q H → Rg Q H r.2 := by
  intro n
  induction n with
  | zero => intro l4 H r hF; rw [B_MWorld_gives_43] at hF; cases hF
  | succ n ih =>
    intro l4 H r hF hc0
    rw [B_MWorld_gives_43] at hF
    have hm := Rg.rf hc0
    obtain ⟨q97, hG⟩ := ck_s hF; clear hF
    obtain ⟨a98, e99, hF⟩ := rf_s hG; clear hG
    have qa98 : Q a98 := hm.1 _ _ _ q_p1 e99
    obtain ⟨n100, q101, hG⟩ := ar_s hF; clear hF
    obtain ⟨q102, hF⟩ := ck_s hG; clear hG
    obtain ⟨x103, -, hG⟩ := bnd_g hF; clear hF
    rcases ite_s hG with ⟨q_14, hF⟩ | ⟨q_14, hF⟩
    · clear hG
      have hr := Option.some.inj hF; subst hr
      exact hm
    · clear hG
      obtain ⟨q105, hG⟩ := ck_s hF; clear hF
      obtain ⟨a106, e107, hF⟩ := rf_s hG; clear hG
      have qa106 : Q a106 := hm.1 _ _ _ q_p0 e107
      obtain ⟨a108, e109, hG⟩ := rf_s hF; clear hF
      have qa108 : Q a108 := hm.1 _ _ _ q_p1 e109
      obtain ⟨n110, q111, hF⟩ := ar_s hG; clear hG
      obtain ⟨q112, hG⟩ := ck_s hF; clear hF
      obtain ⟨x113, -, hF⟩ := bnd_g hG; clear hG
      obtain ⟨v115, H116, z114, hG⟩ := bC_s hF; clear hF
      have gz_15 := (g_M_first z114 hm.1)
      replace hm : Rg Q H H116 := hm.tr gz_15
      have s_16 : Sa H H116 := (m_M_first z114)
      obtain ⟨n117, q118, hF⟩ := ar_s hG; clear hG
      rw [(s_16).1] at q118
      obtain ⟨q119, hG⟩ := ck_s hF; clear hF
      obtain ⟨H120, eH120, hF⟩ := bnd_g hG; clear hG
      replace hm : Rg Q H H120 := hm.tr (by rw [eH120]; exact Rg.sD hm.1 qa106)
      have s_17 : Sa H H120 := by rw [eH120]; exact s_16
      exact hm.tr (ih (l4 + 1) H120 r hF hm.1)
set_option maxRecDepth 20000 in
set_option maxHeartbeats 2000000 in
theorem g_MWorld_gives {N : Nat} {Q : Nat → Prop} {p0 : Nat} {p1 : Nat} {p2 : Int32} {p3 : Int32} {H : Hp} {r : Int32 × Hp} (hF : F_MWorld_gives N p0 p1 p2 p3 H = some r) (hc0 : Cl Q H) (q_p0 : Q p0) (q_p1 : Q p1) : Rg Q H r.2 := by
  unfold F_MWorld_gives at hF
  have hm := Rg.rf hc0
  obtain ⟨q121, hG⟩ := ck_s hF; clear hF
  obtain ⟨v123, H124, z122, hF⟩ := bC_s hG; clear hG
  have gz_18 := (g_MWorld_isAlive z122 hm.1 q_p0)
  replace hm : Rg Q H H124 := hm.tr gz_18
  have s_19 : Sa H H124 := (m_MWorld_isAlive z122)
  rcases ite_s hF with ⟨q_20, hG⟩ | ⟨q_20, hG⟩
  · clear hF
    have hr := Option.some.inj hG; subst hr
    exact hm
  · clear hF
    obtain ⟨v127, H128, z126, hF⟩ := bC_s hG; clear hG
    have gz_21 := (g_MWorld_has z126 hm.1 q_p0)
    replace hm : Rg Q H H128 := hm.tr gz_21
    have s_22 : Sa H H128 := (s_19).tr (m_MWorld_has z126)
    rcases ite_s hF with ⟨q_23, hG⟩ | ⟨q_23, hG⟩
    · clear hF
      obtain ⟨a130, e131, hF⟩ := rf_s hG; clear hG
      have qa130 : Q a130 := hm.1 _ _ _ q_p0 e131
      obtain ⟨n132, q133, hG⟩ := ar_s hF; clear hF
      rw [(s_22).1] at q133
      obtain ⟨q134, hF⟩ := ck_s hG; clear hG
      obtain ⟨x135, -, hG⟩ := bnd_g hF; clear hF
      obtain ⟨q136, hF⟩ := ck_s hG; clear hG
      obtain ⟨H137, eH137, hG⟩ := bnd_g hF; clear hF
      replace hm : Rg Q H H137 := hm.tr (by rw [eH137]; exact Rg.sD hm.1 qa130)
      have s_24 : Sa H H137 := by rw [eH137]; exact s_22
      obtain ⟨q138, hF⟩ := ck_s hG; clear hG
      rw [(s_24).1] at q138
      obtain ⟨a139, e140, hG⟩ := rf_s hF; clear hF
      have qa139 : Q a139 := hm.1 _ _ _ q_p1 e140
      obtain ⟨n141, q142, hF⟩ := ar_s hG; clear hG
      rw [(s_24).1] at q142
      obtain ⟨q143, hG⟩ := ck_s hF; clear hF
      obtain ⟨x144, -, hF⟩ := bnd_g hG; clear hG
      exact hm.tr (gB_MWorld_gives_43 q_p0 q_p1 N x144 H137 r hF hm.1)
    · clear hF
      have hr := Option.some.inj hG; subst hr
      exact hm
set_option maxRecDepth 20000 in
set_option maxHeartbeats 2000000 in
theorem g_MWorld_takes {N : Nat} {Q : Nat → Prop} {p0 : Nat} {p1 : Int32} {p2 : Int32} {H : Hp} {r : Int32 × Hp} (hF : F_MWorld_takes N p0 p1 p2 H = some r) (hc0 : Cl Q H) (q_p0 : Q p0) : Rg Q H r.2 := by
  unfold F_MWorld_takes at hF
  have hm := Rg.rf hc0
  obtain ⟨q27, hG⟩ := ck_s hF; clear hF
  obtain ⟨v29, H30, z28, hF⟩ := bC_s hG; clear hG
  have gz_6 := (g_MWorld_has z28 hm.1 q_p0)
  replace hm : Rg Q H H30 := hm.tr gz_6
  have s_7 : Sa H H30 := (m_MWorld_has z28)
  rcases ite_s hF with ⟨q_8, hG⟩ | ⟨q_8, hG⟩
  · clear hF
    have hr := Option.some.inj hG; subst hr
    exact hm
  · clear hF
    obtain ⟨a32, e33, hF⟩ := rf_s hG; clear hG
    have qa32 : Q a32 := hm.1 _ _ _ q_p0 e33
    obtain ⟨n34, q35, hG⟩ := ar_s hF; clear hF
    rw [(s_7).1] at q35
    obtain ⟨q36, hF⟩ := ck_s hG; clear hG
    obtain ⟨x37, -, hG⟩ := bnd_g hF; clear hF
    obtain ⟨q38, hF⟩ := ck_s hG; clear hG
    obtain ⟨H39, eH39, hG⟩ := bnd_g hF; clear hF
    replace hm : Rg Q H H39 := hm.tr (by rw [eH39]; exact Rg.sD hm.1 qa32)
    have s_9 : Sa H H39 := by rw [eH39]; exact s_7
    have hr := Option.some.inj hG; subst hr
    exact hm
set_option maxRecDepth 20000 in
set_option maxHeartbeats 2000000 in
theorem gB_MRunner_acts_141 {N : Nat} {Q : Nat → Prop} {p0 : Nat} {p1 : Int32} (q_p0 : Q p0) {l4 : Int32} {H : Hp} {r : Int32 × Hp} (hF : B_MRunner_acts_141 N p0 p1 l4 H = some r) (hc0 : Cl Q H) : Rg Q H r.2 := by
  unfold B_MRunner_acts_141 at hF
  have hm := Rg.rf hc0
  rcases ite_s hF with ⟨q_32, hG⟩ | ⟨q_32, hG⟩
  · clear hF
    have hr := Option.some.inj hG; subst hr
    exact hm
  · clear hF
    have hr := Option.some.inj hG; subst hr
    exact hm
set_option maxRecDepth 20000 in
set_option maxHeartbeats 2000000 in
theorem gB_MRunner_acts_81 {N : Nat} {Q : Nat → Prop} {p0 : Nat} {p1 : Int32} (q_p0 : Q p0) : ∀ (n : Nat) (l3 : Int32) (l4 : Int32) (l5 : Int32) (H : Hp) (r : Int32 × Hp), B_MRunner_acts_81 N p0 p1 n l3 l4 l5 H = some r → Cl Q H → Rg Q H r.2 := by
  intro n
  induction n with
  | zero => intro l3 l4 l5 H r hF; rw [B_MRunner_acts_81] at hF; cases hF
  | succ n ih =>
    intro l3 l4 l5 H r hF hc0
    rw [B_MRunner_acts_81] at hF
    have hm := Rg.rf hc0
    rcases ite_s hF with ⟨q_33, hG⟩ | ⟨q_33, hG⟩
    · clear hF
      exact hm.tr (gB_MRunner_acts_141 q_p0 hG hm.1)
    · clear hF
      rcases ite_s hG with ⟨q_34, hF⟩ | ⟨q_34, hF⟩
      · clear hG
        exact hm.tr (gB_MRunner_acts_141 q_p0 hF hm.1)
      · clear hG
        obtain ⟨q300, hG⟩ := ck_s hF; clear hF
        obtain ⟨a301, e302, hF⟩ := rf_s hG; clear hG
        have qa301 : Q a301 := hm.1 _ _ _ q_p0 e302
        obtain ⟨q303, hG⟩ := ck_s hF; clear hF
        obtain ⟨a304, e305, hF⟩ := rf_s hG; clear hG
        have qa304 : Q a304 := hm.1 _ _ _ qa301 e305
        obtain ⟨a306, e307, hG⟩ := rf_s hF; clear hF
        have qa306 : Q a306 := hm.1 _ _ _ q_p0 e307
        obtain ⟨n308, q309, hF⟩ := ar_s hG; clear hG
        obtain ⟨q310, hG⟩ := ck_s hF; clear hF
        obtain ⟨x311, -, hF⟩ := bnd_g hG; clear hG
        obtain ⟨x312, -, hG⟩ := bnd_g hF; clear hF
        obtain ⟨a313, e314, hF⟩ := rf_s hG; clear hG
        have qa313 : Q a313 := hm.1 _ _ _ q_p0 e314
        obtain ⟨n315, q316, hG⟩ := ar_s hF; clear hF
        obtain ⟨q317, hF⟩ := ck_s hG; clear hG
        obtain ⟨x318, -, hG⟩ := bnd_g hF; clear hF
        obtain ⟨n319, q320, hF⟩ := ar_s hG; clear hG
        obtain ⟨q321, hG⟩ := ck_s hF; clear hF
        obtain ⟨H322, eH322, hF⟩ := bnd_g hG; clear hG
        replace hm : Rg Q H H322 := hm.tr (by rw [eH322]; exact Rg.sD hm.1 qa304)
        have s_35 : Sa H H322 := by rw [eH322]; exact Sa.rf _
        exact hm.tr (ih l3 l4 (l5 + 1) H322 r hF hm.1)
set_option maxRecDepth 20000 in
set_option maxHeartbeats 2000000 in
theorem g_MRunner_acts {N : Nat} {Q : Nat → Prop} {p0 : Nat} {p1 : Int32} {H : Hp} {r : Int32 × Hp} (hF : F_MRunner_acts N p0 p1 H = some r) (hc0 : Cl Q H) (q_p0 : Q p0) : Rg Q H r.2 := by
  unfold F_MRunner_acts at hF
  have hm := Rg.rf hc0
  obtain ⟨q323, hG⟩ := ck_s hF; clear hF
  obtain ⟨a324, e325, hF⟩ := rf_s hG; clear hG
  have qa324 : Q a324 := hm.1 _ _ _ q_p0 e325
  obtain ⟨n326, q327, hG⟩ := ar_s hF; clear hF
  obtain ⟨q328, hF⟩ := ck_s hG; clear hG
  obtain ⟨x329, -, hG⟩ := bnd_g hF; clear hF
  obtain ⟨a330, e331, hF⟩ := rf_s hG; clear hG
  have qa330 : Q a330 := hm.1 _ _ _ q_p0 e331
  obtain ⟨n332, q333, hG⟩ := ar_s hF; clear hF
  obtain ⟨q334, hF⟩ := ck_s hG; clear hG
  obtain ⟨x335, -, hG⟩ := bnd_g hF; clear hF
  obtain ⟨a336, e337, hF⟩ := rf_s hG; clear hG
  have qa336 : Q a336 := hm.1 _ _ _ q_p0 e337
  obtain ⟨n338, q339, hG⟩ := ar_s hF; clear hF
  obtain ⟨q340, hF⟩ := ck_s hG; clear hG
  obtain ⟨x341, -, hG⟩ := bnd_g hF; clear hF
  rcases ite_s hG with ⟨q_36, hF⟩ | ⟨q_36, hF⟩
  · clear hG
    obtain ⟨a343, e344, hG⟩ := rf_s hF; clear hF
    have qa343 : Q a343 := hm.1 _ _ _ q_p0 e344
    obtain ⟨a345, e346, hF⟩ := rf_s hG; clear hG
    have qa345 : Q a345 := hm.1 _ _ _ q_p0 e346
    obtain ⟨q347, hG⟩ := ck_s hF; clear hF
    obtain ⟨v349, H350, z348, hF⟩ := bC_s hG; clear hG
    have gz_37 := (g_MWorld_spawns z348 hm.1 qa343 qa345)
    replace hm : Rg Q H H350 := hm.tr gz_37
    have s_38 : Sa H H350 := (m_MWorld_spawns z348)
    exact hm.tr (gB_MRunner_acts_81 q_p0 N x335 v349 0 H350 r hF hm.1)
  clear hG
  rcases ite_s hF with ⟨q_39, hG⟩ | ⟨q_39, hG⟩
  · clear hF
    obtain ⟨a352, e353, hF⟩ := rf_s hG; clear hG
    have qa352 : Q a352 := hm.1 _ _ _ q_p0 e353
    obtain ⟨q354, hG⟩ := ck_s hF; clear hF
    obtain ⟨v356, H357, z355, hF⟩ := bC_s hG; clear hG
    have gz_40 := (g_MWorld_drops z355 hm.1 qa352)
    replace hm : Rg Q H H357 := hm.tr gz_40
    have s_41 : Sa H H357 := (m_MWorld_drops z355)
    obtain ⟨q358, hG⟩ := ck_s hF; clear hF
    have hr := Option.some.inj hG; subst hr
    exact hm
  clear hF
  rcases ite_s hG with ⟨q_42, hF⟩ | ⟨q_42, hF⟩
  · clear hG
    obtain ⟨a360, e361, hG⟩ := rf_s hF; clear hF
    have qa360 : Q a360 := hm.1 _ _ _ q_p0 e361
    obtain ⟨a362, e363, hF⟩ := rf_s hG; clear hG
    have qa362 : Q a362 := hm.1 _ _ _ q_p0 e363
    obtain ⟨q364, hG⟩ := ck_s hF; clear hF
    obtain ⟨v366, H367, z365, hF⟩ := bC_s hG; clear hG
    have gz_43 := (g_MWorld_gives z365 hm.1 qa360 qa362)
    replace hm : Rg Q H H367 := hm.tr gz_43
    have s_44 : Sa H H367 := (m_MWorld_gives z365)
    obtain ⟨q368, hG⟩ := ck_s hF; clear hF
    have hr := Option.some.inj hG; subst hr
    exact hm
  clear hG
  rcases ite_s hF with ⟨q_45, hG⟩ | ⟨q_45, hG⟩
  · clear hF
    obtain ⟨a370, e371, hF⟩ := rf_s hG; clear hG
    have qa370 : Q a370 := hm.1 _ _ _ q_p0 e371
    obtain ⟨q372, hG⟩ := ck_s hF; clear hF
    obtain ⟨v374, H375, z373, hF⟩ := bC_s hG; clear hG
    have gz_46 := (g_MWorld_takes z373 hm.1 qa370)
    replace hm : Rg Q H H375 := hm.tr gz_46
    have s_47 : Sa H H375 := (m_MWorld_takes z373)
    obtain ⟨q376, hG⟩ := ck_s hF; clear hF
    have hr := Option.some.inj hG; subst hr
    exact hm
  clear hF
  rcases ite_s hG with ⟨q_48, hF⟩ | ⟨q_48, hF⟩
  · clear hG
    obtain ⟨a378, e379, hG⟩ := rf_s hF; clear hF
    have qa378 : Q a378 := hm.1 _ _ _ q_p0 e379
    obtain ⟨q380, hF⟩ := ck_s hG; clear hG
    obtain ⟨v382, H383, z381, hG⟩ := bC_s hF; clear hF
    have gz_49 := (g_MWorld_has z381 hm.1 qa378)
    replace hm : Rg Q H H383 := hm.tr gz_49
    have s_50 : Sa H H383 := (m_MWorld_has z381)
    rcases ite_s hG with ⟨q_51, hF⟩ | ⟨q_51, hF⟩
    · clear hG
      have hr := Option.some.inj hF; subst hr
      exact hm
    · clear hG
      obtain ⟨a385, e386, hG⟩ := rf_s hF; clear hF
      have qa385 : Q a385 := hm.1 _ _ _ q_p0 e386
      obtain ⟨q387, hF⟩ := ck_s hG; clear hG
      rw [(s_50).1] at q387
      obtain ⟨a388, e389, hG⟩ := rf_s hF; clear hF
      have qa388 : Q a388 := hm.1 _ _ _ qa385 e389
      obtain ⟨a390, e391, hF⟩ := rf_s hG; clear hG
      have qa390 : Q a390 := hm.1 _ _ _ q_p0 e391
      obtain ⟨n392, q393, hG⟩ := ar_s hF; clear hF
      rw [(s_50).1] at q393
      obtain ⟨q394, hF⟩ := ck_s hG; clear hG
      obtain ⟨x395, -, hG⟩ := bnd_g hF; clear hF
      obtain ⟨a396, e397, hF⟩ := rf_s hG; clear hG
      have qa396 : Q a396 := hm.1 _ _ _ q_p0 e397
      obtain ⟨n398, q399, hG⟩ := ar_s hF; clear hF
      rw [(s_50).1] at q399
      obtain ⟨q400, hF⟩ := ck_s hG; clear hG
      obtain ⟨x401, -, hG⟩ := bnd_g hF; clear hF
      obtain ⟨n402, q403, hF⟩ := ar_s hG; clear hG
      rw [(s_50).1] at q403
      obtain ⟨q404, hG⟩ := ck_s hF; clear hF
      obtain ⟨H405, eH405, hF⟩ := bnd_g hG; clear hG
      replace hm : Rg Q H H405 := hm.tr (by rw [eH405]; exact Rg.sD hm.1 qa388)
      have s_52 : Sa H H405 := by rw [eH405]; exact s_50
      have hr := Option.some.inj hF; subst hr
      exact hm
  clear hG
  rcases ite_s hF with ⟨q_53, hG⟩ | ⟨q_53, hG⟩
  · clear hF
    obtain ⟨a407, e408, hF⟩ := rf_s hG; clear hG
    have qa407 : Q a407 := hm.1 _ _ _ q_p0 e408
    obtain ⟨a409, e410, hG⟩ := rf_s hF; clear hF
    have qa409 : Q a409 := hm.1 _ _ _ q_p0 e410
    obtain ⟨n411, q412, hF⟩ := ar_s hG; clear hG
    obtain ⟨q413, hG⟩ := ck_s hF; clear hF
    obtain ⟨x414, -, hF⟩ := bnd_g hG; clear hG
    obtain ⟨a415, e416, hG⟩ := rf_s hF; clear hF
    have qa415 : Q a415 := hm.1 _ _ _ q_p0 e416
    obtain ⟨q417, hF⟩ := ck_s hG; clear hG
    obtain ⟨v419, H420, z418, hG⟩ := bC_s hF; clear hF
    have gz_54 := (g_MWorld_pends z418 hm.1 qa407 qa415)
    replace hm : Rg Q H H420 := hm.tr gz_54
    have s_55 : Sa H H420 := (m_MWorld_pends z418)
    obtain ⟨q421, hF⟩ := ck_s hG; clear hG
    have hr := Option.some.inj hF; subst hr
    exact hm
  clear hF
  obtain ⟨a422, e423, hF⟩ := rf_s hG; clear hG
  have qa422 : Q a422 := hm.1 _ _ _ q_p0 e423
  obtain ⟨q424, hG⟩ := ck_s hF; clear hF
  obtain ⟨x425, -, hF⟩ := bnd_g hG; clear hG
  rcases ite_s hF with ⟨q_56, hG⟩ | ⟨q_56, hG⟩
  · clear hF
    have hr := Option.some.inj hG; subst hr
    exact hm
  · clear hF
    obtain ⟨a427, e428, hF⟩ := rf_s hG; clear hG
    have qa427 : Q a427 := hm.1 _ _ _ q_p0 e428
    obtain ⟨q429, hG⟩ := ck_s hF; clear hF
    obtain ⟨a430, e431, hF⟩ := rf_s hG; clear hG
    have qa430 : Q a430 := hm.1 _ _ _ qa427 e431
    obtain ⟨a432, e433, hG⟩ := rf_s hF; clear hF
    have qa432 : Q a432 := hm.1 _ _ _ q_p0 e433
    obtain ⟨q434, hF⟩ := ck_s hG; clear hG
    obtain ⟨x435, -, hG⟩ := bnd_g hF; clear hF
    obtain ⟨n436, q437, hF⟩ := ar_s hG; clear hG
    obtain ⟨q438, hG⟩ := ck_s hF; clear hF
    obtain ⟨H439, eH439, hF⟩ := bnd_g hG; clear hG
    replace hm : Rg Q H H439 := hm.tr (by rw [eH439]; exact Rg.sD hm.1 qa430)
    have s_57 : Sa H H439 := by rw [eH439]; exact Sa.rf _
    obtain ⟨a440, e441, hG⟩ := rf_s hF; clear hF
    have qa440 : Q a440 := hm.1 _ _ _ q_p0 e441
    obtain ⟨q442, hF⟩ := ck_s hG; clear hG
    rw [(s_57).1] at q442
    obtain ⟨x443, -, hG⟩ := bnd_g hF; clear hF
    obtain ⟨H444, eH444, hF⟩ := bnd_g hG; clear hG
    replace hm : Rg Q H H444 := hm.tr (by rw [eH444]; exact Rg.sD hm.1 qa440)
    have s_58 : Sa H H444 := by rw [eH444]; exact s_57
    have hr := Option.some.inj hF; subst hr
    exact hm
set_option maxRecDepth 20000 in
set_option maxHeartbeats 2000000 in
theorem gB_MWorld_clears_38 {N : Nat} {Q : Nat → Prop} {p0 : Nat} {kq4 : Int32 → Int32 → Hp → Option (Unit × Hp)} (q_p0 : Q p0) (hg4 : ∀ (l1 : Int32) (l2 : Int32) (H : Hp) (r : Unit × Hp), kq4 l1 l2 H = some r → Cl Q H → Rg Q H r.2) {l1 : Int32} {l2 : Int32} {H : Hp} {r : Unit × Hp} (hF : B_MWorld_clears_38 N p0 kq4 l1 l2 H = some r) (hc0 : Cl Q H) : Rg Q H r.2 := by
  unfold B_MWorld_clears_38 at hF
  have hm := Rg.rf hc0
  exact hm.tr (hg4 l1 (l2 + 1) H r hF hm.1)
set_option maxRecDepth 20000 in
set_option maxHeartbeats 2000000 in
theorem gB_MWorld_clears_4 {N : Nat} {Q : Nat → Prop} {p0 : Nat} (q_p0 : Q p0) : ∀ (n : Nat) (l1 : Int32) (l2 : Int32) (H : Hp) (r : Unit × Hp), B_MWorld_clears_4 N p0 n l1 l2 H = some r → Cl Q H → Rg Q H r.2 := by
  intro n
  induction n with
  | zero => intro l1 l2 H r hF; rw [B_MWorld_clears_4] at hF; cases hF
  | succ n ih =>
    intro l1 l2 H r hF hc0
    rw [B_MWorld_clears_4] at hF
    have hm := Rg.rf hc0
    obtain ⟨q31, hG⟩ := ck_s hF; clear hF
    obtain ⟨x32, -, hF⟩ := bnd_g hG; clear hG
    rcases ite_s hF with ⟨q_7, hG⟩ | ⟨q_7, hG⟩
    · clear hF
      obtain ⟨H34, eH34, hF⟩ := bnd_g hG; clear hG
      replace hm : Rg Q H H34 := hm.tr (by rw [eH34]; exact Rg.sD hm.1 q_p0)
      have s_8 : Sa H H34 := by rw [eH34]; exact Sa.rf _
      have hr := Option.some.inj hF; subst hr
      exact hm
    · clear hF
      obtain ⟨a35, e36, hF⟩ := rf_s hG; clear hG
      have qa35 : Q a35 := hm.1 _ _ _ q_p0 e36
      obtain ⟨n37, q38, hG⟩ := ar_s hF; clear hF
      obtain ⟨q39, hF⟩ := ck_s hG; clear hG
      obtain ⟨x40, -, hG⟩ := bnd_g hF; clear hF
      obtain ⟨x41, -, hF⟩ := bnd_g hG; clear hG
      rcases ite_s hF with ⟨q_9, hG⟩ | ⟨q_9, hG⟩
      · clear hF
        exact hm.tr (gB_MWorld_clears_38 q_p0 ih hG hm.1)
      · clear hF
        obtain ⟨v44, H45, z43, hF⟩ := bC_s hG; clear hG
        have gz_10 := (g_MWorld_moves z43 hm.1 q_p0 q_p0)
        replace hm : Rg Q H H45 := hm.tr gz_10
        have s_11 : Sa H H45 := (m_MWorld_moves z43)
        exact hm.tr (gB_MWorld_clears_38 q_p0 ih hF hm.1)
set_option maxRecDepth 20000 in
set_option maxHeartbeats 2000000 in
theorem g_MWorld_clears {N : Nat} {Q : Nat → Prop} {p0 : Nat} {H : Hp} {r : Unit × Hp} (hF : F_MWorld_clears N p0 H = some r) (hc0 : Cl Q H) (q_p0 : Q p0) : Rg Q H r.2 := by
  unfold F_MWorld_clears at hF
  have hm := Rg.rf hc0
  exact hm.tr (gB_MWorld_clears_4 q_p0 N 0 0 H r hF hm.1)
set_option maxRecDepth 20000 in
set_option maxHeartbeats 2000000 in
theorem gB_MRunner_tick_174 {N : Nat} {Q : Nat → Prop} {p0 : Nat} {p1 : Nat} {p2 : Nat} {p3 : Nat} {kq47 : Int32 → Hp → Option (Unit × Hp)} {kq140 : Int32 → Int32 → Hp → Option (Unit × Hp)} (q_p0 : Q p0) (q_p1 : Q p1) (q_p2 : Q p2) (q_p3 : Q p3) (hg47 : ∀ (l4 : Int32) (H : Hp) (r : Unit × Hp), kq47 l4 H = some r → Cl Q H → Rg Q H r.2) (hg140 : ∀ (l4 : Int32) (l6 : Int32) (H : Hp) (r : Unit × Hp), kq140 l4 l6 H = some r → Cl Q H → Rg Q H r.2) {l4 : Int32} {l6 : Int32} {w0 : Nat} {w1 : Int32} {w2 : Int32} {H : Hp} {r : Unit × Hp} (hF : B_MRunner_tick_174 N p0 p1 p2 p3 kq47 kq140 l4 l6 w0 w1 w2 H = some r) (hc0 : Cl Q H) (q_w0 : Q w0) : Rg Q H r.2 := by
  unfold B_MRunner_tick_174 at hF
  have hm := Rg.rf hc0
  obtain ⟨q141, hG⟩ := ck_s hF; clear hF
  obtain ⟨H142, eH142, hF⟩ := bnd_g hG; clear hG
  replace hm : Rg Q H H142 := hm.tr (by rw [eH142]; exact Rg.sD hm.1 q_w0)
  have s_32 : Sa H H142 := by rw [eH142]; exact Sa.rf _
  exact hm.tr (hg140 l4 (l6 + 1) H142 r hF hm.1)
set_option maxRecDepth 20000 in
set_option maxHeartbeats 2000000 in
theorem gB_MRunner_tick_140 {N : Nat} {Q : Nat → Prop} {p0 : Nat} {p1 : Nat} {p2 : Nat} {p3 : Nat} {kq47 : Int32 → Hp → Option (Unit × Hp)} (q_p0 : Q p0) (q_p1 : Q p1) (q_p2 : Q p2) (q_p3 : Q p3) (hg47 : ∀ (l4 : Int32) (H : Hp) (r : Unit × Hp), kq47 l4 H = some r → Cl Q H → Rg Q H r.2) : ∀ (n : Nat) (l4 : Int32) (l6 : Int32) (H : Hp) (r : Unit × Hp), B_MRunner_tick_140 N p0 p1 p2 p3 kq47 n l4 l6 H = some r → Cl Q H → Rg Q H r.2 := by
  intro n
  induction n with
  | zero => intro l4 l6 H r hF; rw [B_MRunner_tick_140] at hF; cases hF
  | succ n ih =>
    intro l4 l6 H r hF hc0
    rw [B_MRunner_tick_140] at hF
    have hm := Rg.rf hc0
    obtain ⟨q143, hG⟩ := ck_s hF; clear hF
    obtain ⟨x144, -, hF⟩ := bnd_g hG; clear hG
    rcases ite_s hF with ⟨q_33, hG⟩ | ⟨q_33, hG⟩
    · clear hF
      exact hm.tr (hg47 l4 H r hG hm.1)
    · clear hF
      obtain ⟨a146, e147, hF⟩ := rf_s hG; clear hG
      have qa146 : Q a146 := hm.1 _ _ _ q_p0 e147
      obtain ⟨q148, hG⟩ := ck_s hF; clear hF
      obtain ⟨x149, -, hF⟩ := bnd_g hG; clear hG
      obtain ⟨v151, H152, z150, hG⟩ := bC_s hF; clear hF
      have gz_34 := (g_MRunner_acts z150 hm.1 q_p0)
      replace hm : Rg Q H H152 := hm.tr gz_34
      have s_35 : Sa H H152 := (m_MRunner_acts z150)
      rcases ite_s hG with ⟨q_36, hF⟩ | ⟨q_36, hF⟩
      · clear hG
        exact hm.tr (gB_MRunner_tick_174 q_p0 q_p1 q_p2 q_p3 hg47 ih hF hm.1 qa146)
      · clear hG
        exact hm.tr (gB_MRunner_tick_174 q_p0 q_p1 q_p2 q_p3 hg47 ih hF hm.1 qa146)
set_option maxRecDepth 20000 in
set_option maxHeartbeats 2000000 in
theorem gB_MRunner_tick_137 {N : Nat} {Q : Nat → Prop} {p0 : Nat} {p1 : Nat} {p2 : Nat} {p3 : Nat} {kq47 : Int32 → Hp → Option (Unit × Hp)} (q_p0 : Q p0) (q_p1 : Q p1) (q_p2 : Q p2) (q_p3 : Q p3) (hg47 : ∀ (l4 : Int32) (H : Hp) (r : Unit × Hp), kq47 l4 H = some r → Cl Q H → Rg Q H r.2) {l4 : Int32} {H : Hp} {r : Unit × Hp} (hF : B_MRunner_tick_137 N p0 p1 p2 p3 kq47 l4 H = some r) (hc0 : Cl Q H) : Rg Q H r.2 := by
  unfold B_MRunner_tick_137 at hF
  have hm := Rg.rf hc0
  exact hm.tr (gB_MRunner_tick_140 q_p0 q_p1 q_p2 q_p3 hg47 N l4 0 H r hF hm.1)
set_option maxRecDepth 20000 in
set_option maxHeartbeats 2000000 in
theorem gB_MRunner_tick_125 {N : Nat} {Q : Nat → Prop} {p0 : Nat} {p1 : Nat} {p2 : Nat} {p3 : Nat} {kq47 : Int32 → Hp → Option (Unit × Hp)} {kq70 : Int32 → Int32 → Hp → Option (Unit × Hp)} {kq94 : Int32 → Int32 → Int32 → Hp → Option (Unit × Hp)} (q_p0 : Q p0) (q_p1 : Q p1) (q_p2 : Q p2) (q_p3 : Q p3) (hg47 : ∀ (l4 : Int32) (H : Hp) (r : Unit × Hp), kq47 l4 H = some r → Cl Q H → Rg Q H r.2) (hg70 : ∀ (l4 : Int32) (l5 : Int32) (H : Hp) (r : Unit × Hp), kq70 l4 l5 H = some r → Cl Q H → Rg Q H r.2) (hg94 : ∀ (l4 : Int32) (l5 : Int32) (l6 : Int32) (H : Hp) (r : Unit × Hp), kq94 l4 l5 l6 H = some r → Cl Q H → Rg Q H r.2) {l4 : Int32} {l5 : Int32} {l6 : Int32} {H : Hp} {r : Unit × Hp} (hF : B_MRunner_tick_125 N p0 p1 p2 p3 kq47 kq70 kq94 l4 l5 l6 H = some r) (hc0 : Cl Q H) : Rg Q H r.2 := by
  unfold B_MRunner_tick_125 at hF
  have hm := Rg.rf hc0
  exact hm.tr (hg94 l4 l5 (l6 + 1) H r hF hm.1)
set_option maxRecDepth 20000 in
set_option maxHeartbeats 2000000 in
theorem gB_MRunner_tick_94 {N : Nat} {Q : Nat → Prop} {p0 : Nat} {p1 : Nat} {p2 : Nat} {p3 : Nat} {kq47 : Int32 → Hp → Option (Unit × Hp)} {kq70 : Int32 → Int32 → Hp → Option (Unit × Hp)} (q_p0 : Q p0) (q_p1 : Q p1) (q_p2 : Q p2) (q_p3 : Q p3) (hg47 : ∀ (l4 : Int32) (H : Hp) (r : Unit × Hp), kq47 l4 H = some r → Cl Q H → Rg Q H r.2) (hg70 : ∀ (l4 : Int32) (l5 : Int32) (H : Hp) (r : Unit × Hp), kq70 l4 l5 H = some r → Cl Q H → Rg Q H r.2) : ∀ (n : Nat) (l4 : Int32) (l5 : Int32) (l6 : Int32) (H : Hp) (r : Unit × Hp), B_MRunner_tick_94 N p0 p1 p2 p3 kq47 kq70 n l4 l5 l6 H = some r → Cl Q H → Rg Q H r.2 := by
  intro n
  induction n with
  | zero => intro l4 l5 l6 H r hF; rw [B_MRunner_tick_94] at hF; cases hF
  | succ n ih =>
    intro l4 l5 l6 H r hF hc0
    rw [B_MRunner_tick_94] at hF
    have hm := Rg.rf hc0
    rcases ite_s hF with ⟨q_37, hG⟩ | ⟨q_37, hG⟩
    · clear hF
      exact hm.tr (hg70 (l4 + 1) l5 H r hG hm.1)
    · clear hF
      obtain ⟨q155, hF⟩ := ck_s hG; clear hG
      obtain ⟨a156, e157, hG⟩ := rf_s hF; clear hF
      have qa156 : Q a156 := hm.1 _ _ _ q_p0 e157
      obtain ⟨q158, hF⟩ := ck_s hG; clear hG
      obtain ⟨v160, H161, z159, hG⟩ := bC_s hF; clear hF
      have gz_38 := (g_MText_isRow z159 hm.1 q_p1 qa156)
      replace hm : Rg Q H H161 := hm.tr gz_38
      have s_39 : Sa H H161 := (m_MText_isRow z159)
      rcases ite_s hG with ⟨q_40, hF⟩ | ⟨q_40, hF⟩
      · clear hG
        exact hm.tr (gB_MRunner_tick_125 q_p0 q_p1 q_p2 q_p3 hg47 hg70 ih hF hm.1)
      · clear hG
        obtain ⟨v164, H165, z163, hG⟩ := bC_s hF; clear hF
        have gz_41 := (g_MRunner_row z163 hm.1 q_p0)
        replace hm : Rg Q H H165 := hm.tr gz_41
        have s_42 : Sa H H165 := (s_39).tr (m_MRunner_row z163)
        exact hm.tr (gB_MRunner_tick_125 q_p0 q_p1 q_p2 q_p3 hg47 hg70 ih hG hm.1)
set_option maxRecDepth 20000 in
set_option maxHeartbeats 2000000 in
theorem gB_MRunner_tick_70 {N : Nat} {Q : Nat → Prop} {p0 : Nat} {p1 : Nat} {p2 : Nat} {p3 : Nat} {kq47 : Int32 → Hp → Option (Unit × Hp)} (q_p0 : Q p0) (q_p1 : Q p1) (q_p2 : Q p2) (q_p3 : Q p3) (hg47 : ∀ (l4 : Int32) (H : Hp) (r : Unit × Hp), kq47 l4 H = some r → Cl Q H → Rg Q H r.2) : ∀ (n : Nat) (l4 : Int32) (l5 : Int32) (H : Hp) (r : Unit × Hp), B_MRunner_tick_70 N p0 p1 p2 p3 kq47 n l4 l5 H = some r → Cl Q H → Rg Q H r.2 := by
  intro n
  induction n with
  | zero => intro l4 l5 H r hF; rw [B_MRunner_tick_70] at hF; cases hF
  | succ n ih =>
    intro l4 l5 H r hF hc0
    rw [B_MRunner_tick_70] at hF
    have hm := Rg.rf hc0
    obtain ⟨q166, hG⟩ := ck_s hF; clear hF
    obtain ⟨x167, -, hF⟩ := bnd_g hG; clear hG
    rcases ite_s hF with ⟨q_43, hG⟩ | ⟨q_43, hG⟩
    · clear hF
      exact hm.tr (gB_MRunner_tick_137 q_p0 q_p1 q_p2 q_p3 hg47 hG hm.1)
    · clear hF
      obtain ⟨a169, e170, hF⟩ := rf_s hG; clear hG
      have qa169 : Q a169 := hm.1 _ _ _ q_p1 e170
      obtain ⟨n171, q172, hG⟩ := ar_s hF; clear hF
      obtain ⟨q173, hF⟩ := ck_s hG; clear hG
      obtain ⟨x174, -, hG⟩ := bnd_g hF; clear hF
      rcases ite_s hG with ⟨q_44, hF⟩ | ⟨q_44, hF⟩
      · clear hG
        exact hm.tr (gB_MRunner_tick_94 q_p0 q_p1 q_p2 q_p3 hg47 ih N l4 l5 0 H r hF hm.1)
      · clear hG
        exact hm.tr (gB_MRunner_tick_137 q_p0 q_p1 q_p2 q_p3 hg47 hF hm.1)
set_option maxRecDepth 20000 in
set_option maxHeartbeats 2000000 in
theorem gB_MRunner_tick_47 {N : Nat} {Q : Nat → Prop} {p0 : Nat} {p1 : Nat} {p2 : Nat} {p3 : Nat} (q_p0 : Q p0) (q_p1 : Q p1) (q_p2 : Q p2) (q_p3 : Q p3) : ∀ (n : Nat) (l4 : Int32) (H : Hp) (r : Unit × Hp), B_MRunner_tick_47 N p0 p1 p2 p3 n l4 H = some r → Cl Q H → Rg Q H r.2 := by
  intro n
  induction n with
  | zero => intro l4 H r hF; rw [B_MRunner_tick_47] at hF; cases hF
  | succ n ih =>
    intro l4 H r hF hc0
    rw [B_MRunner_tick_47] at hF
    have hm := Rg.rf hc0
    obtain ⟨q176, hG⟩ := ck_s hF; clear hF
    obtain ⟨x177, -, hF⟩ := bnd_g hG; clear hG
    rcases ite_s hF with ⟨q_45, hG⟩ | ⟨q_45, hG⟩
    · clear hF
      obtain ⟨q179, hF⟩ := ck_s hG; clear hG
      obtain ⟨a180, e181, hG⟩ := rf_s hF; clear hF
      have qa180 : Q a180 := hm.1 _ _ _ q_p0 e181
      obtain ⟨q182, hF⟩ := ck_s hG; clear hG
      obtain ⟨v184, H185, z183, hG⟩ := bC_s hF; clear hF
      have gz_46 := (g_MWorld_clears z183 hm.1 qa180)
      replace hm : Rg Q H H185 := hm.tr gz_46
      have s_47 : Sa H H185 := (m_MWorld_clears z183)
      have hr := Option.some.inj hG; subst hr
      exact hm
    · clear hF
      obtain ⟨a186, e187, hF⟩ := rf_s hG; clear hG
      have qa186 : Q a186 := hm.1 _ _ _ q_p1 e187
      obtain ⟨n188, q189, hG⟩ := ar_s hF; clear hF
      obtain ⟨q190, hF⟩ := ck_s hG; clear hG
      obtain ⟨x191, -, hG⟩ := bnd_g hF; clear hF
      obtain ⟨q192, hF⟩ := ck_s hG; clear hG
      obtain ⟨H193, eH193, hG⟩ := bnd_g hF; clear hF
      replace hm : Rg Q H H193 := hm.tr (by rw [eH193]; exact Rg.sD hm.1 q_p0)
      have s_48 : Sa H H193 := by rw [eH193]; exact Sa.rf _
      exact hm.tr (gB_MRunner_tick_70 q_p0 q_p1 q_p2 q_p3 ih N l4 x191 H193 r hG hm.1)
set_option maxRecDepth 20000 in
set_option maxHeartbeats 2000000 in
theorem g_MRunner_tick {N : Nat} {Q : Nat → Prop} {p0 : Nat} {p1 : Nat} {p2 : Nat} {p3 : Nat} {H : Hp} {r : Unit × Hp} (hF : F_MRunner_tick N p0 p1 p2 p3 H = some r) (hc0 : Cl Q H) (q_p0 : Q p0) (q_p1 : Q p1) (q_p2 : Q p2) (q_p3 : Q p3) : Rg Q H r.2 := by
  unfold F_MRunner_tick at hF
  have hm := Rg.rf hc0
  obtain ⟨q194, hG⟩ := ck_s hF; clear hF
  obtain ⟨H195, eH195, hF⟩ := bnd_g hG; clear hG
  replace hm : Rg Q H H195 := hm.tr (by rw [eH195]; exact Rg.sP hm.1 q_p0 (is_rf q_p1) q194 rfl)
  have s_49 : Sa H H195 := by rw [eH195]; exact Sa.rf _
  obtain ⟨H196, eH196, hG⟩ := bnd_g hF; clear hF
  replace hm : Rg Q H H196 := hm.tr (by rw [eH196]; exact Rg.sP hm.1 q_p0 (is_rf q_p2) (by rw [(s_49).1]; exact q194) rfl)
  have s_50 : Sa H H196 := by rw [eH196]; exact s_49
  obtain ⟨H197, eH197, hF⟩ := bnd_g hG; clear hG
  replace hm : Rg Q H H197 := hm.tr (by rw [eH197]; exact Rg.sP hm.1 q_p0 (is_rf q_p3) (by rw [(s_50).1]; exact q194) rfl)
  have s_51 : Sa H H197 := by rw [eH197]; exact s_50
  obtain ⟨a198, e199, hG⟩ := rf_s hF; clear hF
  have qa198 : Q a198 := hm.1 _ _ _ q_p0 e199
  obtain ⟨q200, hF⟩ := ck_s hG; clear hG
  rw [(s_51).1] at q200
  obtain ⟨x201, -, hG⟩ := bnd_g hF; clear hF
  obtain ⟨H202, eH202, hF⟩ := bnd_g hG; clear hG
  replace hm : Rg Q H H202 := hm.tr (by rw [eH202]; exact Rg.sD hm.1 qa198)
  have s_52 : Sa H H202 := by rw [eH202]; exact s_51
  obtain ⟨a203, e204, hG⟩ := rf_s hF; clear hF
  have qa203 : Q a203 := hm.1 _ _ _ q_p0 e204
  obtain ⟨q205, hF⟩ := ck_s hG; clear hG
  rw [(s_52).1] at q205
  obtain ⟨H206, eH206, hG⟩ := bnd_g hF; clear hF
  replace hm : Rg Q H H206 := hm.tr (by rw [eH206]; exact Rg.sD hm.1 qa203)
  have s_53 : Sa H H206 := by rw [eH206]; exact s_52
  obtain ⟨a207, e208, hF⟩ := rf_s hG; clear hG
  have qa207 : Q a207 := hm.1 _ _ _ q_p0 e208
  obtain ⟨q209, hG⟩ := ck_s hF; clear hF
  rw [(s_53).1] at q209
  obtain ⟨H210, eH210, hF⟩ := bnd_g hG; clear hG
  replace hm : Rg Q H H210 := hm.tr (by rw [eH210]; exact Rg.sD hm.1 qa207)
  have s_54 : Sa H H210 := by rw [eH210]; exact s_53
  exact hm.tr (gB_MRunner_tick_47 q_p0 q_p1 q_p2 q_p3 N 0 H210 r hF hm.1)
set_option maxRecDepth 20000 in
set_option maxHeartbeats 2000000 in
theorem g_M_runs {N : Nat} {Q : Nat → Prop} {p0 : Nat} {p1 : Nat} {H : Hp} {r : Unit × Hp} (hF : F_M_runs N p0 p1 H = some r) (hc0 : Cl Q H) (q_p0 : Q p0) (q_p1 : Q p1) : Rg Q H r.2 := by
  unfold F_M_runs at hF
  have hm := Rg.rf hc0
  obtain ⟨q33, hG⟩ := ck_s hF; clear hF
  obtain ⟨x34, -, hF⟩ := bnd_g hG; clear hG
  obtain ⟨q35, hG⟩ := ck_s hF; clear hF
  obtain ⟨v37, H38, z36, hF⟩ := bC_s hG; clear hG
  have gz_5 := (g_M_bitsOf z36 hm.1 q_p0)
  replace hm : Rg Q H H38 := hm.tr gz_5
  have s_6 : Sa H H38 := (m_M_bitsOf z36)
  obtain ⟨a39, e40, hG⟩ := rf_s hF; clear hF
  have qa39 : Q a39 := hm.1 _ _ _ q_p0 e40
  obtain ⟨a41, e42, hF⟩ := rf_s hG; clear hG
  have qa41 : Q a41 := hm.1 _ _ _ q_p0 e42
  obtain ⟨a43, e44, hG⟩ := rf_s hF; clear hF
  have qa43 : Q a43 := hm.1 _ _ _ q_p0 e44
  obtain ⟨q45, hF⟩ := ck_s hG; clear hG
  rw [(s_6).1] at q45
  obtain ⟨v47, H48, z46, hG⟩ := bC_s hF; clear hF
  have gz_7 := (g_MRunner_tick z46 hm.1 qa39 qa41 q_p1 qa43)
  replace hm : Rg Q H H48 := hm.tr gz_7
  have s_8 : Sa H H48 := (s_6).tr (m_MRunner_tick z46)
  have hr := Option.some.inj hG; subst hr
  exact hm
set_option maxRecDepth 20000 in
set_option maxHeartbeats 2000000 in
theorem gB_M_confirms_188 {N : Nat} {Q : Nat → Prop} {p0 : Nat} {kq2 : Int32 → Hp → Option (Unit × Hp)} {kq152 : Int32 → Int32 → Int32 → Hp → Option (Unit × Hp)} (q_p0 : Q p0) (hg2 : ∀ (l1 : Int32) (H : Hp) (r : Unit × Hp), kq2 l1 H = some r → Cl Q H → Rg Q H r.2) (hg152 : ∀ (l1 : Int32) (l2 : Int32) (l3 : Int32) (H : Hp) (r : Unit × Hp), kq152 l1 l2 l3 H = some r → Cl Q H → Rg Q H r.2) {l1 : Int32} {l2 : Int32} {l3 : Int32} {H : Hp} {r : Unit × Hp} (hF : B_M_confirms_188 N p0 kq2 kq152 l1 l2 l3 H = some r) (hc0 : Cl Q H) : Rg Q H r.2 := by
  unfold B_M_confirms_188 at hF
  have hm := Rg.rf hc0
  obtain ⟨q209, hG⟩ := ck_s hF; clear hF
  obtain ⟨a210, e211, hF⟩ := rf_s hG; clear hG
  have qa210 : Q a210 := hm.1 _ _ _ q_p0 e211
  obtain ⟨v213, H214, z212, hG⟩ := bC_s hF; clear hF
  have gz_29 := (g_M_slot z212 hm.1 q_p0)
  replace hm : Rg Q H H214 := hm.tr gz_29
  have s_30 : Sa H H214 := (m_M_slot z212)
  obtain ⟨n215, q216, hF⟩ := ar_s hG; clear hG
  rw [(s_30).1] at q216
  obtain ⟨q217, hG⟩ := ck_s hF; clear hF
  obtain ⟨H218, eH218, hF⟩ := bnd_g hG; clear hG
  replace hm : Rg Q H H218 := hm.tr (by rw [eH218]; exact Rg.sD hm.1 qa210)
  have s_31 : Sa H H218 := by rw [eH218]; exact s_30
  exact hm.tr (hg152 l1 l2 (l3 + 1) H218 r hF hm.1)
set_option maxRecDepth 20000 in
set_option maxHeartbeats 2000000 in
theorem gB_M_confirms_152 {N : Nat} {Q : Nat → Prop} {p0 : Nat} {kq2 : Int32 → Hp → Option (Unit × Hp)} (q_p0 : Q p0) (hg2 : ∀ (l1 : Int32) (H : Hp) (r : Unit × Hp), kq2 l1 H = some r → Cl Q H → Rg Q H r.2) : ∀ (n : Nat) (l1 : Int32) (l2 : Int32) (l3 : Int32) (H : Hp) (r : Unit × Hp), B_M_confirms_152 N p0 kq2 n l1 l2 l3 H = some r → Cl Q H → Rg Q H r.2 := by
  intro n
  induction n with
  | zero => intro l1 l2 l3 H r hF; rw [B_M_confirms_152] at hF; cases hF
  | succ n ih =>
    intro l1 l2 l3 H r hF hc0
    rw [B_M_confirms_152] at hF
    have hm := Rg.rf hc0
    rcases ite_s hF with ⟨q_32, hG⟩ | ⟨q_32, hG⟩
    · clear hF
      exact hm.tr (hg2 l1 H r hG hm.1)
    · clear hF
      obtain ⟨q220, hF⟩ := ck_s hG; clear hG
      obtain ⟨a221, e222, hG⟩ := rf_s hF; clear hF
      have qa221 : Q a221 := hm.1 _ _ _ q_p0 e222
      obtain ⟨v224, H225, z223, hF⟩ := bC_s hG; clear hG
      have gz_33 := (g_M_slot z223 hm.1 q_p0)
      replace hm : Rg Q H H225 := hm.tr gz_33
      have s_34 : Sa H H225 := (m_M_slot z223)
      obtain ⟨n226, q227, hG⟩ := ar_s hF; clear hF
      rw [(s_34).1] at q227
      obtain ⟨q228, hF⟩ := ck_s hG; clear hG
      obtain ⟨x229, -, hG⟩ := bnd_g hF; clear hF
      rcases ite_s hG with ⟨q_35, hF⟩ | ⟨q_35, hF⟩
      · clear hG
        exact hm.tr (gB_M_confirms_188 q_p0 hg2 ih hF hm.1)
      · clear hG
        obtain ⟨a231, e232, hG⟩ := rf_s hF; clear hF
        have qa231 : Q a231 := hm.1 _ _ _ q_p0 e232
        obtain ⟨a233, e234, hF⟩ := rf_s hG; clear hG
        have qa233 : Q a233 := hm.1 _ _ _ q_p0 e234
        obtain ⟨v236, H237, z235, hG⟩ := bC_s hF; clear hF
        have gz_36 := (g_M_slot z235 hm.1 q_p0)
        replace hm : Rg Q H H237 := hm.tr gz_36
        have s_37 : Sa H H237 := (s_34).tr (m_M_slot z235)
        obtain ⟨n238, q239, hF⟩ := ar_s hG; clear hG
        rw [(s_37).1] at q239
        obtain ⟨q240, hG⟩ := ck_s hF; clear hF
        obtain ⟨x241, -, hF⟩ := bnd_g hG; clear hG
        obtain ⟨n242, q243, hG⟩ := ar_s hF; clear hF
        rw [(s_37).1] at q243
        obtain ⟨q244, hF⟩ := ck_s hG; clear hG
        obtain ⟨H245, eH245, hG⟩ := bnd_g hF; clear hF
        replace hm : Rg Q H H245 := hm.tr (by rw [eH245]; exact Rg.sD hm.1 qa231)
        have s_38 : Sa H H245 := by rw [eH245]; exact s_37
        exact hm.tr (gB_M_confirms_188 q_p0 hg2 ih hG hm.1)
set_option maxRecDepth 20000 in
set_option maxHeartbeats 2000000 in
theorem gB_M_confirms_101 {N : Nat} {Q : Nat → Prop} {p0 : Nat} {kq2 : Int32 → Hp → Option (Unit × Hp)} (q_p0 : Q p0) (hg2 : ∀ (l1 : Int32) (H : Hp) (r : Unit × Hp), kq2 l1 H = some r → Cl Q H → Rg Q H r.2) : ∀ (n : Nat) (l1 : Int32) (l2 : Int32) (l3 : Int32) (H : Hp) (r : Unit × Hp), B_M_confirms_101 N p0 kq2 n l1 l2 l3 H = some r → Cl Q H → Rg Q H r.2 := by
  intro n
  induction n with
  | zero => intro l1 l2 l3 H r hF; rw [B_M_confirms_101] at hF; cases hF
  | succ n ih =>
    intro l1 l2 l3 H r hF hc0
    rw [B_M_confirms_101] at hF
    have hm := Rg.rf hc0
    obtain ⟨q246, hG⟩ := ck_s hF; clear hF
    obtain ⟨a247, e248, hF⟩ := rf_s hG; clear hG
    have qa247 : Q a247 := hm.1 _ _ _ q_p0 e248
    obtain ⟨q249, hG⟩ := ck_s hF; clear hF
    obtain ⟨x250, -, hF⟩ := bnd_g hG; clear hG
    rcases ite_s hF with ⟨q_39, hG⟩ | ⟨q_39, hG⟩
    · clear hF
      exact hm.tr (gB_M_confirms_152 q_p0 hg2 N l1 l2 0 H r hG hm.1)
    · clear hF
      obtain ⟨a252, e253, hF⟩ := rf_s hG; clear hG
      have qa252 : Q a252 := hm.1 _ _ _ q_p0 e253
      obtain ⟨x254, -, hG⟩ := bnd_g hF; clear hF
      obtain ⟨a255, e256, hF⟩ := rf_s hG; clear hG
      have qa255 : Q a255 := hm.1 _ _ _ q_p0 e256
      obtain ⟨q257, hG⟩ := ck_s hF; clear hF
      obtain ⟨a258, e259, hF⟩ := rf_s hG; clear hG
      have qa258 : Q a258 := hm.1 _ _ _ qa255 e259
      obtain ⟨n260, q261, hG⟩ := ar_s hF; clear hF
      obtain ⟨q262, hF⟩ := ck_s hG; clear hG
      obtain ⟨x263, -, hG⟩ := bnd_g hF; clear hF
      obtain ⟨n264, q265, hF⟩ := ar_s hG; clear hG
      obtain ⟨q266, hG⟩ := ck_s hF; clear hF
      obtain ⟨H267, eH267, hF⟩ := bnd_g hG; clear hG
      replace hm : Rg Q H H267 := hm.tr (by rw [eH267]; exact Rg.sD hm.1 qa252)
      have s_40 : Sa H H267 := by rw [eH267]; exact Sa.rf _
      obtain ⟨x268, -, hG⟩ := bnd_g hF; clear hF
      obtain ⟨H269, eH269, hF⟩ := bnd_g hG; clear hG
      replace hm : Rg Q H H269 := hm.tr (by rw [eH269]; exact Rg.sD hm.1 q_p0)
      have s_41 : Sa H H269 := by rw [eH269]; exact s_40
      exact hm.tr (ih l1 l2 (l3 + 1) H269 r hF hm.1)
set_option maxRecDepth 20000 in
set_option maxHeartbeats 2000000 in
theorem gB_M_confirms_79 {N : Nat} {Q : Nat → Prop} {p0 : Nat} {kq2 : Int32 → Hp → Option (Unit × Hp)} {kq35 : Int32 → Int32 → Int32 → Hp → Option (Unit × Hp)} (q_p0 : Q p0) (hg2 : ∀ (l1 : Int32) (H : Hp) (r : Unit × Hp), kq2 l1 H = some r → Cl Q H → Rg Q H r.2) (hg35 : ∀ (l1 : Int32) (l2 : Int32) (l3 : Int32) (H : Hp) (r : Unit × Hp), kq35 l1 l2 l3 H = some r → Cl Q H → Rg Q H r.2) {l2 : Int32} {l3 : Int32} {w0 : Int32} {H : Hp} {r : Unit × Hp} (hF : B_M_confirms_79 N p0 kq2 kq35 l2 l3 w0 H = some r) (hc0 : Cl Q H) : Rg Q H r.2 := by
  unfold B_M_confirms_79 at hF
  have hm := Rg.rf hc0
  exact hm.tr (hg35 w0 l2 (l3 + 1) H r hF hm.1)
set_option maxRecDepth 20000 in
set_option maxHeartbeats 2000000 in
theorem gB_M_confirms_78 {N : Nat} {Q : Nat → Prop} {p0 : Nat} {kq2 : Int32 → Hp → Option (Unit × Hp)} {kq35 : Int32 → Int32 → Int32 → Hp → Option (Unit × Hp)} (q_p0 : Q p0) (hg2 : ∀ (l1 : Int32) (H : Hp) (r : Unit × Hp), kq2 l1 H = some r → Cl Q H → Rg Q H r.2) (hg35 : ∀ (l1 : Int32) (l2 : Int32) (l3 : Int32) (H : Hp) (r : Unit × Hp), kq35 l1 l2 l3 H = some r → Cl Q H → Rg Q H r.2) {l2 : Int32} {l3 : Int32} {H : Hp} {r : Unit × Hp} (hF : B_M_confirms_78 N p0 kq2 kq35 l2 l3 H = some r) (hc0 : Cl Q H) : Rg Q H r.2 := by
  unfold B_M_confirms_78 at hF
  have hm := Rg.rf hc0
  exact hm.tr (gB_M_confirms_79 q_p0 hg2 hg35 hF hm.1)
set_option maxRecDepth 20000 in
set_option maxHeartbeats 2000000 in
theorem gB_M_confirms_74 {N : Nat} {Q : Nat → Prop} {p0 : Nat} {kq2 : Int32 → Hp → Option (Unit × Hp)} {kq35 : Int32 → Int32 → Int32 → Hp → Option (Unit × Hp)} (q_p0 : Q p0) (hg2 : ∀ (l1 : Int32) (H : Hp) (r : Unit × Hp), kq2 l1 H = some r → Cl Q H → Rg Q H r.2) (hg35 : ∀ (l1 : Int32) (l2 : Int32) (l3 : Int32) (H : Hp) (r : Unit × Hp), kq35 l1 l2 l3 H = some r → Cl Q H → Rg Q H r.2) {l2 : Int32} {l3 : Int32} {H : Hp} {r : Unit × Hp} (hF : B_M_confirms_74 N p0 kq2 kq35 l2 l3 H = some r) (hc0 : Cl Q H) : Rg Q H r.2 := by
  unfold B_M_confirms_74 at hF
  have hm := Rg.rf hc0
  exact hm.tr (gB_M_confirms_79 q_p0 hg2 hg35 hF hm.1)
set_option maxRecDepth 20000 in
set_option maxHeartbeats 2000000 in
theorem gB_M_confirms_35 {N : Nat} {Q : Nat → Prop} {p0 : Nat} {kq2 : Int32 → Hp → Option (Unit × Hp)} (q_p0 : Q p0) (hg2 : ∀ (l1 : Int32) (H : Hp) (r : Unit × Hp), kq2 l1 H = some r → Cl Q H → Rg Q H r.2) : ∀ (n : Nat) (l1 : Int32) (l2 : Int32) (l3 : Int32) (H : Hp) (r : Unit × Hp), B_M_confirms_35 N p0 kq2 n l1 l2 l3 H = some r → Cl Q H → Rg Q H r.2 := by
  intro n
  induction n with
  | zero => intro l1 l2 l3 H r hF; rw [B_M_confirms_35] at hF; cases hF
  | succ n ih =>
    intro l1 l2 l3 H r hF hc0
    rw [B_M_confirms_35] at hF
    have hm := Rg.rf hc0
    rcases ite_s hF with ⟨q_42, hG⟩ | ⟨q_42, hG⟩
    · clear hF
      rcases ite_s hG with ⟨q_43, hF⟩ | ⟨q_43, hF⟩
      · clear hG
        have hr := Option.some.inj hF; subst hr
        exact hm
      · clear hG
        obtain ⟨q272, hG⟩ := ck_s hF; clear hF
        obtain ⟨a273, e274, hF⟩ := rf_s hG; clear hG
        have qa273 : Q a273 := hm.1 _ _ _ q_p0 e274
        obtain ⟨v276, H277, z275, hG⟩ := bC_s hF; clear hF
        have gz_44 := (g_M_runs z275 hm.1 q_p0 qa273)
        replace hm : Rg Q H H277 := hm.tr gz_44
        have s_45 : Sa H H277 := (m_M_runs z275)
        exact hm.tr (gB_M_confirms_101 q_p0 hg2 N l1 l2 0 H277 r hG hm.1)
    · clear hF
      rcases ite_s hG with ⟨q_46, hF⟩ | ⟨q_46, hF⟩
      · clear hG
        exact hm.tr (gB_M_confirms_78 q_p0 hg2 ih hF hm.1)
      · clear hG
        obtain ⟨q279, hG⟩ := ck_s hF; clear hF
        obtain ⟨a280, e281, hF⟩ := rf_s hG; clear hG
        have qa280 : Q a280 := hm.1 _ _ _ q_p0 e281
        obtain ⟨n282, q283, hG⟩ := ar_s hF; clear hF
        obtain ⟨q284, hF⟩ := ck_s hG; clear hG
        obtain ⟨x285, -, hG⟩ := bnd_g hF; clear hF
        rcases ite_s hG with ⟨q_47, hF⟩ | ⟨q_47, hF⟩
        · clear hG
          exact hm.tr (gB_M_confirms_74 q_p0 hg2 ih hF hm.1)
        · clear hG
          obtain ⟨a287, e288, hG⟩ := rf_s hF; clear hF
          have qa287 : Q a287 := hm.1 _ _ _ q_p0 e288
          obtain ⟨v290, H291, z289, hF⟩ := bC_s hG; clear hG
          have gz_48 := (g_M_slot z289 hm.1 q_p0)
          replace hm : Rg Q H H291 := hm.tr gz_48
          have s_49 : Sa H H291 := (m_M_slot z289)
          obtain ⟨n292, q293, hG⟩ := ar_s hF; clear hF
          rw [(s_49).1] at q293
          obtain ⟨q294, hF⟩ := ck_s hG; clear hG
          obtain ⟨x295, -, hG⟩ := bnd_g hF; clear hF
          rcases ite_s hG with ⟨q_50, hF⟩ | ⟨q_50, hF⟩
          · clear hG
            exact hm.tr (gB_M_confirms_78 q_p0 hg2 ih hF hm.1)
          · clear hG
            exact hm.tr (gB_M_confirms_74 q_p0 hg2 ih hF hm.1)
set_option maxRecDepth 20000 in
set_option maxHeartbeats 2000000 in
theorem gB_M_confirms_2 {N : Nat} {Q : Nat → Prop} {p0 : Nat} (q_p0 : Q p0) : ∀ (n : Nat) (l1 : Int32) (H : Hp) (r : Unit × Hp), B_M_confirms_2 N p0 n l1 H = some r → Cl Q H → Rg Q H r.2 := by
  intro n
  induction n with
  | zero => intro l1 H r hF; rw [B_M_confirms_2] at hF; cases hF
  | succ n ih =>
    intro l1 H r hF hc0
    rw [B_M_confirms_2] at hF
    have hm := Rg.rf hc0
    rcases ite_s hF with ⟨q_51, hG⟩ | ⟨q_51, hG⟩
    · clear hF
      have hr := Option.some.inj hG; subst hr
      exact hm
    · clear hF
      obtain ⟨q298, hF⟩ := ck_s hG; clear hG
      obtain ⟨a299, e300, hG⟩ := rf_s hF; clear hF
      have qa299 : Q a299 := hm.1 _ _ _ q_p0 e300
      obtain ⟨q301, hF⟩ := ck_s hG; clear hG
      obtain ⟨x302, -, hG⟩ := bnd_g hF; clear hF
      obtain ⟨a303, e304, hF⟩ := rf_s hG; clear hG
      have qa303 : Q a303 := hm.1 _ _ _ q_p0 e304
      obtain ⟨q305, hG⟩ := ck_s hF; clear hF
      obtain ⟨x306, -, hF⟩ := bnd_g hG; clear hG
      rcases ite_s hF with ⟨q_52, hG⟩ | ⟨q_52, hG⟩
      · clear hF
        have hr := Option.some.inj hG; subst hr
        exact hm
      · clear hF
        obtain ⟨a308, e309, hF⟩ := rf_s hG; clear hG
        have qa308 : Q a308 := hm.1 _ _ _ q_p0 e309
        obtain ⟨q310, hG⟩ := ck_s hF; clear hF
        obtain ⟨x311, -, hF⟩ := bnd_g hG; clear hG
        obtain ⟨x312, -, hG⟩ := bnd_g hF; clear hF
        exact hm.tr (gB_M_confirms_35 q_p0 ih N l1 x312 0 H r hG hm.1)
set_option maxRecDepth 20000 in
set_option maxHeartbeats 2000000 in
theorem g_M_confirms {N : Nat} {Q : Nat → Prop} {p0 : Nat} {H : Hp} {r : Unit × Hp} (hF : F_M_confirms N p0 H = some r) (hc0 : Cl Q H) (q_p0 : Q p0) : Rg Q H r.2 := by
  unfold F_M_confirms at hF
  have hm := Rg.rf hc0
  exact hm.tr (gB_M_confirms_2 q_p0 N 1 H r hF hm.1)
set_option maxRecDepth 20000 in
set_option maxHeartbeats 2000000 in
theorem gB_M_step_128 {N : Nat} {Q : Nat → Prop} {p0 : Nat} {kq94 : Int32 → Hp → Option (Int32 × Hp)} (q_p0 : Q p0) (hg94 : ∀ (l1 : Int32) (H : Hp) (r : Int32 × Hp), kq94 l1 H = some r → Cl Q H → Rg Q H r.2) {l1 : Int32} {w0 : Nat} {w1 : Int32} {w2 : Int32} {H : Hp} {r : Int32 × Hp} (hF : B_M_step_128 N p0 kq94 l1 w0 w1 w2 H = some r) (hc0 : Cl Q H) (q_w0 : Q w0) : Rg Q H r.2 := by
  unfold B_M_step_128 at hF
  have hm := Rg.rf hc0
  obtain ⟨n151, q152, hG⟩ := ar_s hF; clear hF
  obtain ⟨q153, hF⟩ := ck_s hG; clear hG
  obtain ⟨H154, eH154, hG⟩ := bnd_g hF; clear hF
  replace hm : Rg Q H H154 := hm.tr (by rw [eH154]; exact Rg.sD hm.1 q_w0)
  have s_22 : Sa H H154 := by rw [eH154]; exact Sa.rf _
  obtain ⟨q155, hF⟩ := ck_s hG; clear hG
  rw [(s_22).1] at q155
  obtain ⟨a156, e157, hG⟩ := rf_s hF; clear hF
  have qa156 : Q a156 := hm.1 _ _ _ q_p0 e157
  obtain ⟨n158, q159, hF⟩ := ar_s hG; clear hG
  rw [(s_22).1] at q159
  obtain ⟨q160, hG⟩ := ck_s hF; clear hF
  obtain ⟨H161, eH161, hF⟩ := bnd_g hG; clear hG
  replace hm : Rg Q H H161 := hm.tr (by rw [eH161]; exact Rg.sD hm.1 qa156)
  have s_23 : Sa H H161 := by rw [eH161]; exact s_22
  exact hm.tr (hg94 (l1 + 1) H161 r hF hm.1)
set_option maxRecDepth 20000 in
set_option maxHeartbeats 2000000 in
theorem gB_M_step_127 {N : Nat} {Q : Nat → Prop} {p0 : Nat} {kq94 : Int32 → Hp → Option (Int32 × Hp)} (q_p0 : Q p0) (hg94 : ∀ (l1 : Int32) (H : Hp) (r : Int32 × Hp), kq94 l1 H = some r → Cl Q H → Rg Q H r.2) {l1 : Int32} {w0 : Nat} {w1 : Int32} {H : Hp} {r : Int32 × Hp} (hF : B_M_step_127 N p0 kq94 l1 w0 w1 H = some r) (hc0 : Cl Q H) (q_w0 : Q w0) : Rg Q H r.2 := by
  unfold B_M_step_127 at hF
  have hm := Rg.rf hc0
  exact hm.tr (gB_M_step_128 q_p0 hg94 hF hm.1 q_w0)
set_option maxRecDepth 20000 in
set_option maxHeartbeats 2000000 in
theorem gB_M_step_94 {N : Nat} {Q : Nat → Prop} {p0 : Nat} (q_p0 : Q p0) : ∀ (n : Nat) (l1 : Int32) (H : Hp) (r : Int32 × Hp), B_M_step_94 N p0 n l1 H = some r → Cl Q H → Rg Q H r.2 := by
  intro n
  induction n with
  | zero => intro l1 H r hF; rw [B_M_step_94] at hF; cases hF
  | succ n ih =>
    intro l1 H r hF hc0
    rw [B_M_step_94] at hF
    have hm := Rg.rf hc0
    rcases ite_s hF with ⟨q_24, hG⟩ | ⟨q_24, hG⟩
    · clear hF
      obtain ⟨q163, hF⟩ := ck_s hG; clear hG
      obtain ⟨v165, H166, z164, hG⟩ := bC_s hF; clear hF
      have gz_25 := (g_M_confirms z164 hm.1 q_p0)
      replace hm : Rg Q H H166 := hm.tr gz_25
      have s_26 : Sa H H166 := (m_M_confirms z164)
      obtain ⟨a167, e168, hF⟩ := rf_s hG; clear hG
      have qa167 : Q a167 := hm.1 _ _ _ q_p0 e168
      obtain ⟨q169, hG⟩ := ck_s hF; clear hF
      rw [(s_26).1] at q169
      obtain ⟨x170, -, hF⟩ := bnd_g hG; clear hG
      have hr := Option.some.inj hF; subst hr
      exact hm
    · clear hF
      obtain ⟨q171, hF⟩ := ck_s hG; clear hG
      obtain ⟨a172, e173, hG⟩ := rf_s hF; clear hF
      have qa172 : Q a172 := hm.1 _ _ _ q_p0 e173
      obtain ⟨a174, e175, hF⟩ := rf_s hG; clear hG
      have qa174 : Q a174 := hm.1 _ _ _ q_p0 e175
      obtain ⟨n176, q177, hG⟩ := ar_s hF; clear hF
      obtain ⟨q178, hF⟩ := ck_s hG; clear hG
      obtain ⟨x179, -, hG⟩ := bnd_g hF; clear hF
      rcases ite_s hG with ⟨q_27, hF⟩ | ⟨q_27, hF⟩
      · clear hG
        exact hm.tr (gB_M_step_127 q_p0 ih hF hm.1 qa172)
      · clear hG
        obtain ⟨a181, e182, hG⟩ := rf_s hF; clear hF
        have qa181 : Q a181 := hm.1 _ _ _ q_p0 e182
        obtain ⟨n183, q184, hF⟩ := ar_s hG; clear hG
        obtain ⟨q185, hG⟩ := ck_s hF; clear hF
        obtain ⟨x186, -, hF⟩ := bnd_g hG; clear hG
        rcases ite_s hF with ⟨q_28, hG⟩ | ⟨q_28, hG⟩
        · clear hF
          exact hm.tr (gB_M_step_128 q_p0 ih hG hm.1 qa172)
        · clear hF
          exact hm.tr (gB_M_step_127 q_p0 ih hG hm.1 qa172)
set_option maxRecDepth 20000 in
set_option maxHeartbeats 2000000 in
theorem g_M_step {N : Nat} {Q : Nat → Prop} {p0 : Nat} {H : Hp} {r : Int32 × Hp} (hF : F_M_step N p0 H = some r) (hc0 : Cl Q H) (q_p0 : Q p0) : Rg Q H r.2 := by
  unfold F_M_step at hF
  have hm := Rg.rf hc0
  obtain ⟨q188, hG⟩ := ck_s hF; clear hF
  obtain ⟨H189, eH189, hF⟩ := bnd_g hG; clear hG
  replace hm : Rg Q H H189 := hm.tr (by rw [eH189]; exact Rg.sD hm.1 q_p0)
  have s_29 : Sa H H189 := by rw [eH189]; exact Sa.rf _
  obtain ⟨a190, e191, hG⟩ := rf_s hF; clear hF
  have qa190 : Q a190 := hm.1 _ _ _ q_p0 e191
  obtain ⟨q192, hF⟩ := ck_s hG; clear hG
  rw [(s_29).1] at q192
  obtain ⟨x193, -, hG⟩ := bnd_g hF; clear hF
  obtain ⟨a194, e195, hF⟩ := rf_s hG; clear hG
  have qa194 : Q a194 := hm.1 _ _ _ q_p0 e195
  obtain ⟨q196, hG⟩ := ck_s hF; clear hF
  rw [(s_29).1] at q196
  obtain ⟨x197, -, hF⟩ := bnd_g hG; clear hG
  rcases ite_s hF with ⟨q_30, hG⟩ | ⟨q_30, hG⟩
  · clear hF
    have hr := Option.some.inj hG; subst hr
    exact hm
  · clear hF
    obtain ⟨v200, H201, z199, hF⟩ := bC_s hG; clear hG
    have gz_31 := (g_M_workers z199 hm.1 q_p0)
    replace hm : Rg Q H H201 := hm.tr gz_31
    have s_32 : Sa H H201 := (s_29).tr (m_M_workers z199)
    rcases ite_s hF with ⟨q_33, hG⟩ | ⟨q_33, hG⟩
    · clear hF
      have hr := Option.some.inj hG; subst hr
      exact hm
    · clear hF
      obtain ⟨x203, -, hF⟩ := bnd_g hG; clear hG
      rcases ite_s hF with ⟨q_34, hG⟩ | ⟨q_34, hG⟩
      · clear hF
        have hr := Option.some.inj hG; subst hr
        exact hm
      · clear hF
        obtain ⟨a205, e206, hF⟩ := rf_s hG; clear hG
        have qa205 : Q a205 := hm.1 _ _ _ q_p0 e206
        obtain ⟨q207, hG⟩ := ck_s hF; clear hF
        rw [(s_32).1] at q207
        obtain ⟨x208, -, hF⟩ := bnd_g hG; clear hG
        rcases ite_s hF with ⟨q_35, hG⟩ | ⟨q_35, hG⟩
        · clear hF
          have hr := Option.some.inj hG; subst hr
          exact hm
        · clear hF
          obtain ⟨a210, e211, hF⟩ := rf_s hG; clear hG
          have qa210 : Q a210 := hm.1 _ _ _ q_p0 e211
          obtain ⟨a212, e213, hG⟩ := rf_s hF; clear hF
          have qa212 : Q a212 := hm.1 _ _ _ q_p0 e213
          obtain ⟨q214, hF⟩ := ck_s hG; clear hG
          rw [(s_32).1] at q214
          obtain ⟨x215, -, hG⟩ := bnd_g hF; clear hF
          obtain ⟨x216, -, hF⟩ := bnd_g hG; clear hG
          obtain ⟨n217, q218, hG⟩ := ar_s hF; clear hF
          rw [(s_32).1] at q218
          obtain ⟨q219, hF⟩ := ck_s hG; clear hG
          obtain ⟨H220, eH220, hG⟩ := bnd_g hF; clear hF
          replace hm : Rg Q H H220 := hm.tr (by rw [eH220]; exact Rg.sD hm.1 qa210)
          have s_36 : Sa H H220 := by rw [eH220]; exact s_32
          obtain ⟨a221, e222, hF⟩ := rf_s hG; clear hG
          have qa221 : Q a221 := hm.1 _ _ _ q_p0 e222
          obtain ⟨v224, H225, z223, hG⟩ := bC_s hF; clear hF
          have gz_37 := (g_M_runs z223 hm.1 q_p0 qa221)
          replace hm : Rg Q H H225 := hm.tr gz_37
          have s_38 : Sa H H225 := (s_36).tr (m_M_runs z223)
          exact hm.tr (gB_M_step_94 q_p0 N 0 H225 r hG hm.1)
set_option maxRecDepth 20000 in
set_option maxHeartbeats 2000000 in
theorem gB_M_runsAgain_19 {N : Nat} {Q : Nat → Prop} {p0 : Nat} (q_p0 : Q p0) : ∀ (n : Nat) (l1 : Int32) (H : Hp) (r : Unit × Hp), B_M_runsAgain_19 N p0 n l1 H = some r → Cl Q H → Rg Q H r.2 := by
  intro n
  induction n with
  | zero => intro l1 H r hF; rw [B_M_runsAgain_19] at hF; cases hF
  | succ n ih =>
    intro l1 H r hF hc0
    rw [B_M_runsAgain_19] at hF
    have hm := Rg.rf hc0
    obtain ⟨q49, hG⟩ := ck_s hF; clear hF
    obtain ⟨a50, e51, hF⟩ := rf_s hG; clear hG
    have qa50 : Q a50 := hm.1 _ _ _ q_p0 e51
    obtain ⟨q52, hG⟩ := ck_s hF; clear hF
    obtain ⟨x53, -, hF⟩ := bnd_g hG; clear hG
    rcases ite_s hF with ⟨q_6, hG⟩ | ⟨q_6, hG⟩
    · clear hF
      have hr := Option.some.inj hG; subst hr
      exact hm
    · clear hF
      obtain ⟨a55, e56, hF⟩ := rf_s hG; clear hG
      have qa55 : Q a55 := hm.1 _ _ _ q_p0 e56
      obtain ⟨v58, H59, z57, hG⟩ := bC_s hF; clear hF
      have gz_7 := (g_M_runs z57 hm.1 q_p0 qa55)
      replace hm : Rg Q H H59 := hm.tr gz_7
      have s_8 : Sa H H59 := (m_M_runs z57)
      exact hm.tr (ih l1 H59 r hG hm.1)
set_option maxRecDepth 20000 in
set_option maxHeartbeats 2000000 in
theorem g_M_runsAgain {N : Nat} {Q : Nat → Prop} {p0 : Nat} {H : Hp} {r : Unit × Hp} (hF : F_M_runsAgain N p0 H = some r) (hc0 : Cl Q H) (q_p0 : Q p0) : Rg Q H r.2 := by
  unfold F_M_runsAgain at hF
  have hm := Rg.rf hc0
  obtain ⟨q60, hG⟩ := ck_s hF; clear hF
  obtain ⟨a61, e62, hF⟩ := rf_s hG; clear hG
  have qa61 : Q a61 := hm.1 _ _ _ q_p0 e62
  obtain ⟨q63, hG⟩ := ck_s hF; clear hF
  obtain ⟨x64, -, hF⟩ := bnd_g hG; clear hG
  obtain ⟨a65, e66, hG⟩ := rf_s hF; clear hF
  have qa65 : Q a65 := hm.1 _ _ _ q_p0 e66
  obtain ⟨a67, e68, hF⟩ := rf_s hG; clear hG
  have qa67 : Q a67 := hm.1 _ _ _ q_p0 e68
  obtain ⟨q69, hG⟩ := ck_s hF; clear hF
  obtain ⟨v71, H72, z70, hF⟩ := bC_s hG; clear hG
  have gz_9 := (g_MWorld_copies z70 hm.1 qa65 qa67)
  replace hm : Rg Q H H72 := hm.tr gz_9
  have s_10 : Sa H H72 := (m_MWorld_copies z70)
  exact hm.tr (gB_M_runsAgain_19 q_p0 N x64 H72 r hF hm.1)
set_option maxRecDepth 20000 in
set_option maxHeartbeats 2000000 in
theorem gB_M_input_189 {N : Nat} {Q : Nat → Prop} {p0 : Nat} {p1 : Int32} {p2 : Int32} {p3 : Int32} (q_p0 : Q p0) {l5 : Int32} {H : Hp} {r : Int32 × Hp} (hF : B_M_input_189 N p0 p1 p2 p3 l5 H = some r) (hc0 : Cl Q H) : Rg Q H r.2 := by
  unfold B_M_input_189 at hF
  have hm := Rg.rf hc0
  obtain ⟨q181, hG⟩ := ck_s hF; clear hF
  obtain ⟨x182, -, hF⟩ := bnd_g hG; clear hG
  obtain ⟨H183, eH183, hG⟩ := bnd_g hF; clear hF
  replace hm : Rg Q H H183 := hm.tr (by rw [eH183]; exact Rg.sD hm.1 q_p0)
  have s_33 : Sa H H183 := by rw [eH183]; exact Sa.rf _
  obtain ⟨v185, H186, z184, hF⟩ := bC_s hG; clear hG
  have gz_34 := (g_M_confirms z184 hm.1 q_p0)
  replace hm : Rg Q H H186 := hm.tr gz_34
  have s_35 : Sa H H186 := (s_33).tr (m_M_confirms z184)
  have hr := Option.some.inj hF; subst hr
  exact hm
set_option maxRecDepth 20000 in
set_option maxHeartbeats 2000000 in
theorem gB_M_input_156 {N : Nat} {Q : Nat → Prop} {p0 : Nat} {p1 : Int32} {p2 : Int32} {p3 : Int32} (q_p0 : Q p0) {l5 : Int32} {H : Hp} {r : Int32 × Hp} (hF : B_M_input_156 N p0 p1 p2 p3 l5 H = some r) (hc0 : Cl Q H) : Rg Q H r.2 := by
  unfold B_M_input_156 at hF
  have hm := Rg.rf hc0
  obtain ⟨q187, hG⟩ := ck_s hF; clear hF
  obtain ⟨a188, e189, hF⟩ := rf_s hG; clear hG
  have qa188 : Q a188 := hm.1 _ _ _ q_p0 e189
  obtain ⟨v191, H192, z190, hG⟩ := bC_s hF; clear hF
  have gz_36 := (g_M_slot z190 hm.1 q_p0)
  replace hm : Rg Q H H192 := hm.tr gz_36
  have s_37 : Sa H H192 := (m_M_slot z190)
  obtain ⟨n193, q194, hF⟩ := ar_s hG; clear hG
  rw [(s_37).1] at q194
  obtain ⟨q195, hG⟩ := ck_s hF; clear hF
  obtain ⟨H196, eH196, hF⟩ := bnd_g hG; clear hG
  replace hm : Rg Q H H196 := hm.tr (by rw [eH196]; exact Rg.sD hm.1 qa188)
  have s_38 : Sa H H196 := by rw [eH196]; exact s_37
  obtain ⟨a197, e198, hG⟩ := rf_s hF; clear hF
  have qa197 : Q a197 := hm.1 _ _ _ q_p0 e198
  obtain ⟨v200, H201, z199, hF⟩ := bC_s hG; clear hG
  have gz_39 := (g_M_slot z199 hm.1 q_p0)
  replace hm : Rg Q H H201 := hm.tr gz_39
  have s_40 : Sa H H201 := (s_38).tr (m_M_slot z199)
  obtain ⟨n202, q203, hG⟩ := ar_s hF; clear hF
  rw [(s_40).1] at q203
  obtain ⟨q204, hF⟩ := ck_s hG; clear hG
  obtain ⟨H205, eH205, hG⟩ := bnd_g hF; clear hF
  replace hm : Rg Q H H205 := hm.tr (by rw [eH205]; exact Rg.sD hm.1 qa197)
  have s_41 : Sa H H205 := by rw [eH205]; exact s_40
  rcases ite_s hG with ⟨q_42, hF⟩ | ⟨q_42, hF⟩
  · clear hG
    exact hm.tr (gB_M_input_189 q_p0 hF hm.1)
  · clear hG
    obtain ⟨v208, H209, z207, hG⟩ := bC_s hF; clear hF
    have gz_43 := (g_M_runsAgain z207 hm.1 q_p0)
    replace hm : Rg Q H H209 := hm.tr gz_43
    have s_44 : Sa H H209 := (s_41).tr (m_M_runsAgain z207)
    exact hm.tr (gB_M_input_189 q_p0 hG hm.1)
set_option maxRecDepth 20000 in
set_option maxHeartbeats 2000000 in
theorem gB_M_input_154 {N : Nat} {Q : Nat → Prop} {p0 : Nat} {p1 : Int32} {p2 : Int32} {p3 : Int32} (q_p0 : Q p0) {w0 : Int32} {H : Hp} {r : Int32 × Hp} (hF : B_M_input_154 N p0 p1 p2 p3 w0 H = some r) (hc0 : Cl Q H) : Rg Q H r.2 := by
  unfold B_M_input_154 at hF
  have hm := Rg.rf hc0
  exact hm.tr (gB_M_input_156 q_p0 hF hm.1)
set_option maxRecDepth 20000 in
set_option maxHeartbeats 2000000 in
theorem gB_M_input_79 {N : Nat} {Q : Nat → Prop} {p0 : Nat} {p1 : Int32} {p2 : Int32} {p3 : Int32} (q_p0 : Q p0) {w0 : Int32} {H : Hp} {r : Int32 × Hp} (hF : B_M_input_79 N p0 p1 p2 p3 w0 H = some r) (hc0 : Cl Q H) : Rg Q H r.2 := by
  unfold B_M_input_79 at hF
  have hm := Rg.rf hc0
  rcases ite_s hF with ⟨q_45, hG⟩ | ⟨q_45, hG⟩
  · clear hF
    have hr := Option.some.inj hG; subst hr
    exact hm
  · clear hF
    obtain ⟨q211, hF⟩ := ck_s hG; clear hG
    obtain ⟨a212, e213, hG⟩ := rf_s hF; clear hF
    have qa212 : Q a212 := hm.1 _ _ _ q_p0 e213
    obtain ⟨v215, H216, z214, hF⟩ := bC_s hG; clear hG
    have gz_46 := (g_M_slot z214 hm.1 q_p0)
    replace hm : Rg Q H H216 := hm.tr gz_46
    have s_47 : Sa H H216 := (m_M_slot z214)
    obtain ⟨n217, q218, hG⟩ := ar_s hF; clear hF
    rw [(s_47).1] at q218
    obtain ⟨q219, hF⟩ := ck_s hG; clear hG
    obtain ⟨x220, -, hG⟩ := bnd_g hF; clear hF
    rcases ite_s hG with ⟨q_48, hF⟩ | ⟨q_48, hF⟩
    · clear hG
      obtain ⟨a222, e223, hG⟩ := rf_s hF; clear hF
      have qa222 : Q a222 := hm.1 _ _ _ q_p0 e223
      obtain ⟨q224, hF⟩ := ck_s hG; clear hG
      rw [(s_47).1] at q224
      obtain ⟨x225, -, hG⟩ := bnd_g hF; clear hF
      rcases ite_s hG with ⟨q_49, hF⟩ | ⟨q_49, hF⟩
      · clear hG
        exact hm.tr (gB_M_input_156 q_p0 hF hm.1)
      · clear hG
        obtain ⟨v228, H229, z227, hG⟩ := bC_s hF; clear hF
        have gz_50 := (g_M_bitsOf z227 hm.1 q_p0)
        replace hm : Rg Q H H229 := hm.tr gz_50
        have s_51 : Sa H H229 := (s_47).tr (m_M_bitsOf z227)
        obtain ⟨a230, e231, hF⟩ := rf_s hG; clear hG
        have qa230 : Q a230 := hm.1 _ _ _ q_p0 e231
        obtain ⟨n232, q233, hG⟩ := ar_s hF; clear hF
        rw [(s_51).1] at q233
        obtain ⟨q234, hF⟩ := ck_s hG; clear hG
        obtain ⟨x235, -, hG⟩ := bnd_g hF; clear hF
        rcases ite_s hG with ⟨q_52, hF⟩ | ⟨q_52, hF⟩
        · clear hG
          exact hm.tr (gB_M_input_154 q_p0 hF hm.1)
        · clear hG
          obtain ⟨a237, e238, hG⟩ := rf_s hF; clear hF
          have qa237 : Q a237 := hm.1 _ _ _ q_p0 e238
          obtain ⟨q239, hF⟩ := ck_s hG; clear hG
          rw [(s_51).1] at q239
          obtain ⟨x240, -, hG⟩ := bnd_g hF; clear hF
          exact hm.tr (gB_M_input_154 q_p0 hG hm.1)
    · clear hG
      have hr := Option.some.inj hF; subst hr
      exact hm
set_option maxRecDepth 20000 in
set_option maxHeartbeats 2000000 in
theorem g_M_input {N : Nat} {Q : Nat → Prop} {p0 : Nat} {p1 : Int32} {p2 : Int32} {p3 : Int32} {H : Hp} {r : Int32 × Hp} (hF : F_M_input N p0 p1 p2 p3 H = some r) (hc0 : Cl Q H) (q_p0 : Q p0) : Rg Q H r.2 := by
  unfold F_M_input at hF
  have hm := Rg.rf hc0
  obtain ⟨q241, hG⟩ := ck_s hF; clear hF
  obtain ⟨H242, eH242, hF⟩ := bnd_g hG; clear hG
  replace hm : Rg Q H H242 := hm.tr (by rw [eH242]; exact Rg.sD hm.1 q_p0)
  have s_53 : Sa H H242 := by rw [eH242]; exact Sa.rf _
  obtain ⟨v244, H245, z243, hG⟩ := bC_s hF; clear hF
  have gz_54 := (g_M_in z243 hm.1)
  replace hm : Rg Q H H245 := hm.tr gz_54
  have s_55 : Sa H H245 := (s_53).tr (m_M_in z243)
  rcases ite_s hG with ⟨q_56, hF⟩ | ⟨q_56, hF⟩
  · clear hG
    have hr := Option.some.inj hF; subst hr
    exact hm
  · clear hG
    obtain ⟨a247, e248, hG⟩ := rf_s hF; clear hF
    have qa247 : Q a247 := hm.1 _ _ _ q_p0 e248
    obtain ⟨q249, hF⟩ := ck_s hG; clear hG
    rw [(s_55).1] at q249
    obtain ⟨x250, -, hG⟩ := bnd_g hF; clear hF
    obtain ⟨a251, e252, hF⟩ := rf_s hG; clear hG
    have qa251 : Q a251 := hm.1 _ _ _ q_p0 e252
    obtain ⟨q253, hG⟩ := ck_s hF; clear hF
    rw [(s_55).1] at q253
    obtain ⟨x254, -, hF⟩ := bnd_g hG; clear hG
    obtain ⟨v256, H257, z255, hG⟩ := bC_s hF; clear hF
    have gz_57 := (g_M_in z255 hm.1)
    replace hm : Rg Q H H257 := hm.tr gz_57
    have s_58 : Sa H H257 := (s_55).tr (m_M_in z255)
    rcases ite_s hG with ⟨q_59, hF⟩ | ⟨q_59, hF⟩
    · clear hG
      have hr := Option.some.inj hF; subst hr
      exact hm
    · clear hG
      obtain ⟨a259, e260, hG⟩ := rf_s hF; clear hF
      have qa259 : Q a259 := hm.1 _ _ _ q_p0 e260
      obtain ⟨q261, hF⟩ := ck_s hG; clear hG
      rw [(s_58).1] at q261
      obtain ⟨x262, -, hG⟩ := bnd_g hF; clear hF
      rcases ite_s hG with ⟨q_60, hF⟩ | ⟨q_60, hF⟩
      · clear hG
        obtain ⟨a264, e265, hG⟩ := rf_s hF; clear hF
        have qa264 : Q a264 := hm.1 _ _ _ q_p0 e265
        obtain ⟨n266, q267, hF⟩ := ar_s hG; clear hG
        rw [(s_58).1] at q267
        obtain ⟨q268, hG⟩ := ck_s hF; clear hF
        obtain ⟨x269, -, hF⟩ := bnd_g hG; clear hG
        exact hm.tr (gB_M_input_79 q_p0 hF hm.1)
      · clear hG
        obtain ⟨x270, -, hG⟩ := bnd_g hF; clear hF
        exact hm.tr (gB_M_input_79 q_p0 hG hm.1)
set_option maxRecDepth 20000 in
set_option maxHeartbeats 2000000 in
theorem gB_M_seat_62 {N : Nat} {Q : Nat → Prop} {p0 : Nat} {p1 : Int32} {p2 : Int32} (q_p0 : Q p0) : ∀ (n : Nat) (l3 : Int32) (H : Hp) (r : Int32 × Hp), B_M_seat_62 N p0 p1 p2 n l3 H = some r → Cl Q H → Rg Q H r.2 := by
  intro n
  induction n with
  | zero => intro l3 H r hF; rw [B_M_seat_62] at hF; cases hF
  | succ n ih =>
    intro l3 H r hF hc0
    rw [B_M_seat_62] at hF
    have hm := Rg.rf hc0
    rcases ite_s hF with ⟨q_16, hG⟩ | ⟨q_16, hG⟩
    · clear hF
      obtain ⟨q68, hF⟩ := ck_s hG; clear hG
      obtain ⟨a69, e70, hG⟩ := rf_s hF; clear hF
      have qa69 : Q a69 := hm.1 _ _ _ q_p0 e70
      obtain ⟨q71, hF⟩ := ck_s hG; clear hG
      obtain ⟨x72, -, hG⟩ := bnd_g hF; clear hF
      rcases ite_s hG with ⟨q_17, hF⟩ | ⟨q_17, hF⟩
      · clear hG
        have hr := Option.some.inj hF; subst hr
        exact hm
      · clear hG
        obtain ⟨a74, e75, hG⟩ := rf_s hF; clear hF
        have qa74 : Q a74 := hm.1 _ _ _ q_p0 e75
        obtain ⟨v77, H78, z76, hF⟩ := bC_s hG; clear hG
        have gz_18 := (g_M_slot z76 hm.1 q_p0)
        replace hm : Rg Q H H78 := hm.tr gz_18
        have s_19 : Sa H H78 := (m_M_slot z76)
        obtain ⟨n79, q80, hG⟩ := ar_s hF; clear hF
        rw [(s_19).1] at q80
        obtain ⟨q81, hF⟩ := ck_s hG; clear hG
        obtain ⟨H82, eH82, hG⟩ := bnd_g hF; clear hF
        replace hm : Rg Q H H82 := hm.tr (by rw [eH82]; exact Rg.sD hm.1 qa74)
        have s_20 : Sa H H82 := by rw [eH82]; exact s_19
        exact hm.tr (ih (l3 + 1) H82 r hG hm.1)
    · clear hF
      have hr := Option.some.inj hG; subst hr
      exact hm
set_option maxRecDepth 20000 in
set_option maxHeartbeats 2000000 in
theorem gB_M_seat_34 {N : Nat} {Q : Nat → Prop} {p0 : Nat} {p1 : Int32} {p2 : Int32} (q_p0 : Q p0) {w0 : Int32} {H : Hp} {r : Int32 × Hp} (hF : B_M_seat_34 N p0 p1 p2 w0 H = some r) (hc0 : Cl Q H) : Rg Q H r.2 := by
  unfold B_M_seat_34 at hF
  have hm := Rg.rf hc0
  rcases ite_s hF with ⟨q_21, hG⟩ | ⟨q_21, hG⟩
  · clear hF
    have hr := Option.some.inj hG; subst hr
    exact hm
  · clear hF
    obtain ⟨q84, hF⟩ := ck_s hG; clear hG
    obtain ⟨x85, -, hG⟩ := bnd_g hF; clear hF
    obtain ⟨H86, eH86, hF⟩ := bnd_g hG; clear hG
    replace hm : Rg Q H H86 := hm.tr (by rw [eH86]; exact Rg.sD hm.1 q_p0)
    have s_22 : Sa H H86 := by rw [eH86]; exact Sa.rf _
    obtain ⟨a87, e88, hG⟩ := rf_s hF; clear hF
    have qa87 : Q a87 := hm.1 _ _ _ q_p0 e88
    obtain ⟨q89, hF⟩ := ck_s hG; clear hG
    rw [(s_22).1] at q89
    obtain ⟨x90, -, hG⟩ := bnd_g hF; clear hF
    obtain ⟨x91, -, hF⟩ := bnd_g hG; clear hG
    exact hm.tr (gB_M_seat_62 q_p0 N x91 H86 r hF hm.1)
set_option maxRecDepth 20000 in
set_option maxHeartbeats 2000000 in
theorem g_M_seat {N : Nat} {Q : Nat → Prop} {p0 : Nat} {p1 : Int32} {p2 : Int32} {H : Hp} {r : Int32 × Hp} (hF : F_M_seat N p0 p1 p2 H = some r) (hc0 : Cl Q H) (q_p0 : Q p0) : Rg Q H r.2 := by
  unfold F_M_seat at hF
  have hm := Rg.rf hc0
  obtain ⟨q92, hG⟩ := ck_s hF; clear hF
  obtain ⟨H93, eH93, hF⟩ := bnd_g hG; clear hG
  replace hm : Rg Q H H93 := hm.tr (by rw [eH93]; exact Rg.sD hm.1 q_p0)
  have s_23 : Sa H H93 := by rw [eH93]; exact Sa.rf _
  obtain ⟨v95, H96, z94, hG⟩ := bC_s hF; clear hF
  have gz_24 := (g_M_in z94 hm.1)
  replace hm : Rg Q H H96 := hm.tr gz_24
  have s_25 : Sa H H96 := (s_23).tr (m_M_in z94)
  rcases ite_s hG with ⟨q_26, hF⟩ | ⟨q_26, hF⟩
  · clear hG
    have hr := Option.some.inj hF; subst hr
    exact hm
  · clear hG
    obtain ⟨x98, -, hG⟩ := bnd_g hF; clear hF
    rcases ite_s hG with ⟨q_27, hF⟩ | ⟨q_27, hF⟩
    · clear hG
      exact hm.tr (gB_M_seat_34 q_p0 hF hm.1)
    · clear hG
      exact hm.tr (gB_M_seat_34 q_p0 hF hm.1)
