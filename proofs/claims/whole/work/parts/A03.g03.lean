set_option maxRecDepth 20000 in
set_option maxHeartbeats 2000000 in
theorem g_Body_canBeNear {N : Nat} {Q : Nat → Prop} {p0 : Nat} {p1 : Int32} {H : Hp} {r : Int32 × Hp} (hF : F_Body_canBeNear N p0 p1 H = some r) (hc0 : Cl Q H) (q_p0 : Q p0) : Rg Q H r.2 := by
  unfold F_Body_canBeNear at hF
  have hm := Rg.rf hc0
  obtain ⟨q153, hG⟩ := ck_s hF; clear hF
  obtain ⟨a154, e155, hF⟩ := rf_s hG; clear hG
  have qa154 : Q a154 := hm.1 _ _ _ q_p0 e155
  obtain ⟨q156, hG⟩ := ck_s hF; clear hF
  obtain ⟨a157, e158, hF⟩ := rf_s hG; clear hG
  have qa157 : Q a157 := hm.1 _ _ _ qa154 e158
  obtain ⟨q159, hG⟩ := ck_s hF; clear hF
  obtain ⟨a160, e161, hF⟩ := rf_s hG; clear hG
  have qa160 : Q a160 := hm.1 _ _ _ qa157 e161
  obtain ⟨n162, q163, hG⟩ := ar_s hF; clear hF
  obtain ⟨q164, hF⟩ := ck_s hG; clear hG
  obtain ⟨x165, -, hG⟩ := bnd_g hF; clear hF
  obtain ⟨a166, e167, hF⟩ := rf_s hG; clear hG
  have qa166 : Q a166 := hm.1 _ _ _ q_p0 e167
  obtain ⟨q168, hG⟩ := ck_s hF; clear hF
  obtain ⟨a169, e170, hF⟩ := rf_s hG; clear hG
  have qa169 : Q a169 := hm.1 _ _ _ qa166 e170
  obtain ⟨x171, -, hG⟩ := bnd_g hF; clear hF
  obtain ⟨n172, q173, hF⟩ := ar_s hG; clear hG
  obtain ⟨q174, hG⟩ := ck_s hF; clear hF
  obtain ⟨x175, -, hF⟩ := bnd_g hG; clear hG
  obtain ⟨a176, e177, hG⟩ := rf_s hF; clear hF
  have qa176 : Q a176 := hm.1 _ _ _ q_p0 e177
  obtain ⟨q178, hF⟩ := ck_s hG; clear hG
  obtain ⟨a179, e180, hG⟩ := rf_s hF; clear hF
  have qa179 : Q a179 := hm.1 _ _ _ qa176 e180
  obtain ⟨x181, -, hF⟩ := bnd_g hG; clear hG
  obtain ⟨n182, q183, hG⟩ := ar_s hF; clear hF
  obtain ⟨q184, hF⟩ := ck_s hG; clear hG
  obtain ⟨x185, -, hG⟩ := bnd_g hF; clear hF
  rcases ite_s hG with ⟨q_7, hF⟩ | ⟨q_7, hF⟩
  · clear hG
    obtain ⟨a187, e188, hG⟩ := rf_s hF; clear hF
    have qa187 : Q a187 := hm.1 _ _ _ q_p0 e188
    obtain ⟨q189, hF⟩ := ck_s hG; clear hG
    obtain ⟨a190, e191, hG⟩ := rf_s hF; clear hF
    have qa190 : Q a190 := hm.1 _ _ _ qa187 e191
    obtain ⟨q192, hF⟩ := ck_s hG; clear hG
    obtain ⟨v194, H195, z193, hG⟩ := bC_s hF; clear hF
    have gz_8 := (g_Shapes_sizeOf z193 hm.1 qa190)
    replace hm : Rg Q H H195 := hm.tr gz_8
    have s_9 : Sa H H195 := (m_Shapes_sizeOf z193)
    rcases ite_s hG with ⟨q_10, hF⟩ | ⟨q_10, hF⟩
    · clear hG
      have hr := Option.some.inj hF; subst hr
      exact hm
    · clear hG
      obtain ⟨a197, e198, hG⟩ := rf_s hF; clear hF
      have qa197 : Q a197 := hm.1 _ _ _ q_p0 e198
      obtain ⟨q199, hF⟩ := ck_s hG; clear hG
      rw [(s_9).1] at q199
      obtain ⟨a200, e201, hG⟩ := rf_s hF; clear hF
      have qa200 : Q a200 := hm.1 _ _ _ qa197 e201
      obtain ⟨q202, hF⟩ := ck_s hG; clear hG
      rw [(s_9).1] at q202
      obtain ⟨a203, e204, hG⟩ := rf_s hF; clear hF
      have qa203 : Q a203 := hm.1 _ _ _ qa200 e204
      obtain ⟨n205, q206, hF⟩ := ar_s hG; clear hG
      rw [(s_9).1] at q206
      obtain ⟨q207, hG⟩ := ck_s hF; clear hF
      obtain ⟨a208, e209, hF⟩ := rf_s hG; clear hG
      have qa208 : Q a208 := hm.1 _ _ _ qa203 e209
      obtain ⟨q210, hG⟩ := ck_s hF; clear hF
      rw [(s_9).1] at q210
      obtain ⟨x211, -, hF⟩ := bnd_g hG; clear hG
      rcases ite_s hF with ⟨q_11, hG⟩ | ⟨q_11, hG⟩
      · clear hF
        obtain ⟨a213, e214, hF⟩ := rf_s hG; clear hG
        have qa213 : Q a213 := hm.1 _ _ _ q_p0 e214
        obtain ⟨q215, hG⟩ := ck_s hF; clear hF
        rw [(s_9).1] at q215
        obtain ⟨a216, e217, hF⟩ := rf_s hG; clear hG
        have qa216 : Q a216 := hm.1 _ _ _ qa213 e217
        obtain ⟨q218, hG⟩ := ck_s hF; clear hF
        rw [(s_9).1] at q218
        obtain ⟨a219, e220, hF⟩ := rf_s hG; clear hG
        have qa219 : Q a219 := hm.1 _ _ _ qa216 e220
        obtain ⟨n221, q222, hG⟩ := ar_s hF; clear hF
        rw [(s_9).1] at q222
        obtain ⟨q223, hF⟩ := ck_s hG; clear hG
        obtain ⟨a224, e225, hG⟩ := rf_s hF; clear hF
        have qa224 : Q a224 := hm.1 _ _ _ qa219 e225
        obtain ⟨q226, hF⟩ := ck_s hG; clear hG
        rw [(s_9).1] at q226
        obtain ⟨x227, -, hG⟩ := bnd_g hF; clear hF
        rcases ite_s hG with ⟨q_12, hF⟩ | ⟨q_12, hF⟩
        · clear hG
          have hr := Option.some.inj hF; subst hr
          exact hm
        · clear hG
          have hr := Option.some.inj hF; subst hr
          exact hm
      · clear hF
        have hr := Option.some.inj hG; subst hr
        exact hm
  · clear hG
    have hr := Option.some.inj hF; subst hr
    exact hm
set_option maxRecDepth 20000 in
set_option maxHeartbeats 2000000 in
theorem g_Program_forget {N : Nat} {Q : Nat → Prop} {p0 : Nat} {p1 : Int32} {H : Hp} {r : Unit × Hp} (hF : F_Program_forget N p0 p1 H = some r) (hc0 : Cl Q H) (q_p0 : Q p0) : Rg Q H r.2 := by
  unfold F_Program_forget at hF
  have hm := Rg.rf hc0
  obtain ⟨q13, hG⟩ := ck_s hF; clear hF
  obtain ⟨x14, -, hF⟩ := bnd_g hG; clear hG
  obtain ⟨v16, H17, z15, hG⟩ := bC_s hF; clear hF
  have gz_5 := (g_Math_max z15 hm.1)
  replace hm : Rg Q H H17 := hm.tr gz_5
  have s_6 : Sa H H17 := (m_Math_max z15)
  obtain ⟨H18, eH18, hF⟩ := bnd_g hG; clear hG
  replace hm : Rg Q H H18 := hm.tr (by rw [eH18]; exact Rg.sD hm.1 q_p0)
  have s_7 : Sa H H18 := by rw [eH18]; exact s_6
  have hr := Option.some.inj hF; subst hr
  exact hm
set_option maxRecDepth 20000 in
set_option maxHeartbeats 2000000 in
theorem gB_Body_spawnedPart_86 {N : Nat} {Q : Nat → Prop} {p0 : Nat} {p1 : Int32} {p2 : Int32} {B : Nat} (hn : ∀ a, B ≤ a → Q a) (q_p0 : Q p0) {l3 : Int32} {l5 : Nat} {H : Hp} {r : (Ot Int32) × Hp} (hF : B_Body_spawnedPart_86 N p0 p1 p2 l3 l5 H = some r) (hc0 : Cl Q H) (hB : B ≤ H.sh.length) (q_l5 : Q l5) : Rg Q H r.2 ∧ (∀ x, r.1 = .inr x → Q x) := by
  unfold B_Body_spawnedPart_86 at hF
  have hm := Rg.rf hc0
  obtain ⟨q43, hG⟩ := ck_s hF; clear hF
  obtain ⟨a44, e45, hF⟩ := rf_s hG; clear hG
  have qa44 : Q a44 := hm.1 _ _ _ q_p0 e45
  obtain ⟨q46, hG⟩ := ck_s hF; clear hF
  refine bT_c hG (fun x50 H49 z47 er => ?_) (fun v48 H49 z47 hF => ?_)
  · subst er; have gz := (g_Lexer_refuse hn z47 hm.1 hB qa44); exact ⟨hm.tr gz.1, (fun x e => by cases e; exact gz.2 _ rfl)⟩
  clear hG
  have gz_49 := (g_Lexer_refuse hn z47 hm.1 hB qa44)
  replace hm : Rg Q H H49 := hm.tr gz_49.1
  replace hB : B ≤ H49.sh.length := Nat.le_trans hB ((m_Lexer_refuse z47)).len
  have mz_50 : Mo H H49 := (m_Lexer_refuse z47)
  have q_51 := (mz_50).get q43
  have q_52 := (mz_50).get q46
  obtain ⟨q51, hG⟩ := ck_s hF; clear hF
  obtain ⟨x52, -, hF⟩ := bnd_g hG; clear hG
  have hr := Option.some.inj hF; subst hr
  exact ⟨hm, (fun x e => by cases e)⟩
set_option maxRecDepth 20000 in
set_option maxHeartbeats 2000000 in
theorem gB_Body_spawnedPart_31 {N : Nat} {Q : Nat → Prop} {p0 : Nat} {p1 : Int32} {p2 : Int32} {B : Nat} (hn : ∀ a, B ≤ a → Q a) (q_p0 : Q p0) {l3 : Int32} {l4 : Nat} {H : Hp} {r : (Ot Int32) × Hp} (hF : B_Body_spawnedPart_31 N p0 p1 p2 l3 l4 H = some r) (hc0 : Cl Q H) (hB : B ≤ H.sh.length) (q_l4 : Q l4) : Rg Q H r.2 ∧ (∀ x, r.1 = .inr x → Q x) := by
  unfold B_Body_spawnedPart_31 at hF
  have hm := Rg.rf hc0
  obtain ⟨q53, hG⟩ := ck_s hF; clear hF
  obtain ⟨a54, e55, hF⟩ := rf_s hG; clear hG
  have qa54 : Q a54 := hm.1 _ _ _ q_p0 e55
  obtain ⟨q56, hG⟩ := ck_s hF; clear hF
  obtain ⟨v58, H59, z57, hF⟩ := bC_s hG; clear hG
  have gz_53 := (g_Program_find z57 hm.1 qa54 q_l4)
  replace hm : Rg Q H H59 := hm.tr gz_53.1
  replace hB : B ≤ H59.sh.length := Nat.le_trans hB ((m_Program_find z57)).mo.len
  have s_54 : Sa H H59 := (m_Program_find z57)
  refine nl_c hF (fun ea60 hG => ?_) (fun a60 ea60 hG => ?_)
  · clear hF; subst ea60
    obtain ⟨a61, e62, hF⟩ := rf_s hG; clear hG
    have qa61 : Q a61 := hm.1 _ _ _ q_p0 e62
    obtain ⟨q63, hG⟩ := ck_s hF; clear hF
    rw [(s_54).1] at q63
    refine bT_c hG (fun x67 H66 z64 er => ?_) (fun v65 H66 z64 hF => ?_)
    · subst er; have gz := (g_Lexer_refuse hn z64 hm.1 hB qa61); exact ⟨hm.tr gz.1, (fun x e => by cases e; exact gz.2 _ rfl)⟩
    clear hG
    have gz_55 := (g_Lexer_refuse hn z64 hm.1 hB qa61)
    replace hm : Rg Q H H66 := hm.tr gz_55.1
    replace hB : B ≤ H66.sh.length := Nat.le_trans hB ((m_Lexer_refuse z64)).len
    have mz_56 : Mo H59 H66 := (m_Lexer_refuse z64)
    have q_57 := (mz_56).get (by rw [(s_54).1]; exact q53)
    have q_58 := (mz_56).get (by rw [(s_54).1]; exact q56)
    have q_59 := (mz_56).get (by rw [(s_54).1]; exact q63)
    have hr := Option.some.inj hF; subst hr
    exact ⟨hm, (fun x e => by cases e)⟩
  clear hF; subst ea60
  have qa60 : Q a60 := gz_53.2 _ rfl
  obtain ⟨q68, hF⟩ := ck_s hG; clear hG
  rw [(s_54).1] at q68
  obtain ⟨x69, -, hG⟩ := bnd_g hF; clear hF
  rcases ite_s hG with ⟨q_60, hF⟩ | ⟨q_60, hF⟩
  · clear hG
    obtain ⟨a71, e72, hG⟩ := rf_s hF; clear hF
    have qa71 : Q a71 := hm.1 _ _ _ q_p0 e72
    obtain ⟨q73, hF⟩ := ck_s hG; clear hG
    rw [(s_54).1] at q73
    obtain ⟨a74, e75, hG⟩ := rf_s hF; clear hF
    have qa74 : Q a74 := hm.1 _ _ _ qa71 e75
    obtain ⟨n76, q77, hF⟩ := ar_s hG; clear hG
    rw [(s_54).1] at q77
    obtain ⟨q78, hG⟩ := ck_s hF; clear hF
    obtain ⟨x79, -, hF⟩ := bnd_g hG; clear hG
    obtain ⟨x80, -, hG⟩ := bnd_g hF; clear hF
    rcases ite_s hG with ⟨q_61, hF⟩ | ⟨q_61, hF⟩
    · clear hG
      have gz := gB_Body_spawnedPart_86 hn q_p0 hF hm.1 hB qa60
      exact ⟨hm.tr gz.1, gz.2⟩
    · clear hG
      obtain ⟨x82, -, hG⟩ := bnd_g hF; clear hF
      have hr := Option.some.inj hG; subst hr
      exact ⟨hm, (fun x e => by cases e)⟩
  · clear hG
    have gz := gB_Body_spawnedPart_86 hn q_p0 hF hm.1 hB qa60
    exact ⟨hm.tr gz.1, gz.2⟩
set_option maxRecDepth 20000 in
set_option maxHeartbeats 2000000 in
theorem g_Body_spawnedPart {N : Nat} {Q : Nat → Prop} {p0 : Nat} {p1 : Int32} {p2 : Int32} {H : Hp} {r : (Ot Int32) × Hp} {B : Nat} (hn : ∀ a, B ≤ a → Q a) (hF : F_Body_spawnedPart N p0 p1 p2 H = some r) (hc0 : Cl Q H) (hB : B ≤ H.sh.length) (q_p0 : Q p0) : Rg Q H r.2 ∧ (∀ x, r.1 = .inr x → Q x) := by
  unfold F_Body_spawnedPart at hF
  have hm := Rg.rf hc0
  obtain ⟨q83, hG⟩ := ck_s hF; clear hF
  obtain ⟨a84, e85, hF⟩ := rf_s hG; clear hG
  have qa84 : Q a84 := hm.1 _ _ _ q_p0 e85
  obtain ⟨q86, hG⟩ := ck_s hF; clear hF
  obtain ⟨x87, -, hF⟩ := bnd_g hG; clear hG
  obtain ⟨a88, e89, hG⟩ := rf_s hF; clear hF
  have qa88 : Q a88 := hm.1 _ _ _ q_p0 e89
  obtain ⟨q90, hF⟩ := ck_s hG; clear hG
  refine bT_c hF (fun x94 H93 z91 er => ?_) (fun v92 H93 z91 hG => ?_)
  · subst er; have gz := (g_Lexer_takeName hn z91 hm.1 hB qa88); exact ⟨hm.tr gz.1, (fun x e => by cases e; exact gz.2.2 _ rfl)⟩
  clear hF
  have gz_62 := (g_Lexer_takeName hn z91 hm.1 hB qa88)
  replace hm : Rg Q H H93 := hm.tr gz_62.1
  replace hB : B ≤ H93.sh.length := Nat.le_trans hB ((m_Lexer_takeName z91)).len
  have mz_63 : Mo H H93 := (m_Lexer_takeName z91)
  have q_64 := (mz_63).get q83
  have q_65 := (mz_63).get q86
  have q_66 := (mz_63).get q90
  obtain ⟨a95, ea95, hF⟩ := on_s hG; clear hG
  subst ea95
  have qa95 : Q a95 := gz_62.2.1 _ rfl
  rcases ite_s hF with ⟨q_67, hG⟩ | ⟨q_67, hG⟩
  · clear hF
    have gz := gB_Body_spawnedPart_31 hn q_p0 hG hm.1 hB qa95
    exact ⟨hm.tr gz.1, gz.2⟩
  · clear hF
    obtain ⟨a97, e98, hF⟩ := rf_s hG; clear hG
    have qa97 : Q a97 := hm.1 _ _ _ q_p0 e98
    obtain ⟨q99, hG⟩ := ck_s hF; clear hF
    refine bT_c hG (fun x103 H102 z100 er => ?_) (fun v101 H102 z100 hF => ?_)
    · subst er; have gz := (g_Lexer_refuse hn z100 hm.1 hB qa97); exact ⟨hm.tr gz.1, (fun x e => by cases e; exact gz.2 _ rfl)⟩
    clear hG
    have gz_68 := (g_Lexer_refuse hn z100 hm.1 hB qa97)
    replace hm : Rg Q H H102 := hm.tr gz_68.1
    replace hB : B ≤ H102.sh.length := Nat.le_trans hB ((m_Lexer_refuse z100)).len
    have mz_69 : Mo H93 H102 := (m_Lexer_refuse z100)
    have q_70 := (mz_69).get q_64
    have q_71 := (mz_69).get q_65
    have q_72 := (mz_69).get q_66
    have q_73 := (mz_69).get q99
    have gz := gB_Body_spawnedPart_31 hn q_p0 hF hm.1 hB qa95
    exact ⟨hm.tr gz.1, gz.2⟩
set_option maxRecDepth 20000 in
set_option maxHeartbeats 2000000 in
theorem gB_Body_readSpawn_169 {N : Nat} {Q : Nat → Prop} {p0 : Nat} {B : Nat} (hn : ∀ a, B ≤ a → Q a) (q_p0 : Q p0) : ∀ (n : Nat) (l2 : Nat) (l3 : Int32) (l4 : Int32) (H : Hp) (r : (Ot Unit) × Hp), B_Body_readSpawn_169 N p0 n l2 l3 l4 H = some r → Cl Q H → B ≤ H.sh.length → Q l2 → Rg Q H r.2 ∧ (∀ x, r.1 = .inr x → Q x) := by
  intro n
  induction n with
  | zero => intro l2 l3 l4 H r hF; rw [B_Body_readSpawn_169] at hF; cases hF
  | succ n ih =>
    intro l2 l3 l4 H r hF hc0 hB q_l2
    rw [B_Body_readSpawn_169] at hF
    have hm := Rg.rf hc0
    rcases ite_s hF with ⟨q_96, hG⟩ | ⟨q_96, hG⟩
    · clear hF
      have hr := Option.some.inj hG; subst hr
      exact ⟨hm, (fun x e => by cases e)⟩
    · clear hF
      obtain ⟨q50, hF⟩ := ck_s hG; clear hG
      obtain ⟨a51, e52, hG⟩ := rf_s hF; clear hF
      have qa51 : Q a51 := hm.1 _ _ _ q_p0 e52
      obtain ⟨n53, q54, hF⟩ := ar_s hG; clear hG
      obtain ⟨q55, hG⟩ := ck_s hF; clear hF
      obtain ⟨x56, -, hF⟩ := bnd_g hG; clear hG
      obtain ⟨q57, hG⟩ := ck_s hF; clear hF
      obtain ⟨v59, H60, z58, hF⟩ := bC_s hG; clear hG
      have gz_97 := (g_Program_add z58 hm.1 qa51)
      replace hm : Rg Q H H60 := hm.tr gz_97
      replace hB : B ≤ H60.sh.length := Nat.le_trans hB ((m_Program_add z58)).mo.len
      have s_98 : Sa H H60 := (m_Program_add z58)
      have gz := ih l2 l3 (l4 + 1) H60 r hF hm.1 hB q_l2
      exact ⟨hm.tr gz.1, gz.2⟩
set_option maxRecDepth 20000 in
set_option maxHeartbeats 2000000 in
theorem gB_Body_readSpawn_129 {N : Nat} {Q : Nat → Prop} {p0 : Nat} {B : Nat} (hn : ∀ a, B ≤ a → Q a) (q_p0 : Q p0) {l1 : Int32} {l2 : Nat} {l3 : Int32} {H : Hp} {r : (Ot Unit) × Hp} (hF : B_Body_readSpawn_129 N p0 l1 l2 l3 H = some r) (hc0 : Cl Q H) (hB : B ≤ H.sh.length) (q_l2 : Q l2) : Rg Q H r.2 ∧ (∀ x, r.1 = .inr x → Q x) := by
  unfold B_Body_readSpawn_129 at hF
  have hm := Rg.rf hc0
  obtain ⟨q61, hG⟩ := ck_s hF; clear hF
  obtain ⟨a62, e63, hF⟩ := rf_s hG; clear hG
  have qa62 : Q a62 := hm.1 _ _ _ q_p0 e63
  obtain ⟨q64, hG⟩ := ck_s hF; clear hF
  refine bT_c hG (fun x68 H67 z65 er => ?_) (fun v66 H67 z65 hF => ?_)
  · subst er; have gz := (g_Lexer_take hn z65 hm.1 hB qa62); exact ⟨hm.tr gz.1, (fun x e => by cases e; exact gz.2 _ rfl)⟩
  clear hG
  have gz_99 := (g_Lexer_take hn z65 hm.1 hB qa62)
  replace hm : Rg Q H H67 := hm.tr gz_99.1
  replace hB : B ≤ H67.sh.length := Nat.le_trans hB ((m_Lexer_take z65)).len
  have mz_100 : Mo H H67 := (m_Lexer_take z65)
  have q_101 := (mz_100).get q61
  have q_102 := (mz_100).get q64
  obtain ⟨a69, e70, hG⟩ := rf_s hF; clear hF
  have qa69 : Q a69 := hm.1 _ _ _ q_p0 e70
  obtain ⟨q71, hF⟩ := ck_s hG; clear hG
  obtain ⟨v73, H74, z72, hG⟩ := bC_s hF; clear hF
  have gz_103 := (g_Program_add z72 hm.1 qa69)
  replace hm : Rg Q H H74 := hm.tr gz_103
  replace hB : B ≤ H74.sh.length := Nat.le_trans hB ((m_Program_add z72)).mo.len
  have s_104 : Sa H67 H74 := (m_Program_add z72)
  obtain ⟨a75, e76, hF⟩ := rf_s hG; clear hG
  have qa75 : Q a75 := hm.1 _ _ _ q_p0 e76
  obtain ⟨q77, hG⟩ := ck_s hF; clear hF
  rw [(s_104).1] at q77
  obtain ⟨v79, H80, z78, hF⟩ := bC_s hG; clear hG
  have gz_105 := (g_Program_add z78 hm.1 qa75)
  replace hm : Rg Q H H80 := hm.tr gz_105
  replace hB : B ≤ H80.sh.length := Nat.le_trans hB ((m_Program_add z78)).mo.len
  have s_106 : Sa H67 H80 := (s_104).tr (m_Program_add z78)
  obtain ⟨a81, e82, hG⟩ := rf_s hF; clear hF
  have qa81 : Q a81 := hm.1 _ _ _ q_p0 e82
  obtain ⟨q83, hF⟩ := ck_s hG; clear hG
  rw [(s_106).1] at q83
  obtain ⟨v85, H86, z84, hG⟩ := bC_s hF; clear hF
  have gz_107 := (g_Program_add z84 hm.1 qa81)
  replace hm : Rg Q H H86 := hm.tr gz_107
  replace hB : B ≤ H86.sh.length := Nat.le_trans hB ((m_Program_add z84)).mo.len
  have s_108 : Sa H67 H86 := (s_106).tr (m_Program_add z84)
  have gz := gB_Body_readSpawn_169 hn q_p0 N l2 l3 0 H86 r hG hm.1 hB q_l2
  exact ⟨hm.tr gz.1, gz.2⟩
set_option maxRecDepth 20000 in
set_option maxHeartbeats 2000000 in
theorem gB_Body_readSpawn_125 {N : Nat} {Q : Nat → Prop} {p0 : Nat} {B : Nat} (hn : ∀ a, B ≤ a → Q a) (q_p0 : Q p0) {l1 : Int32} {l2 : Nat} {l3 : Int32} {H : Hp} {r : (Ot Unit) × Hp} (hF : B_Body_readSpawn_125 N p0 l1 l2 l3 H = some r) (hc0 : Cl Q H) (hB : B ≤ H.sh.length) (q_l2 : Q l2) : Rg Q H r.2 ∧ (∀ x, r.1 = .inr x → Q x) := by
  unfold B_Body_readSpawn_125 at hF
  have hm := Rg.rf hc0
  obtain ⟨q87, hG⟩ := ck_s hF; clear hF
  refine bT_c hG (fun x91 H90 z88 er => ?_) (fun v89 H90 z88 hF => ?_)
  · subst er; have gz := (g_Body_closeParens hn z88 hm.1 hB q_p0); exact ⟨hm.tr gz.1, (fun x e => by cases e; exact gz.2 _ rfl)⟩
  clear hG
  have gz_109 := (g_Body_closeParens hn z88 hm.1 hB q_p0)
  replace hm : Rg Q H H90 := hm.tr gz_109.1
  replace hB : B ≤ H90.sh.length := Nat.le_trans hB ((m_Body_closeParens z88)).len
  have mz_110 : Mo H H90 := (m_Body_closeParens z88)
  have q_111 := (mz_110).get q87
  have gz := gB_Body_readSpawn_129 hn q_p0 hF hm.1 hB q_l2
  exact ⟨hm.tr gz.1, gz.2⟩
set_option maxRecDepth 20000 in
set_option maxHeartbeats 2000000 in
theorem gB_Body_readSpawn_119 {N : Nat} {Q : Nat → Prop} {p0 : Nat} {kq41 : Int32 → Nat → Int32 → Int32 → Int32 → Hp → Option ((Ot Unit) × Hp)} {B : Nat} (hn : ∀ a, B ≤ a → Q a) (q_p0 : Q p0) (hg41 : ∀ (l1 : Int32) (l2 : Nat) (l3 : Int32) (l4 : Int32) (l5 : Int32) (H : Hp) (r : (Ot Unit) × Hp), kq41 l1 l2 l3 l4 l5 H = some r → Cl Q H → B ≤ H.sh.length → Q l2 → Rg Q H r.2 ∧ (∀ x, r.1 = .inr x → Q x)) {l1 : Int32} {l2 : Nat} {l3 : Int32} {l4 : Int32} {l5 : Int32} {H : Hp} {r : (Ot Unit) × Hp} (hF : B_Body_readSpawn_119 N p0 kq41 l1 l2 l3 l4 l5 H = some r) (hc0 : Cl Q H) (hB : B ≤ H.sh.length) (q_l2 : Q l2) : Rg Q H r.2 ∧ (∀ x, r.1 = .inr x → Q x) := by
  unfold B_Body_readSpawn_119 at hF
  have hm := Rg.rf hc0
  have gz := hg41 l1 l2 l3 l4 (l5 + 1) H r hF hm.1 hB q_l2
  exact ⟨hm.tr gz.1, gz.2⟩
set_option maxRecDepth 20000 in
set_option maxHeartbeats 2000000 in
theorem gB_Body_readSpawn_105 {N : Nat} {Q : Nat → Prop} {p0 : Nat} {kq41 : Int32 → Nat → Int32 → Int32 → Int32 → Hp → Option ((Ot Unit) × Hp)} {B : Nat} (hn : ∀ a, B ≤ a → Q a) (q_p0 : Q p0) (hg41 : ∀ (l1 : Int32) (l2 : Nat) (l3 : Int32) (l4 : Int32) (l5 : Int32) (H : Hp) (r : (Ot Unit) × Hp), kq41 l1 l2 l3 l4 l5 H = some r → Cl Q H → B ≤ H.sh.length → Q l2 → Rg Q H r.2 ∧ (∀ x, r.1 = .inr x → Q x)) {l1 : Int32} {l2 : Nat} {l3 : Int32} {l5 : Int32} {w0 : Int32} {H : Hp} {r : (Ot Unit) × Hp} (hF : B_Body_readSpawn_105 N p0 kq41 l1 l2 l3 l5 w0 H = some r) (hc0 : Cl Q H) (hB : B ≤ H.sh.length) (q_l2 : Q l2) : Rg Q H r.2 ∧ (∀ x, r.1 = .inr x → Q x) := by
  unfold B_Body_readSpawn_105 at hF
  have hm := Rg.rf hc0
  rcases ite_s hF with ⟨q_112, hG⟩ | ⟨q_112, hG⟩
  · clear hF
    have gz := gB_Body_readSpawn_119 hn q_p0 hg41 hG hm.1 hB q_l2
    exact ⟨hm.tr gz.1, gz.2⟩
  · clear hF
    obtain ⟨q93, hF⟩ := ck_s hG; clear hG
    obtain ⟨a94, e95, hG⟩ := rf_s hF; clear hF
    have qa94 : Q a94 := hm.1 _ _ _ q_p0 e95
    obtain ⟨q96, hF⟩ := ck_s hG; clear hG
    obtain ⟨v98, H99, z97, hG⟩ := bC_s hF; clear hF
    have gz_113 := (g_Lexer_advance z97 hm.1 qa94)
    replace hm : Rg Q H H99 := hm.tr gz_113
    replace hB : B ≤ H99.sh.length := Nat.le_trans hB ((m_Lexer_advance z97)).mo.len
    have s_114 : Sa H H99 := (m_Lexer_advance z97)
    have gz := gB_Body_readSpawn_119 hn q_p0 hg41 hG hm.1 hB q_l2
    exact ⟨hm.tr gz.1, gz.2⟩
set_option maxRecDepth 20000 in
set_option maxHeartbeats 2000000 in
theorem gB_Body_readSpawn_88 {N : Nat} {Q : Nat → Prop} {p0 : Nat} {kq41 : Int32 → Nat → Int32 → Int32 → Int32 → Hp → Option ((Ot Unit) × Hp)} {B : Nat} (hn : ∀ a, B ≤ a → Q a) (q_p0 : Q p0) (hg41 : ∀ (l1 : Int32) (l2 : Nat) (l3 : Int32) (l4 : Int32) (l5 : Int32) (H : Hp) (r : (Ot Unit) × Hp), kq41 l1 l2 l3 l4 l5 H = some r → Cl Q H → B ≤ H.sh.length → Q l2 → Rg Q H r.2 ∧ (∀ x, r.1 = .inr x → Q x)) {l1 : Int32} {l2 : Nat} {l3 : Int32} {l5 : Int32} {H : Hp} {r : (Ot Unit) × Hp} (hF : B_Body_readSpawn_88 N p0 kq41 l1 l2 l3 l5 H = some r) (hc0 : Cl Q H) (hB : B ≤ H.sh.length) (q_l2 : Q l2) : Rg Q H r.2 ∧ (∀ x, r.1 = .inr x → Q x) := by
  unfold B_Body_readSpawn_88 at hF
  have hm := Rg.rf hc0
  obtain ⟨q100, hG⟩ := ck_s hF; clear hF
  obtain ⟨a101, e102, hF⟩ := rf_s hG; clear hG
  have qa101 : Q a101 := hm.1 _ _ _ q_p0 e102
  obtain ⟨q103, hG⟩ := ck_s hF; clear hF
  obtain ⟨x104, -, hF⟩ := bnd_g hG; clear hG
  rcases ite_s hF with ⟨q_115, hG⟩ | ⟨q_115, hG⟩
  · clear hF
    have gz := gB_Body_readSpawn_105 hn q_p0 hg41 hG hm.1 hB q_l2
    exact ⟨hm.tr gz.1, gz.2⟩
  · clear hF
    have gz := gB_Body_readSpawn_105 hn q_p0 hg41 hG hm.1 hB q_l2
    exact ⟨hm.tr gz.1, gz.2⟩
set_option maxRecDepth 20000 in
set_option maxHeartbeats 2000000 in
theorem gB_Body_readSpawn_41 {N : Nat} {Q : Nat → Prop} {p0 : Nat} {B : Nat} (hn : ∀ a, B ≤ a → Q a) (q_p0 : Q p0) : ∀ (n : Nat) (l1 : Int32) (l2 : Nat) (l3 : Int32) (l4 : Int32) (l5 : Int32) (H : Hp) (r : (Ot Unit) × Hp), B_Body_readSpawn_41 N p0 n l1 l2 l3 l4 l5 H = some r → Cl Q H → B ≤ H.sh.length → Q l2 → Rg Q H r.2 ∧ (∀ x, r.1 = .inr x → Q x) := by
  intro n
  induction n with
  | zero => intro l1 l2 l3 l4 l5 H r hF; rw [B_Body_readSpawn_41] at hF; cases hF
  | succ n ih =>
    intro l1 l2 l3 l4 l5 H r hF hc0 hB q_l2
    rw [B_Body_readSpawn_41] at hF
    have hm := Rg.rf hc0
    rcases ite_s hF with ⟨q_116, hG⟩ | ⟨q_116, hG⟩
    · clear hF
      have gz := gB_Body_readSpawn_125 hn q_p0 hG hm.1 hB q_l2
      exact ⟨hm.tr gz.1, gz.2⟩
    · clear hF
      rcases ite_s hG with ⟨q_117, hF⟩ | ⟨q_117, hF⟩
      · clear hG
        have gz := gB_Body_readSpawn_125 hn q_p0 hF hm.1 hB q_l2
        exact ⟨hm.tr gz.1, gz.2⟩
      · clear hG
        obtain ⟨q108, hG⟩ := ck_s hF; clear hF
        refine bT_c hG (fun x112 H111 z109 er => ?_) (fun v110 H111 z109 hF => ?_)
        · subst er; have gz := (g_Body_spawnedPart hn z109 hm.1 hB q_p0); exact ⟨hm.tr gz.1, (fun x e => by cases e; exact gz.2 _ rfl)⟩
        clear hG
        have gz_118 := (g_Body_spawnedPart hn z109 hm.1 hB q_p0)
        replace hm : Rg Q H H111 := hm.tr gz_118.1
        replace hB : B ≤ H111.sh.length := Nat.le_trans hB ((m_Body_spawnedPart z109)).len
        have mz_119 : Mo H H111 := (m_Body_spawnedPart z109)
        have q_120 := (mz_119).get q108
        refine bT_c hF (fun x116 H115 z113 er => ?_) (fun v114 H115 z113 hG => ?_)
        · subst er; have gz := (g_Body_givenMember hn z113 hm.1 hB q_p0); exact ⟨hm.tr gz.1, (fun x e => by cases e; exact gz.2 _ rfl)⟩
        clear hF
        have gz_121 := (g_Body_givenMember hn z113 hm.1 hB q_p0)
        replace hm : Rg Q H H115 := hm.tr gz_121.1
        replace hB : B ≤ H115.sh.length := Nat.le_trans hB ((m_Body_givenMember z113)).len
        have mz_122 : Mo H111 H115 := (m_Body_givenMember z113)
        have q_123 := (mz_122).get q_120
        obtain ⟨v118, H119, z117, hF⟩ := bC_s hG; clear hG
        have gz_124 := (g_Body_kindAt z117 hm.1 q_p0)
        replace hm : Rg Q H H119 := hm.tr gz_124
        replace hB : B ≤ H119.sh.length := Nat.le_trans hB ((m_Body_kindAt z117)).mo.len
        have s_125 : Sa H115 H119 := (m_Body_kindAt z117)
        refine bT_c hF (fun x123 H122 z120 er => ?_) (fun v121 H122 z120 hG => ?_)
        · subst er; have gz := (g_Body_want (hmo := moX_BodyE 140) (gX_BodyE hn 140) hn z120 hm.1 hB q_p0); exact ⟨hm.tr gz.1, (fun x e => by cases e; exact gz.2 _ rfl)⟩
        clear hF
        have gz_126 := (g_Body_want (hmo := moX_BodyE 140) (gX_BodyE hn 140) hn z120 hm.1 hB q_p0)
        replace hm : Rg Q H H122 := hm.tr gz_126.1
        replace hB : B ≤ H122.sh.length := Nat.le_trans hB ((m_Body_want (moX_BodyE 140) z120)).len
        have mz_127 : Mo H119 H122 := (m_Body_want (moX_BodyE 140) z120)
        have q_128 := (mz_127).get (by rw [(s_125).1]; exact q_123)
        rcases ite_s hG with ⟨q_129, hF⟩ | ⟨q_129, hF⟩
        · clear hG
          have gz := gB_Body_readSpawn_88 hn q_p0 ih hF hm.1 hB q_l2
          exact ⟨hm.tr gz.1, gz.2⟩
        · clear hG
          obtain ⟨n125, q126, hG⟩ := ar_s hF; clear hF
          obtain ⟨q127, hF⟩ := ck_s hG; clear hG
          obtain ⟨H128, eH128, hG⟩ := bnd_g hF; clear hF
          replace hm : Rg Q H H128 := hm.tr (by rw [eH128]; exact Rg.sD hm.1 q_l2)
          have s_130 : Sa H122 H128 := by rw [eH128]; exact Sa.rf _
          replace hB : B ≤ H128.sh.length := by rw [eH128]; exact hB
          have gz := gB_Body_readSpawn_88 hn q_p0 ih hG hm.1 hB q_l2
          exact ⟨hm.tr gz.1, gz.2⟩
set_option maxRecDepth 20000 in
set_option maxHeartbeats 2000000 in
theorem g_Body_readSpawn {N : Nat} {Q : Nat → Prop} {p0 : Nat} {H : Hp} {r : (Ot Unit) × Hp} {B : Nat} (hn : ∀ a, B ≤ a → Q a) (hF : F_Body_readSpawn N p0 H = some r) (hc0 : Cl Q H) (hB : B ≤ H.sh.length) (q_p0 : Q p0) : Rg Q H r.2 ∧ (∀ x, r.1 = .inr x → Q x) := by
  unfold F_Body_readSpawn at hF
  have hm := Rg.rf hc0
  obtain ⟨q129, hG⟩ := ck_s hF; clear hF
  obtain ⟨a130, e131, hF⟩ := rf_s hG; clear hG
  have qa130 : Q a130 := hm.1 _ _ _ q_p0 e131
  obtain ⟨q132, hG⟩ := ck_s hF; clear hF
  obtain ⟨v134, H135, z133, hF⟩ := bC_s hG; clear hG
  have gz_131 := (g_Lexer_advance z133 hm.1 qa130)
  replace hm : Rg Q H H135 := hm.tr gz_131
  replace hB : B ≤ H135.sh.length := Nat.le_trans hB ((m_Lexer_advance z133)).mo.len
  have s_132 : Sa H H135 := (m_Lexer_advance z133)
  refine bT_c hF (fun x139 H138 z136 er => ?_) (fun v137 H138 z136 hG => ?_)
  · subst er; have gz := (g_Body_numberHere hn z136 hm.1 hB q_p0); exact ⟨hm.tr gz.1, (fun x e => by cases e; exact gz.2 _ rfl)⟩
  clear hF
  have gz_133 := (g_Body_numberHere hn z136 hm.1 hB q_p0)
  replace hm : Rg Q H H138 := hm.tr gz_133.1
  replace hB : B ≤ H138.sh.length := Nat.le_trans hB ((m_Body_numberHere z136)).len
  have mz_134 : Mo H135 H138 := (m_Body_numberHere z136)
  have q_135 := (mz_134).get (by rw [(s_132).1]; exact q129)
  have q_136 := (mz_134).get (by rw [(s_132).1]; exact q132)
  obtain ⟨q140, hF⟩ := ck_s hG; clear hG
  obtain ⟨q141, hG⟩ := ck_s hF; clear hF
  obtain ⟨H142, eH142, hF⟩ := bnd_g hG; clear hG
  obtain ⟨a143, ea143, hG⟩ := bnd_g hF; clear hF
  have m_137 : Mo H138 H142 := by rw [eH142]; exact Mo.nw _ _ _
  have qa143 : Q a143 := by rw [ea143]; exact hn _ hB
  replace hm : Rg Q H H142 := hm.tr (by rw [eH142]; exact Rg.nw hm.1 (hn _ hB))
  replace hB : B ≤ H142.sh.length := Nat.le_trans hB (m_137).len
  have q_138 := (m_137).get q_135
  have q_139 := (m_137).get q_136
  obtain ⟨a144, e145, hF⟩ := rf_s hG; clear hG
  have qa144 : Q a144 := hm.1 _ _ _ q_p0 e145
  obtain ⟨q146, hG⟩ := ck_s hF; clear hF
  obtain ⟨x147, -, hF⟩ := bnd_g hG; clear hG
  rcases ite_s hF with ⟨q_140, hG⟩ | ⟨q_140, hG⟩
  · clear hF
    refine bT_c hG (fun x152 H151 z149 er => ?_) (fun v150 H151 z149 hF => ?_)
    · subst er; have gz := (g_Body_openParens hn z149 hm.1 hB q_p0); exact ⟨hm.tr gz.1, (fun x e => by cases e; exact gz.2 _ rfl)⟩
    clear hG
    have gz_141 := (g_Body_openParens hn z149 hm.1 hB q_p0)
    replace hm : Rg Q H H151 := hm.tr gz_141.1
    replace hB : B ≤ H151.sh.length := Nat.le_trans hB ((m_Body_openParens z149)).len
    have mz_142 : Mo H142 H151 := (m_Body_openParens z149)
    have q_143 := (mz_142).get q_138
    have q_144 := (mz_142).get q_139
    have q_145 := (mz_142).get q146
    have gz := gB_Body_readSpawn_41 hn q_p0 N v137 a143 0 1 0 H151 r hF hm.1 hB qa143
    exact ⟨hm.tr gz.1, gz.2⟩
  · clear hF
    have gz := gB_Body_readSpawn_129 hn q_p0 hG hm.1 hB qa143
    exact ⟨hm.tr gz.1, gz.2⟩
set_option maxRecDepth 20000 in
set_option maxHeartbeats 2000000 in
theorem gB_Body_readTargeted_68 {N : Nat} {Q : Nat → Prop} {p0 : Nat} {p1 : Int32} {B : Nat} (hn : ∀ a, B ≤ a → Q a) (q_p0 : Q p0)  {H : Hp} {r : (Ot Unit) × Hp} (hF : B_Body_readTargeted_68 N p0 p1  H = some r) (hc0 : Cl Q H) (hB : B ≤ H.sh.length) : Rg Q H r.2 ∧ (∀ x, r.1 = .inr x → Q x) := by
  unfold B_Body_readTargeted_68 at hF
  have hm := Rg.rf hc0
  obtain ⟨q51, hG⟩ := ck_s hF; clear hF
  obtain ⟨a52, e53, hF⟩ := rf_s hG; clear hG
  have qa52 : Q a52 := hm.1 _ _ _ q_p0 e53
  obtain ⟨q54, hG⟩ := ck_s hF; clear hF
  refine bT_c hG (fun x58 H57 z55 er => ?_) (fun v56 H57 z55 hF => ?_)
  · subst er; have gz := (g_Lexer_take hn z55 hm.1 hB qa52); exact ⟨hm.tr gz.1, (fun x e => by cases e; exact gz.2 _ rfl)⟩
  clear hG
  have gz_38 := (g_Lexer_take hn z55 hm.1 hB qa52)
  replace hm : Rg Q H H57 := hm.tr gz_38.1
  replace hB : B ≤ H57.sh.length := Nat.le_trans hB ((m_Lexer_take z55)).len
  have mz_39 : Mo H H57 := (m_Lexer_take z55)
  have q_40 := (mz_39).get q51
  have q_41 := (mz_39).get q54
  have hr := Option.some.inj hF; subst hr
  exact ⟨hm, (fun x e => by cases e)⟩
set_option maxRecDepth 20000 in
set_option maxHeartbeats 2000000 in
theorem gB_Body_readTargeted_55 {N : Nat} {Q : Nat → Prop} {p0 : Nat} {p1 : Int32} {B : Nat} (hn : ∀ a, B ≤ a → Q a) (q_p0 : Q p0) {l2 : Int32} {w0 : Nat} {w1 : Int32} {H : Hp} {r : (Ot Unit) × Hp} (hF : B_Body_readTargeted_55 N p0 p1 l2 w0 w1 H = some r) (hc0 : Cl Q H) (hB : B ≤ H.sh.length) (q_w0 : Q w0) : Rg Q H r.2 ∧ (∀ x, r.1 = .inr x → Q x) := by
  unfold B_Body_readTargeted_55 at hF
  have hm := Rg.rf hc0
  obtain ⟨q59, hG⟩ := ck_s hF; clear hF
  obtain ⟨v61, H62, z60, hF⟩ := bC_s hG; clear hG
  have gz_42 := (g_Program_add z60 hm.1 q_w0)
  replace hm : Rg Q H H62 := hm.tr gz_42
  replace hB : B ≤ H62.sh.length := Nat.le_trans hB ((m_Program_add z60)).mo.len
  have s_43 : Sa H H62 := (m_Program_add z60)
  obtain ⟨q63, hG⟩ := ck_s hF; clear hF
  rw [(s_43).1] at q63
  obtain ⟨a64, e65, hF⟩ := rf_s hG; clear hG
  have qa64 : Q a64 := hm.1 _ _ _ q_p0 e65
  obtain ⟨q66, hG⟩ := ck_s hF; clear hF
  rw [(s_43).1] at q66
  obtain ⟨v68, H69, z67, hF⟩ := bC_s hG; clear hG
  have gz_44 := (g_Program_add z67 hm.1 qa64)
  replace hm : Rg Q H H69 := hm.tr gz_44
  replace hB : B ≤ H69.sh.length := Nat.le_trans hB ((m_Program_add z67)).mo.len
  have s_45 : Sa H H69 := (s_43).tr (m_Program_add z67)
  have gz := gB_Body_readTargeted_68 hn q_p0 hF hm.1 hB
  exact ⟨hm.tr gz.1, gz.2⟩
set_option maxRecDepth 20000 in
set_option maxHeartbeats 2000000 in
theorem g_Body_readTargeted {N : Nat} {Q : Nat → Prop} {p0 : Nat} {p1 : Int32} {H : Hp} {r : (Ot Unit) × Hp} {B : Nat} (hn : ∀ a, B ≤ a → Q a) (hF : F_Body_readTargeted N p0 p1 H = some r) (hc0 : Cl Q H) (hB : B ≤ H.sh.length) (q_p0 : Q p0) : Rg Q H r.2 ∧ (∀ x, r.1 = .inr x → Q x) := by
  unfold F_Body_readTargeted at hF
  have hm := Rg.rf hc0
  obtain ⟨q70, hG⟩ := ck_s hF; clear hF
  obtain ⟨a71, e72, hF⟩ := rf_s hG; clear hG
  have qa71 : Q a71 := hm.1 _ _ _ q_p0 e72
  obtain ⟨q73, hG⟩ := ck_s hF; clear hF
  obtain ⟨v75, H76, z74, hF⟩ := bC_s hG; clear hG
  have gz_46 := (g_Lexer_advance z74 hm.1 qa71)
  replace hm : Rg Q H H76 := hm.tr gz_46
  replace hB : B ≤ H76.sh.length := Nat.le_trans hB ((m_Lexer_advance z74)).mo.len
  have s_47 : Sa H H76 := (m_Lexer_advance z74)
  refine bT_c hF (fun x80 H79 z77 er => ?_) (fun v78 H79 z77 hG => ?_)
  · subst er; have gz := (g_Body_inParens (hmo := moX_BodyE 140) (gX_BodyE hn 140) hn z77 hm.1 hB q_p0); exact ⟨hm.tr gz.1, (fun x e => by cases e; exact gz.2 _ rfl)⟩
  clear hF
  have gz_48 := (g_Body_inParens (hmo := moX_BodyE 140) (gX_BodyE hn 140) hn z77 hm.1 hB q_p0)
  replace hm : Rg Q H H79 := hm.tr gz_48.1
  replace hB : B ≤ H79.sh.length := Nat.le_trans hB ((m_Body_inParens (moX_BodyE 140) z77)).len
  have mz_49 : Mo H76 H79 := (m_Body_inParens (moX_BodyE 140) z77)
  have q_50 := (mz_49).get (by rw [(s_47).1]; exact q70)
  have q_51 := (mz_49).get (by rw [(s_47).1]; exact q73)
  rcases ite_s hG with ⟨q_52, hF⟩ | ⟨q_52, hF⟩
  · clear hG
    obtain ⟨a82, e83, hG⟩ := rf_s hF; clear hF
    have qa82 : Q a82 := hm.1 _ _ _ q_p0 e83
    obtain ⟨q84, hF⟩ := ck_s hG; clear hG
    obtain ⟨v86, H87, z85, hG⟩ := bC_s hF; clear hF
    have gz_53 := (g_Program_add z85 hm.1 qa82)
    replace hm : Rg Q H H87 := hm.tr gz_53
    replace hB : B ≤ H87.sh.length := Nat.le_trans hB ((m_Program_add z85)).mo.len
    have s_54 : Sa H79 H87 := (m_Program_add z85)
    have gz := gB_Body_readTargeted_68 hn q_p0 hG hm.1 hB
    exact ⟨hm.tr gz.1, gz.2⟩
  · clear hG
    refine bT_c hF (fun x91 H90 z88 er => ?_) (fun v89 H90 z88 hG => ?_)
    · subst er; have gz := (g_Body_numberHere hn z88 hm.1 hB q_p0); exact ⟨hm.tr gz.1, (fun x e => by cases e; exact gz.2 _ rfl)⟩
    clear hF
    have gz_55 := (g_Body_numberHere hn z88 hm.1 hB q_p0)
    replace hm : Rg Q H H90 := hm.tr gz_55.1
    replace hB : B ≤ H90.sh.length := Nat.le_trans hB ((m_Body_numberHere z88)).len
    have mz_56 : Mo H79 H90 := (m_Body_numberHere z88)
    have q_57 := (mz_56).get q_50
    have q_58 := (mz_56).get q_51
    obtain ⟨a92, e93, hF⟩ := rf_s hG; clear hG
    have qa92 : Q a92 := hm.1 _ _ _ q_p0 e93
    rcases ite_s hF with ⟨q_59, hG⟩ | ⟨q_59, hG⟩
    · clear hF
      have gz := gB_Body_readTargeted_55 hn q_p0 hG hm.1 hB qa92
      exact ⟨hm.tr gz.1, gz.2⟩
    · clear hF
      have gz := gB_Body_readTargeted_55 hn q_p0 hG hm.1 hB qa92
      exact ⟨hm.tr gz.1, gz.2⟩
set_option maxRecDepth 20000 in
set_option maxHeartbeats 2000000 in
theorem g_Body_readPut {N : Nat} {Q : Nat → Prop} {p0 : Nat} {H : Hp} {r : (Ot Unit) × Hp} {B : Nat} (hn : ∀ a, B ≤ a → Q a) (hF : F_Body_readPut N p0 H = some r) (hc0 : Cl Q H) (hB : B ≤ H.sh.length) (q_p0 : Q p0) : Rg Q H r.2 ∧ (∀ x, r.1 = .inr x → Q x) := by
  unfold F_Body_readPut at hF
  have hm := Rg.rf hc0
  obtain ⟨q103, hG⟩ := ck_s hF; clear hF
  obtain ⟨a104, e105, hF⟩ := rf_s hG; clear hG
  have qa104 : Q a104 := hm.1 _ _ _ q_p0 e105
  obtain ⟨q106, hG⟩ := ck_s hF; clear hF
  obtain ⟨v108, H109, z107, hF⟩ := bC_s hG; clear hG
  have gz_86 := (g_Lexer_advance z107 hm.1 qa104)
  replace hm : Rg Q H H109 := hm.tr gz_86
  replace hB : B ≤ H109.sh.length := Nat.le_trans hB ((m_Lexer_advance z107)).mo.len
  have s_87 : Sa H H109 := (m_Lexer_advance z107)
  refine bT_c hF (fun x113 H112 z110 er => ?_) (fun v111 H112 z110 hG => ?_)
  · subst er; have gz := (g_Body_inParens (hmo := moX_BodyE 140) (gX_BodyE hn 140) hn z110 hm.1 hB q_p0); exact ⟨hm.tr gz.1, (fun x e => by cases e; exact gz.2 _ rfl)⟩
  clear hF
  have gz_88 := (g_Body_inParens (hmo := moX_BodyE 140) (gX_BodyE hn 140) hn z110 hm.1 hB q_p0)
  replace hm : Rg Q H H112 := hm.tr gz_88.1
  replace hB : B ≤ H112.sh.length := Nat.le_trans hB ((m_Body_inParens (moX_BodyE 140) z110)).len
  have mz_89 : Mo H109 H112 := (m_Body_inParens (moX_BodyE 140) z110)
  have q_90 := (mz_89).get (by rw [(s_87).1]; exact q103)
  have q_91 := (mz_89).get (by rw [(s_87).1]; exact q106)
  refine bT_c hG (fun x117 H116 z114 er => ?_) (fun v115 H116 z114 hF => ?_)
  · subst er; have gz := (g_Body_numberHere hn z114 hm.1 hB q_p0); exact ⟨hm.tr gz.1, (fun x e => by cases e; exact gz.2 _ rfl)⟩
  clear hG
  have gz_92 := (g_Body_numberHere hn z114 hm.1 hB q_p0)
  replace hm : Rg Q H H116 := hm.tr gz_92.1
  replace hB : B ≤ H116.sh.length := Nat.le_trans hB ((m_Body_numberHere z114)).len
  have mz_93 : Mo H112 H116 := (m_Body_numberHere z114)
  have q_94 := (mz_93).get q_90
  have q_95 := (mz_93).get q_91
  refine bT_c hF (fun x121 H120 z118 er => ?_) (fun v119 H120 z118 hG => ?_)
  · subst er; have gz := (g_Body_givenMember hn z118 hm.1 hB q_p0); exact ⟨hm.tr gz.1, (fun x e => by cases e; exact gz.2 _ rfl)⟩
  clear hF
  have gz_96 := (g_Body_givenMember hn z118 hm.1 hB q_p0)
  replace hm : Rg Q H H120 := hm.tr gz_96.1
  replace hB : B ≤ H120.sh.length := Nat.le_trans hB ((m_Body_givenMember z118)).len
  have mz_97 : Mo H116 H120 := (m_Body_givenMember z118)
  have q_98 := (mz_97).get q_94
  have q_99 := (mz_97).get q_95
  obtain ⟨v123, H124, z122, hF⟩ := bC_s hG; clear hG
  have gz_100 := (g_Body_kindAt z122 hm.1 q_p0)
  replace hm : Rg Q H H124 := hm.tr gz_100
  replace hB : B ≤ H124.sh.length := Nat.le_trans hB ((m_Body_kindAt z122)).mo.len
  have s_101 : Sa H120 H124 := (m_Body_kindAt z122)
  refine bT_c hF (fun x128 H127 z125 er => ?_) (fun v126 H127 z125 hG => ?_)
  · subst er; have gz := (g_Body_want (hmo := moX_BodyE 140) (gX_BodyE hn 140) hn z125 hm.1 hB q_p0); exact ⟨hm.tr gz.1, (fun x e => by cases e; exact gz.2 _ rfl)⟩
  clear hF
  have gz_102 := (g_Body_want (hmo := moX_BodyE 140) (gX_BodyE hn 140) hn z125 hm.1 hB q_p0)
  replace hm : Rg Q H H127 := hm.tr gz_102.1
  replace hB : B ≤ H127.sh.length := Nat.le_trans hB ((m_Body_want (moX_BodyE 140) z125)).len
  have mz_103 : Mo H124 H127 := (m_Body_want (moX_BodyE 140) z125)
  have q_104 := (mz_103).get (by rw [(s_101).1]; exact q_98)
  have q_105 := (mz_103).get (by rw [(s_101).1]; exact q_99)
  obtain ⟨a129, e130, hF⟩ := rf_s hG; clear hG
  have qa129 : Q a129 := hm.1 _ _ _ q_p0 e130
  obtain ⟨q131, hG⟩ := ck_s hF; clear hF
  refine bT_c hG (fun x135 H134 z132 er => ?_) (fun v133 H134 z132 hF => ?_)
  · subst er; have gz := (g_Lexer_take hn z132 hm.1 hB qa129); exact ⟨hm.tr gz.1, (fun x e => by cases e; exact gz.2 _ rfl)⟩
  clear hG
  have gz_106 := (g_Lexer_take hn z132 hm.1 hB qa129)
  replace hm : Rg Q H H134 := hm.tr gz_106.1
  replace hB : B ≤ H134.sh.length := Nat.le_trans hB ((m_Lexer_take z132)).len
  have mz_107 : Mo H127 H134 := (m_Lexer_take z132)
  have q_108 := (mz_107).get q_104
  have q_109 := (mz_107).get q_105
  have q_110 := (mz_107).get q131
  obtain ⟨a136, e137, hG⟩ := rf_s hF; clear hF
  have qa136 : Q a136 := hm.1 _ _ _ q_p0 e137
  obtain ⟨q138, hF⟩ := ck_s hG; clear hG
  obtain ⟨v140, H141, z139, hG⟩ := bC_s hF; clear hF
  have gz_111 := (g_Program_add z139 hm.1 qa136)
  replace hm : Rg Q H H141 := hm.tr gz_111
  replace hB : B ≤ H141.sh.length := Nat.le_trans hB ((m_Program_add z139)).mo.len
  have s_112 : Sa H134 H141 := (m_Program_add z139)
  obtain ⟨a142, e143, hF⟩ := rf_s hG; clear hG
  have qa142 : Q a142 := hm.1 _ _ _ q_p0 e143
  obtain ⟨q144, hG⟩ := ck_s hF; clear hF
  rw [(s_112).1] at q144
  obtain ⟨v146, H147, z145, hF⟩ := bC_s hG; clear hG
  have gz_113 := (g_Program_add z145 hm.1 qa142)
  replace hm : Rg Q H H147 := hm.tr gz_113
  replace hB : B ≤ H147.sh.length := Nat.le_trans hB ((m_Program_add z145)).mo.len
  have s_114 : Sa H134 H147 := (s_112).tr (m_Program_add z145)
  obtain ⟨a148, e149, hG⟩ := rf_s hF; clear hF
  have qa148 : Q a148 := hm.1 _ _ _ q_p0 e149
  obtain ⟨q150, hF⟩ := ck_s hG; clear hG
  rw [(s_114).1] at q150
  obtain ⟨v152, H153, z151, hG⟩ := bC_s hF; clear hF
  have gz_115 := (g_Program_add z151 hm.1 qa148)
  replace hm : Rg Q H H153 := hm.tr gz_115
  replace hB : B ≤ H153.sh.length := Nat.le_trans hB ((m_Program_add z151)).mo.len
  have s_116 : Sa H134 H153 := (s_114).tr (m_Program_add z151)
  have hr := Option.some.inj hG; subst hr
  exact ⟨hm, (fun x e => by cases e)⟩
set_option maxRecDepth 20000 in
set_option maxHeartbeats 2000000 in
theorem gB_Body_readEmit_180 {N : Nat} {Q : Nat → Prop} {p0 : Nat} {B : Nat} (hn : ∀ a, B ≤ a → Q a) (q_p0 : Q p0) {l1 : Int32} {H : Hp} {r : (Ot Unit) × Hp} (hF : B_Body_readEmit_180 N p0 l1 H = some r) (hc0 : Cl Q H) (hB : B ≤ H.sh.length) : Rg Q H r.2 ∧ (∀ x, r.1 = .inr x → Q x) := by
  unfold B_Body_readEmit_180 at hF
  have hm := Rg.rf hc0
  obtain ⟨q59, hG⟩ := ck_s hF; clear hF
  refine bT_c hG (fun x63 H62 z60 er => ?_) (fun v61 H62 z60 hF => ?_)
  · subst er; have gz := (g_Body_closeParens hn z60 hm.1 hB q_p0); exact ⟨hm.tr gz.1, (fun x e => by cases e; exact gz.2 _ rfl)⟩
  clear hG
  have gz_168 := (g_Body_closeParens hn z60 hm.1 hB q_p0)
  replace hm : Rg Q H H62 := hm.tr gz_168.1
  replace hB : B ≤ H62.sh.length := Nat.le_trans hB ((m_Body_closeParens z60)).len
  have mz_169 : Mo H H62 := (m_Body_closeParens z60)
  have q_170 := (mz_169).get q59
  obtain ⟨a64, e65, hG⟩ := rf_s hF; clear hF
  have qa64 : Q a64 := hm.1 _ _ _ q_p0 e65
  obtain ⟨q66, hF⟩ := ck_s hG; clear hG
  refine bT_c hF (fun x70 H69 z67 er => ?_) (fun v68 H69 z67 hG => ?_)
  · subst er; have gz := (g_Lexer_take hn z67 hm.1 hB qa64); exact ⟨hm.tr gz.1, (fun x e => by cases e; exact gz.2 _ rfl)⟩
  clear hF
  have gz_171 := (g_Lexer_take hn z67 hm.1 hB qa64)
  replace hm : Rg Q H H69 := hm.tr gz_171.1
  replace hB : B ≤ H69.sh.length := Nat.le_trans hB ((m_Lexer_take z67)).len
  have mz_172 : Mo H62 H69 := (m_Lexer_take z67)
  have q_173 := (mz_172).get q_170
  have q_174 := (mz_172).get q66
  refine bT_c hG (fun x74 H73 z71 er => ?_) (fun v72 H73 z71 hF => ?_)
  · subst er; have gz := (g_Body_inParens (hmo := moX_BodyE 140) (gX_BodyE hn 140) hn z71 hm.1 hB q_p0); exact ⟨hm.tr gz.1, (fun x e => by cases e; exact gz.2 _ rfl)⟩
  clear hG
  have gz_175 := (g_Body_inParens (hmo := moX_BodyE 140) (gX_BodyE hn 140) hn z71 hm.1 hB q_p0)
  replace hm : Rg Q H H73 := hm.tr gz_175.1
  replace hB : B ≤ H73.sh.length := Nat.le_trans hB ((m_Body_inParens (moX_BodyE 140) z71)).len
  have mz_176 : Mo H69 H73 := (m_Body_inParens (moX_BodyE 140) z71)
  have q_177 := (mz_176).get q_173
  have q_178 := (mz_176).get q_174
  obtain ⟨a75, e76, hG⟩ := rf_s hF; clear hF
  have qa75 : Q a75 := hm.1 _ _ _ q_p0 e76
  obtain ⟨q77, hF⟩ := ck_s hG; clear hG
  refine bT_c hF (fun x81 H80 z78 er => ?_) (fun v79 H80 z78 hG => ?_)
  · subst er; have gz := (g_Lexer_take hn z78 hm.1 hB qa75); exact ⟨hm.tr gz.1, (fun x e => by cases e; exact gz.2 _ rfl)⟩
  clear hF
  have gz_179 := (g_Lexer_take hn z78 hm.1 hB qa75)
  replace hm : Rg Q H H80 := hm.tr gz_179.1
  replace hB : B ≤ H80.sh.length := Nat.le_trans hB ((m_Lexer_take z78)).len
  have mz_180 : Mo H73 H80 := (m_Lexer_take z78)
  have q_181 := (mz_180).get q_177
  have q_182 := (mz_180).get q_178
  have q_183 := (mz_180).get q77
  refine bT_c hG (fun x85 H84 z82 er => ?_) (fun v83 H84 z82 hF => ?_)
  · subst er; have gz := (g_Body_inParens (hmo := moX_BodyE 140) (gX_BodyE hn 140) hn z82 hm.1 hB q_p0); exact ⟨hm.tr gz.1, (fun x e => by cases e; exact gz.2 _ rfl)⟩
  clear hG
  have gz_184 := (g_Body_inParens (hmo := moX_BodyE 140) (gX_BodyE hn 140) hn z82 hm.1 hB q_p0)
  replace hm : Rg Q H H84 := hm.tr gz_184.1
  replace hB : B ≤ H84.sh.length := Nat.le_trans hB ((m_Body_inParens (moX_BodyE 140) z82)).len
  have mz_185 : Mo H80 H84 := (m_Body_inParens (moX_BodyE 140) z82)
  have q_186 := (mz_185).get q_181
  have q_187 := (mz_185).get q_182
  have q_188 := (mz_185).get q_183
  obtain ⟨a86, e87, hG⟩ := rf_s hF; clear hF
  have qa86 : Q a86 := hm.1 _ _ _ q_p0 e87
  obtain ⟨q88, hF⟩ := ck_s hG; clear hG
  refine bT_c hF (fun x92 H91 z89 er => ?_) (fun v90 H91 z89 hG => ?_)
  · subst er; have gz := (g_Lexer_take hn z89 hm.1 hB qa86); exact ⟨hm.tr gz.1, (fun x e => by cases e; exact gz.2 _ rfl)⟩
  clear hF
  have gz_189 := (g_Lexer_take hn z89 hm.1 hB qa86)
  replace hm : Rg Q H H91 := hm.tr gz_189.1
  replace hB : B ≤ H91.sh.length := Nat.le_trans hB ((m_Lexer_take z89)).len
  have mz_190 : Mo H84 H91 := (m_Lexer_take z89)
  have q_191 := (mz_190).get q_186
  have q_192 := (mz_190).get q_187
  have q_193 := (mz_190).get q_188
  have q_194 := (mz_190).get q88
  obtain ⟨a93, e94, hF⟩ := rf_s hG; clear hG
  have qa93 : Q a93 := hm.1 _ _ _ q_p0 e94
  obtain ⟨q95, hG⟩ := ck_s hF; clear hF
  obtain ⟨v97, H98, z96, hF⟩ := bC_s hG; clear hG
  have gz_195 := (g_Program_add z96 hm.1 qa93)
  replace hm : Rg Q H H98 := hm.tr gz_195
  replace hB : B ≤ H98.sh.length := Nat.le_trans hB ((m_Program_add z96)).mo.len
  have s_196 : Sa H91 H98 := (m_Program_add z96)
  obtain ⟨a99, e100, hG⟩ := rf_s hF; clear hF
  have qa99 : Q a99 := hm.1 _ _ _ q_p0 e100
  obtain ⟨q101, hF⟩ := ck_s hG; clear hG
  rw [(s_196).1] at q101
  obtain ⟨v103, H104, z102, hG⟩ := bC_s hF; clear hF
  have gz_197 := (g_Program_add z102 hm.1 qa99)
  replace hm : Rg Q H H104 := hm.tr gz_197
  replace hB : B ≤ H104.sh.length := Nat.le_trans hB ((m_Program_add z102)).mo.len
  have s_198 : Sa H91 H104 := (s_196).tr (m_Program_add z102)
  have hr := Option.some.inj hG; subst hr
  exact ⟨hm, (fun x e => by cases e)⟩
set_option maxRecDepth 20000 in
set_option maxHeartbeats 2000000 in
theorem gB_Body_readEmit_148 {N : Nat} {Q : Nat → Prop} {p0 : Nat} {B : Nat} (hn : ∀ a, B ≤ a → Q a) (q_p0 : Q p0) {l1 : Int32} {l2 : Int32} {l3 : Int32} {H : Hp} {r : (Ot Unit) × Hp} (hF : B_Body_readEmit_148 N p0 l1 l2 l3 H = some r) (hc0 : Cl Q H) (hB : B ≤ H.sh.length) : Rg Q H r.2 ∧ (∀ x, r.1 = .inr x → Q x) := by
  unfold B_Body_readEmit_148 at hF
  have hm := Rg.rf hc0
  obtain ⟨q105, hG⟩ := ck_s hF; clear hF
  obtain ⟨a106, e107, hF⟩ := rf_s hG; clear hG
  have qa106 : Q a106 := hm.1 _ _ _ q_p0 e107
  obtain ⟨q108, hG⟩ := ck_s hF; clear hF
  obtain ⟨x109, -, hF⟩ := bnd_g hG; clear hG
  rcases ite_s hF with ⟨q_199, hG⟩ | ⟨q_199, hG⟩
  · clear hF
    rcases ite_s hG with ⟨q_200, hF⟩ | ⟨q_200, hF⟩
    · clear hG
      have gz := gB_Body_readEmit_180 hn q_p0 hF hm.1 hB
      exact ⟨hm.tr gz.1, gz.2⟩
    · clear hG
      obtain ⟨a112, e113, hG⟩ := rf_s hF; clear hF
      have qa112 : Q a112 := hm.1 _ _ _ q_p0 e113
      obtain ⟨a114, e115, hF⟩ := rf_s hG; clear hG
      have qa114 : Q a114 := hm.1 _ _ _ q_p0 e115
      obtain ⟨q116, hG⟩ := ck_s hF; clear hF
      obtain ⟨x117, -, hF⟩ := bnd_g hG; clear hG
      obtain ⟨q118, hG⟩ := ck_s hF; clear hF
      refine bT_c hG (fun x122 H121 z119 er => ?_) (fun v120 H121 z119 hF => ?_)
      · subst er; have gz := (g_Lexer_refuse hn z119 hm.1 hB qa112); exact ⟨hm.tr gz.1, (fun x e => by cases e; exact gz.2 _ rfl)⟩
      clear hG
      have gz_201 := (g_Lexer_refuse hn z119 hm.1 hB qa112)
      replace hm : Rg Q H H121 := hm.tr gz_201.1
      replace hB : B ≤ H121.sh.length := Nat.le_trans hB ((m_Lexer_refuse z119)).len
      have mz_202 : Mo H H121 := (m_Lexer_refuse z119)
      have q_203 := (mz_202).get q105
      have q_204 := (mz_202).get q108
      have q_205 := (mz_202).get q116
      have q_206 := (mz_202).get q118
      have gz := gB_Body_readEmit_180 hn q_p0 hF hm.1 hB
      exact ⟨hm.tr gz.1, gz.2⟩
  · clear hF
    have gz := gB_Body_readEmit_180 hn q_p0 hG hm.1 hB
    exact ⟨hm.tr gz.1, gz.2⟩
set_option maxRecDepth 20000 in
set_option maxHeartbeats 2000000 in
theorem gB_Body_readEmit_142 {N : Nat} {Q : Nat → Prop} {p0 : Nat} {kq53 : Int32 → Int32 → Int32 → Int32 → Int32 → Hp → Option ((Ot Unit) × Hp)} {B : Nat} (hn : ∀ a, B ≤ a → Q a) (q_p0 : Q p0) (hg53 : ∀ (l1 : Int32) (l2 : Int32) (l3 : Int32) (l4 : Int32) (l5 : Int32) (H : Hp) (r : (Ot Unit) × Hp), kq53 l1 l2 l3 l4 l5 H = some r → Cl Q H → B ≤ H.sh.length → Rg Q H r.2 ∧ (∀ x, r.1 = .inr x → Q x)) {l1 : Int32} {l2 : Int32} {l3 : Int32} {l4 : Int32} {l5 : Int32} {H : Hp} {r : (Ot Unit) × Hp} (hF : B_Body_readEmit_142 N p0 kq53 l1 l2 l3 l4 l5 H = some r) (hc0 : Cl Q H) (hB : B ≤ H.sh.length) : Rg Q H r.2 ∧ (∀ x, r.1 = .inr x → Q x) := by
  unfold B_Body_readEmit_142 at hF
  have hm := Rg.rf hc0
  have gz := hg53 l1 l2 l3 l4 (l5 + 1) H r hF hm.1 hB
  exact ⟨hm.tr gz.1, gz.2⟩
set_option maxRecDepth 20000 in
set_option maxHeartbeats 2000000 in
theorem gB_Body_readEmit_128 {N : Nat} {Q : Nat → Prop} {p0 : Nat} {kq53 : Int32 → Int32 → Int32 → Int32 → Int32 → Hp → Option ((Ot Unit) × Hp)} {B : Nat} (hn : ∀ a, B ≤ a → Q a) (q_p0 : Q p0) (hg53 : ∀ (l1 : Int32) (l2 : Int32) (l3 : Int32) (l4 : Int32) (l5 : Int32) (H : Hp) (r : (Ot Unit) × Hp), kq53 l1 l2 l3 l4 l5 H = some r → Cl Q H → B ≤ H.sh.length → Rg Q H r.2 ∧ (∀ x, r.1 = .inr x → Q x)) {l1 : Int32} {l2 : Int32} {l3 : Int32} {l5 : Int32} {w0 : Int32} {H : Hp} {r : (Ot Unit) × Hp} (hF : B_Body_readEmit_128 N p0 kq53 l1 l2 l3 l5 w0 H = some r) (hc0 : Cl Q H) (hB : B ≤ H.sh.length) : Rg Q H r.2 ∧ (∀ x, r.1 = .inr x → Q x) := by
  unfold B_Body_readEmit_128 at hF
  have hm := Rg.rf hc0
  rcases ite_s hF with ⟨q_207, hG⟩ | ⟨q_207, hG⟩
  · clear hF
    have gz := gB_Body_readEmit_142 hn q_p0 hg53 hG hm.1 hB
    exact ⟨hm.tr gz.1, gz.2⟩
  · clear hF
    obtain ⟨q124, hF⟩ := ck_s hG; clear hG
    obtain ⟨a125, e126, hG⟩ := rf_s hF; clear hF
    have qa125 : Q a125 := hm.1 _ _ _ q_p0 e126
    obtain ⟨q127, hF⟩ := ck_s hG; clear hG
    obtain ⟨v129, H130, z128, hG⟩ := bC_s hF; clear hF
    have gz_208 := (g_Lexer_advance z128 hm.1 qa125)
    replace hm : Rg Q H H130 := hm.tr gz_208
    replace hB : B ≤ H130.sh.length := Nat.le_trans hB ((m_Lexer_advance z128)).mo.len
    have s_209 : Sa H H130 := (m_Lexer_advance z128)
    have gz := gB_Body_readEmit_142 hn q_p0 hg53 hG hm.1 hB
    exact ⟨hm.tr gz.1, gz.2⟩
set_option maxRecDepth 20000 in
set_option maxHeartbeats 2000000 in
theorem gB_Body_readEmit_104 {N : Nat} {Q : Nat → Prop} {p0 : Nat} {kq53 : Int32 → Int32 → Int32 → Int32 → Int32 → Hp → Option ((Ot Unit) × Hp)} {B : Nat} (hn : ∀ a, B ≤ a → Q a) (q_p0 : Q p0) (hg53 : ∀ (l1 : Int32) (l2 : Int32) (l3 : Int32) (l4 : Int32) (l5 : Int32) (H : Hp) (r : (Ot Unit) × Hp), kq53 l1 l2 l3 l4 l5 H = some r → Cl Q H → B ≤ H.sh.length → Rg Q H r.2 ∧ (∀ x, r.1 = .inr x → Q x)) {l1 : Int32} {l2 : Int32} {l3 : Int32} {l5 : Int32} {w0 : Nat} {w1 : Int32} {H : Hp} {r : (Ot Unit) × Hp} (hF : B_Body_readEmit_104 N p0 kq53 l1 l2 l3 l5 w0 w1 H = some r) (hc0 : Cl Q H) (hB : B ≤ H.sh.length) (q_w0 : Q w0) : Rg Q H r.2 ∧ (∀ x, r.1 = .inr x → Q x) := by
  unfold B_Body_readEmit_104 at hF
  have hm := Rg.rf hc0
  obtain ⟨q131, hG⟩ := ck_s hF; clear hF
  refine bT_c hG (fun x135 H134 z132 er => ?_) (fun v133 H134 z132 hF => ?_)
  · subst er; have gz := (g_Body_want (hmo := moX_BodyE 140) (gX_BodyE hn 140) hn z132 hm.1 hB q_w0); exact ⟨hm.tr gz.1, (fun x e => by cases e; exact gz.2 _ rfl)⟩
  clear hG
  have gz_210 := (g_Body_want (hmo := moX_BodyE 140) (gX_BodyE hn 140) hn z132 hm.1 hB q_w0)
  replace hm : Rg Q H H134 := hm.tr gz_210.1
  replace hB : B ≤ H134.sh.length := Nat.le_trans hB ((m_Body_want (moX_BodyE 140) z132)).len
  have mz_211 : Mo H H134 := (m_Body_want (moX_BodyE 140) z132)
  have q_212 := (mz_211).get q131
  obtain ⟨q136, hG⟩ := ck_s hF; clear hF
  obtain ⟨a137, e138, hF⟩ := rf_s hG; clear hG
  have qa137 : Q a137 := hm.1 _ _ _ q_p0 e138
  obtain ⟨q139, hG⟩ := ck_s hF; clear hF
  obtain ⟨x140, -, hF⟩ := bnd_g hG; clear hG
  rcases ite_s hF with ⟨q_213, hG⟩ | ⟨q_213, hG⟩
  · clear hF
    have gz := gB_Body_readEmit_128 hn q_p0 hg53 hG hm.1 hB
    exact ⟨hm.tr gz.1, gz.2⟩
  · clear hF
    have gz := gB_Body_readEmit_128 hn q_p0 hg53 hG hm.1 hB
    exact ⟨hm.tr gz.1, gz.2⟩
set_option maxRecDepth 20000 in
set_option maxHeartbeats 2000000 in
theorem gB_Body_readEmit_53 {N : Nat} {Q : Nat → Prop} {p0 : Nat} {B : Nat} (hn : ∀ a, B ≤ a → Q a) (q_p0 : Q p0) : ∀ (n : Nat) (l1 : Int32) (l2 : Int32) (l3 : Int32) (l4 : Int32) (l5 : Int32) (H : Hp) (r : (Ot Unit) × Hp), B_Body_readEmit_53 N p0 n l1 l2 l3 l4 l5 H = some r → Cl Q H → B ≤ H.sh.length → Rg Q H r.2 ∧ (∀ x, r.1 = .inr x → Q x) := by
  intro n
  induction n with
  | zero => intro l1 l2 l3 l4 l5 H r hF; rw [B_Body_readEmit_53] at hF; cases hF
  | succ n ih =>
    intro l1 l2 l3 l4 l5 H r hF hc0 hB
    rw [B_Body_readEmit_53] at hF
    have hm := Rg.rf hc0
    rcases ite_s hF with ⟨q_214, hG⟩ | ⟨q_214, hG⟩
    · clear hF
      have gz := gB_Body_readEmit_148 hn q_p0 hG hm.1 hB
      exact ⟨hm.tr gz.1, gz.2⟩
    · clear hF
      rcases ite_s hG with ⟨q_215, hF⟩ | ⟨q_215, hF⟩
      · clear hG
        have gz := gB_Body_readEmit_148 hn q_p0 hF hm.1 hB
        exact ⟨hm.tr gz.1, gz.2⟩
      · clear hG
        rcases ite_s hF with ⟨q_216, hG⟩ | ⟨q_216, hG⟩
        · clear hF
          have gz := gB_Body_readEmit_104 hn q_p0 ih hG hm.1 hB q_p0
          exact ⟨hm.tr gz.1, gz.2⟩
        · clear hF
          obtain ⟨q145, hF⟩ := ck_s hG; clear hG
          obtain ⟨a146, e147, hG⟩ := rf_s hF; clear hF
          have qa146 : Q a146 := hm.1 _ _ _ q_p0 e147
          obtain ⟨q148, hF⟩ := ck_s hG; clear hG
          obtain ⟨a149, e150, hG⟩ := rf_s hF; clear hF
          have qa149 : Q a149 := hm.1 _ _ _ qa146 e150
          obtain ⟨q151, hF⟩ := ck_s hG; clear hG
          obtain ⟨a152, e153, hG⟩ := rf_s hF; clear hF
          have qa152 : Q a152 := hm.1 _ _ _ qa149 e153
          obtain ⟨a154, e155, hF⟩ := rf_s hG; clear hG
          have qa154 : Q a154 := hm.1 _ _ _ q_p0 e155
          obtain ⟨q156, hG⟩ := ck_s hF; clear hF
          obtain ⟨a157, e158, hF⟩ := rf_s hG; clear hG
          have qa157 : Q a157 := hm.1 _ _ _ qa154 e158
          obtain ⟨q159, hG⟩ := ck_s hF; clear hF
          obtain ⟨a160, e161, hF⟩ := rf_s hG; clear hG
          have qa160 : Q a160 := hm.1 _ _ _ qa157 e161
          obtain ⟨n162, q163, hG⟩ := ar_s hF; clear hF
          obtain ⟨q164, hF⟩ := ck_s hG; clear hG
          obtain ⟨x165, -, hG⟩ := bnd_g hF; clear hF
          obtain ⟨n166, q167, hF⟩ := ar_s hG; clear hG
          obtain ⟨q168, hG⟩ := ck_s hF; clear hF
          obtain ⟨a169, e170, hF⟩ := rf_s hG; clear hG
          have qa169 : Q a169 := hm.1 _ _ _ qa152 e170
          obtain ⟨q171, hG⟩ := ck_s hF; clear hF
          obtain ⟨x172, -, hF⟩ := bnd_g hG; clear hG
          have gz := gB_Body_readEmit_104 hn q_p0 ih hF hm.1 hB q_p0
          exact ⟨hm.tr gz.1, gz.2⟩
set_option maxRecDepth 20000 in
set_option maxHeartbeats 2000000 in
theorem gB_Body_readEmit_48 {N : Nat} {Q : Nat → Prop} {p0 : Nat} {B : Nat} (hn : ∀ a, B ≤ a → Q a) (q_p0 : Q p0) {l1 : Int32} {l2 : Int32} {l3 : Int32} {w0 : Int32} {H : Hp} {r : (Ot Unit) × Hp} (hF : B_Body_readEmit_48 N p0 l1 l2 l3 w0 H = some r) (hc0 : Cl Q H) (hB : B ≤ H.sh.length) : Rg Q H r.2 ∧ (∀ x, r.1 = .inr x → Q x) := by
  unfold B_Body_readEmit_48 at hF
  have hm := Rg.rf hc0
  have gz := gB_Body_readEmit_53 hn q_p0 N l1 l2 l3 w0 0 H r hF hm.1 hB
  exact ⟨hm.tr gz.1, gz.2⟩
set_option maxRecDepth 20000 in
set_option maxHeartbeats 2000000 in
theorem g_Body_readEmit {N : Nat} {Q : Nat → Prop} {p0 : Nat} {H : Hp} {r : (Ot Unit) × Hp} {B : Nat} (hn : ∀ a, B ≤ a → Q a) (hF : F_Body_readEmit N p0 H = some r) (hc0 : Cl Q H) (hB : B ≤ H.sh.length) (q_p0 : Q p0) : Rg Q H r.2 ∧ (∀ x, r.1 = .inr x → Q x) := by
  unfold F_Body_readEmit at hF
  have hm := Rg.rf hc0
  obtain ⟨q173, hG⟩ := ck_s hF; clear hF
  obtain ⟨a174, e175, hF⟩ := rf_s hG; clear hG
  have qa174 : Q a174 := hm.1 _ _ _ q_p0 e175
  obtain ⟨q176, hG⟩ := ck_s hF; clear hF
  obtain ⟨v178, H179, z177, hF⟩ := bC_s hG; clear hG
  have gz_217 := (g_Lexer_advance z177 hm.1 qa174)
  replace hm : Rg Q H H179 := hm.tr gz_217
  replace hB : B ≤ H179.sh.length := Nat.le_trans hB ((m_Lexer_advance z177)).mo.len
  have s_218 : Sa H H179 := (m_Lexer_advance z177)
  refine bT_c hF (fun x183 H182 z180 er => ?_) (fun v181 H182 z180 hG => ?_)
  · subst er; have gz := (g_Body_numberHere hn z180 hm.1 hB q_p0); exact ⟨hm.tr gz.1, (fun x e => by cases e; exact gz.2 _ rfl)⟩
  clear hF
  have gz_219 := (g_Body_numberHere hn z180 hm.1 hB q_p0)
  replace hm : Rg Q H H182 := hm.tr gz_219.1
  replace hB : B ≤ H182.sh.length := Nat.le_trans hB ((m_Body_numberHere z180)).len
  have mz_220 : Mo H179 H182 := (m_Body_numberHere z180)
  have q_221 := (mz_220).get (by rw [(s_218).1]; exact q173)
  have q_222 := (mz_220).get (by rw [(s_218).1]; exact q176)
  refine bT_c hG (fun x187 H186 z184 er => ?_) (fun v185 H186 z184 hF => ?_)
  · subst er; have gz := (g_Body_openParens hn z184 hm.1 hB q_p0); exact ⟨hm.tr gz.1, (fun x e => by cases e; exact gz.2 _ rfl)⟩
  clear hG
  have gz_223 := (g_Body_openParens hn z184 hm.1 hB q_p0)
  replace hm : Rg Q H H186 := hm.tr gz_223.1
  replace hB : B ≤ H186.sh.length := Nat.le_trans hB ((m_Body_openParens z184)).len
  have mz_224 : Mo H182 H186 := (m_Body_openParens z184)
  have q_225 := (mz_224).get q_221
  have q_226 := (mz_224).get q_222
  obtain ⟨a188, e189, hG⟩ := rf_s hF; clear hF
  have qa188 : Q a188 := hm.1 _ _ _ q_p0 e189
  obtain ⟨q190, hF⟩ := ck_s hG; clear hG
  obtain ⟨a191, e192, hG⟩ := rf_s hF; clear hF
  have qa191 : Q a191 := hm.1 _ _ _ qa188 e192
  obtain ⟨q193, hF⟩ := ck_s hG; clear hG
  obtain ⟨v195, H196, z194, hG⟩ := bC_s hF; clear hF
  have gz_227 := (g_Shapes_sizeOf z194 hm.1 qa191)
  replace hm : Rg Q H H196 := hm.tr gz_227
  replace hB : B ≤ H196.sh.length := Nat.le_trans hB ((m_Shapes_sizeOf z194)).mo.len
  have s_228 : Sa H186 H196 := (m_Shapes_sizeOf z194)
  obtain ⟨a197, e198, hF⟩ := rf_s hG; clear hG
  have qa197 : Q a197 := hm.1 _ _ _ q_p0 e198
  obtain ⟨q199, hG⟩ := ck_s hF; clear hF
  rw [(s_228).1] at q199
  obtain ⟨x200, -, hF⟩ := bnd_g hG; clear hG
  rcases ite_s hF with ⟨q_229, hG⟩ | ⟨q_229, hG⟩
  · clear hF
    have gz := gB_Body_readEmit_48 hn q_p0 hG hm.1 hB
    exact ⟨hm.tr gz.1, gz.2⟩
  · clear hF
    have gz := gB_Body_readEmit_48 hn q_p0 hG hm.1 hB
    exact ⟨hm.tr gz.1, gz.2⟩
set_option maxRecDepth 20000 in
set_option maxHeartbeats 2000000 in
theorem g_Body_readShow {N : Nat} {Q : Nat → Prop} {p0 : Nat} {H : Hp} {r : (Ot Unit) × Hp} {B : Nat} (hn : ∀ a, B ≤ a → Q a) (hF : F_Body_readShow N p0 H = some r) (hc0 : Cl Q H) (hB : B ≤ H.sh.length) (q_p0 : Q p0) : Rg Q H r.2 ∧ (∀ x, r.1 = .inr x → Q x) := by
  unfold F_Body_readShow at hF
  have hm := Rg.rf hc0
  obtain ⟨q49, hG⟩ := ck_s hF; clear hF
  obtain ⟨a50, e51, hF⟩ := rf_s hG; clear hG
  have qa50 : Q a50 := hm.1 _ _ _ q_p0 e51
  obtain ⟨q52, hG⟩ := ck_s hF; clear hF
  obtain ⟨v54, H55, z53, hF⟩ := bC_s hG; clear hG
  have gz_26 := (g_Lexer_advance z53 hm.1 qa50)
  replace hm : Rg Q H H55 := hm.tr gz_26
  replace hB : B ≤ H55.sh.length := Nat.le_trans hB ((m_Lexer_advance z53)).mo.len
  have s_27 : Sa H H55 := (m_Lexer_advance z53)
  refine bT_c hF (fun x59 H58 z56 er => ?_) (fun v57 H58 z56 hG => ?_)
  · subst er; have gz := (g_Body_inParens (hmo := moX_BodyE 140) (gX_BodyE hn 140) hn z56 hm.1 hB q_p0); exact ⟨hm.tr gz.1, (fun x e => by cases e; exact gz.2 _ rfl)⟩
  clear hF
  have gz_28 := (g_Body_inParens (hmo := moX_BodyE 140) (gX_BodyE hn 140) hn z56 hm.1 hB q_p0)
  replace hm : Rg Q H H58 := hm.tr gz_28.1
  replace hB : B ≤ H58.sh.length := Nat.le_trans hB ((m_Body_inParens (moX_BodyE 140) z56)).len
  have mz_29 : Mo H55 H58 := (m_Body_inParens (moX_BodyE 140) z56)
  have q_30 := (mz_29).get (by rw [(s_27).1]; exact q49)
  have q_31 := (mz_29).get (by rw [(s_27).1]; exact q52)
  obtain ⟨a60, e61, hF⟩ := rf_s hG; clear hG
  have qa60 : Q a60 := hm.1 _ _ _ q_p0 e61
  obtain ⟨q62, hG⟩ := ck_s hF; clear hF
  refine bT_c hG (fun x66 H65 z63 er => ?_) (fun v64 H65 z63 hF => ?_)
  · subst er; have gz := (g_Lexer_take hn z63 hm.1 hB qa60); exact ⟨hm.tr gz.1, (fun x e => by cases e; exact gz.2 _ rfl)⟩
  clear hG
  have gz_32 := (g_Lexer_take hn z63 hm.1 hB qa60)
  replace hm : Rg Q H H65 := hm.tr gz_32.1
  replace hB : B ≤ H65.sh.length := Nat.le_trans hB ((m_Lexer_take z63)).len
  have mz_33 : Mo H58 H65 := (m_Lexer_take z63)
  have q_34 := (mz_33).get q_30
  have q_35 := (mz_33).get q_31
  have q_36 := (mz_33).get q62
  obtain ⟨a67, e68, hG⟩ := rf_s hF; clear hF
  have qa67 : Q a67 := hm.1 _ _ _ q_p0 e68
  obtain ⟨q69, hF⟩ := ck_s hG; clear hG
  obtain ⟨v71, H72, z70, hG⟩ := bC_s hF; clear hF
  have gz_37 := (g_Program_add z70 hm.1 qa67)
  replace hm : Rg Q H H72 := hm.tr gz_37
  replace hB : B ≤ H72.sh.length := Nat.le_trans hB ((m_Program_add z70)).mo.len
  have s_38 : Sa H65 H72 := (m_Program_add z70)
  have hr := Option.some.inj hG; subst hr
  exact ⟨hm, (fun x e => by cases e)⟩
def rg_BodyS (Q : Nat → Prop) (o : Orc_BodyS) (B : Nat) : Prop :=
  (∀ (a0 : Nat) (H : Hp) (r : (Ot Unit) × Hp), o a0 H = some r → Cl Q H → B ≤ H.sh.length → Q a0 → Rg Q H r.2 ∧ (∀ x, r.1 = .inr x → Q x))
set_option maxRecDepth 20000 in
set_option maxHeartbeats 2000000 in
theorem gB_Body_innerBlock_27 {N : Nat} {Q : Nat → Prop} {B : Nat} {o : Orc_BodyS} {hmo : mo_BodyS o} (hgo : rg_BodyS Q o B) {p0 : Nat} (hn : ∀ a, B ≤ a → Q a) (q_p0 : Q p0)  {H : Hp} {r : (Ot Unit) × Hp} (hF : B_Body_innerBlock_27 N o p0  H = some r) (hc0 : Cl Q H) (hB : B ≤ H.sh.length) : Rg Q H r.2 ∧ (∀ x, r.1 = .inr x → Q x) := by
  unfold B_Body_innerBlock_27 at hF
  have hm := Rg.rf hc0
  obtain ⟨q57, hG⟩ := ck_s hF; clear hF
  refine bT_c hG (fun x61 H60 z58 er => ?_) (fun v59 H60 z58 hF => ?_)
  · subst er; have gz := (g_Body_deepen hn z58 hm.1 hB q_p0); exact ⟨hm.tr gz.1, (fun x e => by cases e; exact gz.2 _ rfl)⟩
  clear hG
  have gz_29 := (g_Body_deepen hn z58 hm.1 hB q_p0)
  replace hm : Rg Q H H60 := hm.tr gz_29.1
  replace hB : B ≤ H60.sh.length := Nat.le_trans hB ((m_Body_deepen z58)).len
  have mz_30 : Mo H H60 := (m_Body_deepen z58)
  have q_31 := (mz_30).get q57
  refine bT_c hF (fun x65 H64 z62 er => ?_) (fun v63 H64 z62 hG => ?_)
  · subst er; have gz := (hgo _ _ _ z62 hm.1 hB q_p0); exact ⟨hm.tr gz.1, (fun x e => by cases e; exact gz.2 _ rfl)⟩
  clear hF
  have gz_32 := (hgo _ _ _ z62 hm.1 hB q_p0)
  replace hm : Rg Q H H64 := hm.tr gz_32.1
  replace hB : B ≤ H64.sh.length := Nat.le_trans hB ((hmo _ _ _ z62)).len
  have mz_33 : Mo H60 H64 := (hmo _ _ _ z62)
  have q_34 := (mz_33).get q_31
  obtain ⟨x66, -, hF⟩ := bnd_g hG; clear hG
  obtain ⟨H67, eH67, hG⟩ := bnd_g hF; clear hF
  replace hm : Rg Q H H67 := hm.tr (by rw [eH67]; exact Rg.sD hm.1 q_p0)
  have s_35 : Sa H64 H67 := by rw [eH67]; exact Sa.rf _
  replace hB : B ≤ H67.sh.length := by rw [eH67]; exact hB
  have hr := Option.some.inj hG; subst hr
  exact ⟨hm, (fun x e => by cases e)⟩
set_option maxRecDepth 20000 in
set_option maxHeartbeats 2000000 in
theorem g_Body_innerBlock {N : Nat} {Q : Nat → Prop} {B : Nat} {o : Orc_BodyS} {hmo : mo_BodyS o} (hgo : rg_BodyS Q o B) {p0 : Nat} {H : Hp} {r : (Ot Unit) × Hp} (hn : ∀ a, B ≤ a → Q a) (hF : F_Body_innerBlock N o p0 H = some r) (hc0 : Cl Q H) (hB : B ≤ H.sh.length) (q_p0 : Q p0) : Rg Q H r.2 ∧ (∀ x, r.1 = .inr x → Q x) := by
  unfold F_Body_innerBlock at hF
  have hm := Rg.rf hc0
  obtain ⟨q68, hG⟩ := ck_s hF; clear hF
  obtain ⟨a69, e70, hF⟩ := rf_s hG; clear hG
  have qa69 : Q a69 := hm.1 _ _ _ q_p0 e70
  obtain ⟨q71, hG⟩ := ck_s hF; clear hF
  obtain ⟨x72, -, hF⟩ := bnd_g hG; clear hG
  rcases ite_s hF with ⟨q_36, hG⟩ | ⟨q_36, hG⟩
  · clear hF
    have gz := gB_Body_innerBlock_27 (hmo := hmo) hgo hn q_p0 hG hm.1 hB
    exact ⟨hm.tr gz.1, gz.2⟩
  · clear hF
    obtain ⟨a74, e75, hF⟩ := rf_s hG; clear hG
    have qa74 : Q a74 := hm.1 _ _ _ q_p0 e75
    obtain ⟨a76, e77, hG⟩ := rf_s hF; clear hF
    have qa76 : Q a76 := hm.1 _ _ _ q_p0 e77
    obtain ⟨q78, hF⟩ := ck_s hG; clear hG
    obtain ⟨x79, -, hG⟩ := bnd_g hF; clear hF
    obtain ⟨q80, hF⟩ := ck_s hG; clear hG
    refine bT_c hF (fun x84 H83 z81 er => ?_) (fun v82 H83 z81 hG => ?_)
    · subst er; have gz := (g_Lexer_refuse hn z81 hm.1 hB qa74); exact ⟨hm.tr gz.1, (fun x e => by cases e; exact gz.2 _ rfl)⟩
    clear hF
    have gz_37 := (g_Lexer_refuse hn z81 hm.1 hB qa74)
    replace hm : Rg Q H H83 := hm.tr gz_37.1
    replace hB : B ≤ H83.sh.length := Nat.le_trans hB ((m_Lexer_refuse z81)).len
    have mz_38 : Mo H H83 := (m_Lexer_refuse z81)
    have q_39 := (mz_38).get q68
    have q_40 := (mz_38).get q71
    have q_41 := (mz_38).get q78
    have q_42 := (mz_38).get q80
    have gz := gB_Body_innerBlock_27 (hmo := hmo) hgo hn q_p0 hG hm.1 hB
    exact ⟨hm.tr gz.1, gz.2⟩
set_option maxRecDepth 20000 in
set_option maxHeartbeats 2000000 in
theorem gB_Body_turns_31 {N : Nat} {Q : Nat → Prop} {B : Nat} {o : Orc_BodyS} {hmo : mo_BodyS o} (hgo : rg_BodyS Q o B) {p0 : Nat} {p1 : Int32} {p2 : Int32} {p3 : Int32} (hn : ∀ a, B ≤ a → Q a) (q_p0 : Q p0)  {H : Hp} {r : (Ot Unit) × Hp} (hF : B_Body_turns_31 N o p0 p1 p2 p3  H = some r) (hc0 : Cl Q H) (hB : B ≤ H.sh.length) : Rg Q H r.2 ∧ (∀ x, r.1 = .inr x → Q x) := by
  unfold B_Body_turns_31 at hF
  have hm := Rg.rf hc0
  obtain ⟨q95, hG⟩ := ck_s hF; clear hF
  obtain ⟨x96, -, hF⟩ := bnd_g hG; clear hG
  obtain ⟨H97, eH97, hG⟩ := bnd_g hF; clear hF
  replace hm : Rg Q H H97 := hm.tr (by rw [eH97]; exact Rg.sD hm.1 q_p0)
  have s_25 : Sa H H97 := by rw [eH97]; exact Sa.rf _
  replace hB : B ≤ H97.sh.length := by rw [eH97]; exact hB
  refine bT_c hG (fun x101 H100 z98 er => ?_) (fun v99 H100 z98 hF => ?_)
  · subst er; have gz := (g_Body_innerBlock (hmo := hmo) hgo hn z98 hm.1 hB q_p0); exact ⟨hm.tr gz.1, (fun x e => by cases e; exact gz.2 _ rfl)⟩
  clear hG
  have gz_26 := (g_Body_innerBlock (hmo := hmo) hgo hn z98 hm.1 hB q_p0)
  replace hm : Rg Q H H100 := hm.tr gz_26.1
  replace hB : B ≤ H100.sh.length := Nat.le_trans hB ((m_Body_innerBlock hmo z98)).len
  have mz_27 : Mo H97 H100 := (m_Body_innerBlock hmo z98)
  have q_28 := (mz_27).get (by rw [(s_25).1]; exact q95)
  obtain ⟨x102, -, hG⟩ := bnd_g hF; clear hF
  obtain ⟨H103, eH103, hF⟩ := bnd_g hG; clear hG
  replace hm : Rg Q H H103 := hm.tr (by rw [eH103]; exact Rg.sD hm.1 q_p0)
  have s_29 : Sa H100 H103 := by rw [eH103]; exact Sa.rf _
  replace hB : B ≤ H103.sh.length := by rw [eH103]; exact hB
  obtain ⟨a104, e105, hG⟩ := rf_s hF; clear hF
  have qa104 : Q a104 := hm.1 _ _ _ q_p0 e105
  obtain ⟨q106, hF⟩ := ck_s hG; clear hG
  rw [(s_29).1] at q106
  obtain ⟨v108, H109, z107, hG⟩ := bC_s hF; clear hF
  have gz_30 := (g_Program_add z107 hm.1 qa104)
  replace hm : Rg Q H H109 := hm.tr gz_30
  replace hB : B ≤ H109.sh.length := Nat.le_trans hB ((m_Program_add z107)).mo.len
  have s_31 : Sa H100 H109 := (s_29).tr (m_Program_add z107)
  obtain ⟨a110, e111, hF⟩ := rf_s hG; clear hG
  have qa110 : Q a110 := hm.1 _ _ _ q_p0 e111
  obtain ⟨q112, hG⟩ := ck_s hF; clear hF
  rw [(s_31).1] at q112
  obtain ⟨v114, H115, z113, hF⟩ := bC_s hG; clear hG
  have gz_32 := (g_Program_add z113 hm.1 qa110)
  replace hm : Rg Q H H115 := hm.tr gz_32
  replace hB : B ≤ H115.sh.length := Nat.le_trans hB ((m_Program_add z113)).mo.len
  have s_33 : Sa H100 H115 := (s_31).tr (m_Program_add z113)
  obtain ⟨a116, e117, hG⟩ := rf_s hF; clear hF
  have qa116 : Q a116 := hm.1 _ _ _ q_p0 e117
  obtain ⟨q118, hF⟩ := ck_s hG; clear hG
  rw [(s_33).1] at q118
  obtain ⟨v120, H121, z119, hG⟩ := bC_s hF; clear hF
  have gz_34 := (g_Program_aim z119 hm.1 qa116)
  replace hm : Rg Q H H121 := hm.tr gz_34
  replace hB : B ≤ H121.sh.length := Nat.le_trans hB ((m_Program_aim z119)).mo.len
  have s_35 : Sa H100 H121 := (s_33).tr (m_Program_aim z119)
  have hr := Option.some.inj hG; subst hr
  exact ⟨hm, (fun x e => by cases e)⟩
set_option maxRecDepth 20000 in
set_option maxHeartbeats 2000000 in
theorem g_Body_turns {N : Nat} {Q : Nat → Prop} {B : Nat} {o : Orc_BodyS} {hmo : mo_BodyS o} (hgo : rg_BodyS Q o B) {p0 : Nat} {p1 : Int32} {p2 : Int32} {p3 : Int32} {H : Hp} {r : (Ot Unit) × Hp} (hn : ∀ a, B ≤ a → Q a) (hF : F_Body_turns N o p0 p1 p2 p3 H = some r) (hc0 : Cl Q H) (hB : B ≤ H.sh.length) (q_p0 : Q p0) : Rg Q H r.2 ∧ (∀ x, r.1 = .inr x → Q x) := by
  unfold F_Body_turns at hF
  have hm := Rg.rf hc0
  obtain ⟨q122, hG⟩ := ck_s hF; clear hF
  obtain ⟨a123, e124, hF⟩ := rf_s hG; clear hG
  have qa123 : Q a123 := hm.1 _ _ _ q_p0 e124
  obtain ⟨q125, hG⟩ := ck_s hF; clear hF
  obtain ⟨v127, H128, z126, hF⟩ := bC_s hG; clear hG
  have gz_36 := (g_Program_add z126 hm.1 qa123)
  replace hm : Rg Q H H128 := hm.tr gz_36
  replace hB : B ≤ H128.sh.length := Nat.le_trans hB ((m_Program_add z126)).mo.len
  have s_37 : Sa H H128 := (m_Program_add z126)
  obtain ⟨x129, -, hG⟩ := bnd_g hF; clear hF
  obtain ⟨a130, e131, hF⟩ := rf_s hG; clear hG
  have qa130 : Q a130 := hm.1 _ _ _ q_p0 e131
  obtain ⟨n132, q133, hG⟩ := ar_s hF; clear hF
  rw [(s_37).1] at q133
  rcases ite_s hG with ⟨q_38, hF⟩ | ⟨q_38, hF⟩
  · clear hG
    have gz := gB_Body_turns_31 (hmo := hmo) hgo hn q_p0 hF hm.1 hB
    exact ⟨hm.tr gz.1, gz.2⟩
  · clear hG
    obtain ⟨a135, e136, hG⟩ := rf_s hF; clear hF
    have qa135 : Q a135 := hm.1 _ _ _ q_p0 e136
    obtain ⟨x137, -, hF⟩ := bnd_g hG; clear hG
    obtain ⟨n138, q139, hG⟩ := ar_s hF; clear hF
    rw [(s_37).1] at q139
    obtain ⟨q140, hF⟩ := ck_s hG; clear hG
    obtain ⟨H141, eH141, hG⟩ := bnd_g hF; clear hF
    replace hm : Rg Q H H141 := hm.tr (by rw [eH141]; exact Rg.sD hm.1 qa135)
    have s_39 : Sa H H141 := by rw [eH141]; exact s_37
    replace hB : B ≤ H141.sh.length := by rw [eH141]; exact hB
    have gz := gB_Body_turns_31 (hmo := hmo) hgo hn q_p0 hG hm.1 hB
    exact ⟨hm.tr gz.1, gz.2⟩
set_option maxRecDepth 20000 in
set_option maxHeartbeats 2000000 in
theorem g_Body_readHear {N : Nat} {Q : Nat → Prop} {B : Nat} {o : Orc_BodyS} {hmo : mo_BodyS o} (hgo : rg_BodyS Q o B) {p0 : Nat} {H : Hp} {r : (Ot Unit) × Hp} (hn : ∀ a, B ≤ a → Q a) (hF : F_Body_readHear N o p0 H = some r) (hc0 : Cl Q H) (hB : B ≤ H.sh.length) (q_p0 : Q p0) : Rg Q H r.2 ∧ (∀ x, r.1 = .inr x → Q x) := by
  unfold F_Body_readHear at hF
  have hm := Rg.rf hc0
  obtain ⟨q115, hG⟩ := ck_s hF; clear hF
  obtain ⟨a116, e117, hF⟩ := rf_s hG; clear hG
  have qa116 : Q a116 := hm.1 _ _ _ q_p0 e117
  obtain ⟨q118, hG⟩ := ck_s hF; clear hF
  obtain ⟨v120, H121, z119, hF⟩ := bC_s hG; clear hG
  have gz_59 := (g_Lexer_advance z119 hm.1 qa116)
  replace hm : Rg Q H H121 := hm.tr gz_59
  replace hB : B ≤ H121.sh.length := Nat.le_trans hB ((m_Lexer_advance z119)).mo.len
  have s_60 : Sa H H121 := (m_Lexer_advance z119)
  refine bT_c hF (fun x125 H124 z122 er => ?_) (fun v123 H124 z122 hG => ?_)
  · subst er; have gz := (g_Body_numberHere hn z122 hm.1 hB q_p0); exact ⟨hm.tr gz.1, (fun x e => by cases e; exact gz.2 _ rfl)⟩
  clear hF
  have gz_61 := (g_Body_numberHere hn z122 hm.1 hB q_p0)
  replace hm : Rg Q H H124 := hm.tr gz_61.1
  replace hB : B ≤ H124.sh.length := Nat.le_trans hB ((m_Body_numberHere z122)).len
  have mz_62 : Mo H121 H124 := (m_Body_numberHere z122)
  have q_63 := (mz_62).get (by rw [(s_60).1]; exact q115)
  have q_64 := (mz_62).get (by rw [(s_60).1]; exact q118)
  obtain ⟨a126, e127, hF⟩ := rf_s hG; clear hG
  have qa126 : Q a126 := hm.1 _ _ _ q_p0 e127
  obtain ⟨q128, hG⟩ := ck_s hF; clear hF
  obtain ⟨v130, H131, z129, hF⟩ := bC_s hG; clear hG
  have gz_65 := (g_Program_add z129 hm.1 qa126)
  replace hm : Rg Q H H131 := hm.tr gz_65
  replace hB : B ≤ H131.sh.length := Nat.le_trans hB ((m_Program_add z129)).mo.len
  have s_66 : Sa H124 H131 := (m_Program_add z129)
  obtain ⟨a132, e133, hG⟩ := rf_s hF; clear hF
  have qa132 : Q a132 := hm.1 _ _ _ q_p0 e133
  obtain ⟨x134, -, hF⟩ := bnd_g hG; clear hG
  obtain ⟨q135, hG⟩ := ck_s hF; clear hF
  rw [(s_66).1] at q135
  obtain ⟨v137, H138, z136, hF⟩ := bC_s hG; clear hG
  have gz_67 := (g_Program_add z136 hm.1 qa132)
  replace hm : Rg Q H H138 := hm.tr gz_67
  replace hB : B ≤ H138.sh.length := Nat.le_trans hB ((m_Program_add z136)).mo.len
  have s_68 : Sa H124 H138 := (s_66).tr (m_Program_add z136)
  obtain ⟨a139, e140, hG⟩ := rf_s hF; clear hF
  have qa139 : Q a139 := hm.1 _ _ _ q_p0 e140
  obtain ⟨q141, hF⟩ := ck_s hG; clear hG
  rw [(s_68).1] at q141
  obtain ⟨x142, -, hG⟩ := bnd_g hF; clear hF
  obtain ⟨a143, e144, hF⟩ := rf_s hG; clear hG
  have qa143 : Q a143 := hm.1 _ _ _ q_p0 e144
  obtain ⟨q145, hG⟩ := ck_s hF; clear hF
  rw [(s_68).1] at q145
  obtain ⟨v147, H148, z146, hF⟩ := bC_s hG; clear hG
  have gz_69 := (g_Program_add z146 hm.1 qa143)
  replace hm : Rg Q H H148 := hm.tr gz_69
  replace hB : B ≤ H148.sh.length := Nat.le_trans hB ((m_Program_add z146)).mo.len
  have s_70 : Sa H124 H148 := (s_68).tr (m_Program_add z146)
  obtain ⟨a149, e150, hG⟩ := rf_s hF; clear hF
  have qa149 : Q a149 := hm.1 _ _ _ q_p0 e150
  obtain ⟨x151, -, hF⟩ := bnd_g hG; clear hG
  obtain ⟨q152, hG⟩ := ck_s hF; clear hF
  rw [(s_70).1] at q152
  obtain ⟨v154, H155, z153, hF⟩ := bC_s hG; clear hG
  have gz_71 := (g_Program_add z153 hm.1 qa149)
  replace hm : Rg Q H H155 := hm.tr gz_71
  replace hB : B ≤ H155.sh.length := Nat.le_trans hB ((m_Program_add z153)).mo.len
  have s_72 : Sa H124 H155 := (s_70).tr (m_Program_add z153)
  obtain ⟨a156, e157, hG⟩ := rf_s hF; clear hF
  have qa156 : Q a156 := hm.1 _ _ _ q_p0 e157
  obtain ⟨q158, hF⟩ := ck_s hG; clear hG
  rw [(s_72).1] at q158
  obtain ⟨v160, H161, z159, hG⟩ := bC_s hF; clear hF
  have gz_73 := (g_Program_add z159 hm.1 qa156)
  replace hm : Rg Q H H161 := hm.tr gz_73
  replace hB : B ≤ H161.sh.length := Nat.le_trans hB ((m_Program_add z159)).mo.len
  have s_74 : Sa H124 H161 := (s_72).tr (m_Program_add z159)
  obtain ⟨a162, e163, hF⟩ := rf_s hG; clear hG
  have qa162 : Q a162 := hm.1 _ _ _ q_p0 e163
  obtain ⟨q164, hG⟩ := ck_s hF; clear hF
  rw [(s_74).1] at q164
  obtain ⟨v166, H167, z165, hF⟩ := bC_s hG; clear hG
  have gz_75 := (g_Program_add z165 hm.1 qa162)
  replace hm : Rg Q H H167 := hm.tr gz_75
  replace hB : B ≤ H167.sh.length := Nat.le_trans hB ((m_Program_add z165)).mo.len
  have s_76 : Sa H124 H167 := (s_74).tr (m_Program_add z165)
  refine bT_c hF (fun x171 H170 z168 er => ?_) (fun v169 H170 z168 hG => ?_)
  · subst er; have gz := (g_Body_turns (hmo := hmo) hgo hn z168 hm.1 hB q_p0); exact ⟨hm.tr gz.1, (fun x e => by cases e; exact gz.2 _ rfl)⟩
  clear hF
  have gz_77 := (g_Body_turns (hmo := hmo) hgo hn z168 hm.1 hB q_p0)
  replace hm : Rg Q H H170 := hm.tr gz_77.1
  replace hB : B ≤ H170.sh.length := Nat.le_trans hB ((m_Body_turns hmo z168)).len
  have mz_78 : Mo H167 H170 := (m_Body_turns hmo z168)
  have q_79 := (mz_78).get (by rw [(s_76).1]; exact q_63)
  have q_80 := (mz_78).get (by rw [(s_76).1]; exact q_64)
  have q_81 := (mz_78).get (by rw [(s_76).1]; exact q128)
  have q_82 := (mz_78).get (by rw [(s_76).1]; exact q135)
  have q_83 := (mz_78).get (by rw [(s_76).1]; exact q141)
  have q_84 := (mz_78).get (by rw [(s_76).1]; exact q145)
  have q_85 := (mz_78).get (by rw [(s_76).1]; exact q152)
  have q_86 := (mz_78).get (by rw [(s_76).1]; exact q158)
  have q_87 := (mz_78).get (by rw [(s_76).1]; exact q164)
  have hr := Option.some.inj hG; subst hr
  exact ⟨hm, (fun x e => by cases e)⟩
set_option maxRecDepth 20000 in
set_option maxHeartbeats 2000000 in
theorem gB_Body_readFor_103 {N : Nat} {Q : Nat → Prop} {B : Nat} {o : Orc_BodyS} {hmo : mo_BodyS o} (hgo : rg_BodyS Q o B) {p0 : Nat} (hn : ∀ a, B ≤ a → Q a) (q_p0 : Q p0) {l1 : Nat} {l2 : Int32} {l3 : Int32} {H : Hp} {r : (Ot Unit) × Hp} (hF : B_Body_readFor_103 N o p0 l1 l2 l3 H = some r) (hc0 : Cl Q H) (hB : B ≤ H.sh.length) (q_l1 : Q l1) : Rg Q H r.2 ∧ (∀ x, r.1 = .inr x → Q x) := by
  unfold B_Body_readFor_103 at hF
  have hm := Rg.rf hc0
  obtain ⟨q87, hG⟩ := ck_s hF; clear hF
  obtain ⟨a88, e89, hF⟩ := rf_s hG; clear hG
  have qa88 : Q a88 := hm.1 _ _ _ q_p0 e89
  obtain ⟨q90, hG⟩ := ck_s hF; clear hF
  obtain ⟨v92, H93, z91, hF⟩ := bC_s hG; clear hG
  have gz_145 := (g_Program_add z91 hm.1 qa88)
  replace hm : Rg Q H H93 := hm.tr gz_145
  replace hB : B ≤ H93.sh.length := Nat.le_trans hB ((m_Program_add z91)).mo.len
  have s_146 : Sa H H93 := (m_Program_add z91)
  obtain ⟨a94, e95, hG⟩ := rf_s hF; clear hF
  have qa94 : Q a94 := hm.1 _ _ _ q_p0 e95
  obtain ⟨x96, -, hF⟩ := bnd_g hG; clear hG
  obtain ⟨q97, hG⟩ := ck_s hF; clear hF
  rw [(s_146).1] at q97
  obtain ⟨v99, H100, z98, hF⟩ := bC_s hG; clear hG
  have gz_147 := (g_Program_add z98 hm.1 qa94)
  replace hm : Rg Q H H100 := hm.tr gz_147
  replace hB : B ≤ H100.sh.length := Nat.le_trans hB ((m_Program_add z98)).mo.len
  have s_148 : Sa H H100 := (s_146).tr (m_Program_add z98)
  obtain ⟨a101, e102, hG⟩ := rf_s hF; clear hF
  have qa101 : Q a101 := hm.1 _ _ _ q_p0 e102
  obtain ⟨q103, hF⟩ := ck_s hG; clear hG
  rw [(s_148).1] at q103
  obtain ⟨x104, -, hG⟩ := bnd_g hF; clear hF
  obtain ⟨a105, e106, hF⟩ := rf_s hG; clear hG
  have qa105 : Q a105 := hm.1 _ _ _ q_p0 e106
  obtain ⟨q107, hG⟩ := ck_s hF; clear hF
  rw [(s_148).1] at q107
  obtain ⟨v109, H110, z108, hF⟩ := bC_s hG; clear hG
  have gz_149 := (g_Program_add z108 hm.1 qa105)
  replace hm : Rg Q H H110 := hm.tr gz_149
  replace hB : B ≤ H110.sh.length := Nat.le_trans hB ((m_Program_add z108)).mo.len
  have s_150 : Sa H H110 := (s_148).tr (m_Program_add z108)
  obtain ⟨a111, e112, hG⟩ := rf_s hF; clear hF
  have qa111 : Q a111 := hm.1 _ _ _ q_p0 e112
  obtain ⟨x113, -, hF⟩ := bnd_g hG; clear hG
  obtain ⟨q114, hG⟩ := ck_s hF; clear hF
  rw [(s_150).1] at q114
  obtain ⟨v116, H117, z115, hF⟩ := bC_s hG; clear hG
  have gz_151 := (g_Program_add z115 hm.1 qa111)
  replace hm : Rg Q H H117 := hm.tr gz_151
  replace hB : B ≤ H117.sh.length := Nat.le_trans hB ((m_Program_add z115)).mo.len
  have s_152 : Sa H H117 := (s_150).tr (m_Program_add z115)
  obtain ⟨a118, e119, hG⟩ := rf_s hF; clear hF
  have qa118 : Q a118 := hm.1 _ _ _ q_p0 e119
  obtain ⟨q120, hF⟩ := ck_s hG; clear hG
  rw [(s_152).1] at q120
  obtain ⟨v122, H123, z121, hG⟩ := bC_s hF; clear hF
  have gz_153 := (g_Program_add z121 hm.1 qa118)
  replace hm : Rg Q H H123 := hm.tr gz_153
  replace hB : B ≤ H123.sh.length := Nat.le_trans hB ((m_Program_add z121)).mo.len
  have s_154 : Sa H H123 := (s_152).tr (m_Program_add z121)
  obtain ⟨a124, e125, hF⟩ := rf_s hG; clear hG
  have qa124 : Q a124 := hm.1 _ _ _ q_p0 e125
  obtain ⟨x126, -, hG⟩ := bnd_g hF; clear hF
  obtain ⟨q127, hF⟩ := ck_s hG; clear hG
  rw [(s_154).1] at q127
  obtain ⟨v129, H130, z128, hG⟩ := bC_s hF; clear hF
  have gz_155 := (g_Program_add z128 hm.1 qa124)
  replace hm : Rg Q H H130 := hm.tr gz_155
  replace hB : B ≤ H130.sh.length := Nat.le_trans hB ((m_Program_add z128)).mo.len
  have s_156 : Sa H H130 := (s_154).tr (m_Program_add z128)
  obtain ⟨a131, e132, hF⟩ := rf_s hG; clear hG
  have qa131 : Q a131 := hm.1 _ _ _ q_p0 e132
  obtain ⟨q133, hG⟩ := ck_s hF; clear hF
  rw [(s_156).1] at q133
  obtain ⟨v135, H136, z134, hF⟩ := bC_s hG; clear hG
  have gz_157 := (g_Program_add z134 hm.1 qa131)
  replace hm : Rg Q H H136 := hm.tr gz_157
  replace hB : B ≤ H136.sh.length := Nat.le_trans hB ((m_Program_add z134)).mo.len
  have s_158 : Sa H H136 := (s_156).tr (m_Program_add z134)
  obtain ⟨v138, H139, z137, hG⟩ := bC_s hF; clear hF
  have gz_159 := (g_Body_tellLocal z137 hm.1 q_p0 q_l1)
  replace hm : Rg Q H H139 := hm.tr gz_159
  replace hB : B ≤ H139.sh.length := Nat.le_trans hB ((m_Body_tellLocal z137)).mo.len
  have s_160 : Sa H H139 := (s_158).tr (m_Body_tellLocal z137)
  refine bT_c hG (fun x143 H142 z140 er => ?_) (fun v141 H142 z140 hF => ?_)
  · subst er; have gz := (g_Body_turns (hmo := hmo) hgo hn z140 hm.1 hB q_p0); exact ⟨hm.tr gz.1, (fun x e => by cases e; exact gz.2 _ rfl)⟩
  clear hG
  have gz_161 := (g_Body_turns (hmo := hmo) hgo hn z140 hm.1 hB q_p0)
  replace hm : Rg Q H H142 := hm.tr gz_161.1
  replace hB : B ≤ H142.sh.length := Nat.le_trans hB ((m_Body_turns hmo z140)).len
  have mz_162 : Mo H139 H142 := (m_Body_turns hmo z140)
  have q_163 := (mz_162).get (by rw [(s_160).1]; exact q87)
  have q_164 := (mz_162).get (by rw [(s_160).1]; exact q90)
  have q_165 := (mz_162).get (by rw [(s_160).1]; exact q97)
  have q_166 := (mz_162).get (by rw [(s_160).1]; exact q103)
  have q_167 := (mz_162).get (by rw [(s_160).1]; exact q107)
  have q_168 := (mz_162).get (by rw [(s_160).1]; exact q114)
  have q_169 := (mz_162).get (by rw [(s_160).1]; exact q120)
  have q_170 := (mz_162).get (by rw [(s_160).1]; exact q127)
  have q_171 := (mz_162).get (by rw [(s_160).1]; exact q133)
  obtain ⟨a144, e145, hG⟩ := rf_s hF; clear hF
  have qa144 : Q a144 := hm.1 _ _ _ q_p0 e145
  obtain ⟨q146, hF⟩ := ck_s hG; clear hG
  obtain ⟨v148, H149, z147, hG⟩ := bC_s hF; clear hF
  have gz_172 := (g_Program_forget z147 hm.1 qa144)
  replace hm : Rg Q H H149 := hm.tr gz_172
  replace hB : B ≤ H149.sh.length := Nat.le_trans hB ((m_Program_forget z147)).mo.len
  have s_173 : Sa H142 H149 := (m_Program_forget z147)
  obtain ⟨x150, -, hF⟩ := bnd_g hG; clear hG
  obtain ⟨H151, eH151, hG⟩ := bnd_g hF; clear hF
  replace hm : Rg Q H H151 := hm.tr (by rw [eH151]; exact Rg.sD hm.1 q_p0)
  have s_174 : Sa H142 H151 := by rw [eH151]; exact s_173
  replace hB : B ≤ H151.sh.length := by rw [eH151]; exact hB
  have hr := Option.some.inj hG; subst hr
  exact ⟨hm, (fun x e => by cases e)⟩
set_option maxRecDepth 20000 in
set_option maxHeartbeats 2000000 in
theorem gB_Body_readFor_65 {N : Nat} {Q : Nat → Prop} {B : Nat} {o : Orc_BodyS} {hmo : mo_BodyS o} (hgo : rg_BodyS Q o B) {p0 : Nat} (hn : ∀ a, B ≤ a → Q a) (q_p0 : Q p0) {l1 : Nat} {l2 : Int32} {H : Hp} {r : (Ot Unit) × Hp} (hF : B_Body_readFor_65 N o p0 l1 l2 H = some r) (hc0 : Cl Q H) (hB : B ≤ H.sh.length) (q_l1 : Q l1) : Rg Q H r.2 ∧ (∀ x, r.1 = .inr x → Q x) := by
  unfold B_Body_readFor_65 at hF
  have hm := Rg.rf hc0
  obtain ⟨q152, hG⟩ := ck_s hF; clear hF
  obtain ⟨a153, e154, hF⟩ := rf_s hG; clear hG
  have qa153 : Q a153 := hm.1 _ _ _ q_p0 e154
  obtain ⟨q155, hG⟩ := ck_s hF; clear hF
  obtain ⟨v157, H158, z156, hF⟩ := bC_s hG; clear hG
  have gz_175 := (g_Lexer_advance z156 hm.1 qa153)
  replace hm : Rg Q H H158 := hm.tr gz_175
  replace hB : B ≤ H158.sh.length := Nat.le_trans hB ((m_Lexer_advance z156)).mo.len
  have s_176 : Sa H H158 := (m_Lexer_advance z156)
  refine bT_c hF (fun x162 H161 z159 er => ?_) (fun v160 H161 z159 hG => ?_)
  · subst er; have gz := (g_Body_inParens (hmo := moX_BodyE 140) (gX_BodyE hn 140) hn z159 hm.1 hB q_p0); exact ⟨hm.tr gz.1, (fun x e => by cases e; exact gz.2 _ rfl)⟩
  clear hF
  have gz_177 := (g_Body_inParens (hmo := moX_BodyE 140) (gX_BodyE hn 140) hn z159 hm.1 hB q_p0)
  replace hm : Rg Q H H161 := hm.tr gz_177.1
  replace hB : B ≤ H161.sh.length := Nat.le_trans hB ((m_Body_inParens (moX_BodyE 140) z159)).len
  have mz_178 : Mo H158 H161 := (m_Body_inParens (moX_BodyE 140) z159)
  have q_179 := (mz_178).get (by rw [(s_176).1]; exact q152)
  have q_180 := (mz_178).get (by rw [(s_176).1]; exact q155)
  obtain ⟨a163, e164, hF⟩ := rf_s hG; clear hG
  have qa163 : Q a163 := hm.1 _ _ _ q_p0 e164
  obtain ⟨q165, hG⟩ := ck_s hF; clear hF
  obtain ⟨v167, H168, z166, hF⟩ := bC_s hG; clear hG
  have gz_181 := (g_Program_add z166 hm.1 qa163)
  replace hm : Rg Q H H168 := hm.tr gz_181
  replace hB : B ≤ H168.sh.length := Nat.le_trans hB ((m_Program_add z166)).mo.len
  have s_182 : Sa H161 H168 := (m_Program_add z166)
  obtain ⟨a169, e170, hG⟩ := rf_s hF; clear hF
  have qa169 : Q a169 := hm.1 _ _ _ q_p0 e170
  obtain ⟨x171, -, hF⟩ := bnd_g hG; clear hG
  obtain ⟨q172, hG⟩ := ck_s hF; clear hF
  rw [(s_182).1] at q172
  obtain ⟨v174, H175, z173, hF⟩ := bC_s hG; clear hG
  have gz_183 := (g_Program_add z173 hm.1 qa169)
  replace hm : Rg Q H H175 := hm.tr gz_183
  replace hB : B ≤ H175.sh.length := Nat.le_trans hB ((m_Program_add z173)).mo.len
  have s_184 : Sa H161 H175 := (s_182).tr (m_Program_add z173)
  have gz := gB_Body_readFor_103 (hmo := hmo) hgo hn q_p0 hF hm.1 hB q_l1
  exact ⟨hm.tr gz.1, gz.2⟩
set_option maxRecDepth 20000 in
set_option maxHeartbeats 2000000 in
theorem g_Body_readFor {N : Nat} {Q : Nat → Prop} {B : Nat} {o : Orc_BodyS} {hmo : mo_BodyS o} (hgo : rg_BodyS Q o B) {p0 : Nat} {H : Hp} {r : (Ot Unit) × Hp} (hn : ∀ a, B ≤ a → Q a) (hF : F_Body_readFor N o p0 H = some r) (hc0 : Cl Q H) (hB : B ≤ H.sh.length) (q_p0 : Q p0) : Rg Q H r.2 ∧ (∀ x, r.1 = .inr x → Q x) := by
  unfold F_Body_readFor at hF
  have hm := Rg.rf hc0
  obtain ⟨q176, hG⟩ := ck_s hF; clear hF
  obtain ⟨a177, e178, hF⟩ := rf_s hG; clear hG
  have qa177 : Q a177 := hm.1 _ _ _ q_p0 e178
  obtain ⟨q179, hG⟩ := ck_s hF; clear hF
  obtain ⟨v181, H182, z180, hF⟩ := bC_s hG; clear hG
  have gz_185 := (g_Lexer_advance z180 hm.1 qa177)
  replace hm : Rg Q H H182 := hm.tr gz_185
  replace hB : B ≤ H182.sh.length := Nat.le_trans hB ((m_Lexer_advance z180)).mo.len
  have s_186 : Sa H H182 := (m_Lexer_advance z180)
  refine bT_c hF (fun x186 H185 z183 er => ?_) (fun v184 H185 z183 hG => ?_)
  · subst er; have gz := (g_Body_newLocal hn z183 hm.1 hB q_p0); exact ⟨hm.tr gz.1, (fun x e => by cases e; exact gz.2.2 _ rfl)⟩
  clear hF
  have gz_187 := (g_Body_newLocal hn z183 hm.1 hB q_p0)
  replace hm : Rg Q H H185 := hm.tr gz_187.1
  replace hB : B ≤ H185.sh.length := Nat.le_trans hB ((m_Body_newLocal z183)).len
  have mz_188 : Mo H182 H185 := (m_Body_newLocal z183)
  have q_189 := (mz_188).get (by rw [(s_186).1]; exact q176)
  have q_190 := (mz_188).get (by rw [(s_186).1]; exact q179)
  obtain ⟨a187, ea187, hF⟩ := on_s hG; clear hG
  subst ea187
  have qa187 : Q a187 := gz_187.2.1 _ rfl
  obtain ⟨a188, e189, hG⟩ := rf_s hF; clear hF
  have qa188 : Q a188 := hm.1 _ _ _ q_p0 e189
  obtain ⟨q190, hF⟩ := ck_s hG; clear hG
  refine bT_c hF (fun x194 H193 z191 er => ?_) (fun v192 H193 z191 hG => ?_)
  · subst er; have gz := (g_Lexer_take hn z191 hm.1 hB qa188); exact ⟨hm.tr gz.1, (fun x e => by cases e; exact gz.2 _ rfl)⟩
  clear hF
  have gz_191 := (g_Lexer_take hn z191 hm.1 hB qa188)
  replace hm : Rg Q H H193 := hm.tr gz_191.1
  replace hB : B ≤ H193.sh.length := Nat.le_trans hB ((m_Lexer_take z191)).len
  have mz_192 : Mo H185 H193 := (m_Lexer_take z191)
  have q_193 := (mz_192).get q_189
  have q_194 := (mz_192).get q_190
  have q_195 := (mz_192).get q190
  refine bT_c hG (fun x198 H197 z195 er => ?_) (fun v196 H197 z195 hF => ?_)
  · subst er; have gz := (g_Body_numberHere hn z195 hm.1 hB q_p0); exact ⟨hm.tr gz.1, (fun x e => by cases e; exact gz.2 _ rfl)⟩
  clear hG
  have gz_196 := (g_Body_numberHere hn z195 hm.1 hB q_p0)
  replace hm : Rg Q H H197 := hm.tr gz_196.1
  replace hB : B ≤ H197.sh.length := Nat.le_trans hB ((m_Body_numberHere z195)).len
  have mz_197 : Mo H193 H197 := (m_Body_numberHere z195)
  have q_198 := (mz_197).get q_193
  have q_199 := (mz_197).get q_194
  have q_200 := (mz_197).get q_195
  obtain ⟨a199, e200, hG⟩ := rf_s hF; clear hF
  have qa199 : Q a199 := hm.1 _ _ _ q_p0 e200
  obtain ⟨q201, hF⟩ := ck_s hG; clear hG
  obtain ⟨x202, -, hG⟩ := bnd_g hF; clear hF
  rcases ite_s hG with ⟨q_201, hF⟩ | ⟨q_201, hF⟩
  · clear hG
    obtain ⟨v205, H206, z204, hG⟩ := bC_s hF; clear hF
    have gz_202 := (g_Body_canBeNear z204 hm.1 q_p0)
    replace hm : Rg Q H H206 := hm.tr gz_202
    replace hB : B ≤ H206.sh.length := Nat.le_trans hB ((m_Body_canBeNear z204)).mo.len
    have s_203 : Sa H197 H206 := (m_Body_canBeNear z204)
    rcases ite_s hG with ⟨q_204, hF⟩ | ⟨q_204, hF⟩
    · clear hG
      obtain ⟨a208, e209, hG⟩ := rf_s hF; clear hF
      have qa208 : Q a208 := hm.1 _ _ _ q_p0 e209
      obtain ⟨a210, e211, hF⟩ := rf_s hG; clear hG
      have qa210 : Q a210 := hm.1 _ _ _ q_p0 e211
      obtain ⟨q212, hG⟩ := ck_s hF; clear hF
      rw [(s_203).1] at q212
      obtain ⟨x213, -, hF⟩ := bnd_g hG; clear hG
      obtain ⟨q214, hG⟩ := ck_s hF; clear hF
      rw [(s_203).1] at q214
      refine bT_c hG (fun x218 H217 z215 er => ?_) (fun v216 H217 z215 hF => ?_)
      · subst er; have gz := (g_Lexer_refuse hn z215 hm.1 hB qa208); exact ⟨hm.tr gz.1, (fun x e => by cases e; exact gz.2 _ rfl)⟩
      clear hG
      have gz_205 := (g_Lexer_refuse hn z215 hm.1 hB qa208)
      replace hm : Rg Q H H217 := hm.tr gz_205.1
      replace hB : B ≤ H217.sh.length := Nat.le_trans hB ((m_Lexer_refuse z215)).len
      have mz_206 : Mo H206 H217 := (m_Lexer_refuse z215)
      have q_207 := (mz_206).get (by rw [(s_203).1]; exact q_198)
      have q_208 := (mz_206).get (by rw [(s_203).1]; exact q_199)
      have q_209 := (mz_206).get (by rw [(s_203).1]; exact q_200)
      have q_210 := (mz_206).get (by rw [(s_203).1]; exact q201)
      have q_211 := (mz_206).get (by rw [(s_203).1]; exact q212)
      have q_212 := (mz_206).get (by rw [(s_203).1]; exact q214)
      have gz := gB_Body_readFor_65 (hmo := hmo) hgo hn q_p0 hF hm.1 hB qa187
      exact ⟨hm.tr gz.1, gz.2⟩
    · clear hG
      have gz := gB_Body_readFor_65 (hmo := hmo) hgo hn q_p0 hF hm.1 hB qa187
      exact ⟨hm.tr gz.1, gz.2⟩
  · clear hG
    have gz := gB_Body_readFor_103 (hmo := hmo) hgo hn q_p0 hF hm.1 hB qa187
    exact ⟨hm.tr gz.1, gz.2⟩
set_option maxRecDepth 20000 in
set_option maxHeartbeats 2000000 in
theorem g_Body_readWhile {N : Nat} {Q : Nat → Prop} {B : Nat} {o : Orc_BodyS} {hmo : mo_BodyS o} (hgo : rg_BodyS Q o B) {p0 : Nat} {H : Hp} {r : (Ot Unit) × Hp} (hn : ∀ a, B ≤ a → Q a) (hF : F_Body_readWhile N o p0 H = some r) (hc0 : Cl Q H) (hB : B ≤ H.sh.length) (q_p0 : Q p0) : Rg Q H r.2 ∧ (∀ x, r.1 = .inr x → Q x) := by
  unfold F_Body_readWhile at hF
  have hm := Rg.rf hc0
  obtain ⟨q45, hG⟩ := ck_s hF; clear hF
  obtain ⟨a46, e47, hF⟩ := rf_s hG; clear hG
  have qa46 : Q a46 := hm.1 _ _ _ q_p0 e47
  obtain ⟨q48, hG⟩ := ck_s hF; clear hF
  obtain ⟨v50, H51, z49, hF⟩ := bC_s hG; clear hG
  have gz_28 := (g_Lexer_advance z49 hm.1 qa46)
  replace hm : Rg Q H H51 := hm.tr gz_28
  replace hB : B ≤ H51.sh.length := Nat.le_trans hB ((m_Lexer_advance z49)).mo.len
  have s_29 : Sa H H51 := (m_Lexer_advance z49)
  obtain ⟨a52, e53, hG⟩ := rf_s hF; clear hF
  have qa52 : Q a52 := hm.1 _ _ _ q_p0 e53
  obtain ⟨q54, hF⟩ := ck_s hG; clear hG
  rw [(s_29).1] at q54
  obtain ⟨x55, -, hG⟩ := bnd_g hF; clear hF
  refine bT_c hG (fun x59 H58 z56 er => ?_) (fun v57 H58 z56 hF => ?_)
  · subst er; have gz := (g_Body_want (hmo := moX_BodyE 140) (gX_BodyE hn 140) hn z56 hm.1 hB q_p0); exact ⟨hm.tr gz.1, (fun x e => by cases e; exact gz.2 _ rfl)⟩
  clear hG
  have gz_30 := (g_Body_want (hmo := moX_BodyE 140) (gX_BodyE hn 140) hn z56 hm.1 hB q_p0)
  replace hm : Rg Q H H58 := hm.tr gz_30.1
  replace hB : B ≤ H58.sh.length := Nat.le_trans hB ((m_Body_want (moX_BodyE 140) z56)).len
  have mz_31 : Mo H51 H58 := (m_Body_want (moX_BodyE 140) z56)
  have q_32 := (mz_31).get (by rw [(s_29).1]; exact q45)
  have q_33 := (mz_31).get (by rw [(s_29).1]; exact q48)
  have q_34 := (mz_31).get (by rw [(s_29).1]; exact q54)
  obtain ⟨v61, H62, z60, hG⟩ := bC_s hF; clear hF
  have gz_35 := (g_Body_jump z60 hm.1 q_p0)
  replace hm : Rg Q H H62 := hm.tr gz_35
  replace hB : B ≤ H62.sh.length := Nat.le_trans hB ((m_Body_jump z60)).mo.len
  have s_36 : Sa H58 H62 := (m_Body_jump z60)
  refine bT_c hG (fun x66 H65 z63 er => ?_) (fun v64 H65 z63 hF => ?_)
  · subst er; have gz := (g_Body_turns (hmo := hmo) hgo hn z63 hm.1 hB q_p0); exact ⟨hm.tr gz.1, (fun x e => by cases e; exact gz.2 _ rfl)⟩
  clear hG
  have gz_37 := (g_Body_turns (hmo := hmo) hgo hn z63 hm.1 hB q_p0)
  replace hm : Rg Q H H65 := hm.tr gz_37.1
  replace hB : B ≤ H65.sh.length := Nat.le_trans hB ((m_Body_turns hmo z63)).len
  have mz_38 : Mo H62 H65 := (m_Body_turns hmo z63)
  have q_39 := (mz_38).get (by rw [(s_36).1]; exact q_32)
  have q_40 := (mz_38).get (by rw [(s_36).1]; exact q_33)
  have q_41 := (mz_38).get (by rw [(s_36).1]; exact q_34)
  have hr := Option.some.inj hF; subst hr
  exact ⟨hm, (fun x e => by cases e)⟩
set_option maxRecDepth 20000 in
set_option maxHeartbeats 2000000 in
theorem g_Body_readIf {N : Nat} {Q : Nat → Prop} {B : Nat} {o : Orc_BodyS} {hmo : mo_BodyS o} (hgo : rg_BodyS Q o B) {p0 : Nat} {H : Hp} {r : (Ot Unit) × Hp} (hn : ∀ a, B ≤ a → Q a) (hF : F_Body_readIf N o p0 H = some r) (hc0 : Cl Q H) (hB : B ≤ H.sh.length) (q_p0 : Q p0) : Rg Q H r.2 ∧ (∀ x, r.1 = .inr x → Q x) := by
  unfold F_Body_readIf at hF
  have hm := Rg.rf hc0
  obtain ⟨q109, hG⟩ := ck_s hF; clear hF
  obtain ⟨a110, e111, hF⟩ := rf_s hG; clear hG
  have qa110 : Q a110 := hm.1 _ _ _ q_p0 e111
  obtain ⟨q112, hG⟩ := ck_s hF; clear hF
  obtain ⟨v114, H115, z113, hF⟩ := bC_s hG; clear hG
  have gz_62 := (g_Lexer_advance z113 hm.1 qa110)
  replace hm : Rg Q H H115 := hm.tr gz_62
  replace hB : B ≤ H115.sh.length := Nat.le_trans hB ((m_Lexer_advance z113)).mo.len
  have s_63 : Sa H H115 := (m_Lexer_advance z113)
  refine bT_c hF (fun x119 H118 z116 er => ?_) (fun v117 H118 z116 hG => ?_)
  · subst er; have gz := (g_Body_want (hmo := moX_BodyE 140) (gX_BodyE hn 140) hn z116 hm.1 hB q_p0); exact ⟨hm.tr gz.1, (fun x e => by cases e; exact gz.2 _ rfl)⟩
  clear hF
  have gz_64 := (g_Body_want (hmo := moX_BodyE 140) (gX_BodyE hn 140) hn z116 hm.1 hB q_p0)
  replace hm : Rg Q H H118 := hm.tr gz_64.1
  replace hB : B ≤ H118.sh.length := Nat.le_trans hB ((m_Body_want (moX_BodyE 140) z116)).len
  have mz_65 : Mo H115 H118 := (m_Body_want (moX_BodyE 140) z116)
  have q_66 := (mz_65).get (by rw [(s_63).1]; exact q109)
  have q_67 := (mz_65).get (by rw [(s_63).1]; exact q112)
  obtain ⟨v121, H122, z120, hF⟩ := bC_s hG; clear hG
  have gz_68 := (g_Body_jump z120 hm.1 q_p0)
  replace hm : Rg Q H H122 := hm.tr gz_68
  replace hB : B ≤ H122.sh.length := Nat.le_trans hB ((m_Body_jump z120)).mo.len
  have s_69 : Sa H118 H122 := (m_Body_jump z120)
  refine bT_c hF (fun x126 H125 z123 er => ?_) (fun v124 H125 z123 hG => ?_)
  · subst er; have gz := (g_Body_innerBlock (hmo := hmo) hgo hn z123 hm.1 hB q_p0); exact ⟨hm.tr gz.1, (fun x e => by cases e; exact gz.2 _ rfl)⟩
  clear hF
  have gz_70 := (g_Body_innerBlock (hmo := hmo) hgo hn z123 hm.1 hB q_p0)
  replace hm : Rg Q H H125 := hm.tr gz_70.1
  replace hB : B ≤ H125.sh.length := Nat.le_trans hB ((m_Body_innerBlock hmo z123)).len
  have mz_71 : Mo H122 H125 := (m_Body_innerBlock hmo z123)
  have q_72 := (mz_71).get (by rw [(s_69).1]; exact q_66)
  have q_73 := (mz_71).get (by rw [(s_69).1]; exact q_67)
  obtain ⟨a127, e128, hF⟩ := rf_s hG; clear hG
  have qa127 : Q a127 := hm.1 _ _ _ q_p0 e128
  obtain ⟨q129, hG⟩ := ck_s hF; clear hF
  obtain ⟨x130, -, hF⟩ := bnd_g hG; clear hG
  rcases ite_s hF with ⟨q_74, hG⟩ | ⟨q_74, hG⟩
  · clear hF
    obtain ⟨a132, e133, hF⟩ := rf_s hG; clear hG
    have qa132 : Q a132 := hm.1 _ _ _ q_p0 e133
    obtain ⟨q134, hG⟩ := ck_s hF; clear hF
    obtain ⟨v136, H137, z135, hF⟩ := bC_s hG; clear hG
    have gz_75 := (g_Lexer_advance z135 hm.1 qa132)
    replace hm : Rg Q H H137 := hm.tr gz_75
    replace hB : B ≤ H137.sh.length := Nat.le_trans hB ((m_Lexer_advance z135)).mo.len
    have s_76 : Sa H125 H137 := (m_Lexer_advance z135)
    obtain ⟨v139, H140, z138, hG⟩ := bC_s hF; clear hF
    have gz_77 := (g_Body_jump z138 hm.1 q_p0)
    replace hm : Rg Q H H140 := hm.tr gz_77
    replace hB : B ≤ H140.sh.length := Nat.le_trans hB ((m_Body_jump z138)).mo.len
    have s_78 : Sa H125 H140 := (s_76).tr (m_Body_jump z138)
    obtain ⟨a141, e142, hF⟩ := rf_s hG; clear hG
    have qa141 : Q a141 := hm.1 _ _ _ q_p0 e142
    obtain ⟨q143, hG⟩ := ck_s hF; clear hF
    rw [(s_78).1] at q143
    obtain ⟨v145, H146, z144, hF⟩ := bC_s hG; clear hG
    have gz_79 := (g_Program_aim z144 hm.1 qa141)
    replace hm : Rg Q H H146 := hm.tr gz_79
    replace hB : B ≤ H146.sh.length := Nat.le_trans hB ((m_Program_aim z144)).mo.len
    have s_80 : Sa H125 H146 := (s_78).tr (m_Program_aim z144)
    refine bT_c hF (fun x150 H149 z147 er => ?_) (fun v148 H149 z147 hG => ?_)
    · subst er; have gz := (g_Body_innerBlock (hmo := hmo) hgo hn z147 hm.1 hB q_p0); exact ⟨hm.tr gz.1, (fun x e => by cases e; exact gz.2 _ rfl)⟩
    clear hF
    have gz_81 := (g_Body_innerBlock (hmo := hmo) hgo hn z147 hm.1 hB q_p0)
    replace hm : Rg Q H H149 := hm.tr gz_81.1
    replace hB : B ≤ H149.sh.length := Nat.le_trans hB ((m_Body_innerBlock hmo z147)).len
    have mz_82 : Mo H146 H149 := (m_Body_innerBlock hmo z147)
    have q_83 := (mz_82).get (by rw [(s_80).1]; exact q_72)
    have q_84 := (mz_82).get (by rw [(s_80).1]; exact q_73)
    have q_85 := (mz_82).get (by rw [(s_80).1]; exact q129)
    have q_86 := (mz_82).get (by rw [(s_80).1]; exact q134)
    have q_87 := (mz_82).get (by rw [(s_80).1]; exact q143)
    obtain ⟨a151, e152, hF⟩ := rf_s hG; clear hG
    have qa151 : Q a151 := hm.1 _ _ _ q_p0 e152
    obtain ⟨q153, hG⟩ := ck_s hF; clear hF
    obtain ⟨v155, H156, z154, hF⟩ := bC_s hG; clear hG
    have gz_88 := (g_Program_aim z154 hm.1 qa151)
    replace hm : Rg Q H H156 := hm.tr gz_88
    replace hB : B ≤ H156.sh.length := Nat.le_trans hB ((m_Program_aim z154)).mo.len
    have s_89 : Sa H149 H156 := (m_Program_aim z154)
    have hr := Option.some.inj hF; subst hr
    exact ⟨hm, (fun x e => by cases e)⟩
  · clear hF
    obtain ⟨a157, e158, hF⟩ := rf_s hG; clear hG
    have qa157 : Q a157 := hm.1 _ _ _ q_p0 e158
    obtain ⟨q159, hG⟩ := ck_s hF; clear hF
    obtain ⟨v161, H162, z160, hF⟩ := bC_s hG; clear hG
    have gz_90 := (g_Program_aim z160 hm.1 qa157)
    replace hm : Rg Q H H162 := hm.tr gz_90
    replace hB : B ≤ H162.sh.length := Nat.le_trans hB ((m_Program_aim z160)).mo.len
    have s_91 : Sa H125 H162 := (m_Program_aim z160)
    have hr := Option.some.inj hF; subst hr
    exact ⟨hm, (fun x e => by cases e)⟩
set_option maxRecDepth 20000 in
set_option maxHeartbeats 2000000 in
theorem g_Body_readStatement {N : Nat} {Q : Nat → Prop} {B : Nat} {o : Orc_BodyS} {hmo : mo_BodyS o} (hgo : rg_BodyS Q o B) {p0 : Nat} {H : Hp} {r : (Ot Unit) × Hp} (hn : ∀ a, B ≤ a → Q a) (hF : F_Body_readStatement N o p0 H = some r) (hc0 : Cl Q H) (hB : B ≤ H.sh.length) (q_p0 : Q p0) : Rg Q H r.2 ∧ (∀ x, r.1 = .inr x → Q x) := by
  unfold F_Body_readStatement at hF
  have hm := Rg.rf hc0
  obtain ⟨q227, hG⟩ := ck_s hF; clear hF
  obtain ⟨a228, e229, hF⟩ := rf_s hG; clear hG
  have qa228 : Q a228 := hm.1 _ _ _ q_p0 e229
  obtain ⟨q230, hG⟩ := ck_s hF; clear hF
  obtain ⟨x231, -, hF⟩ := bnd_g hG; clear hG
  rcases ite_s hF with ⟨q_140, hG⟩ | ⟨q_140, hG⟩
  · clear hF
    refine bT_c hG (fun x236 H235 z233 er => ?_) (fun v234 H235 z233 hF => ?_)
    · subst er; have gz := (g_Body_readGiven hn z233 hm.1 hB q_p0); exact ⟨hm.tr gz.1, (fun x e => by cases e; exact gz.2 _ rfl)⟩
    clear hG
    have gz_141 := (g_Body_readGiven hn z233 hm.1 hB q_p0)
    replace hm : Rg Q H H235 := hm.tr gz_141.1
    replace hB : B ≤ H235.sh.length := Nat.le_trans hB ((m_Body_readGiven z233)).len
    have mz_142 : Mo H H235 := (m_Body_readGiven z233)
    have q_143 := (mz_142).get q227
    have q_144 := (mz_142).get q230
    have hr := Option.some.inj hF; subst hr
    exact ⟨hm, (fun x e => by cases e)⟩
  clear hF
  rcases ite_s hG with ⟨q_145, hF⟩ | ⟨q_145, hF⟩
  · clear hG
    refine bT_c hF (fun x241 H240 z238 er => ?_) (fun v239 H240 z238 hG => ?_)
    · subst er; have gz := (g_Body_readLet hn z238 hm.1 hB q_p0); exact ⟨hm.tr gz.1, (fun x e => by cases e; exact gz.2 _ rfl)⟩
    clear hF
    have gz_146 := (g_Body_readLet hn z238 hm.1 hB q_p0)
    replace hm : Rg Q H H240 := hm.tr gz_146.1
    replace hB : B ≤ H240.sh.length := Nat.le_trans hB ((m_Body_readLet z238)).len
    have mz_147 : Mo H H240 := (m_Body_readLet z238)
    have q_148 := (mz_147).get q227
    have q_149 := (mz_147).get q230
    have hr := Option.some.inj hG; subst hr
    exact ⟨hm, (fun x e => by cases e)⟩
  clear hG
  rcases ite_s hF with ⟨q_150, hG⟩ | ⟨q_150, hG⟩
  · clear hF
    refine bT_c hG (fun x246 H245 z243 er => ?_) (fun v244 H245 z243 hF => ?_)
    · subst er; have gz := (g_Body_readIf (hmo := hmo) hgo hn z243 hm.1 hB q_p0); exact ⟨hm.tr gz.1, (fun x e => by cases e; exact gz.2 _ rfl)⟩
    clear hG
    have gz_151 := (g_Body_readIf (hmo := hmo) hgo hn z243 hm.1 hB q_p0)
    replace hm : Rg Q H H245 := hm.tr gz_151.1
    replace hB : B ≤ H245.sh.length := Nat.le_trans hB ((m_Body_readIf hmo z243)).len
    have mz_152 : Mo H H245 := (m_Body_readIf hmo z243)
    have q_153 := (mz_152).get q227
    have q_154 := (mz_152).get q230
    have hr := Option.some.inj hF; subst hr
    exact ⟨hm, (fun x e => by cases e)⟩
  clear hF
  rcases ite_s hG with ⟨q_155, hF⟩ | ⟨q_155, hF⟩
  · clear hG
    refine bT_c hF (fun x251 H250 z248 er => ?_) (fun v249 H250 z248 hG => ?_)
    · subst er; have gz := (g_Body_readWhile (hmo := hmo) hgo hn z248 hm.1 hB q_p0); exact ⟨hm.tr gz.1, (fun x e => by cases e; exact gz.2 _ rfl)⟩
    clear hF
    have gz_156 := (g_Body_readWhile (hmo := hmo) hgo hn z248 hm.1 hB q_p0)
    replace hm : Rg Q H H250 := hm.tr gz_156.1
    replace hB : B ≤ H250.sh.length := Nat.le_trans hB ((m_Body_readWhile hmo z248)).len
    have mz_157 : Mo H H250 := (m_Body_readWhile hmo z248)
    have q_158 := (mz_157).get q227
    have q_159 := (mz_157).get q230
    have hr := Option.some.inj hG; subst hr
    exact ⟨hm, (fun x e => by cases e)⟩
  clear hG
  rcases ite_s hF with ⟨q_160, hG⟩ | ⟨q_160, hG⟩
  · clear hF
    refine bT_c hG (fun x256 H255 z253 er => ?_) (fun v254 H255 z253 hF => ?_)
    · subst er; have gz := (g_Body_readFor (hmo := hmo) hgo hn z253 hm.1 hB q_p0); exact ⟨hm.tr gz.1, (fun x e => by cases e; exact gz.2 _ rfl)⟩
    clear hG
    have gz_161 := (g_Body_readFor (hmo := hmo) hgo hn z253 hm.1 hB q_p0)
    replace hm : Rg Q H H255 := hm.tr gz_161.1
    replace hB : B ≤ H255.sh.length := Nat.le_trans hB ((m_Body_readFor hmo z253)).len
    have mz_162 : Mo H H255 := (m_Body_readFor hmo z253)
    have q_163 := (mz_162).get q227
    have q_164 := (mz_162).get q230
    have hr := Option.some.inj hF; subst hr
    exact ⟨hm, (fun x e => by cases e)⟩
  clear hF
  rcases ite_s hG with ⟨q_165, hF⟩ | ⟨q_165, hF⟩
  · clear hG
    refine bT_c hF (fun x261 H260 z258 er => ?_) (fun v259 H260 z258 hG => ?_)
    · subst er; have gz := (g_Body_readHear (hmo := hmo) hgo hn z258 hm.1 hB q_p0); exact ⟨hm.tr gz.1, (fun x e => by cases e; exact gz.2 _ rfl)⟩
    clear hF
    have gz_166 := (g_Body_readHear (hmo := hmo) hgo hn z258 hm.1 hB q_p0)
    replace hm : Rg Q H H260 := hm.tr gz_166.1
    replace hB : B ≤ H260.sh.length := Nat.le_trans hB ((m_Body_readHear hmo z258)).len
    have mz_167 : Mo H H260 := (m_Body_readHear hmo z258)
    have q_168 := (mz_167).get q227
    have q_169 := (mz_167).get q230
    have hr := Option.some.inj hG; subst hr
    exact ⟨hm, (fun x e => by cases e)⟩
  clear hG
  rcases ite_s hF with ⟨q_170, hG⟩ | ⟨q_170, hG⟩
  · clear hF
    refine bT_c hG (fun x266 H265 z263 er => ?_) (fun v264 H265 z263 hF => ?_)
    · subst er; have gz := (g_Body_readSpawn hn z263 hm.1 hB q_p0); exact ⟨hm.tr gz.1, (fun x e => by cases e; exact gz.2 _ rfl)⟩
    clear hG
    have gz_171 := (g_Body_readSpawn hn z263 hm.1 hB q_p0)
    replace hm : Rg Q H H265 := hm.tr gz_171.1
    replace hB : B ≤ H265.sh.length := Nat.le_trans hB ((m_Body_readSpawn z263)).len
    have mz_172 : Mo H H265 := (m_Body_readSpawn z263)
    have q_173 := (mz_172).get q227
    have q_174 := (mz_172).get q230
    have hr := Option.some.inj hF; subst hr
    exact ⟨hm, (fun x e => by cases e)⟩
  clear hF
  rcases ite_s hG with ⟨q_175, hF⟩ | ⟨q_175, hF⟩
  · clear hG
    obtain ⟨a268, e269, hG⟩ := rf_s hF; clear hF
    have qa268 : Q a268 := hm.1 _ _ _ q_p0 e269
    obtain ⟨q270, hF⟩ := ck_s hG; clear hG
    obtain ⟨x271, -, hG⟩ := bnd_g hF; clear hF
    refine bT_c hG (fun x275 H274 z272 er => ?_) (fun v273 H274 z272 hF => ?_)
    · subst er; have gz := (g_Body_readTargeted hn z272 hm.1 hB q_p0); exact ⟨hm.tr gz.1, (fun x e => by cases e; exact gz.2 _ rfl)⟩
    clear hG
    have gz_176 := (g_Body_readTargeted hn z272 hm.1 hB q_p0)
    replace hm : Rg Q H H274 := hm.tr gz_176.1
    replace hB : B ≤ H274.sh.length := Nat.le_trans hB ((m_Body_readTargeted z272)).len
    have mz_177 : Mo H H274 := (m_Body_readTargeted z272)
    have q_178 := (mz_177).get q227
    have q_179 := (mz_177).get q230
    have q_180 := (mz_177).get q270
    have hr := Option.some.inj hF; subst hr
    exact ⟨hm, (fun x e => by cases e)⟩
  clear hG
  rcases ite_s hF with ⟨q_181, hG⟩ | ⟨q_181, hG⟩
  · clear hF
    obtain ⟨a277, e278, hF⟩ := rf_s hG; clear hG
    have qa277 : Q a277 := hm.1 _ _ _ q_p0 e278
    obtain ⟨q279, hG⟩ := ck_s hF; clear hF
    obtain ⟨x280, -, hF⟩ := bnd_g hG; clear hG
    refine bT_c hF (fun x284 H283 z281 er => ?_) (fun v282 H283 z281 hG => ?_)
    · subst er; have gz := (g_Body_readTargeted hn z281 hm.1 hB q_p0); exact ⟨hm.tr gz.1, (fun x e => by cases e; exact gz.2 _ rfl)⟩
    clear hF
    have gz_182 := (g_Body_readTargeted hn z281 hm.1 hB q_p0)
    replace hm : Rg Q H H283 := hm.tr gz_182.1
    replace hB : B ≤ H283.sh.length := Nat.le_trans hB ((m_Body_readTargeted z281)).len
    have mz_183 : Mo H H283 := (m_Body_readTargeted z281)
    have q_184 := (mz_183).get q227
    have q_185 := (mz_183).get q230
    have q_186 := (mz_183).get q279
    have hr := Option.some.inj hG; subst hr
    exact ⟨hm, (fun x e => by cases e)⟩
  clear hF
  rcases ite_s hG with ⟨q_187, hF⟩ | ⟨q_187, hF⟩
  · clear hG
    obtain ⟨a286, e287, hG⟩ := rf_s hF; clear hF
    have qa286 : Q a286 := hm.1 _ _ _ q_p0 e287
    obtain ⟨q288, hF⟩ := ck_s hG; clear hG
    obtain ⟨x289, -, hG⟩ := bnd_g hF; clear hF
    refine bT_c hG (fun x293 H292 z290 er => ?_) (fun v291 H292 z290 hF => ?_)
    · subst er; have gz := (g_Body_readTargeted hn z290 hm.1 hB q_p0); exact ⟨hm.tr gz.1, (fun x e => by cases e; exact gz.2 _ rfl)⟩
    clear hG
    have gz_188 := (g_Body_readTargeted hn z290 hm.1 hB q_p0)
    replace hm : Rg Q H H292 := hm.tr gz_188.1
    replace hB : B ≤ H292.sh.length := Nat.le_trans hB ((m_Body_readTargeted z290)).len
    have mz_189 : Mo H H292 := (m_Body_readTargeted z290)
    have q_190 := (mz_189).get q227
    have q_191 := (mz_189).get q230
    have q_192 := (mz_189).get q288
    have hr := Option.some.inj hF; subst hr
    exact ⟨hm, (fun x e => by cases e)⟩
  clear hG
  rcases ite_s hF with ⟨q_193, hG⟩ | ⟨q_193, hG⟩
  · clear hF
    refine bT_c hG (fun x298 H297 z295 er => ?_) (fun v296 H297 z295 hF => ?_)
    · subst er; have gz := (g_Body_readPut hn z295 hm.1 hB q_p0); exact ⟨hm.tr gz.1, (fun x e => by cases e; exact gz.2 _ rfl)⟩
    clear hG
    have gz_194 := (g_Body_readPut hn z295 hm.1 hB q_p0)
    replace hm : Rg Q H H297 := hm.tr gz_194.1
    replace hB : B ≤ H297.sh.length := Nat.le_trans hB ((m_Body_readPut z295)).len
    have mz_195 : Mo H H297 := (m_Body_readPut z295)
    have q_196 := (mz_195).get q227
    have q_197 := (mz_195).get q230
    have hr := Option.some.inj hF; subst hr
    exact ⟨hm, (fun x e => by cases e)⟩
  clear hF
  rcases ite_s hG with ⟨q_198, hF⟩ | ⟨q_198, hF⟩
  · clear hG
    refine bT_c hF (fun x303 H302 z300 er => ?_) (fun v301 H302 z300 hG => ?_)
    · subst er; have gz := (g_Body_readEmit hn z300 hm.1 hB q_p0); exact ⟨hm.tr gz.1, (fun x e => by cases e; exact gz.2 _ rfl)⟩
    clear hF
    have gz_199 := (g_Body_readEmit hn z300 hm.1 hB q_p0)
    replace hm : Rg Q H H302 := hm.tr gz_199.1
    replace hB : B ≤ H302.sh.length := Nat.le_trans hB ((m_Body_readEmit z300)).len
    have mz_200 : Mo H H302 := (m_Body_readEmit z300)
    have q_201 := (mz_200).get q227
    have q_202 := (mz_200).get q230
    have hr := Option.some.inj hG; subst hr
    exact ⟨hm, (fun x e => by cases e)⟩
  clear hG
  rcases ite_s hF with ⟨q_203, hG⟩ | ⟨q_203, hG⟩
  · clear hF
    refine bT_c hG (fun x308 H307 z305 er => ?_) (fun v306 H307 z305 hF => ?_)
    · subst er; have gz := (g_Body_readShow hn z305 hm.1 hB q_p0); exact ⟨hm.tr gz.1, (fun x e => by cases e; exact gz.2 _ rfl)⟩
    clear hG
    have gz_204 := (g_Body_readShow hn z305 hm.1 hB q_p0)
    replace hm : Rg Q H H307 := hm.tr gz_204.1
    replace hB : B ≤ H307.sh.length := Nat.le_trans hB ((m_Body_readShow z305)).len
    have mz_205 : Mo H H307 := (m_Body_readShow z305)
    have q_206 := (mz_205).get q227
    have q_207 := (mz_205).get q230
    have hr := Option.some.inj hF; subst hr
    exact ⟨hm, (fun x e => by cases e)⟩
  clear hF
  rcases ite_s hG with ⟨q_208, hF⟩ | ⟨q_208, hF⟩
  · clear hG
    obtain ⟨a310, e311, hG⟩ := rf_s hF; clear hF
    have qa310 : Q a310 := hm.1 _ _ _ q_p0 e311
    obtain ⟨q312, hF⟩ := ck_s hG; clear hG
    obtain ⟨v314, H315, z313, hG⟩ := bC_s hF; clear hF
    have gz_209 := (g_Lexer_advance z313 hm.1 qa310)
    replace hm : Rg Q H H315 := hm.tr gz_209
    replace hB : B ≤ H315.sh.length := Nat.le_trans hB ((m_Lexer_advance z313)).mo.len
    have s_210 : Sa H H315 := (m_Lexer_advance z313)
    obtain ⟨a316, e317, hF⟩ := rf_s hG; clear hG
    have qa316 : Q a316 := hm.1 _ _ _ q_p0 e317
    obtain ⟨q318, hG⟩ := ck_s hF; clear hF
    rw [(s_210).1] at q318
    obtain ⟨v320, H321, z319, hF⟩ := bC_s hG; clear hG
    have gz_211 := (g_Program_add z319 hm.1 qa316)
    replace hm : Rg Q H H321 := hm.tr gz_211
    replace hB : B ≤ H321.sh.length := Nat.le_trans hB ((m_Program_add z319)).mo.len
    have s_212 : Sa H H321 := (s_210).tr (m_Program_add z319)
    obtain ⟨a322, e323, hG⟩ := rf_s hF; clear hF
    have qa322 : Q a322 := hm.1 _ _ _ q_p0 e323
    obtain ⟨q324, hF⟩ := ck_s hG; clear hG
    rw [(s_212).1] at q324
    refine bT_c hF (fun x328 H327 z325 er => ?_) (fun v326 H327 z325 hG => ?_)
    · subst er; have gz := (g_Lexer_take hn z325 hm.1 hB qa322); exact ⟨hm.tr gz.1, (fun x e => by cases e; exact gz.2 _ rfl)⟩
    clear hF
    have gz_213 := (g_Lexer_take hn z325 hm.1 hB qa322)
    replace hm : Rg Q H H327 := hm.tr gz_213.1
    replace hB : B ≤ H327.sh.length := Nat.le_trans hB ((m_Lexer_take z325)).len
    have mz_214 : Mo H321 H327 := (m_Lexer_take z325)
    have q_215 := (mz_214).get (by rw [(s_212).1]; exact q227)
    have q_216 := (mz_214).get (by rw [(s_212).1]; exact q230)
    have q_217 := (mz_214).get (by rw [(s_212).1]; exact q312)
    have q_218 := (mz_214).get (by rw [(s_212).1]; exact q318)
    have q_219 := (mz_214).get (by rw [(s_212).1]; exact q324)
    have hr := Option.some.inj hG; subst hr
    exact ⟨hm, (fun x e => by cases e)⟩
  clear hG
  obtain ⟨a329, e330, hG⟩ := rf_s hF; clear hF
  have qa329 : Q a329 := hm.1 _ _ _ q_p0 e330
  obtain ⟨a331, e332, hF⟩ := rf_s hG; clear hG
  have qa331 : Q a331 := hm.1 _ _ _ q_p0 e332
  obtain ⟨q333, hG⟩ := ck_s hF; clear hF
  obtain ⟨x334, -, hF⟩ := bnd_g hG; clear hG
  obtain ⟨q335, hG⟩ := ck_s hF; clear hF
  refine bT_c hG (fun x339 H338 z336 er => ?_) (fun v337 H338 z336 hF => ?_)
  · subst er; have gz := (g_Lexer_refuse hn z336 hm.1 hB qa329); exact ⟨hm.tr gz.1, (fun x e => by cases e; exact gz.2 _ rfl)⟩
  clear hG
  have gz_220 := (g_Lexer_refuse hn z336 hm.1 hB qa329)
  replace hm : Rg Q H H338 := hm.tr gz_220.1
  replace hB : B ≤ H338.sh.length := Nat.le_trans hB ((m_Lexer_refuse z336)).len
  have mz_221 : Mo H H338 := (m_Lexer_refuse z336)
  have q_222 := (mz_221).get q227
  have q_223 := (mz_221).get q230
  have q_224 := (mz_221).get q333
  have q_225 := (mz_221).get q335
  have hr := Option.some.inj hF; subst hr
  exact ⟨hm, (fun x e => by cases e)⟩
set_option maxRecDepth 20000 in
set_option maxHeartbeats 2000000 in
theorem gB_Body_block_54 {N : Nat} {Q : Nat → Prop} {B : Nat} {o : Orc_BodyS} {hmo : mo_BodyS o} (hgo : rg_BodyS Q o B) {p0 : Nat} (hn : ∀ a, B ≤ a → Q a) (q_p0 : Q p0) {l1 : Int32} {H : Hp} {r : (Ot Unit) × Hp} (hF : B_Body_block_54 N o p0 l1 H = some r) (hc0 : Cl Q H) (hB : B ≤ H.sh.length) : Rg Q H r.2 ∧ (∀ x, r.1 = .inr x → Q x) := by
  unfold B_Body_block_54 at hF
  have hm := Rg.rf hc0
  obtain ⟨q19, hG⟩ := ck_s hF; clear hF
  obtain ⟨a20, e21, hF⟩ := rf_s hG; clear hG
  have qa20 : Q a20 := hm.1 _ _ _ q_p0 e21
  obtain ⟨q22, hG⟩ := ck_s hF; clear hF
  refine bT_c hG (fun x26 H25 z23 er => ?_) (fun v24 H25 z23 hF => ?_)
  · subst er; have gz := (g_Lexer_take hn z23 hm.1 hB qa20); exact ⟨hm.tr gz.1, (fun x e => by cases e; exact gz.2 _ rfl)⟩
  clear hG
  have gz_34 := (g_Lexer_take hn z23 hm.1 hB qa20)
  replace hm : Rg Q H H25 := hm.tr gz_34.1
  replace hB : B ≤ H25.sh.length := Nat.le_trans hB ((m_Lexer_take z23)).len
  have mz_35 : Mo H H25 := (m_Lexer_take z23)
  have q_36 := (mz_35).get q19
  have q_37 := (mz_35).get q22
  obtain ⟨a27, e28, hG⟩ := rf_s hF; clear hF
  have qa27 : Q a27 := hm.1 _ _ _ q_p0 e28
  obtain ⟨x29, -, hF⟩ := bnd_g hG; clear hG
  obtain ⟨q30, hG⟩ := ck_s hF; clear hF
  obtain ⟨v32, H33, z31, hF⟩ := bC_s hG; clear hG
  have gz_38 := (g_Program_forget z31 hm.1 qa27)
  replace hm : Rg Q H H33 := hm.tr gz_38
  replace hB : B ≤ H33.sh.length := Nat.le_trans hB ((m_Program_forget z31)).mo.len
  have s_39 : Sa H25 H33 := (m_Program_forget z31)
  obtain ⟨H34, eH34, hG⟩ := bnd_g hF; clear hF
  replace hm : Rg Q H H34 := hm.tr (by rw [eH34]; exact Rg.sD hm.1 q_p0)
  have s_40 : Sa H25 H34 := by rw [eH34]; exact s_39
  replace hB : B ≤ H34.sh.length := by rw [eH34]; exact hB
  have hr := Option.some.inj hG; subst hr
  exact ⟨hm, (fun x e => by cases e)⟩
set_option maxRecDepth 20000 in
set_option maxHeartbeats 2000000 in
theorem gB_Body_block_16 {N : Nat} {Q : Nat → Prop} {B : Nat} {o : Orc_BodyS} {hmo : mo_BodyS o} (hgo : rg_BodyS Q o B) {p0 : Nat} (hn : ∀ a, B ≤ a → Q a) (q_p0 : Q p0) : ∀ (n : Nat) (l1 : Int32) (l2 : Int32) (H : Hp) (r : (Ot Unit) × Hp), B_Body_block_16 N o p0 n l1 l2 H = some r → Cl Q H → B ≤ H.sh.length → Rg Q H r.2 ∧ (∀ x, r.1 = .inr x → Q x) := by
  intro n
  induction n with
  | zero => intro l1 l2 H r hF; rw [B_Body_block_16] at hF; cases hF
  | succ n ih =>
    intro l1 l2 H r hF hc0 hB
    rw [B_Body_block_16] at hF
    have hm := Rg.rf hc0
    rcases ite_s hF with ⟨q_41, hG⟩ | ⟨q_41, hG⟩
    · clear hF
      have gz := gB_Body_block_54 (hmo := hmo) hgo hn q_p0 hG hm.1 hB
      exact ⟨hm.tr gz.1, gz.2⟩
    · clear hF
      obtain ⟨q36, hF⟩ := ck_s hG; clear hG
      obtain ⟨a37, e38, hG⟩ := rf_s hF; clear hF
      have qa37 : Q a37 := hm.1 _ _ _ q_p0 e38
      obtain ⟨q39, hF⟩ := ck_s hG; clear hG
      obtain ⟨x40, -, hG⟩ := bnd_g hF; clear hF
      rcases ite_s hG with ⟨q_42, hF⟩ | ⟨q_42, hF⟩
      · clear hG
        have gz := gB_Body_block_54 (hmo := hmo) hgo hn q_p0 hF hm.1 hB
        exact ⟨hm.tr gz.1, gz.2⟩
      · clear hG
        obtain ⟨a42, e43, hG⟩ := rf_s hF; clear hF
        have qa42 : Q a42 := hm.1 _ _ _ q_p0 e43
        obtain ⟨q44, hF⟩ := ck_s hG; clear hG
        obtain ⟨v46, H47, z45, hG⟩ := bC_s hF; clear hF
        have gz_43 := (g_Program_add z45 hm.1 qa42)
        replace hm : Rg Q H H47 := hm.tr gz_43
        replace hB : B ≤ H47.sh.length := Nat.le_trans hB ((m_Program_add z45)).mo.len
        have s_44 : Sa H H47 := (m_Program_add z45)
        refine bT_c hG (fun x51 H50 z48 er => ?_) (fun v49 H50 z48 hF => ?_)
        · subst er; have gz := (g_Body_readStatement (hmo := hmo) hgo hn z48 hm.1 hB q_p0); exact ⟨hm.tr gz.1, (fun x e => by cases e; exact gz.2 _ rfl)⟩
        clear hG
        have gz_45 := (g_Body_readStatement (hmo := hmo) hgo hn z48 hm.1 hB q_p0)
        replace hm : Rg Q H H50 := hm.tr gz_45.1
        replace hB : B ≤ H50.sh.length := Nat.le_trans hB ((m_Body_readStatement hmo z48)).len
        have mz_46 : Mo H47 H50 := (m_Body_readStatement hmo z48)
        have q_47 := (mz_46).get (by rw [(s_44).1]; exact q36)
        have q_48 := (mz_46).get (by rw [(s_44).1]; exact q39)
        have q_49 := (mz_46).get (by rw [(s_44).1]; exact q44)
        have gz := ih l1 (l2 + 1) H50 r hF hm.1 hB
        exact ⟨hm.tr gz.1, gz.2⟩
set_option maxRecDepth 20000 in
set_option maxHeartbeats 2000000 in
theorem g_Body_block {N : Nat} {Q : Nat → Prop} {B : Nat} {o : Orc_BodyS} {hmo : mo_BodyS o} (hgo : rg_BodyS Q o B) {p0 : Nat} {H : Hp} {r : (Ot Unit) × Hp} (hn : ∀ a, B ≤ a → Q a) (hF : F_Body_block N o p0 H = some r) (hc0 : Cl Q H) (hB : B ≤ H.sh.length) (q_p0 : Q p0) : Rg Q H r.2 ∧ (∀ x, r.1 = .inr x → Q x) := by
  unfold F_Body_block at hF
  have hm := Rg.rf hc0
  obtain ⟨q52, hG⟩ := ck_s hF; clear hF
  obtain ⟨x53, -, hF⟩ := bnd_g hG; clear hG
  obtain ⟨a54, e55, hG⟩ := rf_s hF; clear hF
  have qa54 : Q a54 := hm.1 _ _ _ q_p0 e55
  obtain ⟨q56, hF⟩ := ck_s hG; clear hG
  refine bT_c hF (fun x60 H59 z57 er => ?_) (fun v58 H59 z57 hG => ?_)
  · subst er; have gz := (g_Lexer_take hn z57 hm.1 hB qa54); exact ⟨hm.tr gz.1, (fun x e => by cases e; exact gz.2 _ rfl)⟩
  clear hF
  have gz_50 := (g_Lexer_take hn z57 hm.1 hB qa54)
  replace hm : Rg Q H H59 := hm.tr gz_50.1
  replace hB : B ≤ H59.sh.length := Nat.le_trans hB ((m_Lexer_take z57)).len
  have mz_51 : Mo H H59 := (m_Lexer_take z57)
  have q_52 := (mz_51).get q52
  have q_53 := (mz_51).get q56
  have gz := gB_Body_block_16 (hmo := hmo) hgo hn q_p0 N x53 0 H59 r hG hm.1 hB
  exact ⟨hm.tr gz.1, gz.2⟩
theorem gX_BodyS {N : Nat} {Q : Nat → Prop} {B : Nat} (hn : ∀ a, B ≤ a → Q a) : ∀ d, rg_BodyS Q (X_BodyS N d) B := by
  intro d
  induction d with
  | zero => exact (fun _ _ _ hz => absurd (show none = some _ from hz) (by simp))
  | succ d ih => exact (fun _ _ _ hz hc hB qa0 => g_Body_block (hmo := moX_BodyS d) ih hn hz hc hB qa0)
set_option maxRecDepth 20000 in
set_option maxHeartbeats 2000000 in
theorem gB_Reader_readAll_152 {N : Nat} {Q : Nat → Prop} {p0 : Nat} {p1 : Nat} {B : Nat} (hn : ∀ a, B ≤ a → Q a) (q_p0 : Q p0) (q_p1 : Q p1) {l2 : Int32} {H : Hp} {r : Int32 × Hp} (hF : B_Reader_readAll_152 N p0 p1 l2 H = some r) (hc0 : Cl Q H) (hB : B ≤ H.sh.length) : Rg Q H r.2 := by
  unfold B_Reader_readAll_152 at hF
  have hm := Rg.rf hc0
  obtain ⟨q179, hG⟩ := ck_s hF; clear hF
  obtain ⟨a180, e181, hF⟩ := rf_s hG; clear hG
  have qa180 : Q a180 := hm.1 _ _ _ q_p0 e181
  obtain ⟨q182, hG⟩ := ck_s hF; clear hF
  obtain ⟨H183, eH183, hF⟩ := bnd_g hG; clear hG
  replace hm : Rg Q H H183 := hm.tr (by rw [eH183]; exact Rg.sD hm.1 qa180)
  have s_97 : Sa H H183 := by rw [eH183]; exact Sa.rf _
  replace hB : B ≤ H183.sh.length := by rw [eH183]; exact hB
  obtain ⟨q184, hG⟩ := ck_s hF; clear hF
  have hr := Option.some.inj hG; subst hr
  exact hm
set_option maxRecDepth 20000 in
set_option maxHeartbeats 2000000 in
theorem gB_Reader_readAll_155 {N : Nat} {Q : Nat → Prop} {p0 : Nat} {p1 : Nat} {B : Nat} (hn : ∀ a, B ≤ a → Q a) (q_p0 : Q p0) (q_p1 : Q p1) {w0 : Nat} {H : Hp} {r : Int32 × Hp} (hF : B_Reader_readAll_155 N p0 p1 w0 H = some r) (hc0 : Cl Q H) (hB : B ≤ H.sh.length) (q_w0 : Q w0) : Rg Q H r.2 := by
  unfold B_Reader_readAll_155 at hF
  have hm := Rg.rf hc0
  obtain ⟨q185, hG⟩ := ck_s hF; clear hF
  obtain ⟨a186, e187, hF⟩ := rf_s hG; clear hG
  have qa186 : Q a186 := hm.1 _ _ _ q_p0 e187
  obtain ⟨q188, hG⟩ := ck_s hF; clear hF
  obtain ⟨H189, eH189, hF⟩ := bnd_g hG; clear hG
  replace hm : Rg Q H H189 := hm.tr (by rw [eH189]; exact Rg.sD hm.1 qa186)
  have s_98 : Sa H H189 := by rw [eH189]; exact Sa.rf _
  replace hB : B ≤ H189.sh.length := by rw [eH189]; exact hB
  have hr := Option.some.inj hF; subst hr
  exact hm
set_option maxRecDepth 20000 in
set_option maxHeartbeats 2000000 in
theorem gB_Reader_readAll_146 {N : Nat} {Q : Nat → Prop} {p0 : Nat} {p1 : Nat} {kq23 : Int32 → Int32 → Hp → Option (Int32 × Hp)} {B : Nat} (hn : ∀ a, B ≤ a → Q a) (q_p0 : Q p0) (q_p1 : Q p1) (hg23 : ∀ (l2 : Int32) (l3 : Int32) (H : Hp) (r : Int32 × Hp), kq23 l2 l3 H = some r → Cl Q H → B ≤ H.sh.length → Rg Q H r.2) {l2 : Int32} {l3 : Int32} {H : Hp} {r : Int32 × Hp} (hF : B_Reader_readAll_146 N p0 p1 kq23 l2 l3 H = some r) (hc0 : Cl Q H) (hB : B ≤ H.sh.length) : Rg Q H r.2 := by
  unfold B_Reader_readAll_146 at hF
  have hm := Rg.rf hc0
  exact hm.tr (hg23 l2 (l3 + 1) H r hF hm.1 hB)
set_option maxRecDepth 20000 in
set_option maxHeartbeats 2000000 in
theorem gB_Reader_readAll_23 {N : Nat} {Q : Nat → Prop} {p0 : Nat} {p1 : Nat} {B : Nat} (hn : ∀ a, B ≤ a → Q a) (q_p0 : Q p0) (q_p1 : Q p1) : ∀ (n : Nat) (l2 : Int32) (l3 : Int32) (H : Hp) (r : Int32 × Hp), B_Reader_readAll_23 N p0 p1 n l2 l3 H = some r → Cl Q H → B ≤ H.sh.length → Rg Q H r.2 := by
  intro n
  induction n with
  | zero => intro l2 l3 H r hF; rw [B_Reader_readAll_23] at hF; cases hF
  | succ n ih =>
    intro l2 l3 H r hF hc0 hB
    rw [B_Reader_readAll_23] at hF
    have hm := Rg.rf hc0
    rcases ite_s hF with ⟨q_99, hG⟩ | ⟨q_99, hG⟩
    · clear hF
      exact hm.tr (gB_Reader_readAll_152 hn q_p0 q_p1 hG hm.1 hB)
    · clear hF
      obtain ⟨q191, hF⟩ := ck_s hG; clear hG
      obtain ⟨a192, e193, hG⟩ := rf_s hF; clear hF
      have qa192 : Q a192 := hm.1 _ _ _ q_p0 e193
      obtain ⟨q194, hF⟩ := ck_s hG; clear hG
      obtain ⟨x195, -, hG⟩ := bnd_g hF; clear hF
      rcases ite_s hG with ⟨q_100, hF⟩ | ⟨q_100, hF⟩
      · clear hG
        exact hm.tr (gB_Reader_readAll_152 hn q_p0 q_p1 hF hm.1 hB)
      · clear hG
        obtain ⟨a197, e198, hG⟩ := rf_s hF; clear hF
        have qa197 : Q a197 := hm.1 _ _ _ q_p0 e198
        obtain ⟨q199, hF⟩ := ck_s hG; clear hG
        obtain ⟨x200, -, hG⟩ := bnd_g hF; clear hF
        rcases ite_s hG with ⟨q_101, hF⟩ | ⟨q_101, hF⟩
        · clear hG
          refine bH_c hF (fun x205 H204 z202 hG => ?_) (fun v203 H204 z202 hG => ?_)
          · clear hF
            have gz := (g_Reader_readComponent hn z202 hm.1 hB q_p0)
            replace hm : Rg Q H H204 := hm.tr gz.1
            replace hB : B ≤ H204.sh.length := Nat.le_trans hB ((m_Reader_readComponent z202)).len
            have qx205 : Q x205 := gz.2 _ rfl
            obtain ⟨q206, hF⟩ := ck_s hG; clear hG
            exact hm.tr (gB_Reader_readAll_155 hn q_p0 q_p1 hF hm.1 hB qx205)
          clear hF
          have gz_102 := (g_Reader_readComponent hn z202 hm.1 hB q_p0)
          replace hm : Rg Q H H204 := hm.tr gz_102.1
          replace hB : B ≤ H204.sh.length := Nat.le_trans hB ((m_Reader_readComponent z202)).len
          have mz_103 : Mo H H204 := (m_Reader_readComponent z202)
          have q_104 := (mz_103).get q191
          have q_105 := (mz_103).get q194
          have q_106 := (mz_103).get q199
          exact hm.tr (gB_Reader_readAll_146 hn q_p0 q_p1 ih hG hm.1 hB)
        clear hG
        rcases ite_s hF with ⟨q_107, hG⟩ | ⟨q_107, hG⟩
        · clear hF
          refine bH_c hG (fun x211 H210 z208 hF => ?_) (fun v209 H210 z208 hF => ?_)
          · clear hG
            have gz := (g_Reader_readEvent hn z208 hm.1 hB q_p0)
            replace hm : Rg Q H H210 := hm.tr gz.1
            replace hB : B ≤ H210.sh.length := Nat.le_trans hB ((m_Reader_readEvent z208)).len
            have qx211 : Q x211 := gz.2 _ rfl
            obtain ⟨q212, hG⟩ := ck_s hF; clear hF
            exact hm.tr (gB_Reader_readAll_155 hn q_p0 q_p1 hG hm.1 hB qx211)
          clear hG
          have gz_108 := (g_Reader_readEvent hn z208 hm.1 hB q_p0)
          replace hm : Rg Q H H210 := hm.tr gz_108.1
          replace hB : B ≤ H210.sh.length := Nat.le_trans hB ((m_Reader_readEvent z208)).len
          have mz_109 : Mo H H210 := (m_Reader_readEvent z208)
          have q_110 := (mz_109).get q191
          have q_111 := (mz_109).get q194
          have q_112 := (mz_109).get q199
          exact hm.tr (gB_Reader_readAll_146 hn q_p0 q_p1 ih hF hm.1 hB)
        clear hF
        rcases ite_s hG with ⟨q_113, hF⟩ | ⟨q_113, hF⟩
        · clear hG
          refine bH_c hF (fun x217 H216 z214 hG => ?_) (fun v215 H216 z214 hG => ?_)
          · clear hF
            have gz := (g_Reader_readPrefab hn z214 hm.1 hB q_p0)
            replace hm : Rg Q H H216 := hm.tr gz.1
            replace hB : B ≤ H216.sh.length := Nat.le_trans hB ((m_Reader_readPrefab z214)).len
            have qx217 : Q x217 := gz.2 _ rfl
            obtain ⟨q218, hF⟩ := ck_s hG; clear hG
            exact hm.tr (gB_Reader_readAll_155 hn q_p0 q_p1 hF hm.1 hB qx217)
          clear hF
          have gz_114 := (g_Reader_readPrefab hn z214 hm.1 hB q_p0)
          replace hm : Rg Q H H216 := hm.tr gz_114.1
          replace hB : B ≤ H216.sh.length := Nat.le_trans hB ((m_Reader_readPrefab z214)).len
          have mz_115 : Mo H H216 := (m_Reader_readPrefab z214)
          have q_116 := (mz_115).get q191
          have q_117 := (mz_115).get q194
          have q_118 := (mz_115).get q199
          exact hm.tr (gB_Reader_readAll_146 hn q_p0 q_p1 ih hG hm.1 hB)
        clear hG
        rcases ite_s hF with ⟨q_119, hG⟩ | ⟨q_119, hG⟩
        · clear hF
          refine bH_c hG (fun x223 H222 z220 hF => ?_) (fun v221 H222 z220 hF => ?_)
          · clear hG
            have gz := (g_Reader_readHead hn z220 hm.1 hB q_p0)
            replace hm : Rg Q H H222 := hm.tr gz.1
            replace hB : B ≤ H222.sh.length := Nat.le_trans hB ((m_Reader_readHead z220)).len
            have qx223 : Q x223 := gz.2 _ rfl
            obtain ⟨q224, hG⟩ := ck_s hF; clear hF
            exact hm.tr (gB_Reader_readAll_155 hn q_p0 q_p1 hG hm.1 hB qx223)
          clear hG
          have gz_120 := (g_Reader_readHead hn z220 hm.1 hB q_p0)
          replace hm : Rg Q H H222 := hm.tr gz_120.1
          replace hB : B ≤ H222.sh.length := Nat.le_trans hB ((m_Reader_readHead z220)).len
          have mz_121 : Mo H H222 := (m_Reader_readHead z220)
          have q_122 := (mz_121).get q191
          have q_123 := (mz_121).get q194
          have q_124 := (mz_121).get q199
          obtain ⟨a225, e226, hG⟩ := rf_s hF; clear hF
          have qa225 : Q a225 := hm.1 _ _ _ q_p0 e226
          obtain ⟨a227, e228, hF⟩ := rf_s hG; clear hG
          have qa227 : Q a227 := hm.1 _ _ _ q_p0 e228
          obtain ⟨q229, hG⟩ := ck_s hF; clear hF
          obtain ⟨v231, H232, z230, hF⟩ := bC_s hG; clear hG
          have gz_125 := (g_Body_open z230 hm.1 qa225 qa227)
          replace hm : Rg Q H H232 := hm.tr gz_125
          replace hB : B ≤ H232.sh.length := Nat.le_trans hB ((m_Body_open z230)).mo.len
          have s_126 : Sa H222 H232 := (m_Body_open z230)
          obtain ⟨a233, e234, hG⟩ := rf_s hF; clear hF
          have qa233 : Q a233 := hm.1 _ _ _ q_p0 e234
          obtain ⟨q235, hF⟩ := ck_s hG; clear hG
          rw [(s_126).1] at q235
          refine bH_c hF (fun x239 H238 z236 hG => ?_) (fun v237 H238 z236 hG => ?_)
          · clear hF
            have gz := ((gX_BodyS hn 24) _ _ _ z236 hm.1 hB qa233)
            replace hm : Rg Q H H238 := hm.tr gz.1
            replace hB : B ≤ H238.sh.length := Nat.le_trans hB (((moX_BodyS 24) _ _ _ z236)).len
            have qx239 : Q x239 := gz.2 _ rfl
            obtain ⟨q240, hF⟩ := ck_s hG; clear hG
            exact hm.tr (gB_Reader_readAll_155 hn q_p0 q_p1 hF hm.1 hB qx239)
          clear hF
          have gz_127 := ((gX_BodyS hn 24) _ _ _ z236 hm.1 hB qa233)
          replace hm : Rg Q H H238 := hm.tr gz_127.1
          replace hB : B ≤ H238.sh.length := Nat.le_trans hB (((moX_BodyS 24) _ _ _ z236)).len
          have mz_128 : Mo H232 H238 := ((moX_BodyS 24) _ _ _ z236)
          have q_129 := (mz_128).get (by rw [(s_126).1]; exact q_122)
          have q_130 := (mz_128).get (by rw [(s_126).1]; exact q_123)
          have q_131 := (mz_128).get (by rw [(s_126).1]; exact q_124)
          have q_132 := (mz_128).get (by rw [(s_126).1]; exact q229)
          have q_133 := (mz_128).get (by rw [(s_126).1]; exact q235)
          obtain ⟨a241, e242, hF⟩ := rf_s hG; clear hG
          have qa241 : Q a241 := hm.1 _ _ _ q_p0 e242
          obtain ⟨q243, hG⟩ := ck_s hF; clear hF
          obtain ⟨v245, H246, z244, hF⟩ := bC_s hG; clear hG
          have gz_134 := (g_Program_add z244 hm.1 qa241)
          replace hm : Rg Q H H246 := hm.tr gz_134
          replace hB : B ≤ H246.sh.length := Nat.le_trans hB ((m_Program_add z244)).mo.len
          have s_135 : Sa H238 H246 := (m_Program_add z244)
          exact hm.tr (gB_Reader_readAll_146 hn q_p0 q_p1 ih hF hm.1 hB)
        clear hF
        obtain ⟨a247, e248, hF⟩ := rf_s hG; clear hG
        have qa247 : Q a247 := hm.1 _ _ _ q_p0 e248
        obtain ⟨a249, e250, hG⟩ := rf_s hF; clear hF
        have qa249 : Q a249 := hm.1 _ _ _ q_p0 e250
        obtain ⟨q251, hF⟩ := ck_s hG; clear hG
        obtain ⟨x252, -, hG⟩ := bnd_g hF; clear hF
        obtain ⟨q253, hF⟩ := ck_s hG; clear hG
        refine bH_c hF (fun x257 H256 z254 hG => ?_) (fun v255 H256 z254 hG => ?_)
        · clear hF
          have gz := (g_Lexer_refuse hn z254 hm.1 hB qa247)
          replace hm : Rg Q H H256 := hm.tr gz.1
          replace hB : B ≤ H256.sh.length := Nat.le_trans hB ((m_Lexer_refuse z254)).len
          have qx257 : Q x257 := gz.2 _ rfl
          obtain ⟨q258, hF⟩ := ck_s hG; clear hG
          exact hm.tr (gB_Reader_readAll_155 hn q_p0 q_p1 hF hm.1 hB qx257)
        clear hF
        have gz_136 := (g_Lexer_refuse hn z254 hm.1 hB qa247)
        replace hm : Rg Q H H256 := hm.tr gz_136.1
        replace hB : B ≤ H256.sh.length := Nat.le_trans hB ((m_Lexer_refuse z254)).len
        have mz_137 : Mo H H256 := (m_Lexer_refuse z254)
        have q_138 := (mz_137).get q191
        have q_139 := (mz_137).get q194
        have q_140 := (mz_137).get q199
        have q_141 := (mz_137).get q251
        have q_142 := (mz_137).get q253
        exact hm.tr (gB_Reader_readAll_146 hn q_p0 q_p1 ih hG hm.1 hB)
set_option maxRecDepth 20000 in
set_option maxHeartbeats 2000000 in
theorem g_Reader_readAll {N : Nat} {Q : Nat → Prop} {p0 : Nat} {p1 : Nat} {H : Hp} {r : Int32 × Hp} {B : Nat} (hn : ∀ a, B ≤ a → Q a) (hF : F_Reader_readAll N p0 p1 H = some r) (hc0 : Cl Q H) (hB : B ≤ H.sh.length) (q_p0 : Q p0) (q_p1 : Q p1) : Rg Q H r.2 := by
  unfold F_Reader_readAll at hF
  have hm := Rg.rf hc0
  obtain ⟨q259, hG⟩ := ck_s hF; clear hF
  obtain ⟨H260, eH260, hF⟩ := bnd_g hG; clear hG
  replace hm : Rg Q H H260 := hm.tr (by rw [eH260]; exact Rg.sP hm.1 q_p0 (is_rf q_p1) q259 rfl)
  have s_143 : Sa H H260 := by rw [eH260]; exact Sa.rf _
  replace hB : B ≤ H260.sh.length := by rw [eH260]; exact hB
  obtain ⟨a261, e262, hG⟩ := rf_s hF; clear hF
  have qa261 : Q a261 := hm.1 _ _ _ q_p0 e262
  obtain ⟨q263, hF⟩ := ck_s hG; clear hG
  rw [(s_143).1] at q263
  obtain ⟨v265, H266, z264, hG⟩ := bC_s hF; clear hF
  have gz_144 := (g_Program_clear z264 hm.1 qa261)
  replace hm : Rg Q H H266 := hm.tr gz_144
  replace hB : B ≤ H266.sh.length := Nat.le_trans hB ((m_Program_clear z264)).mo.len
  have s_145 : Sa H H266 := (s_143).tr (m_Program_clear z264)
  obtain ⟨a267, e268, hF⟩ := rf_s hG; clear hG
  have qa267 : Q a267 := hm.1 _ _ _ q_p0 e268
  obtain ⟨q269, hG⟩ := ck_s hF; clear hF
  rw [(s_145).1] at q269
  obtain ⟨v271, H272, z270, hF⟩ := bC_s hG; clear hG
  have gz_146 := (g_Lexer_begin z270 hm.1 qa267)
  replace hm : Rg Q H H272 := hm.tr gz_146
  replace hB : B ≤ H272.sh.length := Nat.le_trans hB ((m_Lexer_begin z270)).mo.len
  have s_147 : Sa H H272 := (s_145).tr (m_Lexer_begin z270)
  exact hm.tr (gB_Reader_readAll_23 hn q_p0 q_p1 N 1 0 H272 r hF hm.1 hB)
set_option maxRecDepth 20000 in
set_option maxHeartbeats 2000000 in
theorem g_W_exchangePrograms {N : Nat} {Q : Nat → Prop} {p0 : Nat} {H : Hp} {r : Unit × Hp} (hF : F_W_exchangePrograms N p0 H = some r) (hc0 : Cl Q H) (q_p0 : Q p0) : Rg Q H r.2 := by
  unfold F_W_exchangePrograms at hF
  have hm := Rg.rf hc0
  obtain ⟨q17, hG⟩ := ck_s hF; clear hF
  obtain ⟨a18, e19, hF⟩ := rf_s hG; clear hG
  have qa18 : Q a18 := hm.1 _ _ _ q_p0 e19
  obtain ⟨a20, e21, hG⟩ := rf_s hF; clear hF
  have qa20 : Q a20 := hm.1 _ _ _ q_p0 e21
  obtain ⟨H22, eH22, hF⟩ := bnd_g hG; clear hG
  replace hm : Rg Q H H22 := hm.tr (by rw [eH22]; exact Rg.sP hm.1 q_p0 (is_rf qa20) q17 rfl)
  have s_7 : Sa H H22 := by rw [eH22]; exact Sa.rf _
  obtain ⟨H23, eH23, hG⟩ := bnd_g hF; clear hF
  replace hm : Rg Q H H23 := hm.tr (by rw [eH23]; exact Rg.sP hm.1 q_p0 (is_rf qa18) (by rw [(s_7).1]; exact q17) rfl)
  have s_8 : Sa H H23 := by rw [eH23]; exact s_7
  obtain ⟨H24, eH24, hF⟩ := bnd_g hG; clear hG
  replace hm : Rg Q H H24 := hm.tr (by rw [eH24]; exact Rg.sD hm.1 q_p0)
  have s_9 : Sa H H24 := by rw [eH24]; exact s_8
  have hr := Option.some.inj hF; subst hr
  exact hm
