set_option maxRecDepth 20000 in
set_option maxHeartbeats 2000000 in
theorem gB_Named_isLocal_17 {N : Nat} {Q : Nat → Prop} {p0 : Nat} (q_p0 : Q p0)  {H : Hp} {r : Int32 × Hp} (hF : B_Named_isLocal_17 N p0  H = some r) (hc0 : Cl Q H) : Rg Q H r.2 := by
  unfold B_Named_isLocal_17 at hF
  have hm := Rg.rf hc0
  have hr := Option.some.inj hF; subst hr
  exact hm
set_option maxRecDepth 20000 in
set_option maxHeartbeats 2000000 in
theorem g_Named_isLocal {N : Nat} {Q : Nat → Prop} {p0 : Nat} {H : Hp} {r : Int32 × Hp} (hF : F_Named_isLocal N p0 H = some r) (hc0 : Cl Q H) (q_p0 : Q p0) : Rg Q H r.2 := by
  unfold F_Named_isLocal at hF
  have hm := Rg.rf hc0
  obtain ⟨q11, hG⟩ := ck_s hF; clear hF
  obtain ⟨x12, -, hF⟩ := bnd_g hG; clear hG
  rcases ite_s hF with ⟨q_3, hG⟩ | ⟨q_3, hG⟩
  · clear hF
    exact hm.tr (gB_Named_isLocal_17 q_p0 hG hm.1)
  · clear hF
    obtain ⟨x14, -, hF⟩ := bnd_g hG; clear hG
    rcases ite_s hF with ⟨q_4, hG⟩ | ⟨q_4, hG⟩
    · clear hF
      exact hm.tr (gB_Named_isLocal_17 q_p0 hG hm.1)
    · clear hF
      have hr := Option.some.inj hG; subst hr
      exact hm
set_option maxRecDepth 20000 in
set_option maxHeartbeats 2000000 in
theorem gB_Body_loopOf_32 {N : Nat} {Q : Nat → Prop} {p0 : Nat} {p1 : Int32} {kq7 : Int32 → Hp → Option (Int32 × Hp)} (q_p0 : Q p0) (hg7 : ∀ (l2 : Int32) (H : Hp) (r : Int32 × Hp), kq7 l2 H = some r → Cl Q H → Rg Q H r.2) {l2 : Int32} {H : Hp} {r : Int32 × Hp} (hF : B_Body_loopOf_32 N p0 p1 kq7 l2 H = some r) (hc0 : Cl Q H) : Rg Q H r.2 := by
  unfold B_Body_loopOf_32 at hF
  have hm := Rg.rf hc0
  exact hm.tr (hg7 (l2 + (-1)) H r hF hm.1)
set_option maxRecDepth 20000 in
set_option maxHeartbeats 2000000 in
theorem gB_Body_loopOf_7 {N : Nat} {Q : Nat → Prop} {p0 : Nat} {p1 : Int32} (q_p0 : Q p0) : ∀ (n : Nat) (l2 : Int32) (H : Hp) (r : Int32 × Hp), B_Body_loopOf_7 N p0 p1 n l2 H = some r → Cl Q H → Rg Q H r.2 := by
  intro n
  induction n with
  | zero => intro l2 H r hF; rw [B_Body_loopOf_7] at hF; cases hF
  | succ n ih =>
    intro l2 H r hF hc0
    rw [B_Body_loopOf_7] at hF
    have hm := Rg.rf hc0
    rcases ite_s hF with ⟨q_4, hG⟩ | ⟨q_4, hG⟩
    · clear hF
      have hr := Option.some.inj hG; subst hr
      exact hm
    · clear hF
      obtain ⟨q36, hF⟩ := ck_s hG; clear hG
      obtain ⟨a37, e38, hG⟩ := rf_s hF; clear hF
      have qa37 : Q a37 := hm.1 _ _ _ q_p0 e38
      obtain ⟨n39, q40, hF⟩ := ar_s hG; clear hG
      rcases ite_s hF with ⟨q_5, hG⟩ | ⟨q_5, hG⟩
      · clear hF
        exact hm.tr (gB_Body_loopOf_32 q_p0 ih hG hm.1)
      · clear hF
        obtain ⟨a42, e43, hF⟩ := rf_s hG; clear hG
        have qa42 : Q a42 := hm.1 _ _ _ q_p0 e43
        obtain ⟨n44, q45, hG⟩ := ar_s hF; clear hF
        obtain ⟨q46, hF⟩ := ck_s hG; clear hG
        obtain ⟨x47, -, hG⟩ := bnd_g hF; clear hF
        rcases ite_s hG with ⟨q_6, hF⟩ | ⟨q_6, hF⟩
        · clear hG
          have hr := Option.some.inj hF; subst hr
          exact hm
        · clear hG
          exact hm.tr (gB_Body_loopOf_32 q_p0 ih hF hm.1)
set_option maxRecDepth 20000 in
set_option maxHeartbeats 2000000 in
theorem g_Body_loopOf {N : Nat} {Q : Nat → Prop} {p0 : Nat} {p1 : Int32} {H : Hp} {r : Int32 × Hp} (hF : F_Body_loopOf N p0 p1 H = some r) (hc0 : Cl Q H) (q_p0 : Q p0) : Rg Q H r.2 := by
  unfold F_Body_loopOf at hF
  have hm := Rg.rf hc0
  obtain ⟨q49, hG⟩ := ck_s hF; clear hF
  obtain ⟨x50, -, hF⟩ := bnd_g hG; clear hG
  obtain ⟨x51, -, hG⟩ := bnd_g hF; clear hF
  exact hm.tr (gB_Body_loopOf_7 q_p0 N x51 H r hG hm.1)
set_option maxRecDepth 20000 in
set_option maxHeartbeats 2000000 in
theorem g_Body_memberHere {N : Nat} {Q : Nat → Prop} {p0 : Nat} {p1 : Nat} {p2 : Int32} {H : Hp} {r : (Ot Int32) × Hp} {B : Nat} (hn : ∀ a, B ≤ a → Q a) (hF : F_Body_memberHere N p0 p1 p2 H = some r) (hc0 : Cl Q H) (hB : B ≤ H.sh.length) (q_p0 : Q p0) (q_p1 : Q p1) : Rg Q H r.2 ∧ (∀ x, r.1 = .inr x → Q x) := by
  unfold F_Body_memberHere at hF
  have hm := Rg.rf hc0
  obtain ⟨q51, hG⟩ := ck_s hF; clear hF
  obtain ⟨a52, e53, hF⟩ := rf_s hG; clear hG
  have qa52 : Q a52 := hm.1 _ _ _ q_p0 e53
  obtain ⟨q54, hG⟩ := ck_s hF; clear hF
  obtain ⟨x55, -, hF⟩ := bnd_g hG; clear hG
  obtain ⟨a56, e57, hG⟩ := rf_s hF; clear hF
  have qa56 : Q a56 := hm.1 _ _ _ q_p0 e57
  obtain ⟨q58, hF⟩ := ck_s hG; clear hG
  refine bT_c hF (fun x62 H61 z59 er => ?_) (fun v60 H61 z59 hG => ?_)
  · subst er; have gz := (g_Lexer_takeName hn z59 hm.1 hB qa56); exact ⟨hm.tr gz.1, (fun x e => by cases e; exact gz.2.2 _ rfl)⟩
  clear hF
  have gz_34 := (g_Lexer_takeName hn z59 hm.1 hB qa56)
  replace hm : Rg Q H H61 := hm.tr gz_34.1
  replace hB : B ≤ H61.sh.length := Nat.le_trans hB ((m_Lexer_takeName z59)).len
  have mz_35 : Mo H H61 := (m_Lexer_takeName z59)
  have q_36 := (mz_35).get q51
  have q_37 := (mz_35).get q54
  have q_38 := (mz_35).get q58
  obtain ⟨a63, ea63, hF⟩ := on_s hG; clear hG
  subst ea63
  have qa63 : Q a63 := gz_34.2.1 _ rfl
  obtain ⟨q64, hG⟩ := ck_s hF; clear hF
  obtain ⟨v66, H67, z65, hF⟩ := bC_s hG; clear hG
  have gz_39 := (g_Shapes_memberNamed z65 hm.1 q_p1 qa63)
  replace hm : Rg Q H H67 := hm.tr gz_39
  replace hB : B ≤ H67.sh.length := Nat.le_trans hB ((m_Shapes_memberNamed z65)).mo.len
  have s_40 : Sa H61 H67 := (m_Shapes_memberNamed z65)
  rcases ite_s hF with ⟨q_41, hG⟩ | ⟨q_41, hG⟩
  · clear hF
    have hr := Option.some.inj hG; subst hr
    exact ⟨hm, (fun x e => by cases e)⟩
  · clear hF
    obtain ⟨a69, e70, hF⟩ := rf_s hG; clear hG
    have qa69 : Q a69 := hm.1 _ _ _ q_p0 e70
    obtain ⟨q71, hG⟩ := ck_s hF; clear hF
    rw [(s_40).1] at q71
    refine bT_c hG (fun x75 H74 z72 er => ?_) (fun v73 H74 z72 hF => ?_)
    · subst er; have gz := (g_Lexer_refuse hn z72 hm.1 hB qa69); exact ⟨hm.tr gz.1, (fun x e => by cases e; exact gz.2 _ rfl)⟩
    clear hG
    have gz_42 := (g_Lexer_refuse hn z72 hm.1 hB qa69)
    replace hm : Rg Q H H74 := hm.tr gz_42.1
    replace hB : B ≤ H74.sh.length := Nat.le_trans hB ((m_Lexer_refuse z72)).len
    have mz_43 : Mo H67 H74 := (m_Lexer_refuse z72)
    have q_44 := (mz_43).get (by rw [(s_40).1]; exact q_36)
    have q_45 := (mz_43).get (by rw [(s_40).1]; exact q_37)
    have q_46 := (mz_43).get (by rw [(s_40).1]; exact q_38)
    have q_47 := (mz_43).get (by rw [(s_40).1]; exact q64)
    have q_48 := (mz_43).get (by rw [(s_40).1]; exact q71)
    have hr := Option.some.inj hF; subst hr
    exact ⟨hm, (fun x e => by cases e)⟩
set_option maxRecDepth 20000 in
set_option maxHeartbeats 2000000 in
theorem g_Body_asValue {N : Nat} {Q : Nat → Prop} {p0 : Int32} {H : Hp} {r : Int32 × Hp} (hF : F_Body_asValue N p0 H = some r) (hc0 : Cl Q H) : Rg Q H r.2 := by
  unfold F_Body_asValue at hF
  have hm := Rg.rf hc0
  rcases ite_s hF with ⟨q_2, hG⟩ | ⟨q_2, hG⟩
  · clear hF
    have hr := Option.some.inj hG; subst hr
    exact hm
  · clear hF
    have hr := Option.some.inj hG; subst hr
    exact hm
set_option maxRecDepth 20000 in
set_option maxHeartbeats 2000000 in
theorem g_Body_kindAt {N : Nat} {Q : Nat → Prop} {p0 : Nat} {p1 : Int32} {H : Hp} {r : Int32 × Hp} (hF : F_Body_kindAt N p0 p1 H = some r) (hc0 : Cl Q H) (q_p0 : Q p0) : Rg Q H r.2 := by
  unfold F_Body_kindAt at hF
  have hm := Rg.rf hc0
  obtain ⟨q33, hG⟩ := ck_s hF; clear hF
  obtain ⟨a34, e35, hF⟩ := rf_s hG; clear hG
  have qa34 : Q a34 := hm.1 _ _ _ q_p0 e35
  obtain ⟨q36, hG⟩ := ck_s hF; clear hF
  obtain ⟨a37, e38, hF⟩ := rf_s hG; clear hG
  have qa37 : Q a37 := hm.1 _ _ _ qa34 e38
  obtain ⟨q39, hG⟩ := ck_s hF; clear hF
  obtain ⟨a40, e41, hF⟩ := rf_s hG; clear hG
  have qa40 : Q a40 := hm.1 _ _ _ qa37 e41
  obtain ⟨n42, q43, hG⟩ := ar_s hF; clear hF
  obtain ⟨q44, hF⟩ := ck_s hG; clear hG
  obtain ⟨a45, e46, hG⟩ := rf_s hF; clear hF
  have qa45 : Q a45 := hm.1 _ _ _ qa40 e46
  obtain ⟨q47, hF⟩ := ck_s hG; clear hG
  obtain ⟨x48, -, hG⟩ := bnd_g hF; clear hF
  have hr := Option.some.inj hG; subst hr
  exact hm
set_option maxRecDepth 20000 in
set_option maxHeartbeats 2000000 in
theorem gB_Body_nameValue_402 {N : Nat} {Q : Nat → Prop} {p0 : Nat} {B : Nat} (hn : ∀ a, B ≤ a → Q a) (q_p0 : Q p0) {l6 : Int32} {H : Hp} {r : (Ot Int32) × Hp} (hF : B_Body_nameValue_402 N p0 l6 H = some r) (hc0 : Cl Q H) (hB : B ≤ H.sh.length) : Rg Q H r.2 ∧ (∀ x, r.1 = .inr x → Q x) := by
  unfold B_Body_nameValue_402 at hF
  have hm := Rg.rf hc0
  obtain ⟨q69, hG⟩ := ck_s hF; clear hF
  obtain ⟨a70, e71, hF⟩ := rf_s hG; clear hG
  have qa70 : Q a70 := hm.1 _ _ _ q_p0 e71
  obtain ⟨q72, hG⟩ := ck_s hF; clear hF
  obtain ⟨a73, e74, hF⟩ := rf_s hG; clear hG
  have qa73 : Q a73 := hm.1 _ _ _ qa70 e74
  refine bT_c hF (fun x78 H77 z75 er => ?_) (fun v76 H77 z75 hG => ?_)
  · subst er; have gz := (g_Body_memberHere hn z75 hm.1 hB q_p0 qa73); exact ⟨hm.tr gz.1, (fun x e => by cases e; exact gz.2 _ rfl)⟩
  clear hF
  have gz_147 := (g_Body_memberHere hn z75 hm.1 hB q_p0 qa73)
  replace hm : Rg Q H H77 := hm.tr gz_147.1
  replace hB : B ≤ H77.sh.length := Nat.le_trans hB ((m_Body_memberHere z75)).len
  have mz_148 : Mo H H77 := (m_Body_memberHere z75)
  have q_149 := (mz_148).get q69
  have q_150 := (mz_148).get q72
  obtain ⟨a79, e80, hF⟩ := rf_s hG; clear hG
  have qa79 : Q a79 := hm.1 _ _ _ q_p0 e80
  obtain ⟨q81, hG⟩ := ck_s hF; clear hF
  obtain ⟨v83, H84, z82, hF⟩ := bC_s hG; clear hG
  have gz_151 := (g_Program_add z82 hm.1 qa79)
  replace hm : Rg Q H H84 := hm.tr gz_151
  replace hB : B ≤ H84.sh.length := Nat.le_trans hB ((m_Program_add z82)).mo.len
  have s_152 : Sa H77 H84 := (m_Program_add z82)
  obtain ⟨v86, H87, z85, hG⟩ := bC_s hF; clear hF
  have gz_153 := (g_Body_kindAt z85 hm.1 q_p0)
  replace hm : Rg Q H H87 := hm.tr gz_153
  replace hB : B ≤ H87.sh.length := Nat.le_trans hB ((m_Body_kindAt z85)).mo.len
  have s_154 : Sa H77 H87 := (s_152).tr (m_Body_kindAt z85)
  obtain ⟨v89, H90, z88, hF⟩ := bC_s hG; clear hG
  have gz_155 := (g_Body_asValue z88 hm.1)
  replace hm : Rg Q H H90 := hm.tr gz_155
  replace hB : B ≤ H90.sh.length := Nat.le_trans hB ((m_Body_asValue z88)).mo.len
  have s_156 : Sa H77 H90 := (s_154).tr (m_Body_asValue z88)
  have hr := Option.some.inj hF; subst hr
  exact ⟨hm, (fun x e => by cases e)⟩
set_option maxRecDepth 20000 in
set_option maxHeartbeats 2000000 in
theorem gB_Body_nameValue_331 {N : Nat} {Q : Nat → Prop} {p0 : Nat} {B : Nat} (hn : ∀ a, B ≤ a → Q a) (q_p0 : Q p0) {l2 : Nat} {l8 : Nat} {H : Hp} {r : (Ot Int32) × Hp} (hF : B_Body_nameValue_331 N p0 l2 l8 H = some r) (hc0 : Cl Q H) (hB : B ≤ H.sh.length) (q_l2 : Q l2) (q_l8 : Q l8) : Rg Q H r.2 ∧ (∀ x, r.1 = .inr x → Q x) := by
  unfold B_Body_nameValue_331 at hF
  have hm := Rg.rf hc0
  obtain ⟨q91, hG⟩ := ck_s hF; clear hF
  obtain ⟨x92, -, hF⟩ := bnd_g hG; clear hG
  obtain ⟨q93, hG⟩ := ck_s hF; clear hF
  obtain ⟨a94, e95, hF⟩ := rf_s hG; clear hG
  have qa94 : Q a94 := hm.1 _ _ _ q_p0 e95
  obtain ⟨q96, hG⟩ := ck_s hF; clear hF
  refine bT_c hG (fun x100 H99 z97 er => ?_) (fun v98 H99 z97 hF => ?_)
  · subst er; have gz := (g_Lexer_take hn z97 hm.1 hB qa94); exact ⟨hm.tr gz.1, (fun x e => by cases e; exact gz.2 _ rfl)⟩
  clear hG
  have gz_157 := (g_Lexer_take hn z97 hm.1 hB qa94)
  replace hm : Rg Q H H99 := hm.tr gz_157.1
  replace hB : B ≤ H99.sh.length := Nat.le_trans hB ((m_Lexer_take z97)).len
  have mz_158 : Mo H H99 := (m_Lexer_take z97)
  have q_159 := (mz_158).get q91
  have q_160 := (mz_158).get q93
  have q_161 := (mz_158).get q96
  obtain ⟨a101, e102, hG⟩ := rf_s hF; clear hF
  have qa101 : Q a101 := hm.1 _ _ _ q_p0 e102
  obtain ⟨q103, hF⟩ := ck_s hG; clear hG
  obtain ⟨v105, H106, z104, hG⟩ := bC_s hF; clear hF
  have gz_162 := (g_Program_add z104 hm.1 qa101)
  replace hm : Rg Q H H106 := hm.tr gz_162
  replace hB : B ≤ H106.sh.length := Nat.le_trans hB ((m_Program_add z104)).mo.len
  have s_163 : Sa H99 H106 := (m_Program_add z104)
  obtain ⟨a107, e108, hF⟩ := rf_s hG; clear hG
  have qa107 : Q a107 := hm.1 _ _ _ q_p0 e108
  obtain ⟨q109, hG⟩ := ck_s hF; clear hF
  rw [(s_163).1] at q109
  obtain ⟨x110, -, hF⟩ := bnd_g hG; clear hG
  obtain ⟨q111, hG⟩ := ck_s hF; clear hF
  rw [(s_163).1] at q111
  obtain ⟨v113, H114, z112, hF⟩ := bC_s hG; clear hG
  have gz_164 := (g_Program_add z112 hm.1 qa107)
  replace hm : Rg Q H H114 := hm.tr gz_164
  replace hB : B ≤ H114.sh.length := Nat.le_trans hB ((m_Program_add z112)).mo.len
  have s_165 : Sa H99 H114 := (s_163).tr (m_Program_add z112)
  obtain ⟨a115, e116, hG⟩ := rf_s hF; clear hF
  have qa115 : Q a115 := hm.1 _ _ _ q_p0 e116
  obtain ⟨q117, hF⟩ := ck_s hG; clear hG
  rw [(s_165).1] at q117
  obtain ⟨v119, H120, z118, hG⟩ := bC_s hF; clear hF
  have gz_166 := (g_Program_add z118 hm.1 qa115)
  replace hm : Rg Q H H120 := hm.tr gz_166
  replace hB : B ≤ H120.sh.length := Nat.le_trans hB ((m_Program_add z118)).mo.len
  have s_167 : Sa H99 H120 := (s_165).tr (m_Program_add z118)
  obtain ⟨a121, e122, hF⟩ := rf_s hG; clear hG
  have qa121 : Q a121 := hm.1 _ _ _ q_p0 e122
  obtain ⟨q123, hG⟩ := ck_s hF; clear hF
  rw [(s_167).1] at q123
  obtain ⟨v125, H126, z124, hF⟩ := bC_s hG; clear hG
  have gz_168 := (g_Program_add z124 hm.1 qa121)
  replace hm : Rg Q H H126 := hm.tr gz_168
  replace hB : B ≤ H126.sh.length := Nat.le_trans hB ((m_Program_add z124)).mo.len
  have s_169 : Sa H99 H126 := (s_167).tr (m_Program_add z124)
  have gz := gB_Body_nameValue_402 hn q_p0 hF hm.1 hB
  exact ⟨hm.tr gz.1, gz.2⟩
set_option maxRecDepth 20000 in
set_option maxHeartbeats 2000000 in
theorem gB_Body_nameValue_321 {N : Nat} {Q : Nat → Prop} {p0 : Nat} {B : Nat} (hn : ∀ a, B ≤ a → Q a) (q_p0 : Q p0) {l2 : Nat} {l7 : Int32} {l8 : Nat} {H : Hp} {r : (Ot Int32) × Hp} (hF : B_Body_nameValue_321 N p0 l2 l7 l8 H = some r) (hc0 : Cl Q H) (hB : B ≤ H.sh.length) (q_l2 : Q l2) (q_l8 : Q l8) : Rg Q H r.2 ∧ (∀ x, r.1 = .inr x → Q x) := by
  unfold B_Body_nameValue_321 at hF
  have hm := Rg.rf hc0
  obtain ⟨q127, hG⟩ := ck_s hF; clear hF
  obtain ⟨a128, e129, hF⟩ := rf_s hG; clear hG
  have qa128 : Q a128 := hm.1 _ _ _ q_p0 e129
  obtain ⟨q130, hG⟩ := ck_s hF; clear hF
  refine bT_c hG (fun x134 H133 z131 er => ?_) (fun v132 H133 z131 hF => ?_)
  · subst er; have gz := (g_Lexer_refuse hn z131 hm.1 hB qa128); exact ⟨hm.tr gz.1, (fun x e => by cases e; exact gz.2 _ rfl)⟩
  clear hG
  have gz_170 := (g_Lexer_refuse hn z131 hm.1 hB qa128)
  replace hm : Rg Q H H133 := hm.tr gz_170.1
  replace hB : B ≤ H133.sh.length := Nat.le_trans hB ((m_Lexer_refuse z131)).len
  have mz_171 : Mo H H133 := (m_Lexer_refuse z131)
  have q_172 := (mz_171).get q127
  have q_173 := (mz_171).get q130
  have gz := gB_Body_nameValue_331 hn q_p0 hF hm.1 hB q_l2 q_l8
  exact ⟨hm.tr gz.1, gz.2⟩
set_option maxRecDepth 20000 in
set_option maxHeartbeats 2000000 in
theorem gB_Body_nameValue_171 {N : Nat} {Q : Nat → Prop} {p0 : Nat} {B : Nat} (hn : ∀ a, B ≤ a → Q a) (q_p0 : Q p0) {l2 : Nat} {l3 : Int32} {l5 : Int32} {H : Hp} {r : (Ot Int32) × Hp} (hF : B_Body_nameValue_171 N p0 l2 l3 l5 H = some r) (hc0 : Cl Q H) (hB : B ≤ H.sh.length) (q_l2 : Q l2) : Rg Q H r.2 ∧ (∀ x, r.1 = .inr x → Q x) := by
  unfold B_Body_nameValue_171 at hF
  have hm := Rg.rf hc0
  obtain ⟨q135, hG⟩ := ck_s hF; clear hF
  obtain ⟨a136, e137, hF⟩ := rf_s hG; clear hG
  have qa136 : Q a136 := hm.1 _ _ _ q_p0 e137
  obtain ⟨q138, hG⟩ := ck_s hF; clear hF
  obtain ⟨v140, H141, z139, hF⟩ := bC_s hG; clear hG
  have gz_174 := (g_Lexer_advance z139 hm.1 qa136)
  replace hm : Rg Q H H141 := hm.tr gz_174
  replace hB : B ≤ H141.sh.length := Nat.le_trans hB ((m_Lexer_advance z139)).mo.len
  have s_175 : Sa H H141 := (m_Lexer_advance z139)
  rcases ite_s hF with ⟨q_176, hG⟩ | ⟨q_176, hG⟩
  · clear hF
    obtain ⟨q143, hF⟩ := ck_s hG; clear hG
    rw [(s_175).1] at q143
    obtain ⟨x144, -, hG⟩ := bnd_g hF; clear hF
    rcases ite_s hG with ⟨q_177, hF⟩ | ⟨q_177, hF⟩
    · clear hG
      obtain ⟨a146, e147, hG⟩ := rf_s hF; clear hF
      have qa146 : Q a146 := hm.1 _ _ _ q_p0 e147
      obtain ⟨q148, hF⟩ := ck_s hG; clear hG
      rw [(s_175).1] at q148
      obtain ⟨v150, H151, z149, hG⟩ := bC_s hF; clear hF
      have gz_178 := (g_Program_add z149 hm.1 qa146)
      replace hm : Rg Q H H151 := hm.tr gz_178
      replace hB : B ≤ H151.sh.length := Nat.le_trans hB ((m_Program_add z149)).mo.len
      have s_179 : Sa H H151 := (s_175).tr (m_Program_add z149)
      have gz := gB_Body_nameValue_402 hn q_p0 hG hm.1 hB
      exact ⟨hm.tr gz.1, gz.2⟩
    · clear hG
      obtain ⟨a152, e153, hG⟩ := rf_s hF; clear hF
      have qa152 : Q a152 := hm.1 _ _ _ q_p0 e153
      obtain ⟨q154, hF⟩ := ck_s hG; clear hG
      rw [(s_175).1] at q154
      obtain ⟨x155, -, hG⟩ := bnd_g hF; clear hF
      refine bT_c hG (fun x159 H158 z156 er => ?_) (fun v157 H158 z156 hF => ?_)
      · subst er; have gz := (g_Body_knownHere hn z156 hm.1 hB q_p0); exact ⟨hm.tr gz.1, (fun x e => by cases e; exact gz.2.2 _ rfl)⟩
      clear hG
      have gz_180 := (g_Body_knownHere hn z156 hm.1 hB q_p0)
      replace hm : Rg Q H H158 := hm.tr gz_180.1
      replace hB : B ≤ H158.sh.length := Nat.le_trans hB ((m_Body_knownHere z156)).len
      have mz_181 : Mo H141 H158 := (m_Body_knownHere z156)
      have q_182 := (mz_181).get (by rw [(s_175).1]; exact q135)
      have q_183 := (mz_181).get (by rw [(s_175).1]; exact q138)
      have q_184 := (mz_181).get (by rw [(s_175).1]; exact q143)
      have q_185 := (mz_181).get (by rw [(s_175).1]; exact q154)
      obtain ⟨a160, ea160, hG⟩ := on_s hF; clear hF
      subst ea160
      have qa160 : Q a160 := gz_180.2.1 _ rfl
      obtain ⟨q161, hF⟩ := ck_s hG; clear hG
      obtain ⟨x162, -, hG⟩ := bnd_g hF; clear hF
      rcases ite_s hG with ⟨q_186, hF⟩ | ⟨q_186, hF⟩
      · clear hG
        obtain ⟨a164, e165, hG⟩ := rf_s hF; clear hF
        have qa164 : Q a164 := hm.1 _ _ _ q_p0 e165
        obtain ⟨q166, hF⟩ := ck_s hG; clear hG
        obtain ⟨a167, e168, hG⟩ := rf_s hF; clear hF
        have qa167 : Q a167 := hm.1 _ _ _ qa164 e168
        obtain ⟨x169, -, hF⟩ := bnd_g hG; clear hG
        obtain ⟨n170, q171, hG⟩ := ar_s hF; clear hF
        obtain ⟨q172, hF⟩ := ck_s hG; clear hG
        obtain ⟨x173, -, hG⟩ := bnd_g hF; clear hF
        obtain ⟨x174, -, hF⟩ := bnd_g hG; clear hG
        rcases ite_s hF with ⟨q_187, hG⟩ | ⟨q_187, hG⟩
        · clear hF
          have gz := gB_Body_nameValue_321 hn q_p0 hG hm.1 hB q_l2 qa160
          exact ⟨hm.tr gz.1, gz.2⟩
        · clear hF
          have gz := gB_Body_nameValue_331 hn q_p0 hG hm.1 hB q_l2 qa160
          exact ⟨hm.tr gz.1, gz.2⟩
      · clear hG
        have gz := gB_Body_nameValue_321 hn q_p0 hF hm.1 hB q_l2 qa160
        exact ⟨hm.tr gz.1, gz.2⟩
  · clear hF
    obtain ⟨a176, e177, hF⟩ := rf_s hG; clear hG
    have qa176 : Q a176 := hm.1 _ _ _ q_p0 e177
    obtain ⟨q178, hG⟩ := ck_s hF; clear hF
    rw [(s_175).1] at q178
    obtain ⟨a179, e180, hF⟩ := rf_s hG; clear hG
    have qa179 : Q a179 := hm.1 _ _ _ qa176 e180
    obtain ⟨q181, hG⟩ := ck_s hF; clear hF
    rw [(s_175).1] at q181
    obtain ⟨x182, -, hF⟩ := bnd_g hG; clear hG
    refine bT_c hF (fun x186 H185 z183 er => ?_) (fun v184 H185 z183 hG => ?_)
    · subst er; have gz := (g_Body_memberHere hn z183 hm.1 hB q_p0 qa179); exact ⟨hm.tr gz.1, (fun x e => by cases e; exact gz.2 _ rfl)⟩
    clear hF
    have gz_188 := (g_Body_memberHere hn z183 hm.1 hB q_p0 qa179)
    replace hm : Rg Q H H185 := hm.tr gz_188.1
    replace hB : B ≤ H185.sh.length := Nat.le_trans hB ((m_Body_memberHere z183)).len
    have mz_189 : Mo H141 H185 := (m_Body_memberHere z183)
    have q_190 := (mz_189).get (by rw [(s_175).1]; exact q135)
    have q_191 := (mz_189).get (by rw [(s_175).1]; exact q138)
    have q_192 := (mz_189).get (by rw [(s_175).1]; exact q178)
    have q_193 := (mz_189).get (by rw [(s_175).1]; exact q181)
    obtain ⟨a187, e188, hF⟩ := rf_s hG; clear hG
    have qa187 : Q a187 := hm.1 _ _ _ q_p0 e188
    obtain ⟨q189, hG⟩ := ck_s hF; clear hF
    obtain ⟨v191, H192, z190, hF⟩ := bC_s hG; clear hG
    have gz_194 := (g_Program_add z190 hm.1 qa187)
    replace hm : Rg Q H H192 := hm.tr gz_194
    replace hB : B ≤ H192.sh.length := Nat.le_trans hB ((m_Program_add z190)).mo.len
    have s_195 : Sa H185 H192 := (m_Program_add z190)
    obtain ⟨a193, e194, hG⟩ := rf_s hF; clear hF
    have qa193 : Q a193 := hm.1 _ _ _ q_p0 e194
    obtain ⟨q195, hF⟩ := ck_s hG; clear hG
    rw [(s_195).1] at q195
    obtain ⟨v197, H198, z196, hG⟩ := bC_s hF; clear hF
    have gz_196 := (g_Program_add z196 hm.1 qa193)
    replace hm : Rg Q H H198 := hm.tr gz_196
    replace hB : B ≤ H198.sh.length := Nat.le_trans hB ((m_Program_add z196)).mo.len
    have s_197 : Sa H185 H198 := (s_195).tr (m_Program_add z196)
    obtain ⟨a199, e200, hF⟩ := rf_s hG; clear hG
    have qa199 : Q a199 := hm.1 _ _ _ q_p0 e200
    obtain ⟨a201, e202, hG⟩ := rf_s hF; clear hF
    have qa201 : Q a201 := hm.1 _ _ _ q_p0 e202
    obtain ⟨q203, hF⟩ := ck_s hG; clear hG
    rw [(s_197).1] at q203
    obtain ⟨a204, e205, hG⟩ := rf_s hF; clear hF
    have qa204 : Q a204 := hm.1 _ _ _ qa201 e205
    obtain ⟨q206, hF⟩ := ck_s hG; clear hG
    rw [(s_197).1] at q206
    obtain ⟨a207, e208, hG⟩ := rf_s hF; clear hF
    have qa207 : Q a207 := hm.1 _ _ _ qa204 e208
    obtain ⟨x209, -, hF⟩ := bnd_g hG; clear hG
    obtain ⟨n210, q211, hG⟩ := ar_s hF; clear hF
    rw [(s_197).1] at q211
    obtain ⟨q212, hF⟩ := ck_s hG; clear hG
    obtain ⟨x213, -, hG⟩ := bnd_g hF; clear hF
    obtain ⟨q214, hF⟩ := ck_s hG; clear hG
    rw [(s_197).1] at q214
    obtain ⟨v216, H217, z215, hG⟩ := bC_s hF; clear hF
    have gz_198 := (g_Program_add z215 hm.1 qa199)
    replace hm : Rg Q H H217 := hm.tr gz_198
    replace hB : B ≤ H217.sh.length := Nat.le_trans hB ((m_Program_add z215)).mo.len
    have s_199 : Sa H185 H217 := (s_197).tr (m_Program_add z215)
    obtain ⟨a218, e219, hF⟩ := rf_s hG; clear hG
    have qa218 : Q a218 := hm.1 _ _ _ q_p0 e219
    obtain ⟨q220, hG⟩ := ck_s hF; clear hF
    rw [(s_199).1] at q220
    obtain ⟨a221, e222, hF⟩ := rf_s hG; clear hG
    have qa221 : Q a221 := hm.1 _ _ _ qa218 e222
    obtain ⟨q223, hG⟩ := ck_s hF; clear hF
    rw [(s_199).1] at q223
    obtain ⟨a224, e225, hF⟩ := rf_s hG; clear hG
    have qa224 : Q a224 := hm.1 _ _ _ qa221 e225
    obtain ⟨n226, q227, hG⟩ := ar_s hF; clear hF
    rw [(s_199).1] at q227
    obtain ⟨q228, hF⟩ := ck_s hG; clear hG
    obtain ⟨a229, e230, hG⟩ := rf_s hF; clear hF
    have qa229 : Q a229 := hm.1 _ _ _ qa224 e230
    obtain ⟨q231, hF⟩ := ck_s hG; clear hG
    rw [(s_199).1] at q231
    obtain ⟨x232, -, hG⟩ := bnd_g hF; clear hF
    obtain ⟨v234, H235, z233, hF⟩ := bC_s hG; clear hG
    have gz_200 := (g_Body_asValue z233 hm.1)
    replace hm : Rg Q H H235 := hm.tr gz_200
    replace hB : B ≤ H235.sh.length := Nat.le_trans hB ((m_Body_asValue z233)).mo.len
    have s_201 : Sa H185 H235 := (s_199).tr (m_Body_asValue z233)
    have hr := Option.some.inj hF; subst hr
    exact ⟨hm, (fun x e => by cases e)⟩
set_option maxRecDepth 20000 in
set_option maxHeartbeats 2000000 in
theorem gB_Body_nameValue_146 {N : Nat} {Q : Nat → Prop} {p0 : Nat} {B : Nat} (hn : ∀ a, B ≤ a → Q a) (q_p0 : Q p0) {l1 : Int32} {l2 : Nat} {l3 : Int32} {l4 : Int32} {w0 : Int32} {H : Hp} {r : (Ot Int32) × Hp} (hF : B_Body_nameValue_146 N p0 l1 l2 l3 l4 w0 H = some r) (hc0 : Cl Q H) (hB : B ≤ H.sh.length) (q_l2 : Q l2) : Rg Q H r.2 ∧ (∀ x, r.1 = .inr x → Q x) := by
  unfold B_Body_nameValue_146 at hF
  have hm := Rg.rf hc0
  rcases ite_s hF with ⟨q_202, hG⟩ | ⟨q_202, hG⟩
  · clear hF
    rcases ite_s hG with ⟨q_203, hF⟩ | ⟨q_203, hF⟩
    · clear hG
      rcases ite_s hF with ⟨q_204, hG⟩ | ⟨q_204, hG⟩
      · clear hF
        have gz := gB_Body_nameValue_171 hn q_p0 hG hm.1 hB q_l2
        exact ⟨hm.tr gz.1, gz.2⟩
      · clear hF
        obtain ⟨q239, hF⟩ := ck_s hG; clear hG
        obtain ⟨a240, e241, hG⟩ := rf_s hF; clear hF
        have qa240 : Q a240 := hm.1 _ _ _ q_p0 e241
        obtain ⟨q242, hF⟩ := ck_s hG; clear hG
        refine bT_c hF (fun x246 H245 z243 er => ?_) (fun v244 H245 z243 hG => ?_)
        · subst er; have gz := (g_Lexer_refuse hn z243 hm.1 hB qa240); exact ⟨hm.tr gz.1, (fun x e => by cases e; exact gz.2 _ rfl)⟩
        clear hF
        have gz_205 := (g_Lexer_refuse hn z243 hm.1 hB qa240)
        replace hm : Rg Q H H245 := hm.tr gz_205.1
        replace hB : B ≤ H245.sh.length := Nat.le_trans hB ((m_Lexer_refuse z243)).len
        have mz_206 : Mo H H245 := (m_Lexer_refuse z243)
        have q_207 := (mz_206).get q239
        have q_208 := (mz_206).get q242
        have gz := gB_Body_nameValue_171 hn q_p0 hG hm.1 hB q_l2
        exact ⟨hm.tr gz.1, gz.2⟩
    · clear hG
      have gz := gB_Body_nameValue_171 hn q_p0 hF hm.1 hB q_l2
      exact ⟨hm.tr gz.1, gz.2⟩
  · clear hF
    have gz := gB_Body_nameValue_171 hn q_p0 hG hm.1 hB q_l2
    exact ⟨hm.tr gz.1, gz.2⟩
set_option maxRecDepth 20000 in
set_option maxHeartbeats 2000000 in
theorem gB_Body_nameValue_145 {N : Nat} {Q : Nat → Prop} {p0 : Nat} {B : Nat} (hn : ∀ a, B ≤ a → Q a) (q_p0 : Q p0) {l1 : Int32} {l2 : Nat} {l3 : Int32} {l4 : Int32} {H : Hp} {r : (Ot Int32) × Hp} (hF : B_Body_nameValue_145 N p0 l1 l2 l3 l4 H = some r) (hc0 : Cl Q H) (hB : B ≤ H.sh.length) (q_l2 : Q l2) : Rg Q H r.2 ∧ (∀ x, r.1 = .inr x → Q x) := by
  unfold B_Body_nameValue_145 at hF
  have hm := Rg.rf hc0
  have gz := gB_Body_nameValue_146 hn q_p0 hF hm.1 hB q_l2
  exact ⟨hm.tr gz.1, gz.2⟩
set_option maxRecDepth 20000 in
set_option maxHeartbeats 2000000 in
theorem gB_Body_nameValue_124 {N : Nat} {Q : Nat → Prop} {p0 : Nat} {B : Nat} (hn : ∀ a, B ≤ a → Q a) (q_p0 : Q p0) {l1 : Int32} {l2 : Nat} {l3 : Int32} {w0 : Int32} {H : Hp} {r : (Ot Int32) × Hp} (hF : B_Body_nameValue_124 N p0 l1 l2 l3 w0 H = some r) (hc0 : Cl Q H) (hB : B ≤ H.sh.length) (q_l2 : Q l2) : Rg Q H r.2 ∧ (∀ x, r.1 = .inr x → Q x) := by
  unfold B_Body_nameValue_124 at hF
  have hm := Rg.rf hc0
  obtain ⟨q247, hG⟩ := ck_s hF; clear hF
  obtain ⟨v249, H250, z248, hF⟩ := bC_s hG; clear hG
  have gz_209 := (g_Named_isLocal z248 hm.1 q_l2)
  replace hm : Rg Q H H250 := hm.tr gz_209
  replace hB : B ≤ H250.sh.length := Nat.le_trans hB ((m_Named_isLocal z248)).mo.len
  have s_210 : Sa H H250 := (m_Named_isLocal z248)
  rcases ite_s hF with ⟨q_211, hG⟩ | ⟨q_211, hG⟩
  · clear hF
    have gz := gB_Body_nameValue_145 hn q_p0 hG hm.1 hB q_l2
    exact ⟨hm.tr gz.1, gz.2⟩
  · clear hF
    obtain ⟨x252, -, hF⟩ := bnd_g hG; clear hG
    rcases ite_s hF with ⟨q_212, hG⟩ | ⟨q_212, hG⟩
    · clear hF
      have gz := gB_Body_nameValue_146 hn q_p0 hG hm.1 hB q_l2
      exact ⟨hm.tr gz.1, gz.2⟩
    · clear hF
      have gz := gB_Body_nameValue_145 hn q_p0 hG hm.1 hB q_l2
      exact ⟨hm.tr gz.1, gz.2⟩
set_option maxRecDepth 20000 in
set_option maxHeartbeats 2000000 in
theorem gB_Body_nameValue_123 {N : Nat} {Q : Nat → Prop} {p0 : Nat} {B : Nat} (hn : ∀ a, B ≤ a → Q a) (q_p0 : Q p0) {l1 : Int32} {l2 : Nat} {l3 : Int32} {H : Hp} {r : (Ot Int32) × Hp} (hF : B_Body_nameValue_123 N p0 l1 l2 l3 H = some r) (hc0 : Cl Q H) (hB : B ≤ H.sh.length) (q_l2 : Q l2) : Rg Q H r.2 ∧ (∀ x, r.1 = .inr x → Q x) := by
  unfold B_Body_nameValue_123 at hF
  have hm := Rg.rf hc0
  have gz := gB_Body_nameValue_124 hn q_p0 hF hm.1 hB q_l2
  exact ⟨hm.tr gz.1, gz.2⟩
set_option maxRecDepth 20000 in
set_option maxHeartbeats 2000000 in
theorem gB_Body_nameValue_88 {N : Nat} {Q : Nat → Prop} {p0 : Nat} {B : Nat} (hn : ∀ a, B ≤ a → Q a) (q_p0 : Q p0) {l1 : Int32} {l2 : Nat} {w0 : Int32} {H : Hp} {r : (Ot Int32) × Hp} (hF : B_Body_nameValue_88 N p0 l1 l2 w0 H = some r) (hc0 : Cl Q H) (hB : B ≤ H.sh.length) (q_l2 : Q l2) : Rg Q H r.2 ∧ (∀ x, r.1 = .inr x → Q x) := by
  unfold B_Body_nameValue_88 at hF
  have hm := Rg.rf hc0
  obtain ⟨q254, hG⟩ := ck_s hF; clear hF
  obtain ⟨x255, -, hF⟩ := bnd_g hG; clear hG
  rcases ite_s hF with ⟨q_213, hG⟩ | ⟨q_213, hG⟩
  · clear hF
    obtain ⟨q257, hF⟩ := ck_s hG; clear hG
    obtain ⟨a258, e259, hG⟩ := rf_s hF; clear hF
    have qa258 : Q a258 := hm.1 _ _ _ q_p0 e259
    obtain ⟨q260, hF⟩ := ck_s hG; clear hG
    obtain ⟨a261, e262, hG⟩ := rf_s hF; clear hF
    have qa261 : Q a261 := hm.1 _ _ _ qa258 e262
    obtain ⟨x263, -, hF⟩ := bnd_g hG; clear hG
    obtain ⟨n264, q265, hG⟩ := ar_s hF; clear hF
    obtain ⟨q266, hF⟩ := ck_s hG; clear hG
    obtain ⟨x267, -, hG⟩ := bnd_g hF; clear hF
    obtain ⟨x268, -, hF⟩ := bnd_g hG; clear hG
    rcases ite_s hF with ⟨q_214, hG⟩ | ⟨q_214, hG⟩
    · clear hF
      have gz := gB_Body_nameValue_124 hn q_p0 hG hm.1 hB q_l2
      exact ⟨hm.tr gz.1, gz.2⟩
    · clear hF
      have gz := gB_Body_nameValue_123 hn q_p0 hG hm.1 hB q_l2
      exact ⟨hm.tr gz.1, gz.2⟩
  · clear hF
    have gz := gB_Body_nameValue_123 hn q_p0 hG hm.1 hB q_l2
    exact ⟨hm.tr gz.1, gz.2⟩
set_option maxRecDepth 20000 in
set_option maxHeartbeats 2000000 in
theorem gB_Body_nameValue_41 {N : Nat} {Q : Nat → Prop} {p0 : Nat} {B : Nat} (hn : ∀ a, B ≤ a → Q a) (q_p0 : Q p0) {l2 : Nat} {H : Hp} {r : (Ot Int32) × Hp} (hF : B_Body_nameValue_41 N p0 l2 H = some r) (hc0 : Cl Q H) (hB : B ≤ H.sh.length) (q_l2 : Q l2) : Rg Q H r.2 ∧ (∀ x, r.1 = .inr x → Q x) := by
  unfold B_Body_nameValue_41 at hF
  have hm := Rg.rf hc0
  obtain ⟨q270, hG⟩ := ck_s hF; clear hF
  obtain ⟨a271, e272, hF⟩ := rf_s hG; clear hG
  have qa271 : Q a271 := hm.1 _ _ _ q_p0 e272
  obtain ⟨q273, hG⟩ := ck_s hF; clear hF
  obtain ⟨v275, H276, z274, hF⟩ := bC_s hG; clear hG
  have gz_215 := (g_Program_add z274 hm.1 qa271)
  replace hm : Rg Q H H276 := hm.tr gz_215
  replace hB : B ≤ H276.sh.length := Nat.le_trans hB ((m_Program_add z274)).mo.len
  have s_216 : Sa H H276 := (m_Program_add z274)
  obtain ⟨a277, e278, hG⟩ := rf_s hF; clear hF
  have qa277 : Q a277 := hm.1 _ _ _ q_p0 e278
  obtain ⟨q279, hF⟩ := ck_s hG; clear hG
  rw [(s_216).1] at q279
  obtain ⟨x280, -, hG⟩ := bnd_g hF; clear hF
  obtain ⟨q281, hF⟩ := ck_s hG; clear hG
  rw [(s_216).1] at q281
  obtain ⟨v283, H284, z282, hG⟩ := bC_s hF; clear hF
  have gz_217 := (g_Program_add z282 hm.1 qa277)
  replace hm : Rg Q H H284 := hm.tr gz_217
  replace hB : B ≤ H284.sh.length := Nat.le_trans hB ((m_Program_add z282)).mo.len
  have s_218 : Sa H H284 := (s_216).tr (m_Program_add z282)
  obtain ⟨x285, -, hF⟩ := bnd_g hG; clear hG
  have hr := Option.some.inj hF; subst hr
  exact ⟨hm, (fun x e => by cases e)⟩
set_option maxRecDepth 20000 in
set_option maxHeartbeats 2000000 in
theorem g_Body_nameValue {N : Nat} {Q : Nat → Prop} {p0 : Nat} {H : Hp} {r : (Ot Int32) × Hp} {B : Nat} (hn : ∀ a, B ≤ a → Q a) (hF : F_Body_nameValue N p0 H = some r) (hc0 : Cl Q H) (hB : B ≤ H.sh.length) (q_p0 : Q p0) : Rg Q H r.2 ∧ (∀ x, r.1 = .inr x → Q x) := by
  unfold F_Body_nameValue at hF
  have hm := Rg.rf hc0
  obtain ⟨q286, hG⟩ := ck_s hF; clear hF
  obtain ⟨a287, e288, hF⟩ := rf_s hG; clear hG
  have qa287 : Q a287 := hm.1 _ _ _ q_p0 e288
  obtain ⟨q289, hG⟩ := ck_s hF; clear hF
  obtain ⟨x290, -, hF⟩ := bnd_g hG; clear hG
  refine bT_c hF (fun x294 H293 z291 er => ?_) (fun v292 H293 z291 hG => ?_)
  · subst er; have gz := (g_Body_knownHere hn z291 hm.1 hB q_p0); exact ⟨hm.tr gz.1, (fun x e => by cases e; exact gz.2.2 _ rfl)⟩
  clear hF
  have gz_219 := (g_Body_knownHere hn z291 hm.1 hB q_p0)
  replace hm : Rg Q H H293 := hm.tr gz_219.1
  replace hB : B ≤ H293.sh.length := Nat.le_trans hB ((m_Body_knownHere z291)).len
  have mz_220 : Mo H H293 := (m_Body_knownHere z291)
  have q_221 := (mz_220).get q286
  have q_222 := (mz_220).get q289
  obtain ⟨a295, ea295, hF⟩ := on_s hG; clear hG
  subst ea295
  have qa295 : Q a295 := gz_219.2.1 _ rfl
  obtain ⟨a296, e297, hG⟩ := rf_s hF; clear hF
  have qa296 : Q a296 := hm.1 _ _ _ q_p0 e297
  obtain ⟨q298, hF⟩ := ck_s hG; clear hG
  obtain ⟨x299, -, hG⟩ := bnd_g hF; clear hF
  rcases ite_s hG with ⟨q_223, hF⟩ | ⟨q_223, hF⟩
  · clear hG
    obtain ⟨q301, hG⟩ := ck_s hF; clear hF
    obtain ⟨x302, -, hF⟩ := bnd_g hG; clear hG
    rcases ite_s hF with ⟨q_224, hG⟩ | ⟨q_224, hG⟩
    · clear hF
      obtain ⟨x304, -, hF⟩ := bnd_g hG; clear hG
      obtain ⟨v306, H307, z305, hG⟩ := bC_s hF; clear hF
      have gz_225 := (g_Body_loopOf z305 hm.1 q_p0)
      replace hm : Rg Q H H307 := hm.tr gz_225
      replace hB : B ≤ H307.sh.length := Nat.le_trans hB ((m_Body_loopOf z305)).mo.len
      have s_226 : Sa H293 H307 := (m_Body_loopOf z305)
      have gz := gB_Body_nameValue_88 hn q_p0 hG hm.1 hB qa295
      exact ⟨hm.tr gz.1, gz.2⟩
    · clear hF
      have gz := gB_Body_nameValue_88 hn q_p0 hG hm.1 hB qa295
      exact ⟨hm.tr gz.1, gz.2⟩
  · clear hG
    obtain ⟨q308, hG⟩ := ck_s hF; clear hF
    obtain ⟨v310, H311, z309, hF⟩ := bC_s hG; clear hG
    have gz_227 := (g_Named_isLocal z309 hm.1 qa295)
    replace hm : Rg Q H H311 := hm.tr gz_227
    replace hB : B ≤ H311.sh.length := Nat.le_trans hB ((m_Named_isLocal z309)).mo.len
    have s_228 : Sa H293 H311 := (m_Named_isLocal z309)
    rcases ite_s hF with ⟨q_229, hG⟩ | ⟨q_229, hG⟩
    · clear hF
      obtain ⟨a313, e314, hF⟩ := rf_s hG; clear hG
      have qa313 : Q a313 := hm.1 _ _ _ q_p0 e314
      obtain ⟨q315, hG⟩ := ck_s hF; clear hF
      rw [(s_228).1] at q315
      refine bT_c hG (fun x319 H318 z316 er => ?_) (fun v317 H318 z316 hF => ?_)
      · subst er; have gz := (g_Lexer_refuse hn z316 hm.1 hB qa313); exact ⟨hm.tr gz.1, (fun x e => by cases e; exact gz.2 _ rfl)⟩
      clear hG
      have gz_230 := (g_Lexer_refuse hn z316 hm.1 hB qa313)
      replace hm : Rg Q H H318 := hm.tr gz_230.1
      replace hB : B ≤ H318.sh.length := Nat.le_trans hB ((m_Lexer_refuse z316)).len
      have mz_231 : Mo H311 H318 := (m_Lexer_refuse z316)
      have q_232 := (mz_231).get (by rw [(s_228).1]; exact q_221)
      have q_233 := (mz_231).get (by rw [(s_228).1]; exact q_222)
      have q_234 := (mz_231).get (by rw [(s_228).1]; exact q298)
      have q_235 := (mz_231).get (by rw [(s_228).1]; exact q308)
      have q_236 := (mz_231).get (by rw [(s_228).1]; exact q315)
      have gz := gB_Body_nameValue_41 hn q_p0 hF hm.1 hB qa295
      exact ⟨hm.tr gz.1, gz.2⟩
    · clear hF
      have gz := gB_Body_nameValue_41 hn q_p0 hG hm.1 hB qa295
      exact ⟨hm.tr gz.1, gz.2⟩
set_option maxRecDepth 20000 in
set_option maxHeartbeats 2000000 in
theorem g_Body_push {N : Nat} {Q : Nat → Prop} {p0 : Nat} {p1 : Int32} {H : Hp} {r : Unit × Hp} (hF : F_Body_push N p0 p1 H = some r) (hc0 : Cl Q H) (q_p0 : Q p0) : Rg Q H r.2 := by
  unfold F_Body_push at hF
  have hm := Rg.rf hc0
  obtain ⟨q27, hG⟩ := ck_s hF; clear hF
  obtain ⟨a28, e29, hF⟩ := rf_s hG; clear hG
  have qa28 : Q a28 := hm.1 _ _ _ q_p0 e29
  obtain ⟨q30, hG⟩ := ck_s hF; clear hF
  obtain ⟨v32, H33, z31, hF⟩ := bC_s hG; clear hG
  have gz_5 := (g_Program_add z31 hm.1 qa28)
  replace hm : Rg Q H H33 := hm.tr gz_5
  have s_6 : Sa H H33 := (m_Program_add z31)
  obtain ⟨a34, e35, hG⟩ := rf_s hF; clear hF
  have qa34 : Q a34 := hm.1 _ _ _ q_p0 e35
  obtain ⟨q36, hF⟩ := ck_s hG; clear hG
  rw [(s_6).1] at q36
  obtain ⟨v38, H39, z37, hG⟩ := bC_s hF; clear hF
  have gz_7 := (g_Program_add z37 hm.1 qa34)
  replace hm : Rg Q H H39 := hm.tr gz_7
  have s_8 : Sa H H39 := (s_6).tr (m_Program_add z37)
  have hr := Option.some.inj hG; subst hr
  exact hm
set_option maxRecDepth 20000 in
set_option maxHeartbeats 2000000 in
theorem gB_Body_plainValue_106 {N : Nat} {Q : Nat → Prop} {p0 : Nat} {p1 : Int32} {B : Nat} (hn : ∀ a, B ≤ a → Q a) (q_p0 : Q p0) {w0 : Nat} {w1 : Int32} {H : Hp} {r : (Ot Int32) × Hp} (hF : B_Body_plainValue_106 N p0 p1 w0 w1 H = some r) (hc0 : Cl Q H) (hB : B ≤ H.sh.length) (q_w0 : Q w0) : Rg Q H r.2 ∧ (∀ x, r.1 = .inr x → Q x) := by
  unfold B_Body_plainValue_106 at hF
  have hm := Rg.rf hc0
  obtain ⟨q181, hG⟩ := ck_s hF; clear hF
  obtain ⟨v183, H184, z182, hF⟩ := bC_s hG; clear hG
  have gz_55 := (g_Body_push z182 hm.1 q_w0)
  replace hm : Rg Q H H184 := hm.tr gz_55
  replace hB : B ≤ H184.sh.length := Nat.le_trans hB ((m_Body_push z182)).mo.len
  have s_56 : Sa H H184 := (m_Body_push z182)
  obtain ⟨q185, hG⟩ := ck_s hF; clear hF
  rw [(s_56).1] at q185
  obtain ⟨a186, e187, hF⟩ := rf_s hG; clear hG
  have qa186 : Q a186 := hm.1 _ _ _ q_p0 e187
  obtain ⟨q188, hG⟩ := ck_s hF; clear hF
  rw [(s_56).1] at q188
  obtain ⟨v190, H191, z189, hF⟩ := bC_s hG; clear hG
  have gz_57 := (g_Lexer_advance z189 hm.1 qa186)
  replace hm : Rg Q H H191 := hm.tr gz_57
  replace hB : B ≤ H191.sh.length := Nat.le_trans hB ((m_Lexer_advance z189)).mo.len
  have s_58 : Sa H H191 := (s_56).tr (m_Lexer_advance z189)
  have hr := Option.some.inj hF; subst hr
  exact ⟨hm, (fun x e => by cases e)⟩
set_option maxRecDepth 20000 in
set_option maxHeartbeats 2000000 in
theorem g_Body_plainValue {N : Nat} {Q : Nat → Prop} {p0 : Nat} {p1 : Int32} {H : Hp} {r : (Ot Int32) × Hp} {B : Nat} (hn : ∀ a, B ≤ a → Q a) (hF : F_Body_plainValue N p0 p1 H = some r) (hc0 : Cl Q H) (hB : B ≤ H.sh.length) (q_p0 : Q p0) : Rg Q H r.2 ∧ (∀ x, r.1 = .inr x → Q x) := by
  unfold F_Body_plainValue at hF
  have hm := Rg.rf hc0
  rcases ite_s hF with ⟨q_59, hG⟩ | ⟨q_59, hG⟩
  · clear hF
    obtain ⟨q193, hF⟩ := ck_s hG; clear hG
    obtain ⟨a194, e195, hG⟩ := rf_s hF; clear hF
    have qa194 : Q a194 := hm.1 _ _ _ q_p0 e195
    obtain ⟨q196, hF⟩ := ck_s hG; clear hG
    refine bT_c hF (fun x200 H199 z197 er => ?_) (fun v198 H199 z197 hG => ?_)
    · subst er; have gz := (g_Lexer_takeValue hn z197 hm.1 hB qa194); exact ⟨hm.tr gz.1, (fun x e => by cases e; exact gz.2 _ rfl)⟩
    clear hF
    have gz_60 := (g_Lexer_takeValue hn z197 hm.1 hB qa194)
    replace hm : Rg Q H H199 := hm.tr gz_60.1
    replace hB : B ≤ H199.sh.length := Nat.le_trans hB ((m_Lexer_takeValue z197)).len
    have mz_61 : Mo H H199 := (m_Lexer_takeValue z197)
    have q_62 := (mz_61).get q193
    have q_63 := (mz_61).get q196
    obtain ⟨v202, H203, z201, hF⟩ := bC_s hG; clear hG
    have gz_64 := (g_Body_push z201 hm.1 q_p0)
    replace hm : Rg Q H H203 := hm.tr gz_64
    replace hB : B ≤ H203.sh.length := Nat.le_trans hB ((m_Body_push z201)).mo.len
    have s_65 : Sa H199 H203 := (m_Body_push z201)
    have hr := Option.some.inj hF; subst hr
    exact ⟨hm, (fun x e => by cases e)⟩
  clear hF
  rcases ite_s hG with ⟨q_66, hF⟩ | ⟨q_66, hF⟩
  · clear hG
    obtain ⟨q205, hG⟩ := ck_s hF; clear hF
    obtain ⟨a206, e207, hF⟩ := rf_s hG; clear hG
    have qa206 : Q a206 := hm.1 _ _ _ q_p0 e207
    obtain ⟨q208, hG⟩ := ck_s hF; clear hF
    refine bT_c hG (fun x212 H211 z209 er => ?_) (fun v210 H211 z209 hF => ?_)
    · subst er; have gz := (g_Lexer_takeValue hn z209 hm.1 hB qa206); exact ⟨hm.tr gz.1, (fun x e => by cases e; exact gz.2 _ rfl)⟩
    clear hG
    have gz_67 := (g_Lexer_takeValue hn z209 hm.1 hB qa206)
    replace hm : Rg Q H H211 := hm.tr gz_67.1
    replace hB : B ≤ H211.sh.length := Nat.le_trans hB ((m_Lexer_takeValue z209)).len
    have mz_68 : Mo H H211 := (m_Lexer_takeValue z209)
    have q_69 := (mz_68).get q205
    have q_70 := (mz_68).get q208
    obtain ⟨v214, H215, z213, hG⟩ := bC_s hF; clear hF
    have gz_71 := (g_Body_push z213 hm.1 q_p0)
    replace hm : Rg Q H H215 := hm.tr gz_71
    replace hB : B ≤ H215.sh.length := Nat.le_trans hB ((m_Body_push z213)).mo.len
    have s_72 : Sa H211 H215 := (m_Body_push z213)
    have hr := Option.some.inj hG; subst hr
    exact ⟨hm, (fun x e => by cases e)⟩
  clear hG
  rcases ite_s hF with ⟨q_73, hG⟩ | ⟨q_73, hG⟩
  · clear hF
    rcases ite_s hG with ⟨q_74, hF⟩ | ⟨q_74, hF⟩
    · clear hG
      have gz := gB_Body_plainValue_106 hn q_p0 hF hm.1 hB q_p0
      exact ⟨hm.tr gz.1, gz.2⟩
    · clear hG
      have gz := gB_Body_plainValue_106 hn q_p0 hF hm.1 hB q_p0
      exact ⟨hm.tr gz.1, gz.2⟩
  clear hF
  rcases ite_s hG with ⟨q_75, hF⟩ | ⟨q_75, hF⟩
  · clear hG
    rcases ite_s hF with ⟨q_76, hG⟩ | ⟨q_76, hG⟩
    · clear hF
      have gz := gB_Body_plainValue_106 hn q_p0 hG hm.1 hB q_p0
      exact ⟨hm.tr gz.1, gz.2⟩
    · clear hF
      have gz := gB_Body_plainValue_106 hn q_p0 hG hm.1 hB q_p0
      exact ⟨hm.tr gz.1, gz.2⟩
  clear hG
  rcases ite_s hF with ⟨q_77, hG⟩ | ⟨q_77, hG⟩
  · clear hF
    obtain ⟨q221, hF⟩ := ck_s hG; clear hG
    obtain ⟨v223, H224, z222, hG⟩ := bC_s hF; clear hF
    have gz_78 := (g_Body_push z222 hm.1 q_p0)
    replace hm : Rg Q H H224 := hm.tr gz_78
    replace hB : B ≤ H224.sh.length := Nat.le_trans hB ((m_Body_push z222)).mo.len
    have s_79 : Sa H H224 := (m_Body_push z222)
    obtain ⟨a225, e226, hF⟩ := rf_s hG; clear hG
    have qa225 : Q a225 := hm.1 _ _ _ q_p0 e226
    obtain ⟨q227, hG⟩ := ck_s hF; clear hF
    rw [(s_79).1] at q227
    obtain ⟨v229, H230, z228, hF⟩ := bC_s hG; clear hG
    have gz_80 := (g_Lexer_advance z228 hm.1 qa225)
    replace hm : Rg Q H H230 := hm.tr gz_80
    replace hB : B ≤ H230.sh.length := Nat.le_trans hB ((m_Lexer_advance z228)).mo.len
    have s_81 : Sa H H230 := (s_79).tr (m_Lexer_advance z228)
    have hr := Option.some.inj hF; subst hr
    exact ⟨hm, (fun x e => by cases e)⟩
  clear hF
  rcases ite_s hG with ⟨q_82, hF⟩ | ⟨q_82, hF⟩
  · clear hG
    obtain ⟨q232, hG⟩ := ck_s hF; clear hF
    obtain ⟨a233, e234, hF⟩ := rf_s hG; clear hG
    have qa233 : Q a233 := hm.1 _ _ _ q_p0 e234
    obtain ⟨q235, hG⟩ := ck_s hF; clear hF
    obtain ⟨v237, H238, z236, hF⟩ := bC_s hG; clear hG
    have gz_83 := (g_Program_add z236 hm.1 qa233)
    replace hm : Rg Q H H238 := hm.tr gz_83
    replace hB : B ≤ H238.sh.length := Nat.le_trans hB ((m_Program_add z236)).mo.len
    have s_84 : Sa H H238 := (m_Program_add z236)
    obtain ⟨a239, e240, hG⟩ := rf_s hF; clear hF
    have qa239 : Q a239 := hm.1 _ _ _ q_p0 e240
    obtain ⟨q241, hF⟩ := ck_s hG; clear hG
    rw [(s_84).1] at q241
    obtain ⟨v243, H244, z242, hG⟩ := bC_s hF; clear hF
    have gz_85 := (g_Lexer_advance z242 hm.1 qa239)
    replace hm : Rg Q H H244 := hm.tr gz_85
    replace hB : B ≤ H244.sh.length := Nat.le_trans hB ((m_Lexer_advance z242)).mo.len
    have s_86 : Sa H H244 := (s_84).tr (m_Lexer_advance z242)
    have hr := Option.some.inj hG; subst hr
    exact ⟨hm, (fun x e => by cases e)⟩
  clear hG
  rcases ite_s hF with ⟨q_87, hG⟩ | ⟨q_87, hG⟩
  · clear hF
    obtain ⟨q246, hF⟩ := ck_s hG; clear hG
    obtain ⟨a247, e248, hG⟩ := rf_s hF; clear hF
    have qa247 : Q a247 := hm.1 _ _ _ q_p0 e248
    obtain ⟨q249, hF⟩ := ck_s hG; clear hG
    obtain ⟨v251, H252, z250, hG⟩ := bC_s hF; clear hF
    have gz_88 := (g_Program_add z250 hm.1 qa247)
    replace hm : Rg Q H H252 := hm.tr gz_88
    replace hB : B ≤ H252.sh.length := Nat.le_trans hB ((m_Program_add z250)).mo.len
    have s_89 : Sa H H252 := (m_Program_add z250)
    obtain ⟨a253, e254, hF⟩ := rf_s hG; clear hG
    have qa253 : Q a253 := hm.1 _ _ _ q_p0 e254
    obtain ⟨q255, hG⟩ := ck_s hF; clear hF
    rw [(s_89).1] at q255
    obtain ⟨v257, H258, z256, hF⟩ := bC_s hG; clear hG
    have gz_90 := (g_Lexer_advance z256 hm.1 qa253)
    replace hm : Rg Q H H258 := hm.tr gz_90
    replace hB : B ≤ H258.sh.length := Nat.le_trans hB ((m_Lexer_advance z256)).mo.len
    have s_91 : Sa H H258 := (s_89).tr (m_Lexer_advance z256)
    have hr := Option.some.inj hF; subst hr
    exact ⟨hm, (fun x e => by cases e)⟩
  clear hF
  obtain ⟨q259, hF⟩ := ck_s hG; clear hG
  obtain ⟨a260, e261, hG⟩ := rf_s hF; clear hF
  have qa260 : Q a260 := hm.1 _ _ _ q_p0 e261
  obtain ⟨a262, e263, hF⟩ := rf_s hG; clear hG
  have qa262 : Q a262 := hm.1 _ _ _ q_p0 e263
  obtain ⟨q264, hG⟩ := ck_s hF; clear hF
  obtain ⟨x265, -, hF⟩ := bnd_g hG; clear hG
  obtain ⟨q266, hG⟩ := ck_s hF; clear hF
  refine bT_c hG (fun x270 H269 z267 er => ?_) (fun v268 H269 z267 hF => ?_)
  · subst er; have gz := (g_Lexer_refuse hn z267 hm.1 hB qa260); exact ⟨hm.tr gz.1, (fun x e => by cases e; exact gz.2 _ rfl)⟩
  clear hG
  have gz_92 := (g_Lexer_refuse hn z267 hm.1 hB qa260)
  replace hm : Rg Q H H269 := hm.tr gz_92.1
  replace hB : B ≤ H269.sh.length := Nat.le_trans hB ((m_Lexer_refuse z267)).len
  have mz_93 : Mo H H269 := (m_Lexer_refuse z267)
  have q_94 := (mz_93).get q259
  have q_95 := (mz_93).get q264
  have q_96 := (mz_93).get q266
  have hr := Option.some.inj hF; subst hr
  exact ⟨hm, (fun x e => by cases e)⟩
set_option maxRecDepth 20000 in
set_option maxHeartbeats 2000000 in
theorem g_Body_levelOf {N : Nat} {Q : Nat → Prop} {p0 : Int32} {H : Hp} {r : Int32 × Hp} (hF : F_Body_levelOf N p0 H = some r) (hc0 : Cl Q H) : Rg Q H r.2 := by
  unfold F_Body_levelOf at hF
  have hm := Rg.rf hc0
  rcases ite_s hF with ⟨q_14, hG⟩ | ⟨q_14, hG⟩
  · clear hF
    have hr := Option.some.inj hG; subst hr
    exact hm
  clear hF
  rcases ite_s hG with ⟨q_15, hF⟩ | ⟨q_15, hF⟩
  · clear hG
    have hr := Option.some.inj hF; subst hr
    exact hm
  clear hG
  rcases ite_s hF with ⟨q_16, hG⟩ | ⟨q_16, hG⟩
  · clear hF
    have hr := Option.some.inj hG; subst hr
    exact hm
  clear hF
  rcases ite_s hG with ⟨q_17, hF⟩ | ⟨q_17, hF⟩
  · clear hG
    have hr := Option.some.inj hF; subst hr
    exact hm
  clear hG
  rcases ite_s hF with ⟨q_18, hG⟩ | ⟨q_18, hG⟩
  · clear hF
    have hr := Option.some.inj hG; subst hr
    exact hm
  clear hF
  rcases ite_s hG with ⟨q_19, hF⟩ | ⟨q_19, hF⟩
  · clear hG
    have hr := Option.some.inj hF; subst hr
    exact hm
  clear hG
  rcases ite_s hF with ⟨q_20, hG⟩ | ⟨q_20, hG⟩
  · clear hF
    have hr := Option.some.inj hG; subst hr
    exact hm
  clear hF
  rcases ite_s hG with ⟨q_21, hF⟩ | ⟨q_21, hF⟩
  · clear hG
    have hr := Option.some.inj hF; subst hr
    exact hm
  clear hG
  rcases ite_s hF with ⟨q_22, hG⟩ | ⟨q_22, hG⟩
  · clear hF
    have hr := Option.some.inj hG; subst hr
    exact hm
  clear hF
  rcases ite_s hG with ⟨q_23, hF⟩ | ⟨q_23, hF⟩
  · clear hG
    have hr := Option.some.inj hF; subst hr
    exact hm
  clear hG
  rcases ite_s hF with ⟨q_24, hG⟩ | ⟨q_24, hG⟩
  · clear hF
    have hr := Option.some.inj hG; subst hr
    exact hm
  clear hF
  rcases ite_s hG with ⟨q_25, hF⟩ | ⟨q_25, hF⟩
  · clear hG
    have hr := Option.some.inj hF; subst hr
    exact hm
  clear hG
  rcases ite_s hF with ⟨q_26, hG⟩ | ⟨q_26, hG⟩
  · clear hF
    have hr := Option.some.inj hG; subst hr
    exact hm
  clear hF
  have hr := Option.some.inj hG; subst hr
  exact hm
set_option maxRecDepth 20000 in
set_option maxHeartbeats 2000000 in
theorem g_Body_jump {N : Nat} {Q : Nat → Prop} {p0 : Nat} {p1 : Int32} {H : Hp} {r : Int32 × Hp} (hF : F_Body_jump N p0 p1 H = some r) (hc0 : Cl Q H) (q_p0 : Q p0) : Rg Q H r.2 := by
  unfold F_Body_jump at hF
  have hm := Rg.rf hc0
  obtain ⟨q27, hG⟩ := ck_s hF; clear hF
  obtain ⟨a28, e29, hF⟩ := rf_s hG; clear hG
  have qa28 : Q a28 := hm.1 _ _ _ q_p0 e29
  obtain ⟨q30, hG⟩ := ck_s hF; clear hF
  obtain ⟨v32, H33, z31, hF⟩ := bC_s hG; clear hG
  have gz_5 := (g_Program_add z31 hm.1 qa28)
  replace hm : Rg Q H H33 := hm.tr gz_5
  have s_6 : Sa H H33 := (m_Program_add z31)
  obtain ⟨a34, e35, hG⟩ := rf_s hF; clear hF
  have qa34 : Q a34 := hm.1 _ _ _ q_p0 e35
  obtain ⟨q36, hF⟩ := ck_s hG; clear hG
  rw [(s_6).1] at q36
  obtain ⟨v38, H39, z37, hG⟩ := bC_s hF; clear hF
  have gz_7 := (g_Program_add z37 hm.1 qa34)
  replace hm : Rg Q H H39 := hm.tr gz_7
  have s_8 : Sa H H39 := (s_6).tr (m_Program_add z37)
  have hr := Option.some.inj hG; subst hr
  exact hm
set_option maxRecDepth 20000 in
set_option maxHeartbeats 2000000 in
theorem g_Body_opOf {N : Nat} {Q : Nat → Prop} {p0 : Int32} {p1 : Int32} {H : Hp} {r : Int32 × Hp} (hF : F_Body_opOf N p0 p1 H = some r) (hc0 : Cl Q H) : Rg Q H r.2 := by
  unfold F_Body_opOf at hF
  have hm := Rg.rf hc0
  rcases ite_s hF with ⟨q_15, hG⟩ | ⟨q_15, hG⟩
  · clear hF
    rcases ite_s hG with ⟨q_16, hF⟩ | ⟨q_16, hF⟩
    · clear hG
      have hr := Option.some.inj hF; subst hr
      exact hm
    · clear hG
      have hr := Option.some.inj hF; subst hr
      exact hm
  clear hF
  rcases ite_s hG with ⟨q_17, hF⟩ | ⟨q_17, hF⟩
  · clear hG
    rcases ite_s hF with ⟨q_18, hG⟩ | ⟨q_18, hG⟩
    · clear hF
      have hr := Option.some.inj hG; subst hr
      exact hm
    · clear hF
      have hr := Option.some.inj hG; subst hr
      exact hm
  clear hG
  rcases ite_s hF with ⟨q_19, hG⟩ | ⟨q_19, hG⟩
  · clear hF
    rcases ite_s hG with ⟨q_20, hF⟩ | ⟨q_20, hF⟩
    · clear hG
      have hr := Option.some.inj hF; subst hr
      exact hm
    · clear hG
      have hr := Option.some.inj hF; subst hr
      exact hm
  clear hF
  rcases ite_s hG with ⟨q_21, hF⟩ | ⟨q_21, hF⟩
  · clear hG
    rcases ite_s hF with ⟨q_22, hG⟩ | ⟨q_22, hG⟩
    · clear hF
      have hr := Option.some.inj hG; subst hr
      exact hm
    · clear hF
      have hr := Option.some.inj hG; subst hr
      exact hm
  clear hG
  rcases ite_s hF with ⟨q_23, hG⟩ | ⟨q_23, hG⟩
  · clear hF
    have hr := Option.some.inj hG; subst hr
    exact hm
  clear hF
  rcases ite_s hG with ⟨q_24, hF⟩ | ⟨q_24, hF⟩
  · clear hG
    have hr := Option.some.inj hF; subst hr
    exact hm
  clear hG
  rcases ite_s hF with ⟨q_25, hG⟩ | ⟨q_25, hG⟩
  · clear hF
    have hr := Option.some.inj hG; subst hr
    exact hm
  clear hF
  rcases ite_s hG with ⟨q_26, hF⟩ | ⟨q_26, hF⟩
  · clear hG
    have hr := Option.some.inj hF; subst hr
    exact hm
  clear hG
  rcases ite_s hF with ⟨q_27, hG⟩ | ⟨q_27, hG⟩
  · clear hF
    have hr := Option.some.inj hG; subst hr
    exact hm
  clear hF
  rcases ite_s hG with ⟨q_28, hF⟩ | ⟨q_28, hF⟩
  · clear hG
    have hr := Option.some.inj hF; subst hr
    exact hm
  clear hG
  have hr := Option.some.inj hF; subst hr
  exact hm
set_option maxRecDepth 20000 in
set_option maxHeartbeats 2000000 in
theorem gB_Body_joined_167 {N : Nat} {Q : Nat → Prop} {p0 : Nat} {p1 : Int32} {p2 : Int32} {p3 : Int32} {p4 : Int32} {B : Nat} (hn : ∀ a, B ≤ a → Q a) (q_p0 : Q p0) {l7 : Int32} {w0 : Nat} {w1 : Int32} {w2 : Int32} {H : Hp} {r : (Ot Int32) × Hp} (hF : B_Body_joined_167 N p0 p1 p2 p3 p4 l7 w0 w1 w2 H = some r) (hc0 : Cl Q H) (hB : B ≤ H.sh.length) (q_w0 : Q w0) : Rg Q H r.2 ∧ (∀ x, r.1 = .inr x → Q x) := by
  unfold B_Body_joined_167 at hF
  have hm := Rg.rf hc0
  obtain ⟨v86, H87, z85, hG⟩ := bC_s hF; clear hF
  have gz_34 := (g_Body_opOf z85 hm.1)
  replace hm : Rg Q H H87 := hm.tr gz_34
  replace hB : B ≤ H87.sh.length := Nat.le_trans hB ((m_Body_opOf z85)).mo.len
  have s_35 : Sa H H87 := (m_Body_opOf z85)
  obtain ⟨q88, hF⟩ := ck_s hG; clear hG
  rw [(s_35).1] at q88
  obtain ⟨v90, H91, z89, hG⟩ := bC_s hF; clear hF
  have gz_36 := (g_Program_add z89 hm.1 q_w0)
  replace hm : Rg Q H H91 := hm.tr gz_36
  replace hB : B ≤ H91.sh.length := Nat.le_trans hB ((m_Program_add z89)).mo.len
  have s_37 : Sa H H91 := (s_35).tr (m_Program_add z89)
  have hr := Option.some.inj hG; subst hr
  exact ⟨hm, (fun x e => by cases e)⟩
set_option maxRecDepth 20000 in
set_option maxHeartbeats 2000000 in
theorem gB_Body_joined_144 {N : Nat} {Q : Nat → Prop} {p0 : Nat} {p1 : Int32} {p2 : Int32} {p3 : Int32} {p4 : Int32} {B : Nat} (hn : ∀ a, B ≤ a → Q a) (q_p0 : Q p0) {l7 : Int32} {H : Hp} {r : (Ot Int32) × Hp} (hF : B_Body_joined_144 N p0 p1 p2 p3 p4 l7 H = some r) (hc0 : Cl Q H) (hB : B ≤ H.sh.length) : Rg Q H r.2 ∧ (∀ x, r.1 = .inr x → Q x) := by
  unfold B_Body_joined_144 at hF
  have hm := Rg.rf hc0
  obtain ⟨v93, H94, z92, hG⟩ := bC_s hF; clear hF
  have gz_38 := (g_Body_levelOf z92 hm.1)
  replace hm : Rg Q H H94 := hm.tr gz_38
  replace hB : B ≤ H94.sh.length := Nat.le_trans hB ((m_Body_levelOf z92)).mo.len
  have s_39 : Sa H H94 := (m_Body_levelOf z92)
  rcases ite_s hG with ⟨q_40, hF⟩ | ⟨q_40, hF⟩
  · clear hG
    have hr := Option.some.inj hF; subst hr
    exact ⟨hm, (fun x e => by cases e)⟩
  · clear hG
    obtain ⟨q96, hG⟩ := ck_s hF; clear hF
    rw [(s_39).1] at q96
    obtain ⟨a97, e98, hF⟩ := rf_s hG; clear hG
    have qa97 : Q a97 := hm.1 _ _ _ q_p0 e98
    rcases ite_s hF with ⟨q_41, hG⟩ | ⟨q_41, hG⟩
    · clear hF
      have gz := gB_Body_joined_167 hn q_p0 hG hm.1 hB qa97
      exact ⟨hm.tr gz.1, gz.2⟩
    · clear hF
      have gz := gB_Body_joined_167 hn q_p0 hG hm.1 hB qa97
      exact ⟨hm.tr gz.1, gz.2⟩
set_option maxRecDepth 20000 in
set_option maxHeartbeats 2000000 in
theorem gB_Body_joined_130 {N : Nat} {Q : Nat → Prop} {p0 : Nat} {p1 : Int32} {p2 : Int32} {p3 : Int32} {p4 : Int32} {B : Nat} (hn : ∀ a, B ≤ a → Q a) (q_p0 : Q p0) {l6 : Int32} {l7 : Int32} {H : Hp} {r : (Ot Int32) × Hp} (hF : B_Body_joined_130 N p0 p1 p2 p3 p4 l6 l7 H = some r) (hc0 : Cl Q H) (hB : B ≤ H.sh.length) : Rg Q H r.2 ∧ (∀ x, r.1 = .inr x → Q x) := by
  unfold B_Body_joined_130 at hF
  have hm := Rg.rf hc0
  rcases ite_s hF with ⟨q_42, hG⟩ | ⟨q_42, hG⟩
  · clear hF
    obtain ⟨q101, hF⟩ := ck_s hG; clear hG
    obtain ⟨a102, e103, hG⟩ := rf_s hF; clear hF
    have qa102 : Q a102 := hm.1 _ _ _ q_p0 e103
    obtain ⟨q104, hF⟩ := ck_s hG; clear hG
    refine bT_c hF (fun x108 H107 z105 er => ?_) (fun v106 H107 z105 hG => ?_)
    · subst er; have gz := (g_Lexer_refuse hn z105 hm.1 hB qa102); exact ⟨hm.tr gz.1, (fun x e => by cases e; exact gz.2 _ rfl)⟩
    clear hF
    have gz_43 := (g_Lexer_refuse hn z105 hm.1 hB qa102)
    replace hm : Rg Q H H107 := hm.tr gz_43.1
    replace hB : B ≤ H107.sh.length := Nat.le_trans hB ((m_Lexer_refuse z105)).len
    have mz_44 : Mo H H107 := (m_Lexer_refuse z105)
    have q_45 := (mz_44).get q101
    have q_46 := (mz_44).get q104
    have gz := gB_Body_joined_144 hn q_p0 hG hm.1 hB
    exact ⟨hm.tr gz.1, gz.2⟩
  · clear hF
    have gz := gB_Body_joined_144 hn q_p0 hG hm.1 hB
    exact ⟨hm.tr gz.1, gz.2⟩
set_option maxRecDepth 20000 in
set_option maxHeartbeats 2000000 in
theorem gB_Body_joined_65 {N : Nat} {Q : Nat → Prop} {p0 : Nat} {p1 : Int32} {p2 : Int32} {p3 : Int32} {p4 : Int32} {B : Nat} (hn : ∀ a, B ≤ a → Q a) (q_p0 : Q p0) {l7 : Int32} {w0 : Int32} {H : Hp} {r : (Ot Int32) × Hp} (hF : B_Body_joined_65 N p0 p1 p2 p3 p4 l7 w0 H = some r) (hc0 : Cl Q H) (hB : B ≤ H.sh.length) : Rg Q H r.2 ∧ (∀ x, r.1 = .inr x → Q x) := by
  unfold B_Body_joined_65 at hF
  have hm := Rg.rf hc0
  have gz := gB_Body_joined_130 hn q_p0 hF hm.1 hB
  exact ⟨hm.tr gz.1, gz.2⟩
set_option maxRecDepth 20000 in
set_option maxHeartbeats 2000000 in
theorem gB_Body_joined_64 {N : Nat} {Q : Nat → Prop} {p0 : Nat} {p1 : Int32} {p2 : Int32} {p3 : Int32} {p4 : Int32} {B : Nat} (hn : ∀ a, B ≤ a → Q a) (q_p0 : Q p0) {l7 : Int32} {H : Hp} {r : (Ot Int32) × Hp} (hF : B_Body_joined_64 N p0 p1 p2 p3 p4 l7 H = some r) (hc0 : Cl Q H) (hB : B ≤ H.sh.length) : Rg Q H r.2 ∧ (∀ x, r.1 = .inr x → Q x) := by
  unfold B_Body_joined_64 at hF
  have hm := Rg.rf hc0
  have gz := gB_Body_joined_65 hn q_p0 hF hm.1 hB
  exact ⟨hm.tr gz.1, gz.2⟩
set_option maxRecDepth 20000 in
set_option maxHeartbeats 2000000 in
theorem gB_Body_joined_50 {N : Nat} {Q : Nat → Prop} {p0 : Nat} {p1 : Int32} {p2 : Int32} {p3 : Int32} {p4 : Int32} {B : Nat} (hn : ∀ a, B ≤ a → Q a) (q_p0 : Q p0) {l6 : Int32} {l7 : Int32} {H : Hp} {r : (Ot Int32) × Hp} (hF : B_Body_joined_50 N p0 p1 p2 p3 p4 l6 l7 H = some r) (hc0 : Cl Q H) (hB : B ≤ H.sh.length) : Rg Q H r.2 ∧ (∀ x, r.1 = .inr x → Q x) := by
  unfold B_Body_joined_50 at hF
  have hm := Rg.rf hc0
  rcases ite_s hF with ⟨q_47, hG⟩ | ⟨q_47, hG⟩
  · clear hF
    have gz := gB_Body_joined_64 hn q_p0 hG hm.1 hB
    exact ⟨hm.tr gz.1, gz.2⟩
  · clear hF
    rcases ite_s hG with ⟨q_48, hF⟩ | ⟨q_48, hF⟩
    · clear hG
      have gz := gB_Body_joined_65 hn q_p0 hF hm.1 hB
      exact ⟨hm.tr gz.1, gz.2⟩
    · clear hG
      have gz := gB_Body_joined_64 hn q_p0 hF hm.1 hB
      exact ⟨hm.tr gz.1, gz.2⟩
set_option maxRecDepth 20000 in
set_option maxHeartbeats 2000000 in
theorem gB_Body_joined_128 {N : Nat} {Q : Nat → Prop} {p0 : Nat} {p1 : Int32} {p2 : Int32} {p3 : Int32} {p4 : Int32} {B : Nat} (hn : ∀ a, B ≤ a → Q a) (q_p0 : Q p0) {l7 : Int32} {w0 : Int32} {H : Hp} {r : (Ot Int32) × Hp} (hF : B_Body_joined_128 N p0 p1 p2 p3 p4 l7 w0 H = some r) (hc0 : Cl Q H) (hB : B ≤ H.sh.length) : Rg Q H r.2 ∧ (∀ x, r.1 = .inr x → Q x) := by
  unfold B_Body_joined_128 at hF
  have hm := Rg.rf hc0
  have gz := gB_Body_joined_130 hn q_p0 hF hm.1 hB
  exact ⟨hm.tr gz.1, gz.2⟩
set_option maxRecDepth 20000 in
set_option maxHeartbeats 2000000 in
theorem gB_Body_joined_127 {N : Nat} {Q : Nat → Prop} {p0 : Nat} {p1 : Int32} {p2 : Int32} {p3 : Int32} {p4 : Int32} {B : Nat} (hn : ∀ a, B ≤ a → Q a) (q_p0 : Q p0) {l7 : Int32} {H : Hp} {r : (Ot Int32) × Hp} (hF : B_Body_joined_127 N p0 p1 p2 p3 p4 l7 H = some r) (hc0 : Cl Q H) (hB : B ≤ H.sh.length) : Rg Q H r.2 ∧ (∀ x, r.1 = .inr x → Q x) := by
  unfold B_Body_joined_127 at hF
  have hm := Rg.rf hc0
  have gz := gB_Body_joined_128 hn q_p0 hF hm.1 hB
  exact ⟨hm.tr gz.1, gz.2⟩
set_option maxRecDepth 20000 in
set_option maxHeartbeats 2000000 in
theorem gB_Body_joined_105 {N : Nat} {Q : Nat → Prop} {p0 : Nat} {p1 : Int32} {p2 : Int32} {p3 : Int32} {p4 : Int32} {B : Nat} (hn : ∀ a, B ≤ a → Q a) (q_p0 : Q p0) {w0 : Int32} {H : Hp} {r : (Ot Int32) × Hp} (hF : B_Body_joined_105 N p0 p1 p2 p3 p4 w0 H = some r) (hc0 : Cl Q H) (hB : B ≤ H.sh.length) : Rg Q H r.2 ∧ (∀ x, r.1 = .inr x → Q x) := by
  unfold B_Body_joined_105 at hF
  have hm := Rg.rf hc0
  have gz := gB_Body_joined_130 hn q_p0 hF hm.1 hB
  exact ⟨hm.tr gz.1, gz.2⟩
set_option maxRecDepth 20000 in
set_option maxHeartbeats 2000000 in
theorem gB_Body_joined_104 {N : Nat} {Q : Nat → Prop} {p0 : Nat} {p1 : Int32} {p2 : Int32} {p3 : Int32} {p4 : Int32} {B : Nat} (hn : ∀ a, B ≤ a → Q a) (q_p0 : Q p0)  {H : Hp} {r : (Ot Int32) × Hp} (hF : B_Body_joined_104 N p0 p1 p2 p3 p4  H = some r) (hc0 : Cl Q H) (hB : B ≤ H.sh.length) : Rg Q H r.2 ∧ (∀ x, r.1 = .inr x → Q x) := by
  unfold B_Body_joined_104 at hF
  have hm := Rg.rf hc0
  have gz := gB_Body_joined_105 hn q_p0 hF hm.1 hB
  exact ⟨hm.tr gz.1, gz.2⟩
set_option maxRecDepth 20000 in
set_option maxHeartbeats 2000000 in
theorem gB_Body_joined_100 {N : Nat} {Q : Nat → Prop} {p0 : Nat} {p1 : Int32} {p2 : Int32} {p3 : Int32} {p4 : Int32} {B : Nat} (hn : ∀ a, B ≤ a → Q a) (q_p0 : Q p0)  {H : Hp} {r : (Ot Int32) × Hp} (hF : B_Body_joined_100 N p0 p1 p2 p3 p4  H = some r) (hc0 : Cl Q H) (hB : B ≤ H.sh.length) : Rg Q H r.2 ∧ (∀ x, r.1 = .inr x → Q x) := by
  unfold B_Body_joined_100 at hF
  have hm := Rg.rf hc0
  have gz := gB_Body_joined_105 hn q_p0 hF hm.1 hB
  exact ⟨hm.tr gz.1, gz.2⟩
set_option maxRecDepth 20000 in
set_option maxHeartbeats 2000000 in
theorem gB_Body_joined_33 {N : Nat} {Q : Nat → Prop} {p0 : Nat} {p1 : Int32} {p2 : Int32} {p3 : Int32} {p4 : Int32} {B : Nat} (hn : ∀ a, B ≤ a → Q a) (q_p0 : Q p0) {l5 : Int32} {w0 : Int32} {H : Hp} {r : (Ot Int32) × Hp} (hF : B_Body_joined_33 N p0 p1 p2 p3 p4 l5 w0 H = some r) (hc0 : Cl Q H) (hB : B ≤ H.sh.length) : Rg Q H r.2 ∧ (∀ x, r.1 = .inr x → Q x) := by
  unfold B_Body_joined_33 at hF
  have hm := Rg.rf hc0
  rcases ite_s hF with ⟨q_49, hG⟩ | ⟨q_49, hG⟩
  · clear hF
    have gz := gB_Body_joined_50 hn q_p0 hG hm.1 hB
    exact ⟨hm.tr gz.1, gz.2⟩
  · clear hF
    rcases ite_s hG with ⟨q_50, hF⟩ | ⟨q_50, hF⟩
    · clear hG
      have gz := gB_Body_joined_50 hn q_p0 hF hm.1 hB
      exact ⟨hm.tr gz.1, gz.2⟩
    · clear hG
      obtain ⟨v114, H115, z113, hG⟩ := bC_s hF; clear hF
      have gz_51 := (g_Body_levelOf z113 hm.1)
      replace hm : Rg Q H H115 := hm.tr gz_51
      replace hB : B ≤ H115.sh.length := Nat.le_trans hB ((m_Body_levelOf z113)).mo.len
      have s_52 : Sa H H115 := (m_Body_levelOf z113)
      rcases ite_s hG with ⟨q_53, hF⟩ | ⟨q_53, hF⟩
      · clear hG
        rcases ite_s hF with ⟨q_54, hG⟩ | ⟨q_54, hG⟩
        · clear hF
          have gz := gB_Body_joined_104 hn q_p0 hG hm.1 hB
          exact ⟨hm.tr gz.1, gz.2⟩
        · clear hF
          rcases ite_s hG with ⟨q_55, hF⟩ | ⟨q_55, hF⟩
          · clear hG
            rcases ite_s hF with ⟨q_56, hG⟩ | ⟨q_56, hG⟩
            · clear hF
              have gz := gB_Body_joined_100 hn q_p0 hG hm.1 hB
              exact ⟨hm.tr gz.1, gz.2⟩
            · clear hF
              rcases ite_s hG with ⟨q_57, hF⟩ | ⟨q_57, hF⟩
              · clear hG
                have gz := gB_Body_joined_100 hn q_p0 hF hm.1 hB
                exact ⟨hm.tr gz.1, gz.2⟩
              · clear hG
                have gz := gB_Body_joined_104 hn q_p0 hF hm.1 hB
                exact ⟨hm.tr gz.1, gz.2⟩
          · clear hG
            have gz := gB_Body_joined_100 hn q_p0 hF hm.1 hB
            exact ⟨hm.tr gz.1, gz.2⟩
      · clear hG
        rcases ite_s hF with ⟨q_58, hG⟩ | ⟨q_58, hG⟩
        · clear hF
          have gz := gB_Body_joined_127 hn q_p0 hG hm.1 hB
          exact ⟨hm.tr gz.1, gz.2⟩
        · clear hF
          rcases ite_s hG with ⟨q_59, hF⟩ | ⟨q_59, hF⟩
          · clear hG
            have gz := gB_Body_joined_127 hn q_p0 hF hm.1 hB
            exact ⟨hm.tr gz.1, gz.2⟩
          · clear hG
            have gz := gB_Body_joined_128 hn q_p0 hF hm.1 hB
            exact ⟨hm.tr gz.1, gz.2⟩
set_option maxRecDepth 20000 in
set_option maxHeartbeats 2000000 in
theorem gB_Body_joined_20 {N : Nat} {Q : Nat → Prop} {p0 : Nat} {p1 : Int32} {p2 : Int32} {p3 : Int32} {p4 : Int32} {B : Nat} (hn : ∀ a, B ≤ a → Q a) (q_p0 : Q p0) {w0 : Int32} {H : Hp} {r : (Ot Int32) × Hp} (hF : B_Body_joined_20 N p0 p1 p2 p3 p4 w0 H = some r) (hc0 : Cl Q H) (hB : B ≤ H.sh.length) : Rg Q H r.2 ∧ (∀ x, r.1 = .inr x → Q x) := by
  unfold B_Body_joined_20 at hF
  have hm := Rg.rf hc0
  rcases ite_s hF with ⟨q_60, hG⟩ | ⟨q_60, hG⟩
  · clear hF
    have gz := gB_Body_joined_33 hn q_p0 hG hm.1 hB
    exact ⟨hm.tr gz.1, gz.2⟩
  · clear hF
    have gz := gB_Body_joined_33 hn q_p0 hG hm.1 hB
    exact ⟨hm.tr gz.1, gz.2⟩
set_option maxRecDepth 20000 in
set_option maxHeartbeats 2000000 in
theorem gB_Body_joined_15 {N : Nat} {Q : Nat → Prop} {p0 : Nat} {p1 : Int32} {p2 : Int32} {p3 : Int32} {p4 : Int32} {B : Nat} (hn : ∀ a, B ≤ a → Q a) (q_p0 : Q p0)  {H : Hp} {r : (Ot Int32) × Hp} (hF : B_Body_joined_15 N p0 p1 p2 p3 p4  H = some r) (hc0 : Cl Q H) (hB : B ≤ H.sh.length) : Rg Q H r.2 ∧ (∀ x, r.1 = .inr x → Q x) := by
  unfold B_Body_joined_15 at hF
  have hm := Rg.rf hc0
  have gz := gB_Body_joined_20 hn q_p0 hF hm.1 hB
  exact ⟨hm.tr gz.1, gz.2⟩
set_option maxRecDepth 20000 in
set_option maxHeartbeats 2000000 in
theorem gB_Body_joined_19 {N : Nat} {Q : Nat → Prop} {p0 : Nat} {p1 : Int32} {p2 : Int32} {p3 : Int32} {p4 : Int32} {B : Nat} (hn : ∀ a, B ≤ a → Q a) (q_p0 : Q p0)  {H : Hp} {r : (Ot Int32) × Hp} (hF : B_Body_joined_19 N p0 p1 p2 p3 p4  H = some r) (hc0 : Cl Q H) (hB : B ≤ H.sh.length) : Rg Q H r.2 ∧ (∀ x, r.1 = .inr x → Q x) := by
  unfold B_Body_joined_19 at hF
  have hm := Rg.rf hc0
  have gz := gB_Body_joined_20 hn q_p0 hF hm.1 hB
  exact ⟨hm.tr gz.1, gz.2⟩
set_option maxRecDepth 20000 in
set_option maxHeartbeats 2000000 in
theorem g_Body_joined {N : Nat} {Q : Nat → Prop} {p0 : Nat} {p1 : Int32} {p2 : Int32} {p3 : Int32} {p4 : Int32} {H : Hp} {r : (Ot Int32) × Hp} {B : Nat} (hn : ∀ a, B ≤ a → Q a) (hF : F_Body_joined N p0 p1 p2 p3 p4 H = some r) (hc0 : Cl Q H) (hB : B ≤ H.sh.length) (q_p0 : Q p0) : Rg Q H r.2 ∧ (∀ x, r.1 = .inr x → Q x) := by
  unfold F_Body_joined at hF
  have hm := Rg.rf hc0
  rcases ite_s hF with ⟨q_61, hG⟩ | ⟨q_61, hG⟩
  · clear hF
    have gz := gB_Body_joined_15 hn q_p0 hG hm.1 hB
    exact ⟨hm.tr gz.1, gz.2⟩
  · clear hF
    rcases ite_s hG with ⟨q_62, hF⟩ | ⟨q_62, hF⟩
    · clear hG
      rcases ite_s hF with ⟨q_63, hG⟩ | ⟨q_63, hG⟩
      · clear hF
        have gz := gB_Body_joined_19 hn q_p0 hG hm.1 hB
        exact ⟨hm.tr gz.1, gz.2⟩
      · clear hF
        have gz := gB_Body_joined_15 hn q_p0 hG hm.1 hB
        exact ⟨hm.tr gz.1, gz.2⟩
    · clear hG
      have gz := gB_Body_joined_19 hn q_p0 hF hm.1 hB
      exact ⟨hm.tr gz.1, gz.2⟩
set_option maxRecDepth 20000 in
set_option maxHeartbeats 2000000 in
theorem g_Program_aim {N : Nat} {Q : Nat → Prop} {p0 : Nat} {p1 : Int32} {H : Hp} {r : Unit × Hp} (hF : F_Program_aim N p0 p1 H = some r) (hc0 : Cl Q H) (q_p0 : Q p0) : Rg Q H r.2 := by
  unfold F_Program_aim at hF
  have hm := Rg.rf hc0
  rcases ite_s hF with ⟨q_5, hG⟩ | ⟨q_5, hG⟩
  · clear hF
    have hr := Option.some.inj hG; subst hr
    exact hm
  · clear hF
    obtain ⟨q24, hF⟩ := ck_s hG; clear hG
    obtain ⟨x25, -, hG⟩ := bnd_g hF; clear hF
    rcases ite_s hG with ⟨q_6, hF⟩ | ⟨q_6, hF⟩
    · clear hG
      have hr := Option.some.inj hF; subst hr
      exact hm
    · clear hG
      obtain ⟨a27, e28, hG⟩ := rf_s hF; clear hF
      have qa27 : Q a27 := hm.1 _ _ _ q_p0 e28
      obtain ⟨x29, -, hF⟩ := bnd_g hG; clear hG
      obtain ⟨n30, q31, hG⟩ := ar_s hF; clear hF
      obtain ⟨q32, hF⟩ := ck_s hG; clear hG
      obtain ⟨H33, eH33, hG⟩ := bnd_g hF; clear hF
      replace hm : Rg Q H H33 := hm.tr (by rw [eH33]; exact Rg.sD hm.1 qa27)
      have s_7 : Sa H H33 := by rw [eH33]; exact Sa.rf _
      have hr := Option.some.inj hG; subst hr
      exact hm
def rg_BodyE (Q : Nat → Prop) (o : Orc_BodyE) (B : Nat) : Prop :=
  (∀ (a0 : Nat) (a1 : Int32) (H : Hp) (r : (Ot Int32) × Hp), o.1 a0 a1 H = some r → Cl Q H → B ≤ H.sh.length → Q a0 → Rg Q H r.2 ∧ (∀ x, r.1 = .inr x → Q x)) ∧
  (∀ (a0 : Nat) (H : Hp) (r : (Ot Int32) × Hp), o.2 a0 H = some r → Cl Q H → B ≤ H.sh.length → Q a0 → Rg Q H r.2 ∧ (∀ x, r.1 = .inr x → Q x))
set_option maxRecDepth 20000 in
set_option maxHeartbeats 2000000 in
theorem gB_Body_want_36 {N : Nat} {Q : Nat → Prop} {B : Nat} {o : Orc_BodyE} {hmo : mo_BodyE o} (hgo : rg_BodyE Q o B) {p0 : Nat} {p1 : Int32} (hn : ∀ a, B ≤ a → Q a) (q_p0 : Q p0) {l3 : Int32} {H : Hp} {r : (Ot Int32) × Hp} (hF : B_Body_want_36 N o p0 p1 l3 H = some r) (hc0 : Cl Q H) (hB : B ≤ H.sh.length) : Rg Q H r.2 ∧ (∀ x, r.1 = .inr x → Q x) := by
  unfold B_Body_want_36 at hF
  have hm := Rg.rf hc0
  rcases ite_s hF with ⟨q_30, hG⟩ | ⟨q_30, hG⟩
  · clear hF
    obtain ⟨q44, hF⟩ := ck_s hG; clear hG
    obtain ⟨a45, e46, hG⟩ := rf_s hF; clear hF
    have qa45 : Q a45 := hm.1 _ _ _ q_p0 e46
    obtain ⟨q47, hF⟩ := ck_s hG; clear hG
    obtain ⟨v49, H50, z48, hG⟩ := bC_s hF; clear hF
    have gz_31 := (g_Program_add z48 hm.1 qa45)
    replace hm : Rg Q H H50 := hm.tr gz_31
    replace hB : B ≤ H50.sh.length := Nat.le_trans hB ((m_Program_add z48)).mo.len
    have s_32 : Sa H H50 := (m_Program_add z48)
    have hr := Option.some.inj hG; subst hr
    exact ⟨hm, (fun x e => by cases e)⟩
  · clear hF
    have hr := Option.some.inj hG; subst hr
    exact ⟨hm, (fun x e => by cases e)⟩
set_option maxRecDepth 20000 in
set_option maxHeartbeats 2000000 in
theorem g_Body_want {N : Nat} {Q : Nat → Prop} {B : Nat} {o : Orc_BodyE} {hmo : mo_BodyE o} (hgo : rg_BodyE Q o B) {p0 : Nat} {p1 : Int32} {H : Hp} {r : (Ot Int32) × Hp} (hn : ∀ a, B ≤ a → Q a) (hF : F_Body_want N o p0 p1 H = some r) (hc0 : Cl Q H) (hB : B ≤ H.sh.length) (q_p0 : Q p0) : Rg Q H r.2 ∧ (∀ x, r.1 = .inr x → Q x) := by
  unfold F_Body_want at hF
  have hm := Rg.rf hc0
  obtain ⟨q51, hG⟩ := ck_s hF; clear hF
  obtain ⟨a52, e53, hF⟩ := rf_s hG; clear hG
  have qa52 : Q a52 := hm.1 _ _ _ q_p0 e53
  obtain ⟨q54, hG⟩ := ck_s hF; clear hF
  obtain ⟨x55, -, hF⟩ := bnd_g hG; clear hG
  refine bT_c hF (fun x59 H58 z56 er => ?_) (fun v57 H58 z56 hG => ?_)
  · subst er; have gz := (hgo.1 _ _ _ _ z56 hm.1 hB q_p0); exact ⟨hm.tr gz.1, (fun x e => by cases e; exact gz.2 _ rfl)⟩
  clear hF
  have gz_33 := (hgo.1 _ _ _ _ z56 hm.1 hB q_p0)
  replace hm : Rg Q H H58 := hm.tr gz_33.1
  replace hB : B ≤ H58.sh.length := Nat.le_trans hB ((hmo.1 _ _ _ _ z56)).len
  have mz_34 : Mo H H58 := (hmo.1 _ _ _ _ z56)
  have q_35 := (mz_34).get q51
  have q_36 := (mz_34).get q54
  rcases ite_s hG with ⟨q_37, hF⟩ | ⟨q_37, hF⟩
  · clear hG
    have gz := gB_Body_want_36 (hmo := hmo) hgo hn q_p0 hF hm.1 hB
    exact ⟨hm.tr gz.1, gz.2⟩
  · clear hG
    obtain ⟨v62, H63, z61, hG⟩ := bC_s hF; clear hF
    have gz_38 := (g_Body_asValue z61 hm.1)
    replace hm : Rg Q H H63 := hm.tr gz_38
    replace hB : B ≤ H63.sh.length := Nat.le_trans hB ((m_Body_asValue z61)).mo.len
    have s_39 : Sa H58 H63 := (m_Body_asValue z61)
    rcases ite_s hG with ⟨q_40, hF⟩ | ⟨q_40, hF⟩
    · clear hG
      have gz := gB_Body_want_36 (hmo := hmo) hgo hn q_p0 hF hm.1 hB
      exact ⟨hm.tr gz.1, gz.2⟩
    · clear hG
      obtain ⟨a65, e66, hG⟩ := rf_s hF; clear hF
      have qa65 : Q a65 := hm.1 _ _ _ q_p0 e66
      obtain ⟨q67, hF⟩ := ck_s hG; clear hG
      rw [(s_39).1] at q67
      refine bT_c hF (fun x71 H70 z68 er => ?_) (fun v69 H70 z68 hG => ?_)
      · subst er; have gz := (g_Lexer_refuse hn z68 hm.1 hB qa65); exact ⟨hm.tr gz.1, (fun x e => by cases e; exact gz.2 _ rfl)⟩
      clear hF
      have gz_41 := (g_Lexer_refuse hn z68 hm.1 hB qa65)
      replace hm : Rg Q H H70 := hm.tr gz_41.1
      replace hB : B ≤ H70.sh.length := Nat.le_trans hB ((m_Lexer_refuse z68)).len
      have mz_42 : Mo H63 H70 := (m_Lexer_refuse z68)
      have q_43 := (mz_42).get (by rw [(s_39).1]; exact q_35)
      have q_44 := (mz_42).get (by rw [(s_39).1]; exact q_36)
      have q_45 := (mz_42).get (by rw [(s_39).1]; exact q67)
      have gz := gB_Body_want_36 (hmo := hmo) hgo hn q_p0 hG hm.1 hB
      exact ⟨hm.tr gz.1, gz.2⟩
set_option maxRecDepth 20000 in
set_option maxHeartbeats 2000000 in
theorem g_Body_readHas {N : Nat} {Q : Nat → Prop} {B : Nat} {o : Orc_BodyE} {hmo : mo_BodyE o} (hgo : rg_BodyE Q o B) {p0 : Nat} {H : Hp} {r : (Ot Int32) × Hp} (hn : ∀ a, B ≤ a → Q a) (hF : F_Body_readHas N o p0 H = some r) (hc0 : Cl Q H) (hB : B ≤ H.sh.length) (q_p0 : Q p0) : Rg Q H r.2 ∧ (∀ x, r.1 = .inr x → Q x) := by
  unfold F_Body_readHas at hF
  have hm := Rg.rf hc0
  obtain ⟨q85, hG⟩ := ck_s hF; clear hF
  obtain ⟨a86, e87, hF⟩ := rf_s hG; clear hG
  have qa86 : Q a86 := hm.1 _ _ _ q_p0 e87
  obtain ⟨q88, hG⟩ := ck_s hF; clear hF
  obtain ⟨v90, H91, z89, hF⟩ := bC_s hG; clear hG
  have gz_89 := (g_Lexer_advance z89 hm.1 qa86)
  replace hm : Rg Q H H91 := hm.tr gz_89
  replace hB : B ≤ H91.sh.length := Nat.le_trans hB ((m_Lexer_advance z89)).mo.len
  have s_90 : Sa H H91 := (m_Lexer_advance z89)
  refine bT_c hF (fun x95 H94 z92 er => ?_) (fun v93 H94 z92 hG => ?_)
  · subst er; have gz := (g_Body_openParens hn z92 hm.1 hB q_p0); exact ⟨hm.tr gz.1, (fun x e => by cases e; exact gz.2 _ rfl)⟩
  clear hF
  have gz_91 := (g_Body_openParens hn z92 hm.1 hB q_p0)
  replace hm : Rg Q H H94 := hm.tr gz_91.1
  replace hB : B ≤ H94.sh.length := Nat.le_trans hB ((m_Body_openParens z92)).len
  have mz_92 : Mo H91 H94 := (m_Body_openParens z92)
  have q_93 := (mz_92).get (by rw [(s_90).1]; exact q85)
  have q_94 := (mz_92).get (by rw [(s_90).1]; exact q88)
  refine bT_c hG (fun x99 H98 z96 er => ?_) (fun v97 H98 z96 hF => ?_)
  · subst er; have gz := (g_Body_want (hmo := hmo) hgo hn z96 hm.1 hB q_p0); exact ⟨hm.tr gz.1, (fun x e => by cases e; exact gz.2 _ rfl)⟩
  clear hG
  have gz_95 := (g_Body_want (hmo := hmo) hgo hn z96 hm.1 hB q_p0)
  replace hm : Rg Q H H98 := hm.tr gz_95.1
  replace hB : B ≤ H98.sh.length := Nat.le_trans hB ((m_Body_want hmo z96)).len
  have mz_96 : Mo H94 H98 := (m_Body_want hmo z96)
  have q_97 := (mz_96).get q_93
  have q_98 := (mz_96).get q_94
  obtain ⟨a100, e101, hG⟩ := rf_s hF; clear hF
  have qa100 : Q a100 := hm.1 _ _ _ q_p0 e101
  obtain ⟨q102, hF⟩ := ck_s hG; clear hG
  refine bT_c hF (fun x106 H105 z103 er => ?_) (fun v104 H105 z103 hG => ?_)
  · subst er; have gz := (g_Lexer_take hn z103 hm.1 hB qa100); exact ⟨hm.tr gz.1, (fun x e => by cases e; exact gz.2 _ rfl)⟩
  clear hF
  have gz_99 := (g_Lexer_take hn z103 hm.1 hB qa100)
  replace hm : Rg Q H H105 := hm.tr gz_99.1
  replace hB : B ≤ H105.sh.length := Nat.le_trans hB ((m_Lexer_take z103)).len
  have mz_100 : Mo H98 H105 := (m_Lexer_take z103)
  have q_101 := (mz_100).get q_97
  have q_102 := (mz_100).get q_98
  have q_103 := (mz_100).get q102
  refine bT_c hG (fun x110 H109 z107 er => ?_) (fun v108 H109 z107 hF => ?_)
  · subst er; have gz := (g_Body_numberHere hn z107 hm.1 hB q_p0); exact ⟨hm.tr gz.1, (fun x e => by cases e; exact gz.2 _ rfl)⟩
  clear hG
  have gz_104 := (g_Body_numberHere hn z107 hm.1 hB q_p0)
  replace hm : Rg Q H H109 := hm.tr gz_104.1
  replace hB : B ≤ H109.sh.length := Nat.le_trans hB ((m_Body_numberHere z107)).len
  have mz_105 : Mo H105 H109 := (m_Body_numberHere z107)
  have q_106 := (mz_105).get q_101
  have q_107 := (mz_105).get q_102
  have q_108 := (mz_105).get q_103
  refine bT_c hF (fun x114 H113 z111 er => ?_) (fun v112 H113 z111 hG => ?_)
  · subst er; have gz := (g_Body_closeParens hn z111 hm.1 hB q_p0); exact ⟨hm.tr gz.1, (fun x e => by cases e; exact gz.2 _ rfl)⟩
  clear hF
  have gz_109 := (g_Body_closeParens hn z111 hm.1 hB q_p0)
  replace hm : Rg Q H H113 := hm.tr gz_109.1
  replace hB : B ≤ H113.sh.length := Nat.le_trans hB ((m_Body_closeParens z111)).len
  have mz_110 : Mo H109 H113 := (m_Body_closeParens z111)
  have q_111 := (mz_110).get q_106
  have q_112 := (mz_110).get q_107
  have q_113 := (mz_110).get q_108
  obtain ⟨a115, e116, hF⟩ := rf_s hG; clear hG
  have qa115 : Q a115 := hm.1 _ _ _ q_p0 e116
  obtain ⟨q117, hG⟩ := ck_s hF; clear hF
  obtain ⟨v119, H120, z118, hF⟩ := bC_s hG; clear hG
  have gz_114 := (g_Program_add z118 hm.1 qa115)
  replace hm : Rg Q H H120 := hm.tr gz_114
  replace hB : B ≤ H120.sh.length := Nat.le_trans hB ((m_Program_add z118)).mo.len
  have s_115 : Sa H113 H120 := (m_Program_add z118)
  obtain ⟨a121, e122, hG⟩ := rf_s hF; clear hF
  have qa121 : Q a121 := hm.1 _ _ _ q_p0 e122
  obtain ⟨q123, hF⟩ := ck_s hG; clear hG
  rw [(s_115).1] at q123
  obtain ⟨v125, H126, z124, hG⟩ := bC_s hF; clear hF
  have gz_116 := (g_Program_add z124 hm.1 qa121)
  replace hm : Rg Q H H126 := hm.tr gz_116
  replace hB : B ≤ H126.sh.length := Nat.le_trans hB ((m_Program_add z124)).mo.len
  have s_117 : Sa H113 H126 := (s_115).tr (m_Program_add z124)
  have hr := Option.some.inj hG; subst hr
  exact ⟨hm, (fun x e => by cases e)⟩
set_option maxRecDepth 20000 in
set_option maxHeartbeats 2000000 in
theorem g_Body_inParens {N : Nat} {Q : Nat → Prop} {B : Nat} {o : Orc_BodyE} {hmo : mo_BodyE o} (hgo : rg_BodyE Q o B) {p0 : Nat} {p1 : Int32} {H : Hp} {r : (Ot Int32) × Hp} (hn : ∀ a, B ≤ a → Q a) (hF : F_Body_inParens N o p0 p1 H = some r) (hc0 : Cl Q H) (hB : B ≤ H.sh.length) (q_p0 : Q p0) : Rg Q H r.2 ∧ (∀ x, r.1 = .inr x → Q x) := by
  unfold F_Body_inParens at hF
  have hm := Rg.rf hc0
  obtain ⟨q27, hG⟩ := ck_s hF; clear hF
  refine bT_c hG (fun x31 H30 z28 er => ?_) (fun v29 H30 z28 hF => ?_)
  · subst er; have gz := (g_Body_openParens hn z28 hm.1 hB q_p0); exact ⟨hm.tr gz.1, (fun x e => by cases e; exact gz.2 _ rfl)⟩
  clear hG
  have gz_22 := (g_Body_openParens hn z28 hm.1 hB q_p0)
  replace hm : Rg Q H H30 := hm.tr gz_22.1
  replace hB : B ≤ H30.sh.length := Nat.le_trans hB ((m_Body_openParens z28)).len
  have mz_23 : Mo H H30 := (m_Body_openParens z28)
  have q_24 := (mz_23).get q27
  refine bT_c hF (fun x35 H34 z32 er => ?_) (fun v33 H34 z32 hG => ?_)
  · subst er; have gz := (g_Body_want (hmo := hmo) hgo hn z32 hm.1 hB q_p0); exact ⟨hm.tr gz.1, (fun x e => by cases e; exact gz.2 _ rfl)⟩
  clear hF
  have gz_25 := (g_Body_want (hmo := hmo) hgo hn z32 hm.1 hB q_p0)
  replace hm : Rg Q H H34 := hm.tr gz_25.1
  replace hB : B ≤ H34.sh.length := Nat.le_trans hB ((m_Body_want hmo z32)).len
  have mz_26 : Mo H30 H34 := (m_Body_want hmo z32)
  have q_27 := (mz_26).get q_24
  refine bT_c hG (fun x39 H38 z36 er => ?_) (fun v37 H38 z36 hF => ?_)
  · subst er; have gz := (g_Body_closeParens hn z36 hm.1 hB q_p0); exact ⟨hm.tr gz.1, (fun x e => by cases e; exact gz.2 _ rfl)⟩
  clear hG
  have gz_28 := (g_Body_closeParens hn z36 hm.1 hB q_p0)
  replace hm : Rg Q H H38 := hm.tr gz_28.1
  replace hB : B ≤ H38.sh.length := Nat.le_trans hB ((m_Body_closeParens z36)).len
  have mz_29 : Mo H34 H38 := (m_Body_closeParens z36)
  have q_30 := (mz_29).get q_27
  have hr := Option.some.inj hF; subst hr
  exact ⟨hm, (fun x e => by cases e)⟩
set_option maxRecDepth 20000 in
set_option maxHeartbeats 2000000 in
theorem g_Body_called {N : Nat} {Q : Nat → Prop} {B : Nat} {o : Orc_BodyE} {hmo : mo_BodyE o} (hgo : rg_BodyE Q o B) {p0 : Nat} {p1 : Int32} {p2 : Int32} {p3 : Int32} {H : Hp} {r : (Ot Int32) × Hp} (hn : ∀ a, B ≤ a → Q a) (hF : F_Body_called N o p0 p1 p2 p3 H = some r) (hc0 : Cl Q H) (hB : B ≤ H.sh.length) (q_p0 : Q p0) : Rg Q H r.2 ∧ (∀ x, r.1 = .inr x → Q x) := by
  unfold F_Body_called at hF
  have hm := Rg.rf hc0
  obtain ⟨q35, hG⟩ := ck_s hF; clear hF
  obtain ⟨a36, e37, hF⟩ := rf_s hG; clear hG
  have qa36 : Q a36 := hm.1 _ _ _ q_p0 e37
  obtain ⟨q38, hG⟩ := ck_s hF; clear hF
  obtain ⟨v40, H41, z39, hF⟩ := bC_s hG; clear hG
  have gz_13 := (g_Lexer_advance z39 hm.1 qa36)
  replace hm : Rg Q H H41 := hm.tr gz_13
  replace hB : B ≤ H41.sh.length := Nat.le_trans hB ((m_Lexer_advance z39)).mo.len
  have s_14 : Sa H H41 := (m_Lexer_advance z39)
  refine bT_c hF (fun x45 H44 z42 er => ?_) (fun v43 H44 z42 hG => ?_)
  · subst er; have gz := (g_Body_inParens (hmo := hmo) hgo hn z42 hm.1 hB q_p0); exact ⟨hm.tr gz.1, (fun x e => by cases e; exact gz.2 _ rfl)⟩
  clear hF
  have gz_15 := (g_Body_inParens (hmo := hmo) hgo hn z42 hm.1 hB q_p0)
  replace hm : Rg Q H H44 := hm.tr gz_15.1
  replace hB : B ≤ H44.sh.length := Nat.le_trans hB ((m_Body_inParens hmo z42)).len
  have mz_16 : Mo H41 H44 := (m_Body_inParens hmo z42)
  have q_17 := (mz_16).get (by rw [(s_14).1]; exact q35)
  have q_18 := (mz_16).get (by rw [(s_14).1]; exact q38)
  obtain ⟨a46, e47, hF⟩ := rf_s hG; clear hG
  have qa46 : Q a46 := hm.1 _ _ _ q_p0 e47
  obtain ⟨q48, hG⟩ := ck_s hF; clear hF
  obtain ⟨v50, H51, z49, hF⟩ := bC_s hG; clear hG
  have gz_19 := (g_Program_add z49 hm.1 qa46)
  replace hm : Rg Q H H51 := hm.tr gz_19
  replace hB : B ≤ H51.sh.length := Nat.le_trans hB ((m_Program_add z49)).mo.len
  have s_20 : Sa H44 H51 := (m_Program_add z49)
  have hr := Option.some.inj hF; subst hr
  exact ⟨hm, (fun x e => by cases e)⟩
set_option maxRecDepth 20000 in
set_option maxHeartbeats 2000000 in
theorem gB_Body_signed_114 {N : Nat} {Q : Nat → Prop} {B : Nat} {o : Orc_BodyE} {hmo : mo_BodyE o} (hgo : rg_BodyE Q o B) {p0 : Nat} {p1 : Int32} (hn : ∀ a, B ≤ a → Q a) (q_p0 : Q p0) {l3 : Int32} {w0 : Nat} {w1 : Int32} {H : Hp} {r : (Ot Int32) × Hp} (hF : B_Body_signed_114 N o p0 p1 l3 w0 w1 H = some r) (hc0 : Cl Q H) (hB : B ≤ H.sh.length) (q_w0 : Q w0) : Rg Q H r.2 ∧ (∀ x, r.1 = .inr x → Q x) := by
  unfold B_Body_signed_114 at hF
  have hm := Rg.rf hc0
  obtain ⟨q51, hG⟩ := ck_s hF; clear hF
  obtain ⟨v53, H54, z52, hF⟩ := bC_s hG; clear hG
  have gz_52 := (g_Program_add z52 hm.1 q_w0)
  replace hm : Rg Q H H54 := hm.tr gz_52
  replace hB : B ≤ H54.sh.length := Nat.le_trans hB ((m_Program_add z52)).mo.len
  have s_53 : Sa H H54 := (m_Program_add z52)
  have hr := Option.some.inj hF; subst hr
  exact ⟨hm, (fun x e => by cases e)⟩
set_option maxRecDepth 20000 in
set_option maxHeartbeats 2000000 in
theorem gB_Body_signed_95 {N : Nat} {Q : Nat → Prop} {B : Nat} {o : Orc_BodyE} {hmo : mo_BodyE o} (hgo : rg_BodyE Q o B) {p0 : Nat} {p1 : Int32} (hn : ∀ a, B ≤ a → Q a) (q_p0 : Q p0) {l3 : Int32} {w0 : Int32} {H : Hp} {r : (Ot Int32) × Hp} (hF : B_Body_signed_95 N o p0 p1 l3 w0 H = some r) (hc0 : Cl Q H) (hB : B ≤ H.sh.length) : Rg Q H r.2 ∧ (∀ x, r.1 = .inr x → Q x) := by
  unfold B_Body_signed_95 at hF
  have hm := Rg.rf hc0
  obtain ⟨q55, hG⟩ := ck_s hF; clear hF
  obtain ⟨a56, e57, hF⟩ := rf_s hG; clear hG
  have qa56 : Q a56 := hm.1 _ _ _ q_p0 e57
  rcases ite_s hF with ⟨q_54, hG⟩ | ⟨q_54, hG⟩
  · clear hF
    have gz := gB_Body_signed_114 (hmo := hmo) hgo hn q_p0 hG hm.1 hB qa56
    exact ⟨hm.tr gz.1, gz.2⟩
  · clear hF
    have gz := gB_Body_signed_114 (hmo := hmo) hgo hn q_p0 hG hm.1 hB qa56
    exact ⟨hm.tr gz.1, gz.2⟩
set_option maxRecDepth 20000 in
set_option maxHeartbeats 2000000 in
theorem gB_Body_signed_83 {N : Nat} {Q : Nat → Prop} {B : Nat} {o : Orc_BodyE} {hmo : mo_BodyE o} (hgo : rg_BodyE Q o B) {p0 : Nat} {p1 : Int32} (hn : ∀ a, B ≤ a → Q a) (q_p0 : Q p0) {l3 : Int32} {H : Hp} {r : (Ot Int32) × Hp} (hF : B_Body_signed_83 N o p0 p1 l3 H = some r) (hc0 : Cl Q H) (hB : B ≤ H.sh.length) : Rg Q H r.2 ∧ (∀ x, r.1 = .inr x → Q x) := by
  unfold B_Body_signed_83 at hF
  have hm := Rg.rf hc0
  rcases ite_s hF with ⟨q_55, hG⟩ | ⟨q_55, hG⟩
  · clear hF
    have gz := gB_Body_signed_95 (hmo := hmo) hgo hn q_p0 hG hm.1 hB
    exact ⟨hm.tr gz.1, gz.2⟩
  · clear hF
    have gz := gB_Body_signed_95 (hmo := hmo) hgo hn q_p0 hG hm.1 hB
    exact ⟨hm.tr gz.1, gz.2⟩
set_option maxRecDepth 20000 in
set_option maxHeartbeats 2000000 in
theorem gB_Body_signed_67 {N : Nat} {Q : Nat → Prop} {B : Nat} {o : Orc_BodyE} {hmo : mo_BodyE o} (hgo : rg_BodyE Q o B) {p0 : Nat} {p1 : Int32} (hn : ∀ a, B ≤ a → Q a) (q_p0 : Q p0) {l2 : Int32} {l3 : Int32} {w0 : Int32} {H : Hp} {r : (Ot Int32) × Hp} (hF : B_Body_signed_67 N o p0 p1 l2 l3 w0 H = some r) (hc0 : Cl Q H) (hB : B ≤ H.sh.length) : Rg Q H r.2 ∧ (∀ x, r.1 = .inr x → Q x) := by
  unfold B_Body_signed_67 at hF
  have hm := Rg.rf hc0
  rcases ite_s hF with ⟨q_56, hG⟩ | ⟨q_56, hG⟩
  · clear hF
    obtain ⟨q61, hF⟩ := ck_s hG; clear hG
    obtain ⟨a62, e63, hG⟩ := rf_s hF; clear hF
    have qa62 : Q a62 := hm.1 _ _ _ q_p0 e63
    obtain ⟨q64, hF⟩ := ck_s hG; clear hG
    refine bT_c hF (fun x68 H67 z65 er => ?_) (fun v66 H67 z65 hG => ?_)
    · subst er; have gz := (g_Lexer_refuse hn z65 hm.1 hB qa62); exact ⟨hm.tr gz.1, (fun x e => by cases e; exact gz.2 _ rfl)⟩
    clear hF
    have gz_57 := (g_Lexer_refuse hn z65 hm.1 hB qa62)
    replace hm : Rg Q H H67 := hm.tr gz_57.1
    replace hB : B ≤ H67.sh.length := Nat.le_trans hB ((m_Lexer_refuse z65)).len
    have mz_58 : Mo H H67 := (m_Lexer_refuse z65)
    have q_59 := (mz_58).get q61
    have q_60 := (mz_58).get q64
    have gz := gB_Body_signed_83 (hmo := hmo) hgo hn q_p0 hG hm.1 hB
    exact ⟨hm.tr gz.1, gz.2⟩
  · clear hF
    have gz := gB_Body_signed_83 (hmo := hmo) hgo hn q_p0 hG hm.1 hB
    exact ⟨hm.tr gz.1, gz.2⟩
set_option maxRecDepth 20000 in
set_option maxHeartbeats 2000000 in
theorem gB_Body_signed_62 {N : Nat} {Q : Nat → Prop} {B : Nat} {o : Orc_BodyE} {hmo : mo_BodyE o} (hgo : rg_BodyE Q o B) {p0 : Nat} {p1 : Int32} (hn : ∀ a, B ≤ a → Q a) (q_p0 : Q p0) {l2 : Int32} {l3 : Int32} {H : Hp} {r : (Ot Int32) × Hp} (hF : B_Body_signed_62 N o p0 p1 l2 l3 H = some r) (hc0 : Cl Q H) (hB : B ≤ H.sh.length) : Rg Q H r.2 ∧ (∀ x, r.1 = .inr x → Q x) := by
  unfold B_Body_signed_62 at hF
  have hm := Rg.rf hc0
  have gz := gB_Body_signed_67 (hmo := hmo) hgo hn q_p0 hF hm.1 hB
  exact ⟨hm.tr gz.1, gz.2⟩
set_option maxRecDepth 20000 in
set_option maxHeartbeats 2000000 in
theorem g_Body_signed {N : Nat} {Q : Nat → Prop} {B : Nat} {o : Orc_BodyE} {hmo : mo_BodyE o} (hgo : rg_BodyE Q o B) {p0 : Nat} {p1 : Int32} {H : Hp} {r : (Ot Int32) × Hp} (hn : ∀ a, B ≤ a → Q a) (hF : F_Body_signed N o p0 p1 H = some r) (hc0 : Cl Q H) (hB : B ≤ H.sh.length) (q_p0 : Q p0) : Rg Q H r.2 ∧ (∀ x, r.1 = .inr x → Q x) := by
  unfold F_Body_signed at hF
  have hm := Rg.rf hc0
  obtain ⟨q69, hG⟩ := ck_s hF; clear hF
  obtain ⟨a70, e71, hF⟩ := rf_s hG; clear hG
  have qa70 : Q a70 := hm.1 _ _ _ q_p0 e71
  obtain ⟨q72, hG⟩ := ck_s hF; clear hF
  obtain ⟨x73, -, hF⟩ := bnd_g hG; clear hG
  refine bT_c hF (fun x77 H76 z74 er => ?_) (fun v75 H76 z74 hG => ?_)
  · subst er; have gz := (g_Body_deepen hn z74 hm.1 hB q_p0); exact ⟨hm.tr gz.1, (fun x e => by cases e; exact gz.2 _ rfl)⟩
  clear hF
  have gz_61 := (g_Body_deepen hn z74 hm.1 hB q_p0)
  replace hm : Rg Q H H76 := hm.tr gz_61.1
  replace hB : B ≤ H76.sh.length := Nat.le_trans hB ((m_Body_deepen z74)).len
  have mz_62 : Mo H H76 := (m_Body_deepen z74)
  have q_63 := (mz_62).get q69
  have q_64 := (mz_62).get q72
  obtain ⟨a78, e79, hF⟩ := rf_s hG; clear hG
  have qa78 : Q a78 := hm.1 _ _ _ q_p0 e79
  obtain ⟨q80, hG⟩ := ck_s hF; clear hF
  obtain ⟨v82, H83, z81, hF⟩ := bC_s hG; clear hG
  have gz_65 := (g_Lexer_advance z81 hm.1 qa78)
  replace hm : Rg Q H H83 := hm.tr gz_65
  replace hB : B ≤ H83.sh.length := Nat.le_trans hB ((m_Lexer_advance z81)).mo.len
  have s_66 : Sa H76 H83 := (m_Lexer_advance z81)
  refine bT_c hF (fun x87 H86 z84 er => ?_) (fun v85 H86 z84 hG => ?_)
  · subst er; have gz := (hgo.2 _ _ _ z84 hm.1 hB q_p0); exact ⟨hm.tr gz.1, (fun x e => by cases e; exact gz.2 _ rfl)⟩
  clear hF
  have gz_67 := (hgo.2 _ _ _ z84 hm.1 hB q_p0)
  replace hm : Rg Q H H86 := hm.tr gz_67.1
  replace hB : B ≤ H86.sh.length := Nat.le_trans hB ((hmo.2 _ _ _ z84)).len
  have mz_68 : Mo H83 H86 := (hmo.2 _ _ _ z84)
  have q_69 := (mz_68).get (by rw [(s_66).1]; exact q_63)
  have q_70 := (mz_68).get (by rw [(s_66).1]; exact q_64)
  have q_71 := (mz_68).get (by rw [(s_66).1]; exact q80)
  obtain ⟨x88, -, hF⟩ := bnd_g hG; clear hG
  obtain ⟨H89, eH89, hG⟩ := bnd_g hF; clear hF
  replace hm : Rg Q H H89 := hm.tr (by rw [eH89]; exact Rg.sD hm.1 q_p0)
  have s_72 : Sa H86 H89 := by rw [eH89]; exact Sa.rf _
  replace hB : B ≤ H89.sh.length := by rw [eH89]; exact hB
  rcases ite_s hG with ⟨q_73, hF⟩ | ⟨q_73, hF⟩
  · clear hG
    rcases ite_s hF with ⟨q_74, hG⟩ | ⟨q_74, hG⟩
    · clear hF
      have gz := gB_Body_signed_67 (hmo := hmo) hgo hn q_p0 hG hm.1 hB
      exact ⟨hm.tr gz.1, gz.2⟩
    · clear hF
      have gz := gB_Body_signed_67 (hmo := hmo) hgo hn q_p0 hG hm.1 hB
      exact ⟨hm.tr gz.1, gz.2⟩
  · clear hG
    rcases ite_s hF with ⟨q_75, hG⟩ | ⟨q_75, hG⟩
    · clear hF
      have gz := gB_Body_signed_62 (hmo := hmo) hgo hn q_p0 hG hm.1 hB
      exact ⟨hm.tr gz.1, gz.2⟩
    · clear hF
      rcases ite_s hG with ⟨q_76, hF⟩ | ⟨q_76, hF⟩
      · clear hG
        have gz := gB_Body_signed_62 (hmo := hmo) hgo hn q_p0 hF hm.1 hB
        exact ⟨hm.tr gz.1, gz.2⟩
      · clear hG
        have gz := gB_Body_signed_67 (hmo := hmo) hgo hn q_p0 hF hm.1 hB
        exact ⟨hm.tr gz.1, gz.2⟩
set_option maxRecDepth 20000 in
set_option maxHeartbeats 2000000 in
theorem g_Body_unary {N : Nat} {Q : Nat → Prop} {B : Nat} {o : Orc_BodyE} {hmo : mo_BodyE o} (hgo : rg_BodyE Q o B) {p0 : Nat} {H : Hp} {r : (Ot Int32) × Hp} (hn : ∀ a, B ≤ a → Q a) (hF : F_Body_unary N o p0 H = some r) (hc0 : Cl Q H) (hB : B ≤ H.sh.length) (q_p0 : Q p0) : Rg Q H r.2 ∧ (∀ x, r.1 = .inr x → Q x) := by
  unfold F_Body_unary at hF
  have hm := Rg.rf hc0
  obtain ⟨q153, hG⟩ := ck_s hF; clear hF
  obtain ⟨a154, e155, hF⟩ := rf_s hG; clear hG
  have qa154 : Q a154 := hm.1 _ _ _ q_p0 e155
  obtain ⟨q156, hG⟩ := ck_s hF; clear hF
  obtain ⟨x157, -, hF⟩ := bnd_g hG; clear hG
  rcases ite_s hF with ⟨q_102, hG⟩ | ⟨q_102, hG⟩
  · clear hF
    refine bT_c hG (fun x162 H161 z159 er => ?_) (fun v160 H161 z159 hF => ?_)
    · subst er; have gz := (g_Body_nameValue hn z159 hm.1 hB q_p0); exact ⟨hm.tr gz.1, (fun x e => by cases e; exact gz.2 _ rfl)⟩
    clear hG
    have gz_103 := (g_Body_nameValue hn z159 hm.1 hB q_p0)
    replace hm : Rg Q H H161 := hm.tr gz_103.1
    replace hB : B ≤ H161.sh.length := Nat.le_trans hB ((m_Body_nameValue z159)).len
    have mz_104 : Mo H H161 := (m_Body_nameValue z159)
    have q_105 := (mz_104).get q153
    have q_106 := (mz_104).get q156
    have hr := Option.some.inj hF; subst hr
    exact ⟨hm, (fun x e => by cases e)⟩
  clear hF
  rcases ite_s hG with ⟨q_107, hF⟩ | ⟨q_107, hF⟩
  · clear hG
    refine bT_c hF (fun x167 H166 z164 er => ?_) (fun v165 H166 z164 hG => ?_)
    · subst er; have gz := (g_Body_inParens (hmo := hmo) hgo hn z164 hm.1 hB q_p0); exact ⟨hm.tr gz.1, (fun x e => by cases e; exact gz.2 _ rfl)⟩
    clear hF
    have gz_108 := (g_Body_inParens (hmo := hmo) hgo hn z164 hm.1 hB q_p0)
    replace hm : Rg Q H H166 := hm.tr gz_108.1
    replace hB : B ≤ H166.sh.length := Nat.le_trans hB ((m_Body_inParens hmo z164)).len
    have mz_109 : Mo H H166 := (m_Body_inParens hmo z164)
    have q_110 := (mz_109).get q153
    have q_111 := (mz_109).get q156
    have hr := Option.some.inj hG; subst hr
    exact ⟨hm, (fun x e => by cases e)⟩
  clear hG
  rcases ite_s hF with ⟨q_112, hG⟩ | ⟨q_112, hG⟩
  · clear hF
    obtain ⟨a169, e170, hF⟩ := rf_s hG; clear hG
    have qa169 : Q a169 := hm.1 _ _ _ q_p0 e170
    obtain ⟨q171, hG⟩ := ck_s hF; clear hF
    obtain ⟨x172, -, hF⟩ := bnd_g hG; clear hG
    refine bT_c hF (fun x176 H175 z173 er => ?_) (fun v174 H175 z173 hG => ?_)
    · subst er; have gz := (g_Body_signed (hmo := hmo) hgo hn z173 hm.1 hB q_p0); exact ⟨hm.tr gz.1, (fun x e => by cases e; exact gz.2 _ rfl)⟩
    clear hF
    have gz_113 := (g_Body_signed (hmo := hmo) hgo hn z173 hm.1 hB q_p0)
    replace hm : Rg Q H H175 := hm.tr gz_113.1
    replace hB : B ≤ H175.sh.length := Nat.le_trans hB ((m_Body_signed hmo z173)).len
    have mz_114 : Mo H H175 := (m_Body_signed hmo z173)
    have q_115 := (mz_114).get q153
    have q_116 := (mz_114).get q156
    have q_117 := (mz_114).get q171
    have hr := Option.some.inj hG; subst hr
    exact ⟨hm, (fun x e => by cases e)⟩
  clear hF
  rcases ite_s hG with ⟨q_118, hF⟩ | ⟨q_118, hF⟩
  · clear hG
    obtain ⟨a178, e179, hG⟩ := rf_s hF; clear hF
    have qa178 : Q a178 := hm.1 _ _ _ q_p0 e179
    obtain ⟨q180, hF⟩ := ck_s hG; clear hG
    obtain ⟨x181, -, hG⟩ := bnd_g hF; clear hF
    refine bT_c hG (fun x185 H184 z182 er => ?_) (fun v183 H184 z182 hF => ?_)
    · subst er; have gz := (g_Body_signed (hmo := hmo) hgo hn z182 hm.1 hB q_p0); exact ⟨hm.tr gz.1, (fun x e => by cases e; exact gz.2 _ rfl)⟩
    clear hG
    have gz_119 := (g_Body_signed (hmo := hmo) hgo hn z182 hm.1 hB q_p0)
    replace hm : Rg Q H H184 := hm.tr gz_119.1
    replace hB : B ≤ H184.sh.length := Nat.le_trans hB ((m_Body_signed hmo z182)).len
    have mz_120 : Mo H H184 := (m_Body_signed hmo z182)
    have q_121 := (mz_120).get q153
    have q_122 := (mz_120).get q156
    have q_123 := (mz_120).get q180
    have hr := Option.some.inj hF; subst hr
    exact ⟨hm, (fun x e => by cases e)⟩
  clear hG
  rcases ite_s hF with ⟨q_124, hG⟩ | ⟨q_124, hG⟩
  · clear hF
    refine bT_c hG (fun x190 H189 z187 er => ?_) (fun v188 H189 z187 hF => ?_)
    · subst er; have gz := (g_Body_called (hmo := hmo) hgo hn z187 hm.1 hB q_p0); exact ⟨hm.tr gz.1, (fun x e => by cases e; exact gz.2 _ rfl)⟩
    clear hG
    have gz_125 := (g_Body_called (hmo := hmo) hgo hn z187 hm.1 hB q_p0)
    replace hm : Rg Q H H189 := hm.tr gz_125.1
    replace hB : B ≤ H189.sh.length := Nat.le_trans hB ((m_Body_called hmo z187)).len
    have mz_126 : Mo H H189 := (m_Body_called hmo z187)
    have q_127 := (mz_126).get q153
    have q_128 := (mz_126).get q156
    have hr := Option.some.inj hF; subst hr
    exact ⟨hm, (fun x e => by cases e)⟩
  clear hF
  rcases ite_s hG with ⟨q_129, hF⟩ | ⟨q_129, hF⟩
  · clear hG
    refine bT_c hF (fun x195 H194 z192 er => ?_) (fun v193 H194 z192 hG => ?_)
    · subst er; have gz := (g_Body_called (hmo := hmo) hgo hn z192 hm.1 hB q_p0); exact ⟨hm.tr gz.1, (fun x e => by cases e; exact gz.2 _ rfl)⟩
    clear hF
    have gz_130 := (g_Body_called (hmo := hmo) hgo hn z192 hm.1 hB q_p0)
    replace hm : Rg Q H H194 := hm.tr gz_130.1
    replace hB : B ≤ H194.sh.length := Nat.le_trans hB ((m_Body_called hmo z192)).len
    have mz_131 : Mo H H194 := (m_Body_called hmo z192)
    have q_132 := (mz_131).get q153
    have q_133 := (mz_131).get q156
    have hr := Option.some.inj hG; subst hr
    exact ⟨hm, (fun x e => by cases e)⟩
  clear hG
  rcases ite_s hF with ⟨q_134, hG⟩ | ⟨q_134, hG⟩
  · clear hF
    refine bT_c hG (fun x200 H199 z197 er => ?_) (fun v198 H199 z197 hF => ?_)
    · subst er; have gz := (g_Body_called (hmo := hmo) hgo hn z197 hm.1 hB q_p0); exact ⟨hm.tr gz.1, (fun x e => by cases e; exact gz.2 _ rfl)⟩
    clear hG
    have gz_135 := (g_Body_called (hmo := hmo) hgo hn z197 hm.1 hB q_p0)
    replace hm : Rg Q H H199 := hm.tr gz_135.1
    replace hB : B ≤ H199.sh.length := Nat.le_trans hB ((m_Body_called hmo z197)).len
    have mz_136 : Mo H H199 := (m_Body_called hmo z197)
    have q_137 := (mz_136).get q153
    have q_138 := (mz_136).get q156
    have hr := Option.some.inj hF; subst hr
    exact ⟨hm, (fun x e => by cases e)⟩
  clear hF
  rcases ite_s hG with ⟨q_139, hF⟩ | ⟨q_139, hF⟩
  · clear hG
    refine bT_c hF (fun x205 H204 z202 er => ?_) (fun v203 H204 z202 hG => ?_)
    · subst er; have gz := (g_Body_called (hmo := hmo) hgo hn z202 hm.1 hB q_p0); exact ⟨hm.tr gz.1, (fun x e => by cases e; exact gz.2 _ rfl)⟩
    clear hF
    have gz_140 := (g_Body_called (hmo := hmo) hgo hn z202 hm.1 hB q_p0)
    replace hm : Rg Q H H204 := hm.tr gz_140.1
    replace hB : B ≤ H204.sh.length := Nat.le_trans hB ((m_Body_called hmo z202)).len
    have mz_141 : Mo H H204 := (m_Body_called hmo z202)
    have q_142 := (mz_141).get q153
    have q_143 := (mz_141).get q156
    have hr := Option.some.inj hG; subst hr
    exact ⟨hm, (fun x e => by cases e)⟩
  clear hG
  rcases ite_s hF with ⟨q_144, hG⟩ | ⟨q_144, hG⟩
  · clear hF
    refine bT_c hG (fun x210 H209 z207 er => ?_) (fun v208 H209 z207 hF => ?_)
    · subst er; have gz := (g_Body_called (hmo := hmo) hgo hn z207 hm.1 hB q_p0); exact ⟨hm.tr gz.1, (fun x e => by cases e; exact gz.2 _ rfl)⟩
    clear hG
    have gz_145 := (g_Body_called (hmo := hmo) hgo hn z207 hm.1 hB q_p0)
    replace hm : Rg Q H H209 := hm.tr gz_145.1
    replace hB : B ≤ H209.sh.length := Nat.le_trans hB ((m_Body_called hmo z207)).len
    have mz_146 : Mo H H209 := (m_Body_called hmo z207)
    have q_147 := (mz_146).get q153
    have q_148 := (mz_146).get q156
    have hr := Option.some.inj hF; subst hr
    exact ⟨hm, (fun x e => by cases e)⟩
  clear hF
  rcases ite_s hG with ⟨q_149, hF⟩ | ⟨q_149, hF⟩
  · clear hG
    refine bT_c hF (fun x215 H214 z212 er => ?_) (fun v213 H214 z212 hG => ?_)
    · subst er; have gz := (g_Body_called (hmo := hmo) hgo hn z212 hm.1 hB q_p0); exact ⟨hm.tr gz.1, (fun x e => by cases e; exact gz.2 _ rfl)⟩
    clear hF
    have gz_150 := (g_Body_called (hmo := hmo) hgo hn z212 hm.1 hB q_p0)
    replace hm : Rg Q H H214 := hm.tr gz_150.1
    replace hB : B ≤ H214.sh.length := Nat.le_trans hB ((m_Body_called hmo z212)).len
    have mz_151 : Mo H H214 := (m_Body_called hmo z212)
    have q_152 := (mz_151).get q153
    have q_153 := (mz_151).get q156
    have hr := Option.some.inj hG; subst hr
    exact ⟨hm, (fun x e => by cases e)⟩
  clear hG
  rcases ite_s hF with ⟨q_154, hG⟩ | ⟨q_154, hG⟩
  · clear hF
    refine bT_c hG (fun x220 H219 z217 er => ?_) (fun v218 H219 z217 hF => ?_)
    · subst er; have gz := (g_Body_readHas (hmo := hmo) hgo hn z217 hm.1 hB q_p0); exact ⟨hm.tr gz.1, (fun x e => by cases e; exact gz.2 _ rfl)⟩
    clear hG
    have gz_155 := (g_Body_readHas (hmo := hmo) hgo hn z217 hm.1 hB q_p0)
    replace hm : Rg Q H H219 := hm.tr gz_155.1
    replace hB : B ≤ H219.sh.length := Nat.le_trans hB ((m_Body_readHas hmo z217)).len
    have mz_156 : Mo H H219 := (m_Body_readHas hmo z217)
    have q_157 := (mz_156).get q153
    have q_158 := (mz_156).get q156
    have hr := Option.some.inj hF; subst hr
    exact ⟨hm, (fun x e => by cases e)⟩
  clear hF
  obtain ⟨a221, e222, hF⟩ := rf_s hG; clear hG
  have qa221 : Q a221 := hm.1 _ _ _ q_p0 e222
  obtain ⟨q223, hG⟩ := ck_s hF; clear hF
  obtain ⟨x224, -, hF⟩ := bnd_g hG; clear hG
  refine bT_c hF (fun x228 H227 z225 er => ?_) (fun v226 H227 z225 hG => ?_)
  · subst er; have gz := (g_Body_plainValue hn z225 hm.1 hB q_p0); exact ⟨hm.tr gz.1, (fun x e => by cases e; exact gz.2 _ rfl)⟩
  clear hF
  have gz_159 := (g_Body_plainValue hn z225 hm.1 hB q_p0)
  replace hm : Rg Q H H227 := hm.tr gz_159.1
  replace hB : B ≤ H227.sh.length := Nat.le_trans hB ((m_Body_plainValue z225)).len
  have mz_160 : Mo H H227 := (m_Body_plainValue z225)
  have q_161 := (mz_160).get q153
  have q_162 := (mz_160).get q156
  have q_163 := (mz_160).get q223
  have hr := Option.some.inj hG; subst hr
  exact ⟨hm, (fun x e => by cases e)⟩
set_option maxRecDepth 20000 in
set_option maxHeartbeats 2000000 in
theorem gB_Body_signsFrom_111 {N : Nat} {Q : Nat → Prop} {B : Nat} {o : Orc_BodyE} {hmo : mo_BodyE o} (hgo : rg_BodyE Q o B) {p0 : Nat} {p1 : Int32} {kq22 : Int32 → Int32 → Hp → Option ((Ot Int32) × Hp)} (hn : ∀ a, B ≤ a → Q a) (q_p0 : Q p0) (hg22 : ∀ (l2 : Int32) (l3 : Int32) (H : Hp) (r : (Ot Int32) × Hp), kq22 l2 l3 H = some r → Cl Q H → B ≤ H.sh.length → Rg Q H r.2 ∧ (∀ x, r.1 = .inr x → Q x)) {l2 : Int32} {l3 : Int32} {l4 : Int32} {l5 : Int32} {l6 : Int32} {w0 : Int32} {H : Hp} {r : (Ot Int32) × Hp} (hF : B_Body_signsFrom_111 N o p0 p1 kq22 l2 l3 l4 l5 l6 w0 H = some r) (hc0 : Cl Q H) (hB : B ≤ H.sh.length) : Rg Q H r.2 ∧ (∀ x, r.1 = .inr x → Q x) := by
  unfold B_Body_signsFrom_111 at hF
  have hm := Rg.rf hc0
  obtain ⟨q23, hG⟩ := ck_s hF; clear hF
  refine bT_c hG (fun x27 H26 z24 er => ?_) (fun v25 H26 z24 hF => ?_)
  · subst er; have gz := (g_Body_joined hn z24 hm.1 hB q_p0); exact ⟨hm.tr gz.1, (fun x e => by cases e; exact gz.2 _ rfl)⟩
  clear hG
  have gz_43 := (g_Body_joined hn z24 hm.1 hB q_p0)
  replace hm : Rg Q H H26 := hm.tr gz_43.1
  replace hB : B ≤ H26.sh.length := Nat.le_trans hB ((m_Body_joined z24)).len
  have mz_44 : Mo H H26 := (m_Body_joined z24)
  have q_45 := (mz_44).get q23
  obtain ⟨a28, e29, hG⟩ := rf_s hF; clear hF
  have qa28 : Q a28 := hm.1 _ _ _ q_p0 e29
  obtain ⟨q30, hF⟩ := ck_s hG; clear hG
  obtain ⟨v32, H33, z31, hG⟩ := bC_s hF; clear hF
  have gz_46 := (g_Program_aim z31 hm.1 qa28)
  replace hm : Rg Q H H33 := hm.tr gz_46
  replace hB : B ≤ H33.sh.length := Nat.le_trans hB ((m_Program_aim z31)).mo.len
  have s_47 : Sa H26 H33 := (m_Program_aim z31)
  rcases ite_s hG with ⟨q_48, hF⟩ | ⟨q_48, hF⟩
  · clear hG
    have hr := Option.some.inj hF; subst hr
    exact ⟨hm, (fun x e => by cases e)⟩
  · clear hG
    have gz := hg22 v25 (l3 + 1) H33 r hF hm.1 hB
    exact ⟨hm.tr gz.1, gz.2⟩
set_option maxRecDepth 20000 in
set_option maxHeartbeats 2000000 in
theorem gB_Body_signsFrom_90 {N : Nat} {Q : Nat → Prop} {B : Nat} {o : Orc_BodyE} {hmo : mo_BodyE o} (hgo : rg_BodyE Q o B) {p0 : Nat} {p1 : Int32} {kq22 : Int32 → Int32 → Hp → Option ((Ot Int32) × Hp)} (hn : ∀ a, B ≤ a → Q a) (q_p0 : Q p0) (hg22 : ∀ (l2 : Int32) (l3 : Int32) (H : Hp) (r : (Ot Int32) × Hp), kq22 l2 l3 H = some r → Cl Q H → B ≤ H.sh.length → Rg Q H r.2 ∧ (∀ x, r.1 = .inr x → Q x)) {l2 : Int32} {l3 : Int32} {l4 : Int32} {l5 : Int32} {w0 : Int32} {H : Hp} {r : (Ot Int32) × Hp} (hF : B_Body_signsFrom_90 N o p0 p1 kq22 l2 l3 l4 l5 w0 H = some r) (hc0 : Cl Q H) (hB : B ≤ H.sh.length) : Rg Q H r.2 ∧ (∀ x, r.1 = .inr x → Q x) := by
  unfold B_Body_signsFrom_90 at hF
  have hm := Rg.rf hc0
  rcases ite_s hF with ⟨q_49, hG⟩ | ⟨q_49, hG⟩
  · clear hF
    obtain ⟨q36, hF⟩ := ck_s hG; clear hG
    refine bT_c hF (fun x40 H39 z37 er => ?_) (fun v38 H39 z37 hG => ?_)
    · subst er; have gz := (hgo.2 _ _ _ z37 hm.1 hB q_p0); exact ⟨hm.tr gz.1, (fun x e => by cases e; exact gz.2 _ rfl)⟩
    clear hF
    have gz_50 := (hgo.2 _ _ _ z37 hm.1 hB q_p0)
    replace hm : Rg Q H H39 := hm.tr gz_50.1
    replace hB : B ≤ H39.sh.length := Nat.le_trans hB ((hmo.2 _ _ _ z37)).len
    have mz_51 : Mo H H39 := (hmo.2 _ _ _ z37)
    have q_52 := (mz_51).get q36
    have gz := gB_Body_signsFrom_111 (hmo := hmo) hgo hn q_p0 hg22 hG hm.1 hB
    exact ⟨hm.tr gz.1, gz.2⟩
  · clear hF
    obtain ⟨q41, hF⟩ := ck_s hG; clear hG
    refine bT_c hF (fun x45 H44 z42 er => ?_) (fun v43 H44 z42 hG => ?_)
    · subst er; have gz := (hgo.1 _ _ _ _ z42 hm.1 hB q_p0); exact ⟨hm.tr gz.1, (fun x e => by cases e; exact gz.2 _ rfl)⟩
    clear hF
    have gz_53 := (hgo.1 _ _ _ _ z42 hm.1 hB q_p0)
    replace hm : Rg Q H H44 := hm.tr gz_53.1
    replace hB : B ≤ H44.sh.length := Nat.le_trans hB ((hmo.1 _ _ _ _ z42)).len
    have mz_54 : Mo H H44 := (hmo.1 _ _ _ _ z42)
    have q_55 := (mz_54).get q41
    have gz := gB_Body_signsFrom_111 (hmo := hmo) hgo hn q_p0 hg22 hG hm.1 hB
    exact ⟨hm.tr gz.1, gz.2⟩
set_option maxRecDepth 20000 in
set_option maxHeartbeats 2000000 in
theorem gB_Body_signsFrom_87 {N : Nat} {Q : Nat → Prop} {B : Nat} {o : Orc_BodyE} {hmo : mo_BodyE o} (hgo : rg_BodyE Q o B) {p0 : Nat} {p1 : Int32} {kq22 : Int32 → Int32 → Hp → Option ((Ot Int32) × Hp)} (hn : ∀ a, B ≤ a → Q a) (q_p0 : Q p0) (hg22 : ∀ (l2 : Int32) (l3 : Int32) (H : Hp) (r : (Ot Int32) × Hp), kq22 l2 l3 H = some r → Cl Q H → B ≤ H.sh.length → Rg Q H r.2 ∧ (∀ x, r.1 = .inr x → Q x)) {l2 : Int32} {l3 : Int32} {l4 : Int32} {l5 : Int32} {w0 : Nat} {w1 : Int32} {H : Hp} {r : (Ot Int32) × Hp} (hF : B_Body_signsFrom_87 N o p0 p1 kq22 l2 l3 l4 l5 w0 w1 H = some r) (hc0 : Cl Q H) (hB : B ≤ H.sh.length) (q_w0 : Q w0) : Rg Q H r.2 ∧ (∀ x, r.1 = .inr x → Q x) := by
  unfold B_Body_signsFrom_87 at hF
  have hm := Rg.rf hc0
  obtain ⟨q46, hG⟩ := ck_s hF; clear hF
  obtain ⟨v48, H49, z47, hF⟩ := bC_s hG; clear hG
  have gz_56 := (g_Body_jump z47 hm.1 q_w0)
  replace hm : Rg Q H H49 := hm.tr gz_56
  replace hB : B ≤ H49.sh.length := Nat.le_trans hB ((m_Body_jump z47)).mo.len
  have s_57 : Sa H H49 := (m_Body_jump z47)
  have gz := gB_Body_signsFrom_90 (hmo := hmo) hgo hn q_p0 hg22 hF hm.1 hB
  exact ⟨hm.tr gz.1, gz.2⟩
set_option maxRecDepth 20000 in
set_option maxHeartbeats 2000000 in
theorem gB_Body_signsFrom_22 {N : Nat} {Q : Nat → Prop} {B : Nat} {o : Orc_BodyE} {hmo : mo_BodyE o} (hgo : rg_BodyE Q o B) {p0 : Nat} {p1 : Int32} (hn : ∀ a, B ≤ a → Q a) (q_p0 : Q p0) : ∀ (n : Nat) (l2 : Int32) (l3 : Int32) (H : Hp) (r : (Ot Int32) × Hp), B_Body_signsFrom_22 N o p0 p1 n l2 l3 H = some r → Cl Q H → B ≤ H.sh.length → Rg Q H r.2 ∧ (∀ x, r.1 = .inr x → Q x) := by
  intro n
  induction n with
  | zero => intro l2 l3 H r hF; rw [B_Body_signsFrom_22] at hF; cases hF
  | succ n ih =>
    intro l2 l3 H r hF hc0 hB
    rw [B_Body_signsFrom_22] at hF
    have hm := Rg.rf hc0
    rcases ite_s hF with ⟨q_58, hG⟩ | ⟨q_58, hG⟩
    · clear hF
      have hr := Option.some.inj hG; subst hr
      exact ⟨hm, (fun x e => by cases e)⟩
    · clear hF
      obtain ⟨q51, hF⟩ := ck_s hG; clear hG
      obtain ⟨a52, e53, hG⟩ := rf_s hF; clear hF
      have qa52 : Q a52 := hm.1 _ _ _ q_p0 e53
      obtain ⟨q54, hF⟩ := ck_s hG; clear hG
      obtain ⟨x55, -, hG⟩ := bnd_g hF; clear hF
      obtain ⟨v57, H58, z56, hF⟩ := bC_s hG; clear hG
      have gz_59 := (g_Body_levelOf z56 hm.1)
      replace hm : Rg Q H H58 := hm.tr gz_59
      replace hB : B ≤ H58.sh.length := Nat.le_trans hB ((m_Body_levelOf z56)).mo.len
      have s_60 : Sa H H58 := (m_Body_levelOf z56)
      rcases ite_s hF with ⟨q_61, hG⟩ | ⟨q_61, hG⟩
      · clear hF
        obtain ⟨a60, e61, hF⟩ := rf_s hG; clear hG
        have qa60 : Q a60 := hm.1 _ _ _ q_p0 e61
        obtain ⟨q62, hG⟩ := ck_s hF; clear hF
        rw [(s_60).1] at q62
        obtain ⟨x63, -, hF⟩ := bnd_g hG; clear hG
        obtain ⟨a64, e65, hG⟩ := rf_s hF; clear hF
        have qa64 : Q a64 := hm.1 _ _ _ q_p0 e65
        obtain ⟨q66, hF⟩ := ck_s hG; clear hG
        rw [(s_60).1] at q66
        obtain ⟨x67, -, hG⟩ := bnd_g hF; clear hF
        obtain ⟨a68, e69, hF⟩ := rf_s hG; clear hG
        have qa68 : Q a68 := hm.1 _ _ _ q_p0 e69
        obtain ⟨q70, hG⟩ := ck_s hF; clear hF
        rw [(s_60).1] at q70
        obtain ⟨v72, H73, z71, hF⟩ := bC_s hG; clear hG
        have gz_62 := (g_Lexer_advance z71 hm.1 qa68)
        replace hm : Rg Q H H73 := hm.tr gz_62
        replace hB : B ≤ H73.sh.length := Nat.le_trans hB ((m_Lexer_advance z71)).mo.len
        have s_63 : Sa H H73 := (s_60).tr (m_Lexer_advance z71)
        rcases ite_s hF with ⟨q_64, hG⟩ | ⟨q_64, hG⟩
        · clear hF
          rcases ite_s hG with ⟨q_65, hF⟩ | ⟨q_65, hF⟩
          · clear hG
            have gz := gB_Body_signsFrom_87 (hmo := hmo) hgo hn q_p0 ih hF hm.1 hB q_p0
            exact ⟨hm.tr gz.1, gz.2⟩
          · clear hG
            have gz := gB_Body_signsFrom_87 (hmo := hmo) hgo hn q_p0 ih hF hm.1 hB q_p0
            exact ⟨hm.tr gz.1, gz.2⟩
        · clear hF
          have gz := gB_Body_signsFrom_90 (hmo := hmo) hgo hn q_p0 ih hG hm.1 hB
          exact ⟨hm.tr gz.1, gz.2⟩
      · clear hF
        have hr := Option.some.inj hG; subst hr
        exact ⟨hm, (fun x e => by cases e)⟩
set_option maxRecDepth 20000 in
set_option maxHeartbeats 2000000 in
theorem gB_Body_signsFrom_19 {N : Nat} {Q : Nat → Prop} {B : Nat} {o : Orc_BodyE} {hmo : mo_BodyE o} (hgo : rg_BodyE Q o B) {p0 : Nat} {p1 : Int32} (hn : ∀ a, B ≤ a → Q a) (q_p0 : Q p0) {w0 : Int32} {H : Hp} {r : (Ot Int32) × Hp} (hF : B_Body_signsFrom_19 N o p0 p1 w0 H = some r) (hc0 : Cl Q H) (hB : B ≤ H.sh.length) : Rg Q H r.2 ∧ (∀ x, r.1 = .inr x → Q x) := by
  unfold B_Body_signsFrom_19 at hF
  have hm := Rg.rf hc0
  have gz := gB_Body_signsFrom_22 (hmo := hmo) hgo hn q_p0 N w0 0 H r hF hm.1 hB
  exact ⟨hm.tr gz.1, gz.2⟩
set_option maxRecDepth 20000 in
set_option maxHeartbeats 2000000 in
theorem g_Body_signsFrom {N : Nat} {Q : Nat → Prop} {B : Nat} {o : Orc_BodyE} {hmo : mo_BodyE o} (hgo : rg_BodyE Q o B) {p0 : Nat} {p1 : Int32} {H : Hp} {r : (Ot Int32) × Hp} (hn : ∀ a, B ≤ a → Q a) (hF : F_Body_signsFrom N o p0 p1 H = some r) (hc0 : Cl Q H) (hB : B ≤ H.sh.length) (q_p0 : Q p0) : Rg Q H r.2 ∧ (∀ x, r.1 = .inr x → Q x) := by
  unfold F_Body_signsFrom at hF
  have hm := Rg.rf hc0
  rcases ite_s hF with ⟨q_66, hG⟩ | ⟨q_66, hG⟩
  · clear hF
    obtain ⟨q77, hF⟩ := ck_s hG; clear hG
    refine bT_c hF (fun x81 H80 z78 er => ?_) (fun v79 H80 z78 hG => ?_)
    · subst er; have gz := (hgo.2 _ _ _ z78 hm.1 hB q_p0); exact ⟨hm.tr gz.1, (fun x e => by cases e; exact gz.2 _ rfl)⟩
    clear hF
    have gz_67 := (hgo.2 _ _ _ z78 hm.1 hB q_p0)
    replace hm : Rg Q H H80 := hm.tr gz_67.1
    replace hB : B ≤ H80.sh.length := Nat.le_trans hB ((hmo.2 _ _ _ z78)).len
    have mz_68 : Mo H H80 := (hmo.2 _ _ _ z78)
    have q_69 := (mz_68).get q77
    have gz := gB_Body_signsFrom_19 (hmo := hmo) hgo hn q_p0 hG hm.1 hB
    exact ⟨hm.tr gz.1, gz.2⟩
  · clear hF
    obtain ⟨q82, hF⟩ := ck_s hG; clear hG
    refine bT_c hF (fun x86 H85 z83 er => ?_) (fun v84 H85 z83 hG => ?_)
    · subst er; have gz := (hgo.1 _ _ _ _ z83 hm.1 hB q_p0); exact ⟨hm.tr gz.1, (fun x e => by cases e; exact gz.2 _ rfl)⟩
    clear hF
    have gz_70 := (hgo.1 _ _ _ _ z83 hm.1 hB q_p0)
    replace hm : Rg Q H H85 := hm.tr gz_70.1
    replace hB : B ≤ H85.sh.length := Nat.le_trans hB ((hmo.1 _ _ _ _ z83)).len
    have mz_71 : Mo H H85 := (hmo.1 _ _ _ _ z83)
    have q_72 := (mz_71).get q82
    have gz := gB_Body_signsFrom_19 (hmo := hmo) hgo hn q_p0 hG hm.1 hB
    exact ⟨hm.tr gz.1, gz.2⟩
theorem gX_BodyE {N : Nat} {Q : Nat → Prop} {B : Nat} (hn : ∀ a, B ≤ a → Q a) : ∀ d, rg_BodyE Q (X_BodyE N d) B := by
  intro d
  induction d with
  | zero => exact ⟨(fun _ _ _ _ hz => absurd (show none = some _ from hz) (by simp)), (fun _ _ _ hz => absurd (show none = some _ from hz) (by simp))⟩
  | succ d ih => exact ⟨(fun _ _ _ _ hz hc hB qa0 => g_Body_signsFrom (hmo := moX_BodyE d) ih hn hz hc hB qa0), (fun _ _ _ hz hc hB qa0 => g_Body_unary (hmo := moX_BodyE d) ih hn hz hc hB qa0)⟩
set_option maxRecDepth 20000 in
set_option maxHeartbeats 2000000 in
theorem g_Body_tellLocal {N : Nat} {Q : Nat → Prop} {p0 : Nat} {p1 : Nat} {p2 : Int32} {p3 : Int32} {H : Hp} {r : Unit × Hp} (hF : F_Body_tellLocal N p0 p1 p2 p3 H = some r) (hc0 : Cl Q H) (q_p0 : Q p0) (q_p1 : Q p1) : Rg Q H r.2 := by
  unfold F_Body_tellLocal at hF
  have hm := Rg.rf hc0
  obtain ⟨q21, hG⟩ := ck_s hF; clear hF
  obtain ⟨a22, e23, hF⟩ := rf_s hG; clear hG
  have qa22 : Q a22 := hm.1 _ _ _ q_p0 e23
  obtain ⟨x24, -, hG⟩ := bnd_g hF; clear hF
  obtain ⟨q25, hF⟩ := ck_s hG; clear hG
  obtain ⟨v27, H28, z26, hG⟩ := bC_s hF; clear hF
  have gz_5 := (g_Program_tell z26 hm.1 qa22 q_p1)
  replace hm : Rg Q H H28 := hm.tr gz_5
  have s_6 : Sa H H28 := (m_Program_tell z26)
  obtain ⟨x29, -, hF⟩ := bnd_g hG; clear hG
  obtain ⟨H30, eH30, hG⟩ := bnd_g hF; clear hF
  replace hm : Rg Q H H30 := hm.tr (by rw [eH30]; exact Rg.sD hm.1 q_p0)
  have s_7 : Sa H H30 := by rw [eH30]; exact s_6
  have hr := Option.some.inj hG; subst hr
  exact hm
set_option maxRecDepth 20000 in
set_option maxHeartbeats 2000000 in
theorem g_Body_readLet {N : Nat} {Q : Nat → Prop} {p0 : Nat} {H : Hp} {r : (Ot Unit) × Hp} {B : Nat} (hn : ∀ a, B ≤ a → Q a) (hF : F_Body_readLet N p0 H = some r) (hc0 : Cl Q H) (hB : B ≤ H.sh.length) (q_p0 : Q p0) : Rg Q H r.2 ∧ (∀ x, r.1 = .inr x → Q x) := by
  unfold F_Body_readLet at hF
  have hm := Rg.rf hc0
  obtain ⟨q93, hG⟩ := ck_s hF; clear hF
  obtain ⟨a94, e95, hF⟩ := rf_s hG; clear hG
  have qa94 : Q a94 := hm.1 _ _ _ q_p0 e95
  obtain ⟨q96, hG⟩ := ck_s hF; clear hF
  obtain ⟨v98, H99, z97, hF⟩ := bC_s hG; clear hG
  have gz_86 := (g_Lexer_advance z97 hm.1 qa94)
  replace hm : Rg Q H H99 := hm.tr gz_86
  replace hB : B ≤ H99.sh.length := Nat.le_trans hB ((m_Lexer_advance z97)).mo.len
  have s_87 : Sa H H99 := (m_Lexer_advance z97)
  refine bT_c hF (fun x103 H102 z100 er => ?_) (fun v101 H102 z100 hG => ?_)
  · subst er; have gz := (g_Body_newLocal hn z100 hm.1 hB q_p0); exact ⟨hm.tr gz.1, (fun x e => by cases e; exact gz.2.2 _ rfl)⟩
  clear hF
  have gz_88 := (g_Body_newLocal hn z100 hm.1 hB q_p0)
  replace hm : Rg Q H H102 := hm.tr gz_88.1
  replace hB : B ≤ H102.sh.length := Nat.le_trans hB ((m_Body_newLocal z100)).len
  have mz_89 : Mo H99 H102 := (m_Body_newLocal z100)
  have q_90 := (mz_89).get (by rw [(s_87).1]; exact q93)
  have q_91 := (mz_89).get (by rw [(s_87).1]; exact q96)
  obtain ⟨a104, ea104, hF⟩ := on_s hG; clear hG
  subst ea104
  have qa104 : Q a104 := gz_88.2.1 _ rfl
  obtain ⟨a105, e106, hG⟩ := rf_s hF; clear hF
  have qa105 : Q a105 := hm.1 _ _ _ q_p0 e106
  obtain ⟨q107, hF⟩ := ck_s hG; clear hG
  refine bT_c hF (fun x111 H110 z108 er => ?_) (fun v109 H110 z108 hG => ?_)
  · subst er; have gz := (g_Lexer_take hn z108 hm.1 hB qa105); exact ⟨hm.tr gz.1, (fun x e => by cases e; exact gz.2 _ rfl)⟩
  clear hF
  have gz_92 := (g_Lexer_take hn z108 hm.1 hB qa105)
  replace hm : Rg Q H H110 := hm.tr gz_92.1
  replace hB : B ≤ H110.sh.length := Nat.le_trans hB ((m_Lexer_take z108)).len
  have mz_93 : Mo H102 H110 := (m_Lexer_take z108)
  have q_94 := (mz_93).get q_90
  have q_95 := (mz_93).get q_91
  have q_96 := (mz_93).get q107
  refine bT_c hG (fun x115 H114 z112 er => ?_) (fun v113 H114 z112 hF => ?_)
  · subst er; have gz := (g_Body_want (hmo := moX_BodyE 140) (gX_BodyE hn 140) hn z112 hm.1 hB q_p0); exact ⟨hm.tr gz.1, (fun x e => by cases e; exact gz.2 _ rfl)⟩
  clear hG
  have gz_97 := (g_Body_want (hmo := moX_BodyE 140) (gX_BodyE hn 140) hn z112 hm.1 hB q_p0)
  replace hm : Rg Q H H114 := hm.tr gz_97.1
  replace hB : B ≤ H114.sh.length := Nat.le_trans hB ((m_Body_want (moX_BodyE 140) z112)).len
  have mz_98 : Mo H110 H114 := (m_Body_want (moX_BodyE 140) z112)
  have q_99 := (mz_98).get q_94
  have q_100 := (mz_98).get q_95
  have q_101 := (mz_98).get q_96
  obtain ⟨a116, e117, hG⟩ := rf_s hF; clear hF
  have qa116 : Q a116 := hm.1 _ _ _ q_p0 e117
  obtain ⟨q118, hF⟩ := ck_s hG; clear hG
  obtain ⟨v120, H121, z119, hG⟩ := bC_s hF; clear hF
  have gz_102 := (g_Program_add z119 hm.1 qa116)
  replace hm : Rg Q H H121 := hm.tr gz_102
  replace hB : B ≤ H121.sh.length := Nat.le_trans hB ((m_Program_add z119)).mo.len
  have s_103 : Sa H114 H121 := (m_Program_add z119)
  obtain ⟨a122, e123, hF⟩ := rf_s hG; clear hG
  have qa122 : Q a122 := hm.1 _ _ _ q_p0 e123
  obtain ⟨x124, -, hG⟩ := bnd_g hF; clear hF
  obtain ⟨q125, hF⟩ := ck_s hG; clear hG
  rw [(s_103).1] at q125
  obtain ⟨v127, H128, z126, hG⟩ := bC_s hF; clear hF
  have gz_104 := (g_Program_add z126 hm.1 qa122)
  replace hm : Rg Q H H128 := hm.tr gz_104
  replace hB : B ≤ H128.sh.length := Nat.le_trans hB ((m_Program_add z126)).mo.len
  have s_105 : Sa H114 H128 := (s_103).tr (m_Program_add z126)
  obtain ⟨v130, H131, z129, hF⟩ := bC_s hG; clear hG
  have gz_106 := (g_Body_tellLocal z129 hm.1 q_p0 qa104)
  replace hm : Rg Q H H131 := hm.tr gz_106
  replace hB : B ≤ H131.sh.length := Nat.le_trans hB ((m_Body_tellLocal z129)).mo.len
  have s_107 : Sa H114 H131 := (s_105).tr (m_Body_tellLocal z129)
  obtain ⟨a132, e133, hG⟩ := rf_s hF; clear hF
  have qa132 : Q a132 := hm.1 _ _ _ q_p0 e133
  obtain ⟨q134, hF⟩ := ck_s hG; clear hG
  rw [(s_107).1] at q134
  refine bT_c hF (fun x138 H137 z135 er => ?_) (fun v136 H137 z135 hG => ?_)
  · subst er; have gz := (g_Lexer_take hn z135 hm.1 hB qa132); exact ⟨hm.tr gz.1, (fun x e => by cases e; exact gz.2 _ rfl)⟩
  clear hF
  have gz_108 := (g_Lexer_take hn z135 hm.1 hB qa132)
  replace hm : Rg Q H H137 := hm.tr gz_108.1
  replace hB : B ≤ H137.sh.length := Nat.le_trans hB ((m_Lexer_take z135)).len
  have mz_109 : Mo H131 H137 := (m_Lexer_take z135)
  have q_110 := (mz_109).get (by rw [(s_107).1]; exact q_99)
  have q_111 := (mz_109).get (by rw [(s_107).1]; exact q_100)
  have q_112 := (mz_109).get (by rw [(s_107).1]; exact q_101)
  have q_113 := (mz_109).get (by rw [(s_107).1]; exact q118)
  have q_114 := (mz_109).get (by rw [(s_107).1]; exact q125)
  have q_115 := (mz_109).get (by rw [(s_107).1]; exact q134)
  have hr := Option.some.inj hG; subst hr
  exact ⟨hm, (fun x e => by cases e)⟩
set_option maxRecDepth 20000 in
set_option maxHeartbeats 2000000 in
theorem g_Body_givenMember {N : Nat} {Q : Nat → Prop} {p0 : Nat} {p1 : Int32} {H : Hp} {r : (Ot Int32) × Hp} {B : Nat} (hn : ∀ a, B ≤ a → Q a) (hF : F_Body_givenMember N p0 p1 H = some r) (hc0 : Cl Q H) (hB : B ≤ H.sh.length) (q_p0 : Q p0) : Rg Q H r.2 ∧ (∀ x, r.1 = .inr x → Q x) := by
  unfold F_Body_givenMember at hF
  have hm := Rg.rf hc0
  obtain ⟨q49, hG⟩ := ck_s hF; clear hF
  obtain ⟨a50, e51, hF⟩ := rf_s hG; clear hG
  have qa50 : Q a50 := hm.1 _ _ _ q_p0 e51
  obtain ⟨q52, hG⟩ := ck_s hF; clear hF
  refine bT_c hG (fun x56 H55 z53 er => ?_) (fun v54 H55 z53 hF => ?_)
  · subst er; have gz := (g_Lexer_take hn z53 hm.1 hB qa50); exact ⟨hm.tr gz.1, (fun x e => by cases e; exact gz.2 _ rfl)⟩
  clear hG
  have gz_42 := (g_Lexer_take hn z53 hm.1 hB qa50)
  replace hm : Rg Q H H55 := hm.tr gz_42.1
  replace hB : B ≤ H55.sh.length := Nat.le_trans hB ((m_Lexer_take z53)).len
  have mz_43 : Mo H H55 := (m_Lexer_take z53)
  have q_44 := (mz_43).get q49
  have q_45 := (mz_43).get q52
  obtain ⟨a57, e58, hG⟩ := rf_s hF; clear hF
  have qa57 : Q a57 := hm.1 _ _ _ q_p0 e58
  obtain ⟨q59, hF⟩ := ck_s hG; clear hG
  obtain ⟨a60, e61, hG⟩ := rf_s hF; clear hF
  have qa60 : Q a60 := hm.1 _ _ _ qa57 e61
  refine bT_c hG (fun x65 H64 z62 er => ?_) (fun v63 H64 z62 hF => ?_)
  · subst er; have gz := (g_Body_memberHere hn z62 hm.1 hB q_p0 qa60); exact ⟨hm.tr gz.1, (fun x e => by cases e; exact gz.2 _ rfl)⟩
  clear hG
  have gz_46 := (g_Body_memberHere hn z62 hm.1 hB q_p0 qa60)
  replace hm : Rg Q H H64 := hm.tr gz_46.1
  replace hB : B ≤ H64.sh.length := Nat.le_trans hB ((m_Body_memberHere z62)).len
  have mz_47 : Mo H55 H64 := (m_Body_memberHere z62)
  have q_48 := (mz_47).get q_44
  have q_49 := (mz_47).get q_45
  have q_50 := (mz_47).get q59
  obtain ⟨a66, e67, hG⟩ := rf_s hF; clear hF
  have qa66 : Q a66 := hm.1 _ _ _ q_p0 e67
  obtain ⟨q68, hF⟩ := ck_s hG; clear hG
  refine bT_c hF (fun x72 H71 z69 er => ?_) (fun v70 H71 z69 hG => ?_)
  · subst er; have gz := (g_Lexer_take hn z69 hm.1 hB qa66); exact ⟨hm.tr gz.1, (fun x e => by cases e; exact gz.2 _ rfl)⟩
  clear hF
  have gz_51 := (g_Lexer_take hn z69 hm.1 hB qa66)
  replace hm : Rg Q H H71 := hm.tr gz_51.1
  replace hB : B ≤ H71.sh.length := Nat.le_trans hB ((m_Lexer_take z69)).len
  have mz_52 : Mo H64 H71 := (m_Lexer_take z69)
  have q_53 := (mz_52).get q_48
  have q_54 := (mz_52).get q_49
  have q_55 := (mz_52).get q_50
  have q_56 := (mz_52).get q68
  have hr := Option.some.inj hG; subst hr
  exact ⟨hm, (fun x e => by cases e)⟩
set_option maxRecDepth 20000 in
set_option maxHeartbeats 2000000 in
theorem gB_Body_readGiven_189 {N : Nat} {Q : Nat → Prop} {p0 : Nat} {B : Nat} (hn : ∀ a, B ≤ a → Q a) (q_p0 : Q p0)  {H : Hp} {r : (Ot Unit) × Hp} (hF : B_Body_readGiven_189 N p0  H = some r) (hc0 : Cl Q H) (hB : B ≤ H.sh.length) : Rg Q H r.2 ∧ (∀ x, r.1 = .inr x → Q x) := by
  unfold B_Body_readGiven_189 at hF
  have hm := Rg.rf hc0
  obtain ⟨q113, hG⟩ := ck_s hF; clear hF
  obtain ⟨a114, e115, hF⟩ := rf_s hG; clear hG
  have qa114 : Q a114 := hm.1 _ _ _ q_p0 e115
  obtain ⟨q116, hG⟩ := ck_s hF; clear hF
  refine bT_c hG (fun x120 H119 z117 er => ?_) (fun v118 H119 z117 hF => ?_)
  · subst er; have gz := (g_Lexer_take hn z117 hm.1 hB qa114); exact ⟨hm.tr gz.1, (fun x e => by cases e; exact gz.2 _ rfl)⟩
  clear hG
  have gz_117 := (g_Lexer_take hn z117 hm.1 hB qa114)
  replace hm : Rg Q H H119 := hm.tr gz_117.1
  replace hB : B ≤ H119.sh.length := Nat.le_trans hB ((m_Lexer_take z117)).len
  have mz_118 : Mo H H119 := (m_Lexer_take z117)
  have q_119 := (mz_118).get q113
  have q_120 := (mz_118).get q116
  have hr := Option.some.inj hF; subst hr
  exact ⟨hm, (fun x e => by cases e)⟩
set_option maxRecDepth 20000 in
set_option maxHeartbeats 2000000 in
theorem gB_Body_readGiven_42 {N : Nat} {Q : Nat → Prop} {p0 : Nat} {B : Nat} (hn : ∀ a, B ≤ a → Q a) (q_p0 : Q p0) {l2 : Nat} {H : Hp} {r : (Ot Unit) × Hp} (hF : B_Body_readGiven_42 N p0 l2 H = some r) (hc0 : Cl Q H) (hB : B ≤ H.sh.length) (q_l2 : Q l2) : Rg Q H r.2 ∧ (∀ x, r.1 = .inr x → Q x) := by
  unfold B_Body_readGiven_42 at hF
  have hm := Rg.rf hc0
  obtain ⟨q121, hG⟩ := ck_s hF; clear hF
  obtain ⟨a122, e123, hF⟩ := rf_s hG; clear hG
  have qa122 : Q a122 := hm.1 _ _ _ q_p0 e123
  obtain ⟨q124, hG⟩ := ck_s hF; clear hF
  obtain ⟨v126, H127, z125, hF⟩ := bC_s hG; clear hG
  have gz_121 := (g_Lexer_advance z125 hm.1 qa122)
  replace hm : Rg Q H H127 := hm.tr gz_121
  replace hB : B ≤ H127.sh.length := Nat.le_trans hB ((m_Lexer_advance z125)).mo.len
  have s_122 : Sa H H127 := (m_Lexer_advance z125)
  obtain ⟨q128, hG⟩ := ck_s hF; clear hF
  rw [(s_122).1] at q128
  obtain ⟨x129, -, hF⟩ := bnd_g hG; clear hG
  refine bT_c hF (fun x133 H132 z130 er => ?_) (fun v131 H132 z130 hG => ?_)
  · subst er; have gz := (g_Body_want (hmo := moX_BodyE 140) (gX_BodyE hn 140) hn z130 hm.1 hB q_p0); exact ⟨hm.tr gz.1, (fun x e => by cases e; exact gz.2 _ rfl)⟩
  clear hF
  have gz_123 := (g_Body_want (hmo := moX_BodyE 140) (gX_BodyE hn 140) hn z130 hm.1 hB q_p0)
  replace hm : Rg Q H H132 := hm.tr gz_123.1
  replace hB : B ≤ H132.sh.length := Nat.le_trans hB ((m_Body_want (moX_BodyE 140) z130)).len
  have mz_124 : Mo H127 H132 := (m_Body_want (moX_BodyE 140) z130)
  have q_125 := (mz_124).get (by rw [(s_122).1]; exact q121)
  have q_126 := (mz_124).get (by rw [(s_122).1]; exact q124)
  have q_127 := (mz_124).get (by rw [(s_122).1]; exact q128)
  obtain ⟨a134, e135, hF⟩ := rf_s hG; clear hG
  have qa134 : Q a134 := hm.1 _ _ _ q_p0 e135
  obtain ⟨q136, hG⟩ := ck_s hF; clear hF
  obtain ⟨v138, H139, z137, hF⟩ := bC_s hG; clear hG
  have gz_128 := (g_Program_add z137 hm.1 qa134)
  replace hm : Rg Q H H139 := hm.tr gz_128
  replace hB : B ≤ H139.sh.length := Nat.le_trans hB ((m_Program_add z137)).mo.len
  have s_129 : Sa H132 H139 := (m_Program_add z137)
  obtain ⟨a140, e141, hG⟩ := rf_s hF; clear hF
  have qa140 : Q a140 := hm.1 _ _ _ q_p0 e141
  obtain ⟨x142, -, hF⟩ := bnd_g hG; clear hG
  obtain ⟨q143, hG⟩ := ck_s hF; clear hF
  rw [(s_129).1] at q143
  obtain ⟨v145, H146, z144, hF⟩ := bC_s hG; clear hG
  have gz_130 := (g_Program_add z144 hm.1 qa140)
  replace hm : Rg Q H H146 := hm.tr gz_130
  replace hB : B ≤ H146.sh.length := Nat.le_trans hB ((m_Program_add z144)).mo.len
  have s_131 : Sa H132 H146 := (s_129).tr (m_Program_add z144)
  have gz := gB_Body_readGiven_189 hn q_p0 hF hm.1 hB
  exact ⟨hm.tr gz.1, gz.2⟩
set_option maxRecDepth 20000 in
set_option maxHeartbeats 2000000 in
theorem gB_Body_readGiven_133 {N : Nat} {Q : Nat → Prop} {p0 : Nat} {B : Nat} (hn : ∀ a, B ≤ a → Q a) (q_p0 : Q p0) {l2 : Nat} {H : Hp} {r : (Ot Unit) × Hp} (hF : B_Body_readGiven_133 N p0 l2 H = some r) (hc0 : Cl Q H) (hB : B ≤ H.sh.length) (q_l2 : Q l2) : Rg Q H r.2 ∧ (∀ x, r.1 = .inr x → Q x) := by
  unfold B_Body_readGiven_133 at hF
  have hm := Rg.rf hc0
  obtain ⟨q147, hG⟩ := ck_s hF; clear hF
  obtain ⟨x148, -, hF⟩ := bnd_g hG; clear hG
  obtain ⟨q149, hG⟩ := ck_s hF; clear hF
  refine bT_c hG (fun x153 H152 z150 er => ?_) (fun v151 H152 z150 hF => ?_)
  · subst er; have gz := (g_Body_givenMember hn z150 hm.1 hB q_p0); exact ⟨hm.tr gz.1, (fun x e => by cases e; exact gz.2 _ rfl)⟩
  clear hG
  have gz_132 := (g_Body_givenMember hn z150 hm.1 hB q_p0)
  replace hm : Rg Q H H152 := hm.tr gz_132.1
  replace hB : B ≤ H152.sh.length := Nat.le_trans hB ((m_Body_givenMember z150)).len
  have mz_133 : Mo H H152 := (m_Body_givenMember z150)
  have q_134 := (mz_133).get q147
  have q_135 := (mz_133).get q149
  obtain ⟨v155, H156, z154, hG⟩ := bC_s hF; clear hF
  have gz_136 := (g_Body_kindAt z154 hm.1 q_p0)
  replace hm : Rg Q H H156 := hm.tr gz_136
  replace hB : B ≤ H156.sh.length := Nat.le_trans hB ((m_Body_kindAt z154)).mo.len
  have s_137 : Sa H152 H156 := (m_Body_kindAt z154)
  refine bT_c hG (fun x160 H159 z157 er => ?_) (fun v158 H159 z157 hF => ?_)
  · subst er; have gz := (g_Body_want (hmo := moX_BodyE 140) (gX_BodyE hn 140) hn z157 hm.1 hB q_p0); exact ⟨hm.tr gz.1, (fun x e => by cases e; exact gz.2 _ rfl)⟩
  clear hG
  have gz_138 := (g_Body_want (hmo := moX_BodyE 140) (gX_BodyE hn 140) hn z157 hm.1 hB q_p0)
  replace hm : Rg Q H H159 := hm.tr gz_138.1
  replace hB : B ≤ H159.sh.length := Nat.le_trans hB ((m_Body_want (moX_BodyE 140) z157)).len
  have mz_139 : Mo H156 H159 := (m_Body_want (moX_BodyE 140) z157)
  have q_140 := (mz_139).get (by rw [(s_137).1]; exact q_134)
  have q_141 := (mz_139).get (by rw [(s_137).1]; exact q_135)
  obtain ⟨a161, e162, hG⟩ := rf_s hF; clear hF
  have qa161 : Q a161 := hm.1 _ _ _ q_p0 e162
  obtain ⟨q163, hF⟩ := ck_s hG; clear hG
  obtain ⟨v165, H166, z164, hG⟩ := bC_s hF; clear hF
  have gz_142 := (g_Program_add z164 hm.1 qa161)
  replace hm : Rg Q H H166 := hm.tr gz_142
  replace hB : B ≤ H166.sh.length := Nat.le_trans hB ((m_Program_add z164)).mo.len
  have s_143 : Sa H159 H166 := (m_Program_add z164)
  obtain ⟨a167, e168, hF⟩ := rf_s hG; clear hG
  have qa167 : Q a167 := hm.1 _ _ _ q_p0 e168
  obtain ⟨q169, hG⟩ := ck_s hF; clear hF
  rw [(s_143).1] at q169
  obtain ⟨v171, H172, z170, hF⟩ := bC_s hG; clear hG
  have gz_144 := (g_Program_add z170 hm.1 qa167)
  replace hm : Rg Q H H172 := hm.tr gz_144
  replace hB : B ≤ H172.sh.length := Nat.le_trans hB ((m_Program_add z170)).mo.len
  have s_145 : Sa H159 H172 := (s_143).tr (m_Program_add z170)
  have gz := gB_Body_readGiven_189 hn q_p0 hF hm.1 hB
  exact ⟨hm.tr gz.1, gz.2⟩
set_option maxRecDepth 20000 in
set_option maxHeartbeats 2000000 in
theorem gB_Body_readGiven_124 {N : Nat} {Q : Nat → Prop} {p0 : Nat} {B : Nat} (hn : ∀ a, B ≤ a → Q a) (q_p0 : Q p0) {l1 : Int32} {l2 : Nat} {H : Hp} {r : (Ot Unit) × Hp} (hF : B_Body_readGiven_124 N p0 l1 l2 H = some r) (hc0 : Cl Q H) (hB : B ≤ H.sh.length) (q_l2 : Q l2) : Rg Q H r.2 ∧ (∀ x, r.1 = .inr x → Q x) := by
  unfold B_Body_readGiven_124 at hF
  have hm := Rg.rf hc0
  obtain ⟨q173, hG⟩ := ck_s hF; clear hF
  obtain ⟨a174, e175, hF⟩ := rf_s hG; clear hG
  have qa174 : Q a174 := hm.1 _ _ _ q_p0 e175
  obtain ⟨q176, hG⟩ := ck_s hF; clear hF
  refine bT_c hG (fun x180 H179 z177 er => ?_) (fun v178 H179 z177 hF => ?_)
  · subst er; have gz := (g_Lexer_refuse hn z177 hm.1 hB qa174); exact ⟨hm.tr gz.1, (fun x e => by cases e; exact gz.2 _ rfl)⟩
  clear hG
  have gz_146 := (g_Lexer_refuse hn z177 hm.1 hB qa174)
  replace hm : Rg Q H H179 := hm.tr gz_146.1
  replace hB : B ≤ H179.sh.length := Nat.le_trans hB ((m_Lexer_refuse z177)).len
  have mz_147 : Mo H H179 := (m_Lexer_refuse z177)
  have q_148 := (mz_147).get q173
  have q_149 := (mz_147).get q176
  have gz := gB_Body_readGiven_133 hn q_p0 hF hm.1 hB q_l2
  exact ⟨hm.tr gz.1, gz.2⟩
set_option maxRecDepth 20000 in
set_option maxHeartbeats 2000000 in
theorem g_Body_readGiven {N : Nat} {Q : Nat → Prop} {p0 : Nat} {H : Hp} {r : (Ot Unit) × Hp} {B : Nat} (hn : ∀ a, B ≤ a → Q a) (hF : F_Body_readGiven N p0 H = some r) (hc0 : Cl Q H) (hB : B ≤ H.sh.length) (q_p0 : Q p0) : Rg Q H r.2 ∧ (∀ x, r.1 = .inr x → Q x) := by
  unfold F_Body_readGiven at hF
  have hm := Rg.rf hc0
  obtain ⟨q181, hG⟩ := ck_s hF; clear hF
  obtain ⟨a182, e183, hF⟩ := rf_s hG; clear hG
  have qa182 : Q a182 := hm.1 _ _ _ q_p0 e183
  obtain ⟨q184, hG⟩ := ck_s hF; clear hF
  obtain ⟨x185, -, hF⟩ := bnd_g hG; clear hG
  refine bT_c hF (fun x189 H188 z186 er => ?_) (fun v187 H188 z186 hG => ?_)
  · subst er; have gz := (g_Body_knownHere hn z186 hm.1 hB q_p0); exact ⟨hm.tr gz.1, (fun x e => by cases e; exact gz.2.2 _ rfl)⟩
  clear hF
  have gz_150 := (g_Body_knownHere hn z186 hm.1 hB q_p0)
  replace hm : Rg Q H H188 := hm.tr gz_150.1
  replace hB : B ≤ H188.sh.length := Nat.le_trans hB ((m_Body_knownHere z186)).len
  have mz_151 : Mo H H188 := (m_Body_knownHere z186)
  have q_152 := (mz_151).get q181
  have q_153 := (mz_151).get q184
  obtain ⟨a190, ea190, hF⟩ := on_s hG; clear hG
  subst ea190
  have qa190 : Q a190 := gz_150.2.1 _ rfl
  obtain ⟨a191, e192, hG⟩ := rf_s hF; clear hF
  have qa191 : Q a191 := hm.1 _ _ _ q_p0 e192
  obtain ⟨q193, hF⟩ := ck_s hG; clear hG
  obtain ⟨x194, -, hG⟩ := bnd_g hF; clear hF
  rcases ite_s hG with ⟨q_154, hF⟩ | ⟨q_154, hF⟩
  · clear hG
    obtain ⟨q196, hG⟩ := ck_s hF; clear hF
    obtain ⟨x197, -, hF⟩ := bnd_g hG; clear hG
    rcases ite_s hF with ⟨q_155, hG⟩ | ⟨q_155, hG⟩
    · clear hF
      have gz := gB_Body_readGiven_42 hn q_p0 hG hm.1 hB qa190
      exact ⟨hm.tr gz.1, gz.2⟩
    · clear hF
      obtain ⟨a199, e200, hF⟩ := rf_s hG; clear hG
      have qa199 : Q a199 := hm.1 _ _ _ q_p0 e200
      obtain ⟨q201, hG⟩ := ck_s hF; clear hF
      refine bT_c hG (fun x205 H204 z202 er => ?_) (fun v203 H204 z202 hF => ?_)
      · subst er; have gz := (g_Lexer_refuse hn z202 hm.1 hB qa199); exact ⟨hm.tr gz.1, (fun x e => by cases e; exact gz.2 _ rfl)⟩
      clear hG
      have gz_156 := (g_Lexer_refuse hn z202 hm.1 hB qa199)
      replace hm : Rg Q H H204 := hm.tr gz_156.1
      replace hB : B ≤ H204.sh.length := Nat.le_trans hB ((m_Lexer_refuse z202)).len
      have mz_157 : Mo H188 H204 := (m_Lexer_refuse z202)
      have q_158 := (mz_157).get q_152
      have q_159 := (mz_157).get q_153
      have q_160 := (mz_157).get q193
      have q_161 := (mz_157).get q196
      have q_162 := (mz_157).get q201
      have gz := gB_Body_readGiven_42 hn q_p0 hF hm.1 hB qa190
      exact ⟨hm.tr gz.1, gz.2⟩
  · clear hG
    obtain ⟨a206, e207, hG⟩ := rf_s hF; clear hF
    have qa206 : Q a206 := hm.1 _ _ _ q_p0 e207
    obtain ⟨q208, hF⟩ := ck_s hG; clear hG
    obtain ⟨x209, -, hG⟩ := bnd_g hF; clear hF
    rcases ite_s hG with ⟨q_163, hF⟩ | ⟨q_163, hF⟩
    · clear hG
      obtain ⟨q211, hG⟩ := ck_s hF; clear hF
      obtain ⟨x212, -, hF⟩ := bnd_g hG; clear hG
      rcases ite_s hF with ⟨q_164, hG⟩ | ⟨q_164, hG⟩
      · clear hF
        obtain ⟨a214, e215, hF⟩ := rf_s hG; clear hG
        have qa214 : Q a214 := hm.1 _ _ _ q_p0 e215
        obtain ⟨q216, hG⟩ := ck_s hF; clear hF
        obtain ⟨a217, e218, hF⟩ := rf_s hG; clear hG
        have qa217 : Q a217 := hm.1 _ _ _ qa214 e218
        obtain ⟨x219, -, hG⟩ := bnd_g hF; clear hF
        obtain ⟨n220, q221, hF⟩ := ar_s hG; clear hG
        obtain ⟨q222, hG⟩ := ck_s hF; clear hF
        obtain ⟨x223, -, hF⟩ := bnd_g hG; clear hG
        obtain ⟨x224, -, hG⟩ := bnd_g hF; clear hF
        rcases ite_s hG with ⟨q_165, hF⟩ | ⟨q_165, hF⟩
        · clear hG
          have gz := gB_Body_readGiven_124 hn q_p0 hF hm.1 hB qa190
          exact ⟨hm.tr gz.1, gz.2⟩
        · clear hG
          have gz := gB_Body_readGiven_133 hn q_p0 hF hm.1 hB qa190
          exact ⟨hm.tr gz.1, gz.2⟩
      · clear hF
        have gz := gB_Body_readGiven_124 hn q_p0 hG hm.1 hB qa190
        exact ⟨hm.tr gz.1, gz.2⟩
    · clear hG
      obtain ⟨a226, e227, hG⟩ := rf_s hF; clear hF
      have qa226 : Q a226 := hm.1 _ _ _ q_p0 e227
      obtain ⟨a228, e229, hF⟩ := rf_s hG; clear hG
      have qa228 : Q a228 := hm.1 _ _ _ q_p0 e229
      obtain ⟨q230, hG⟩ := ck_s hF; clear hF
      obtain ⟨x231, -, hF⟩ := bnd_g hG; clear hG
      obtain ⟨q232, hG⟩ := ck_s hF; clear hF
      refine bT_c hG (fun x236 H235 z233 er => ?_) (fun v234 H235 z233 hF => ?_)
      · subst er; have gz := (g_Lexer_refuse hn z233 hm.1 hB qa226); exact ⟨hm.tr gz.1, (fun x e => by cases e; exact gz.2 _ rfl)⟩
      clear hG
      have gz_166 := (g_Lexer_refuse hn z233 hm.1 hB qa226)
      replace hm : Rg Q H H235 := hm.tr gz_166.1
      replace hB : B ≤ H235.sh.length := Nat.le_trans hB ((m_Lexer_refuse z233)).len
      have mz_167 : Mo H188 H235 := (m_Lexer_refuse z233)
      have q_168 := (mz_167).get q_152
      have q_169 := (mz_167).get q_153
      have q_170 := (mz_167).get q193
      have q_171 := (mz_167).get q208
      have q_172 := (mz_167).get q230
      have q_173 := (mz_167).get q232
      have gz := gB_Body_readGiven_189 hn q_p0 hF hm.1 hB
      exact ⟨hm.tr gz.1, gz.2⟩
