set_option maxRecDepth 20000 in
set_option maxHeartbeats 2000000 in
theorem gB_Reader_readMember_126 {N : Nat} {Q : Nat → Prop} {p0 : Nat} {p1 : Nat} {p2 : Int32} {B : Nat} (hn : ∀ a, B ≤ a → Q a) (q_p0 : Q p0) (q_p1 : Q p1) {l3 : Int32} {l6 : Nat} {H : Hp} {r : (Ot Unit) × Hp} (hF : B_Reader_readMember_126 N p0 p1 p2 l3 l6 H = some r) (hc0 : Cl Q H) (hB : B ≤ H.sh.length) (q_l6 : Q l6) : Rg Q H r.2 ∧ (∀ x, r.1 = .inr x → Q x) := by
  unfold B_Reader_readMember_126 at hF
  have hm := Rg.rf hc0
  obtain ⟨q41, hG⟩ := ck_s hF; clear hF
  obtain ⟨v43, H44, z42, hF⟩ := bC_s hG; clear hG
  have gz_69 := (g_Shapes_addMember z42 hm.1 q_p1 q_l6)
  replace hm : Rg Q H H44 := hm.tr gz_69
  replace hB : B ≤ H44.sh.length := Nat.le_trans hB ((m_Shapes_addMember z42)).mo.len
  have s_70 : Sa H H44 := (m_Shapes_addMember z42)
  have hr := Option.some.inj hF; subst hr
  exact ⟨hm, (fun x e => by cases e)⟩
set_option maxRecDepth 20000 in
set_option maxHeartbeats 2000000 in
theorem gB_Reader_readMember_80 {N : Nat} {Q : Nat → Prop} {p0 : Nat} {p1 : Nat} {p2 : Int32} {B : Nat} (hn : ∀ a, B ≤ a → Q a) (q_p0 : Q p0) (q_p1 : Q p1) {l3 : Int32} {l4 : Int32} {H : Hp} {r : (Ot Unit) × Hp} (hF : B_Reader_readMember_80 N p0 p1 p2 l3 l4 H = some r) (hc0 : Cl Q H) (hB : B ≤ H.sh.length) : Rg Q H r.2 ∧ (∀ x, r.1 = .inr x → Q x) := by
  unfold B_Reader_readMember_80 at hF
  have hm := Rg.rf hc0
  obtain ⟨q45, hG⟩ := ck_s hF; clear hF
  obtain ⟨a46, e47, hF⟩ := rf_s hG; clear hG
  have qa46 : Q a46 := hm.1 _ _ _ q_p0 e47
  obtain ⟨q48, hG⟩ := ck_s hF; clear hF
  obtain ⟨v50, H51, z49, hF⟩ := bC_s hG; clear hG
  have gz_71 := (g_Lexer_advance z49 hm.1 qa46)
  replace hm : Rg Q H H51 := hm.tr gz_71
  replace hB : B ≤ H51.sh.length := Nat.le_trans hB ((m_Lexer_advance z49)).mo.len
  have s_72 : Sa H H51 := (m_Lexer_advance z49)
  obtain ⟨a52, e53, hG⟩ := rf_s hF; clear hF
  have qa52 : Q a52 := hm.1 _ _ _ q_p0 e53
  obtain ⟨q54, hF⟩ := ck_s hG; clear hG
  rw [(s_72).1] at q54
  obtain ⟨x55, -, hG⟩ := bnd_g hF; clear hF
  obtain ⟨a56, e57, hF⟩ := rf_s hG; clear hG
  have qa56 : Q a56 := hm.1 _ _ _ q_p0 e57
  obtain ⟨q58, hG⟩ := ck_s hF; clear hF
  rw [(s_72).1] at q58
  refine bT_c hG (fun x62 H61 z59 er => ?_) (fun v60 H61 z59 hF => ?_)
  · subst er; have gz := (g_Lexer_takeName hn z59 hm.1 hB qa56); exact ⟨hm.tr gz.1, (fun x e => by cases e; exact gz.2.2 _ rfl)⟩
  clear hG
  have gz_73 := (g_Lexer_takeName hn z59 hm.1 hB qa56)
  replace hm : Rg Q H H61 := hm.tr gz_73.1
  replace hB : B ≤ H61.sh.length := Nat.le_trans hB ((m_Lexer_takeName z59)).len
  have mz_74 : Mo H51 H61 := (m_Lexer_takeName z59)
  have q_75 := (mz_74).get (by rw [(s_72).1]; exact q45)
  have q_76 := (mz_74).get (by rw [(s_72).1]; exact q48)
  have q_77 := (mz_74).get (by rw [(s_72).1]; exact q54)
  have q_78 := (mz_74).get (by rw [(s_72).1]; exact q58)
  obtain ⟨a63, ea63, hG⟩ := on_s hF; clear hF
  subst ea63
  have qa63 : Q a63 := gz_73.2.1 _ rfl
  obtain ⟨q64, hF⟩ := ck_s hG; clear hG
  obtain ⟨v66, H67, z65, hG⟩ := bC_s hF; clear hF
  have gz_79 := (g_Shapes_memberNamed z65 hm.1 q_p1 qa63)
  replace hm : Rg Q H H67 := hm.tr gz_79
  replace hB : B ≤ H67.sh.length := Nat.le_trans hB ((m_Shapes_memberNamed z65)).mo.len
  have s_80 : Sa H61 H67 := (m_Shapes_memberNamed z65)
  rcases ite_s hG with ⟨q_81, hF⟩ | ⟨q_81, hF⟩
  · clear hG
    have gz := gB_Reader_readMember_126 hn q_p0 q_p1 hF hm.1 hB qa63
    exact ⟨hm.tr gz.1, gz.2⟩
  · clear hG
    obtain ⟨a69, e70, hG⟩ := rf_s hF; clear hF
    have qa69 : Q a69 := hm.1 _ _ _ q_p0 e70
    obtain ⟨q71, hF⟩ := ck_s hG; clear hG
    rw [(s_80).1] at q71
    refine bT_c hF (fun x75 H74 z72 er => ?_) (fun v73 H74 z72 hG => ?_)
    · subst er; have gz := (g_Lexer_refuse hn z72 hm.1 hB qa69); exact ⟨hm.tr gz.1, (fun x e => by cases e; exact gz.2 _ rfl)⟩
    clear hF
    have gz_82 := (g_Lexer_refuse hn z72 hm.1 hB qa69)
    replace hm : Rg Q H H74 := hm.tr gz_82.1
    replace hB : B ≤ H74.sh.length := Nat.le_trans hB ((m_Lexer_refuse z72)).len
    have mz_83 : Mo H67 H74 := (m_Lexer_refuse z72)
    have q_84 := (mz_83).get (by rw [(s_80).1]; exact q_75)
    have q_85 := (mz_83).get (by rw [(s_80).1]; exact q_76)
    have q_86 := (mz_83).get (by rw [(s_80).1]; exact q_77)
    have q_87 := (mz_83).get (by rw [(s_80).1]; exact q_78)
    have q_88 := (mz_83).get (by rw [(s_80).1]; exact q64)
    have q_89 := (mz_83).get (by rw [(s_80).1]; exact q71)
    have gz := gB_Reader_readMember_126 hn q_p0 q_p1 hG hm.1 hB qa63
    exact ⟨hm.tr gz.1, gz.2⟩
set_option maxRecDepth 20000 in
set_option maxHeartbeats 2000000 in
theorem gB_Reader_readMember_65 {N : Nat} {Q : Nat → Prop} {p0 : Nat} {p1 : Nat} {p2 : Int32} {B : Nat} (hn : ∀ a, B ≤ a → Q a) (q_p0 : Q p0) (q_p1 : Q p1) {l3 : Int32} {l4 : Int32} {H : Hp} {r : (Ot Unit) × Hp} (hF : B_Reader_readMember_65 N p0 p1 p2 l3 l4 H = some r) (hc0 : Cl Q H) (hB : B ≤ H.sh.length) : Rg Q H r.2 ∧ (∀ x, r.1 = .inr x → Q x) := by
  unfold B_Reader_readMember_65 at hF
  have hm := Rg.rf hc0
  obtain ⟨q76, hG⟩ := ck_s hF; clear hF
  obtain ⟨a77, e78, hF⟩ := rf_s hG; clear hG
  have qa77 : Q a77 := hm.1 _ _ _ q_p0 e78
  obtain ⟨a79, e80, hG⟩ := rf_s hF; clear hF
  have qa79 : Q a79 := hm.1 _ _ _ q_p0 e80
  obtain ⟨q81, hF⟩ := ck_s hG; clear hG
  obtain ⟨x82, -, hG⟩ := bnd_g hF; clear hF
  obtain ⟨q83, hF⟩ := ck_s hG; clear hG
  refine bT_c hF (fun x87 H86 z84 er => ?_) (fun v85 H86 z84 hG => ?_)
  · subst er; have gz := (g_Lexer_refuse hn z84 hm.1 hB qa77); exact ⟨hm.tr gz.1, (fun x e => by cases e; exact gz.2 _ rfl)⟩
  clear hF
  have gz_90 := (g_Lexer_refuse hn z84 hm.1 hB qa77)
  replace hm : Rg Q H H86 := hm.tr gz_90.1
  replace hB : B ≤ H86.sh.length := Nat.le_trans hB ((m_Lexer_refuse z84)).len
  have mz_91 : Mo H H86 := (m_Lexer_refuse z84)
  have q_92 := (mz_91).get q76
  have q_93 := (mz_91).get q81
  have q_94 := (mz_91).get q83
  have gz := gB_Reader_readMember_80 hn q_p0 q_p1 hG hm.1 hB
  exact ⟨hm.tr gz.1, gz.2⟩
set_option maxRecDepth 20000 in
set_option maxHeartbeats 2000000 in
theorem gB_Reader_readMember_35 {N : Nat} {Q : Nat → Prop} {p0 : Nat} {p1 : Nat} {p2 : Int32} {B : Nat} (hn : ∀ a, B ≤ a → Q a) (q_p0 : Q p0) (q_p1 : Q p1) {l3 : Int32} {H : Hp} {r : (Ot Unit) × Hp} (hF : B_Reader_readMember_35 N p0 p1 p2 l3 H = some r) (hc0 : Cl Q H) (hB : B ≤ H.sh.length) : Rg Q H r.2 ∧ (∀ x, r.1 = .inr x → Q x) := by
  unfold B_Reader_readMember_35 at hF
  have hm := Rg.rf hc0
  obtain ⟨q88, hG⟩ := ck_s hF; clear hF
  obtain ⟨x89, -, hF⟩ := bnd_g hG; clear hG
  obtain ⟨x90, -, hG⟩ := bnd_g hF; clear hF
  obtain ⟨v92, H93, z91, hF⟩ := bC_s hG; clear hG
  have gz_95 := (g_Shapes_sizeOf z91 hm.1 q_p1)
  replace hm : Rg Q H H93 := hm.tr gz_95
  replace hB : B ≤ H93.sh.length := Nat.le_trans hB ((m_Shapes_sizeOf z91)).mo.len
  have s_96 : Sa H H93 := (m_Shapes_sizeOf z91)
  rcases ite_s hF with ⟨q_97, hG⟩ | ⟨q_97, hG⟩
  · clear hF
    have gz := gB_Reader_readMember_65 hn q_p0 q_p1 hG hm.1 hB
    exact ⟨hm.tr gz.1, gz.2⟩
  · clear hF
    obtain ⟨v96, H97, z95, hF⟩ := bC_s hG; clear hG
    have gz_98 := (g_Shapes_total z95 hm.1 q_p1)
    replace hm : Rg Q H H97 := hm.tr gz_98
    replace hB : B ≤ H97.sh.length := Nat.le_trans hB ((m_Shapes_total z95)).mo.len
    have s_99 : Sa H H97 := (s_96).tr (m_Shapes_total z95)
    obtain ⟨a98, e99, hG⟩ := rf_s hF; clear hF
    have qa98 : Q a98 := hm.1 _ _ _ q_p1 e99
    obtain ⟨n100, q101, hF⟩ := ar_s hG; clear hG
    rw [(s_99).1] at q101
    rcases ite_s hF with ⟨q_100, hG⟩ | ⟨q_100, hG⟩
    · clear hF
      have gz := gB_Reader_readMember_80 hn q_p0 q_p1 hG hm.1 hB
      exact ⟨hm.tr gz.1, gz.2⟩
    · clear hF
      have gz := gB_Reader_readMember_65 hn q_p0 q_p1 hG hm.1 hB
      exact ⟨hm.tr gz.1, gz.2⟩
set_option maxRecDepth 20000 in
set_option maxHeartbeats 2000000 in
theorem gB_Reader_readMember_20 {N : Nat} {Q : Nat → Prop} {p0 : Nat} {p1 : Nat} {p2 : Int32} {B : Nat} (hn : ∀ a, B ≤ a → Q a) (q_p0 : Q p0) (q_p1 : Q p1) {l3 : Int32} {H : Hp} {r : (Ot Unit) × Hp} (hF : B_Reader_readMember_20 N p0 p1 p2 l3 H = some r) (hc0 : Cl Q H) (hB : B ≤ H.sh.length) : Rg Q H r.2 ∧ (∀ x, r.1 = .inr x → Q x) := by
  unfold B_Reader_readMember_20 at hF
  have hm := Rg.rf hc0
  obtain ⟨q103, hG⟩ := ck_s hF; clear hF
  obtain ⟨a104, e105, hF⟩ := rf_s hG; clear hG
  have qa104 : Q a104 := hm.1 _ _ _ q_p0 e105
  obtain ⟨a106, e107, hG⟩ := rf_s hF; clear hF
  have qa106 : Q a106 := hm.1 _ _ _ q_p0 e107
  obtain ⟨q108, hF⟩ := ck_s hG; clear hG
  obtain ⟨x109, -, hG⟩ := bnd_g hF; clear hF
  obtain ⟨q110, hF⟩ := ck_s hG; clear hG
  refine bT_c hF (fun x114 H113 z111 er => ?_) (fun v112 H113 z111 hG => ?_)
  · subst er; have gz := (g_Lexer_refuse hn z111 hm.1 hB qa104); exact ⟨hm.tr gz.1, (fun x e => by cases e; exact gz.2 _ rfl)⟩
  clear hF
  have gz_101 := (g_Lexer_refuse hn z111 hm.1 hB qa104)
  replace hm : Rg Q H H113 := hm.tr gz_101.1
  replace hB : B ≤ H113.sh.length := Nat.le_trans hB ((m_Lexer_refuse z111)).len
  have mz_102 : Mo H H113 := (m_Lexer_refuse z111)
  have q_103 := (mz_102).get q103
  have q_104 := (mz_102).get q108
  have q_105 := (mz_102).get q110
  have gz := gB_Reader_readMember_35 hn q_p0 q_p1 hG hm.1 hB
  exact ⟨hm.tr gz.1, gz.2⟩
set_option maxRecDepth 20000 in
set_option maxHeartbeats 2000000 in
theorem g_Reader_readMember {N : Nat} {Q : Nat → Prop} {p0 : Nat} {p1 : Nat} {p2 : Int32} {H : Hp} {r : (Ot Unit) × Hp} {B : Nat} (hn : ∀ a, B ≤ a → Q a) (hF : F_Reader_readMember N p0 p1 p2 H = some r) (hc0 : Cl Q H) (hB : B ≤ H.sh.length) (q_p0 : Q p0) (q_p1 : Q p1) : Rg Q H r.2 ∧ (∀ x, r.1 = .inr x → Q x) := by
  unfold F_Reader_readMember at hF
  have hm := Rg.rf hc0
  obtain ⟨q115, hG⟩ := ck_s hF; clear hF
  obtain ⟨a116, e117, hF⟩ := rf_s hG; clear hG
  have qa116 : Q a116 := hm.1 _ _ _ q_p0 e117
  obtain ⟨q118, hG⟩ := ck_s hF; clear hF
  obtain ⟨x119, -, hF⟩ := bnd_g hG; clear hG
  obtain ⟨x120, -, hG⟩ := bnd_g hF; clear hF
  rcases ite_s hG with ⟨q_106, hF⟩ | ⟨q_106, hF⟩
  · clear hG
    have gz := gB_Reader_readMember_20 hn q_p0 q_p1 hF hm.1 hB
    exact ⟨hm.tr gz.1, gz.2⟩
  · clear hG
    rcases ite_s hF with ⟨q_107, hG⟩ | ⟨q_107, hG⟩
    · clear hF
      have gz := gB_Reader_readMember_35 hn q_p0 q_p1 hG hm.1 hB
      exact ⟨hm.tr gz.1, gz.2⟩
    · clear hF
      have gz := gB_Reader_readMember_20 hn q_p0 q_p1 hG hm.1 hB
      exact ⟨hm.tr gz.1, gz.2⟩
set_option maxRecDepth 20000 in
set_option maxHeartbeats 2000000 in
theorem gB_Reader_readComponent_82 {N : Nat} {Q : Nat → Prop} {p0 : Nat} {B : Nat} (hn : ∀ a, B ≤ a → Q a) (q_p0 : Q p0)  {H : Hp} {r : (Ot Unit) × Hp} (hF : B_Reader_readComponent_82 N p0  H = some r) (hc0 : Cl Q H) (hB : B ≤ H.sh.length) : Rg Q H r.2 ∧ (∀ x, r.1 = .inr x → Q x) := by
  unfold B_Reader_readComponent_82 at hF
  have hm := Rg.rf hc0
  obtain ⟨q57, hG⟩ := ck_s hF; clear hF
  obtain ⟨a58, e59, hF⟩ := rf_s hG; clear hG
  have qa58 : Q a58 := hm.1 _ _ _ q_p0 e59
  obtain ⟨q60, hG⟩ := ck_s hF; clear hF
  refine bT_c hG (fun x64 H63 z61 er => ?_) (fun v62 H63 z61 hF => ?_)
  · subst er; have gz := (g_Lexer_take hn z61 hm.1 hB qa58); exact ⟨hm.tr gz.1, (fun x e => by cases e; exact gz.2 _ rfl)⟩
  clear hG
  have gz_76 := (g_Lexer_take hn z61 hm.1 hB qa58)
  replace hm : Rg Q H H63 := hm.tr gz_76.1
  replace hB : B ≤ H63.sh.length := Nat.le_trans hB ((m_Lexer_take z61)).len
  have mz_77 : Mo H H63 := (m_Lexer_take z61)
  have q_78 := (mz_77).get q57
  have q_79 := (mz_77).get q60
  have hr := Option.some.inj hF; subst hr
  exact ⟨hm, (fun x e => by cases e)⟩
set_option maxRecDepth 20000 in
set_option maxHeartbeats 2000000 in
theorem gB_Reader_readComponent_42 {N : Nat} {Q : Nat → Prop} {p0 : Nat} {B : Nat} (hn : ∀ a, B ≤ a → Q a) (q_p0 : Q p0) : ∀ (n : Nat) (l1 : Nat) (l2 : Int32) (H : Hp) (r : (Ot Unit) × Hp), B_Reader_readComponent_42 N p0 n l1 l2 H = some r → Cl Q H → B ≤ H.sh.length → Q l1 → Rg Q H r.2 ∧ (∀ x, r.1 = .inr x → Q x) := by
  intro n
  induction n with
  | zero => intro l1 l2 H r hF; rw [B_Reader_readComponent_42] at hF; cases hF
  | succ n ih =>
    intro l1 l2 H r hF hc0 hB q_l1
    rw [B_Reader_readComponent_42] at hF
    have hm := Rg.rf hc0
    rcases ite_s hF with ⟨q_80, hG⟩ | ⟨q_80, hG⟩
    · clear hF
      have gz := gB_Reader_readComponent_82 hn q_p0 hG hm.1 hB
      exact ⟨hm.tr gz.1, gz.2⟩
    · clear hF
      obtain ⟨q66, hF⟩ := ck_s hG; clear hG
      obtain ⟨a67, e68, hG⟩ := rf_s hF; clear hF
      have qa67 : Q a67 := hm.1 _ _ _ q_p0 e68
      obtain ⟨q69, hF⟩ := ck_s hG; clear hG
      obtain ⟨x70, -, hG⟩ := bnd_g hF; clear hF
      rcases ite_s hG with ⟨q_81, hF⟩ | ⟨q_81, hF⟩
      · clear hG
        have gz := gB_Reader_readComponent_82 hn q_p0 hF hm.1 hB
        exact ⟨hm.tr gz.1, gz.2⟩
      · clear hG
        refine bT_c hF (fun x75 H74 z72 er => ?_) (fun v73 H74 z72 hG => ?_)
        · subst er; have gz := (g_Reader_readMember hn z72 hm.1 hB q_p0 q_l1); exact ⟨hm.tr gz.1, (fun x e => by cases e; exact gz.2 _ rfl)⟩
        clear hF
        have gz_82 := (g_Reader_readMember hn z72 hm.1 hB q_p0 q_l1)
        replace hm : Rg Q H H74 := hm.tr gz_82.1
        replace hB : B ≤ H74.sh.length := Nat.le_trans hB ((m_Reader_readMember z72)).len
        have mz_83 : Mo H H74 := (m_Reader_readMember z72)
        have q_84 := (mz_83).get q66
        have q_85 := (mz_83).get q69
        obtain ⟨a76, e77, hF⟩ := rf_s hG; clear hG
        have qa76 : Q a76 := hm.1 _ _ _ q_p0 e77
        obtain ⟨q78, hG⟩ := ck_s hF; clear hF
        refine bT_c hG (fun x82 H81 z79 er => ?_) (fun v80 H81 z79 hF => ?_)
        · subst er; have gz := (g_Lexer_take hn z79 hm.1 hB qa76); exact ⟨hm.tr gz.1, (fun x e => by cases e; exact gz.2 _ rfl)⟩
        clear hG
        have gz_86 := (g_Lexer_take hn z79 hm.1 hB qa76)
        replace hm : Rg Q H H81 := hm.tr gz_86.1
        replace hB : B ≤ H81.sh.length := Nat.le_trans hB ((m_Lexer_take z79)).len
        have mz_87 : Mo H74 H81 := (m_Lexer_take z79)
        have q_88 := (mz_87).get q_84
        have q_89 := (mz_87).get q_85
        have q_90 := (mz_87).get q78
        have gz := ih l1 (l2 + 1) H81 r hF hm.1 hB q_l1
        exact ⟨hm.tr gz.1, gz.2⟩
set_option maxRecDepth 20000 in
set_option maxHeartbeats 2000000 in
theorem g_Reader_readComponent {N : Nat} {Q : Nat → Prop} {p0 : Nat} {H : Hp} {r : (Ot Unit) × Hp} {B : Nat} (hn : ∀ a, B ≤ a → Q a) (hF : F_Reader_readComponent N p0 H = some r) (hc0 : Cl Q H) (hB : B ≤ H.sh.length) (q_p0 : Q p0) : Rg Q H r.2 ∧ (∀ x, r.1 = .inr x → Q x) := by
  unfold F_Reader_readComponent at hF
  have hm := Rg.rf hc0
  obtain ⟨q83, hG⟩ := ck_s hF; clear hF
  obtain ⟨a84, e85, hF⟩ := rf_s hG; clear hG
  have qa84 : Q a84 := hm.1 _ _ _ q_p0 e85
  obtain ⟨q86, hG⟩ := ck_s hF; clear hF
  obtain ⟨a87, e88, hF⟩ := rf_s hG; clear hG
  have qa87 : Q a87 := hm.1 _ _ _ qa84 e88
  obtain ⟨q89, hG⟩ := ck_s hF; clear hF
  obtain ⟨x90, -, hF⟩ := bnd_g hG; clear hG
  refine bT_c hF (fun x94 H93 z91 er => ?_) (fun v92 H93 z91 hG => ?_)
  · subst er; have gz := (g_Reader_beginOne hn z91 hm.1 hB q_p0); exact ⟨hm.tr gz.1, (fun x e => by cases e; exact gz.2 _ rfl)⟩
  clear hF
  have gz_91 := (g_Reader_beginOne hn z91 hm.1 hB q_p0)
  replace hm : Rg Q H H93 := hm.tr gz_91.1
  replace hB : B ≤ H93.sh.length := Nat.le_trans hB ((m_Reader_beginOne z91)).len
  have mz_92 : Mo H H93 := (m_Reader_beginOne z91)
  have q_93 := (mz_92).get q83
  have q_94 := (mz_92).get q86
  have q_95 := (mz_92).get q89
  obtain ⟨x95, -, hF⟩ := bnd_g hG; clear hG
  refine bT_c hF (fun x99 H98 z96 er => ?_) (fun v97 H98 z96 hG => ?_)
  · subst er; have gz := (g_Reader_declare hn z96 hm.1 hB q_p0); exact ⟨hm.tr gz.1, (fun x e => by cases e; exact gz.2.2 _ rfl)⟩
  clear hF
  have gz_96 := (g_Reader_declare hn z96 hm.1 hB q_p0)
  replace hm : Rg Q H H98 := hm.tr gz_96.1
  replace hB : B ≤ H98.sh.length := Nat.le_trans hB ((m_Reader_declare z96)).len
  have mz_97 : Mo H93 H98 := (m_Reader_declare z96)
  have q_98 := (mz_97).get q_93
  have q_99 := (mz_97).get q_94
  have q_100 := (mz_97).get q_95
  obtain ⟨a100, ea100, hF⟩ := on_s hG; clear hG
  subst ea100
  have qa100 : Q a100 := gz_96.2.1 _ rfl
  obtain ⟨v102, H103, z101, hG⟩ := bC_s hF; clear hF
  have gz_101 := (g_Shapes_open z101 hm.1 qa87 qa100)
  replace hm : Rg Q H H103 := hm.tr gz_101
  replace hB : B ≤ H103.sh.length := Nat.le_trans hB ((m_Shapes_open z101)).mo.len
  have s_102 : Sa H98 H103 := (m_Shapes_open z101)
  obtain ⟨a104, e105, hF⟩ := rf_s hG; clear hG
  have qa104 : Q a104 := hm.1 _ _ _ q_p0 e105
  obtain ⟨q106, hG⟩ := ck_s hF; clear hF
  rw [(s_102).1] at q106
  refine bT_c hG (fun x110 H109 z107 er => ?_) (fun v108 H109 z107 hF => ?_)
  · subst er; have gz := (g_Lexer_take hn z107 hm.1 hB qa104); exact ⟨hm.tr gz.1, (fun x e => by cases e; exact gz.2 _ rfl)⟩
  clear hG
  have gz_103 := (g_Lexer_take hn z107 hm.1 hB qa104)
  replace hm : Rg Q H H109 := hm.tr gz_103.1
  replace hB : B ≤ H109.sh.length := Nat.le_trans hB ((m_Lexer_take z107)).len
  have mz_104 : Mo H103 H109 := (m_Lexer_take z107)
  have q_105 := (mz_104).get (by rw [(s_102).1]; exact q_98)
  have q_106 := (mz_104).get (by rw [(s_102).1]; exact q_99)
  have q_107 := (mz_104).get (by rw [(s_102).1]; exact q_100)
  have q_108 := (mz_104).get (by rw [(s_102).1]; exact q106)
  have gz := gB_Reader_readComponent_42 hn q_p0 N a87 0 H109 r hF hm.1 hB qa87
  exact ⟨hm.tr gz.1, gz.2⟩
set_option maxRecDepth 20000 in
set_option maxHeartbeats 2000000 in
theorem gB_Reader_readEvent_96 {N : Nat} {Q : Nat → Prop} {p0 : Nat} {B : Nat} (hn : ∀ a, B ≤ a → Q a) (q_p0 : Q p0)  {H : Hp} {r : (Ot Unit) × Hp} (hF : B_Reader_readEvent_96 N p0  H = some r) (hc0 : Cl Q H) (hB : B ≤ H.sh.length) : Rg Q H r.2 ∧ (∀ x, r.1 = .inr x → Q x) := by
  unfold B_Reader_readEvent_96 at hF
  have hm := Rg.rf hc0
  obtain ⟨q75, hG⟩ := ck_s hF; clear hF
  obtain ⟨a76, e77, hF⟩ := rf_s hG; clear hG
  have qa76 : Q a76 := hm.1 _ _ _ q_p0 e77
  obtain ⟨q78, hG⟩ := ck_s hF; clear hF
  refine bT_c hG (fun x82 H81 z79 er => ?_) (fun v80 H81 z79 hF => ?_)
  · subst er; have gz := (g_Lexer_take hn z79 hm.1 hB qa76); exact ⟨hm.tr gz.1, (fun x e => by cases e; exact gz.2 _ rfl)⟩
  clear hG
  have gz_115 := (g_Lexer_take hn z79 hm.1 hB qa76)
  replace hm : Rg Q H H81 := hm.tr gz_115.1
  replace hB : B ≤ H81.sh.length := Nat.le_trans hB ((m_Lexer_take z79)).len
  have mz_116 : Mo H H81 := (m_Lexer_take z79)
  have q_117 := (mz_116).get q75
  have q_118 := (mz_116).get q78
  obtain ⟨a83, e84, hG⟩ := rf_s hF; clear hF
  have qa83 : Q a83 := hm.1 _ _ _ q_p0 e84
  obtain ⟨q85, hF⟩ := ck_s hG; clear hG
  refine bT_c hF (fun x89 H88 z86 er => ?_) (fun v87 H88 z86 hG => ?_)
  · subst er; have gz := (g_Lexer_take hn z86 hm.1 hB qa83); exact ⟨hm.tr gz.1, (fun x e => by cases e; exact gz.2 _ rfl)⟩
  clear hF
  have gz_119 := (g_Lexer_take hn z86 hm.1 hB qa83)
  replace hm : Rg Q H H88 := hm.tr gz_119.1
  replace hB : B ≤ H88.sh.length := Nat.le_trans hB ((m_Lexer_take z86)).len
  have mz_120 : Mo H81 H88 := (m_Lexer_take z86)
  have q_121 := (mz_120).get q_117
  have q_122 := (mz_120).get q_118
  have q_123 := (mz_120).get q85
  have hr := Option.some.inj hG; subst hr
  exact ⟨hm, (fun x e => by cases e)⟩
set_option maxRecDepth 20000 in
set_option maxHeartbeats 2000000 in
theorem gB_Reader_readEvent_60 {N : Nat} {Q : Nat → Prop} {p0 : Nat} {B : Nat} (hn : ∀ a, B ≤ a → Q a) (q_p0 : Q p0) : ∀ (n : Nat) (l1 : Nat) (l2 : Int32) (H : Hp) (r : (Ot Unit) × Hp), B_Reader_readEvent_60 N p0 n l1 l2 H = some r → Cl Q H → B ≤ H.sh.length → Q l1 → Rg Q H r.2 ∧ (∀ x, r.1 = .inr x → Q x) := by
  intro n
  induction n with
  | zero => intro l1 l2 H r hF; rw [B_Reader_readEvent_60] at hF; cases hF
  | succ n ih =>
    intro l1 l2 H r hF hc0 hB q_l1
    rw [B_Reader_readEvent_60] at hF
    have hm := Rg.rf hc0
    rcases ite_s hF with ⟨q_124, hG⟩ | ⟨q_124, hG⟩
    · clear hF
      have gz := gB_Reader_readEvent_96 hn q_p0 hG hm.1 hB
      exact ⟨hm.tr gz.1, gz.2⟩
    · clear hF
      obtain ⟨q91, hF⟩ := ck_s hG; clear hG
      obtain ⟨a92, e93, hG⟩ := rf_s hF; clear hF
      have qa92 : Q a92 := hm.1 _ _ _ q_p0 e93
      obtain ⟨q94, hF⟩ := ck_s hG; clear hG
      obtain ⟨x95, -, hG⟩ := bnd_g hF; clear hF
      rcases ite_s hG with ⟨q_125, hF⟩ | ⟨q_125, hF⟩
      · clear hG
        obtain ⟨a97, e98, hG⟩ := rf_s hF; clear hF
        have qa97 : Q a97 := hm.1 _ _ _ q_p0 e98
        obtain ⟨q99, hF⟩ := ck_s hG; clear hG
        obtain ⟨v101, H102, z100, hG⟩ := bC_s hF; clear hF
        have gz_126 := (g_Lexer_advance z100 hm.1 qa97)
        replace hm : Rg Q H H102 := hm.tr gz_126
        replace hB : B ≤ H102.sh.length := Nat.le_trans hB ((m_Lexer_advance z100)).mo.len
        have s_127 : Sa H H102 := (m_Lexer_advance z100)
        refine bT_c hG (fun x106 H105 z103 er => ?_) (fun v104 H105 z103 hF => ?_)
        · subst er; have gz := (g_Reader_readMember hn z103 hm.1 hB q_p0 q_l1); exact ⟨hm.tr gz.1, (fun x e => by cases e; exact gz.2 _ rfl)⟩
        clear hG
        have gz_128 := (g_Reader_readMember hn z103 hm.1 hB q_p0 q_l1)
        replace hm : Rg Q H H105 := hm.tr gz_128.1
        replace hB : B ≤ H105.sh.length := Nat.le_trans hB ((m_Reader_readMember z103)).len
        have mz_129 : Mo H102 H105 := (m_Reader_readMember z103)
        have q_130 := (mz_129).get (by rw [(s_127).1]; exact q91)
        have q_131 := (mz_129).get (by rw [(s_127).1]; exact q94)
        have q_132 := (mz_129).get (by rw [(s_127).1]; exact q99)
        have gz := ih l1 (l2 + 1) H105 r hF hm.1 hB q_l1
        exact ⟨hm.tr gz.1, gz.2⟩
      · clear hG
        have gz := gB_Reader_readEvent_96 hn q_p0 hF hm.1 hB
        exact ⟨hm.tr gz.1, gz.2⟩
set_option maxRecDepth 20000 in
set_option maxHeartbeats 2000000 in
theorem g_Reader_readEvent {N : Nat} {Q : Nat → Prop} {p0 : Nat} {H : Hp} {r : (Ot Unit) × Hp} {B : Nat} (hn : ∀ a, B ≤ a → Q a) (hF : F_Reader_readEvent N p0 H = some r) (hc0 : Cl Q H) (hB : B ≤ H.sh.length) (q_p0 : Q p0) : Rg Q H r.2 ∧ (∀ x, r.1 = .inr x → Q x) := by
  unfold F_Reader_readEvent at hF
  have hm := Rg.rf hc0
  obtain ⟨q107, hG⟩ := ck_s hF; clear hF
  obtain ⟨a108, e109, hF⟩ := rf_s hG; clear hG
  have qa108 : Q a108 := hm.1 _ _ _ q_p0 e109
  obtain ⟨q110, hG⟩ := ck_s hF; clear hF
  obtain ⟨a111, e112, hF⟩ := rf_s hG; clear hG
  have qa111 : Q a111 := hm.1 _ _ _ qa108 e112
  obtain ⟨q113, hG⟩ := ck_s hF; clear hF
  obtain ⟨x114, -, hF⟩ := bnd_g hG; clear hG
  refine bT_c hF (fun x118 H117 z115 er => ?_) (fun v116 H117 z115 hG => ?_)
  · subst er; have gz := (g_Reader_beginOne hn z115 hm.1 hB q_p0); exact ⟨hm.tr gz.1, (fun x e => by cases e; exact gz.2 _ rfl)⟩
  clear hF
  have gz_133 := (g_Reader_beginOne hn z115 hm.1 hB q_p0)
  replace hm : Rg Q H H117 := hm.tr gz_133.1
  replace hB : B ≤ H117.sh.length := Nat.le_trans hB ((m_Reader_beginOne z115)).len
  have mz_134 : Mo H H117 := (m_Reader_beginOne z115)
  have q_135 := (mz_134).get q107
  have q_136 := (mz_134).get q110
  have q_137 := (mz_134).get q113
  obtain ⟨x119, -, hF⟩ := bnd_g hG; clear hG
  refine bT_c hF (fun x123 H122 z120 er => ?_) (fun v121 H122 z120 hG => ?_)
  · subst er; have gz := (g_Reader_declare hn z120 hm.1 hB q_p0); exact ⟨hm.tr gz.1, (fun x e => by cases e; exact gz.2.2 _ rfl)⟩
  clear hF
  have gz_138 := (g_Reader_declare hn z120 hm.1 hB q_p0)
  replace hm : Rg Q H H122 := hm.tr gz_138.1
  replace hB : B ≤ H122.sh.length := Nat.le_trans hB ((m_Reader_declare z120)).len
  have mz_139 : Mo H117 H122 := (m_Reader_declare z120)
  have q_140 := (mz_139).get q_135
  have q_141 := (mz_139).get q_136
  have q_142 := (mz_139).get q_137
  obtain ⟨a124, ea124, hF⟩ := on_s hG; clear hG
  subst ea124
  have qa124 : Q a124 := gz_138.2.1 _ rfl
  obtain ⟨v126, H127, z125, hG⟩ := bC_s hF; clear hF
  have gz_143 := (g_Shapes_open z125 hm.1 qa111 qa124)
  replace hm : Rg Q H H127 := hm.tr gz_143
  replace hB : B ≤ H127.sh.length := Nat.le_trans hB ((m_Shapes_open z125)).mo.len
  have s_144 : Sa H122 H127 := (m_Shapes_open z125)
  obtain ⟨a128, e129, hF⟩ := rf_s hG; clear hG
  have qa128 : Q a128 := hm.1 _ _ _ q_p0 e129
  obtain ⟨q130, hG⟩ := ck_s hF; clear hF
  rw [(s_144).1] at q130
  refine bT_c hG (fun x134 H133 z131 er => ?_) (fun v132 H133 z131 hF => ?_)
  · subst er; have gz := (g_Lexer_take hn z131 hm.1 hB qa128); exact ⟨hm.tr gz.1, (fun x e => by cases e; exact gz.2 _ rfl)⟩
  clear hG
  have gz_145 := (g_Lexer_take hn z131 hm.1 hB qa128)
  replace hm : Rg Q H H133 := hm.tr gz_145.1
  replace hB : B ≤ H133.sh.length := Nat.le_trans hB ((m_Lexer_take z131)).len
  have mz_146 : Mo H127 H133 := (m_Lexer_take z131)
  have q_147 := (mz_146).get (by rw [(s_144).1]; exact q_140)
  have q_148 := (mz_146).get (by rw [(s_144).1]; exact q_141)
  have q_149 := (mz_146).get (by rw [(s_144).1]; exact q_142)
  have q_150 := (mz_146).get (by rw [(s_144).1]; exact q130)
  obtain ⟨a135, e136, hG⟩ := rf_s hF; clear hF
  have qa135 : Q a135 := hm.1 _ _ _ q_p0 e136
  obtain ⟨q137, hF⟩ := ck_s hG; clear hG
  obtain ⟨x138, -, hG⟩ := bnd_g hF; clear hF
  rcases ite_s hG with ⟨q_151, hF⟩ | ⟨q_151, hF⟩
  · clear hG
    have gz := gB_Reader_readEvent_96 hn q_p0 hF hm.1 hB
    exact ⟨hm.tr gz.1, gz.2⟩
  · clear hG
    refine bT_c hF (fun x143 H142 z140 er => ?_) (fun v141 H142 z140 hG => ?_)
    · subst er; have gz := (g_Reader_readMember hn z140 hm.1 hB q_p0 qa111); exact ⟨hm.tr gz.1, (fun x e => by cases e; exact gz.2 _ rfl)⟩
    clear hF
    have gz_152 := (g_Reader_readMember hn z140 hm.1 hB q_p0 qa111)
    replace hm : Rg Q H H142 := hm.tr gz_152.1
    replace hB : B ≤ H142.sh.length := Nat.le_trans hB ((m_Reader_readMember z140)).len
    have mz_153 : Mo H133 H142 := (m_Reader_readMember z140)
    have q_154 := (mz_153).get q_147
    have q_155 := (mz_153).get q_148
    have q_156 := (mz_153).get q_149
    have q_157 := (mz_153).get q_150
    have q_158 := (mz_153).get q137
    have gz := gB_Reader_readEvent_60 hn q_p0 N a111 0 H142 r hG hm.1 hB qa111
    exact ⟨hm.tr gz.1, gz.2⟩
set_option maxRecDepth 20000 in
set_option maxHeartbeats 2000000 in
theorem g_Program_firstValue {N : Nat} {Q : Nat → Prop} {p0 : Nat} {p1 : Int32} {H : Hp} {r : Int32 × Hp} (hF : F_Program_firstValue N p0 p1 H = some r) (hc0 : Cl Q H) (q_p0 : Q p0) : Rg Q H r.2 := by
  unfold F_Program_firstValue at hF
  have hm := Rg.rf hc0
  obtain ⟨q29, hG⟩ := ck_s hF; clear hF
  obtain ⟨a30, e31, hF⟩ := rf_s hG; clear hG
  have qa30 : Q a30 := hm.1 _ _ _ q_p0 e31
  obtain ⟨q32, hG⟩ := ck_s hF; clear hF
  obtain ⟨a33, e34, hF⟩ := rf_s hG; clear hG
  have qa33 : Q a33 := hm.1 _ _ _ qa30 e34
  obtain ⟨n35, q36, hG⟩ := ar_s hF; clear hF
  obtain ⟨q37, hF⟩ := ck_s hG; clear hG
  obtain ⟨a38, e39, hG⟩ := rf_s hF; clear hF
  have qa38 : Q a38 := hm.1 _ _ _ qa33 e39
  obtain ⟨q40, hF⟩ := ck_s hG; clear hG
  obtain ⟨x41, -, hG⟩ := bnd_g hF; clear hF
  rcases ite_s hG with ⟨q_2, hF⟩ | ⟨q_2, hF⟩
  · clear hG
    have hr := Option.some.inj hF; subst hr
    exact hm
  · clear hG
    have hr := Option.some.inj hF; subst hr
    exact hm
set_option maxRecDepth 20000 in
set_option maxHeartbeats 2000000 in
theorem g_Integer_bitCount {N : Nat} {Q : Nat → Prop} {l0 : Int32} {H : Hp} {r : Int32 × Hp} (hF : F_Integer_bitCount N l0 H = some r) (hc0 : Cl Q H) : Rg Q H r.2 := by
  unfold F_Integer_bitCount at hF
  have hm := Rg.rf hc0
  obtain ⟨x19, -, hG⟩ := bnd_g hF; clear hF
  obtain ⟨x20, -, hF⟩ := bnd_g hG; clear hG
  obtain ⟨x21, -, hG⟩ := bnd_g hF; clear hF
  obtain ⟨x22, -, hF⟩ := bnd_g hG; clear hG
  obtain ⟨x23, -, hG⟩ := bnd_g hF; clear hF
  obtain ⟨x24, -, hF⟩ := bnd_g hG; clear hG
  obtain ⟨x25, -, hG⟩ := bnd_g hF; clear hF
  obtain ⟨x26, -, hF⟩ := bnd_g hG; clear hG
  obtain ⟨x27, -, hG⟩ := bnd_g hF; clear hF
  have hr := Option.some.inj hG; subst hr
  exact hm
set_option maxRecDepth 20000 in
set_option maxHeartbeats 2000000 in
theorem g_Reader_known {N : Nat} {Q : Nat → Prop} {p0 : Nat} {p1 : Nat} {p2 : Int32} {H : Hp} {r : (Ot (Option Nat)) × Hp} {B : Nat} (hn : ∀ a, B ≤ a → Q a) (hF : F_Reader_known N p0 p1 p2 H = some r) (hc0 : Cl Q H) (hB : B ≤ H.sh.length) (q_p0 : Q p0) (q_p1 : Q p1) : Rg Q H r.2 ∧ (∀ a, r.1 = .inl (some a) → Q a) ∧ (∀ x, r.1 = .inr x → Q x) := by
  unfold F_Reader_known at hF
  have hm := Rg.rf hc0
  obtain ⟨q31, hG⟩ := ck_s hF; clear hF
  obtain ⟨a32, e33, hF⟩ := rf_s hG; clear hG
  have qa32 : Q a32 := hm.1 _ _ _ q_p0 e33
  obtain ⟨q34, hG⟩ := ck_s hF; clear hF
  obtain ⟨v36, H37, z35, hF⟩ := bC_s hG; clear hG
  have gz_12 := (g_Program_find z35 hm.1 qa32 q_p1)
  replace hm : Rg Q H H37 := hm.tr gz_12.1
  replace hB : B ≤ H37.sh.length := Nat.le_trans hB ((m_Program_find z35)).mo.len
  have s_13 : Sa H H37 := (m_Program_find z35)
  refine nl_c hF (fun ea38 hG => ?_) (fun a38 ea38 hG => ?_)
  · clear hF; subst ea38
    obtain ⟨a39, e40, hF⟩ := rf_s hG; clear hG
    have qa39 : Q a39 := hm.1 _ _ _ q_p0 e40
    obtain ⟨q41, hG⟩ := ck_s hF; clear hF
    rw [(s_13).1] at q41
    refine bT_c hG (fun x45 H44 z42 er => ?_) (fun v43 H44 z42 hF => ?_)
    · subst er; have gz := (g_Lexer_refuse hn z42 hm.1 hB qa39); exact ⟨hm.tr gz.1, (fun a e => by cases e), (fun x e => by cases e; exact gz.2 _ rfl)⟩
    clear hG
    have gz_14 := (g_Lexer_refuse hn z42 hm.1 hB qa39)
    replace hm : Rg Q H H44 := hm.tr gz_14.1
    replace hB : B ≤ H44.sh.length := Nat.le_trans hB ((m_Lexer_refuse z42)).len
    have mz_15 : Mo H37 H44 := (m_Lexer_refuse z42)
    have q_16 := (mz_15).get (by rw [(s_13).1]; exact q31)
    have q_17 := (mz_15).get (by rw [(s_13).1]; exact q34)
    have q_18 := (mz_15).get (by rw [(s_13).1]; exact q41)
    have hr := Option.some.inj hF; subst hr
    exact ⟨hm, (fun a e => by cases e), (fun x e => by cases e)⟩
  clear hF; subst ea38
  have qa38 : Q a38 := gz_12.2 _ rfl
  have hr := Option.some.inj hG; subst hr
  exact ⟨hm, (fun a e => by cases e; exact qa38), (fun x e => by cases e)⟩
set_option maxRecDepth 20000 in
set_option maxHeartbeats 2000000 in
theorem gB_Lexer_takeValue_21 {N : Nat} {Q : Nat → Prop} {p0 : Nat} {B : Nat} (hn : ∀ a, B ≤ a → Q a) (q_p0 : Q p0)  {H : Hp} {r : (Ot Int32) × Hp} (hF : B_Lexer_takeValue_21 N p0  H = some r) (hc0 : Cl Q H) (hB : B ≤ H.sh.length) : Rg Q H r.2 ∧ (∀ x, r.1 = .inr x → Q x) := by
  unfold B_Lexer_takeValue_21 at hF
  have hm := Rg.rf hc0
  obtain ⟨q51, hG⟩ := ck_s hF; clear hF
  obtain ⟨a52, e53, hF⟩ := rf_s hG; clear hG
  have qa52 : Q a52 := hm.1 _ _ _ q_p0 e53
  obtain ⟨x54, -, hG⟩ := bnd_g hF; clear hF
  obtain ⟨n55, q56, hF⟩ := ar_s hG; clear hG
  obtain ⟨q57, hG⟩ := ck_s hF; clear hF
  obtain ⟨x58, -, hF⟩ := bnd_g hG; clear hG
  obtain ⟨v60, H61, z59, hG⟩ := bC_s hF; clear hF
  have gz_11 := (g_Lexer_advance z59 hm.1 q_p0)
  replace hm : Rg Q H H61 := hm.tr gz_11
  replace hB : B ≤ H61.sh.length := Nat.le_trans hB ((m_Lexer_advance z59)).mo.len
  have s_12 : Sa H H61 := (m_Lexer_advance z59)
  have hr := Option.some.inj hG; subst hr
  exact ⟨hm, (fun x e => by cases e)⟩
set_option maxRecDepth 20000 in
set_option maxHeartbeats 2000000 in
theorem g_Lexer_takeValue {N : Nat} {Q : Nat → Prop} {p0 : Nat} {H : Hp} {r : (Ot Int32) × Hp} {B : Nat} (hn : ∀ a, B ≤ a → Q a) (hF : F_Lexer_takeValue N p0 H = some r) (hc0 : Cl Q H) (hB : B ≤ H.sh.length) (q_p0 : Q p0) : Rg Q H r.2 ∧ (∀ x, r.1 = .inr x → Q x) := by
  unfold F_Lexer_takeValue at hF
  have hm := Rg.rf hc0
  obtain ⟨q62, hG⟩ := ck_s hF; clear hF
  obtain ⟨a63, e64, hF⟩ := rf_s hG; clear hG
  have qa63 : Q a63 := hm.1 _ _ _ q_p0 e64
  obtain ⟨x65, -, hG⟩ := bnd_g hF; clear hF
  obtain ⟨n66, q67, hF⟩ := ar_s hG; clear hG
  obtain ⟨q68, hG⟩ := ck_s hF; clear hF
  obtain ⟨x69, -, hF⟩ := bnd_g hG; clear hG
  rcases ite_s hF with ⟨q_13, hG⟩ | ⟨q_13, hG⟩
  · clear hF
    have gz := gB_Lexer_takeValue_21 hn q_p0 hG hm.1 hB
    exact ⟨hm.tr gz.1, gz.2⟩
  · clear hF
    obtain ⟨x71, -, hF⟩ := bnd_g hG; clear hG
    refine bT_c hF (fun x75 H74 z72 er => ?_) (fun v73 H74 z72 hG => ?_)
    · subst er; have gz := (g_Lexer_refuse hn z72 hm.1 hB q_p0); exact ⟨hm.tr gz.1, (fun x e => by cases e; exact gz.2 _ rfl)⟩
    clear hF
    have gz_14 := (g_Lexer_refuse hn z72 hm.1 hB q_p0)
    replace hm : Rg Q H H74 := hm.tr gz_14.1
    replace hB : B ≤ H74.sh.length := Nat.le_trans hB ((m_Lexer_refuse z72)).len
    have mz_15 : Mo H H74 := (m_Lexer_refuse z72)
    have q_16 := (mz_15).get q62
    have q_17 := (mz_15).get q67
    have gz := gB_Lexer_takeValue_21 hn q_p0 hG hm.1 hB
    exact ⟨hm.tr gz.1, gz.2⟩
set_option maxRecDepth 20000 in
set_option maxHeartbeats 2000000 in
theorem gB_Reader_readConst_212 {N : Nat} {Q : Nat → Prop} {p0 : Nat} {p1 : Int32} {B : Nat} (hn : ∀ a, B ≤ a → Q a) (q_p0 : Q p0) {w0 : Int32} {H : Hp} {r : (Ot Int32) × Hp} (hF : B_Reader_readConst_212 N p0 p1 w0 H = some r) (hc0 : Cl Q H) (hB : B ≤ H.sh.length) : Rg Q H r.2 ∧ (∀ x, r.1 = .inr x → Q x) := by
  unfold B_Reader_readConst_212 at hF
  have hm := Rg.rf hc0
  rcases ite_s hF with ⟨q_50, hG⟩ | ⟨q_50, hG⟩
  · clear hF
    obtain ⟨v135, H136, z134, hF⟩ := bC_s hG; clear hG
    have gz_51 := (g_Math_min z134 hm.1)
    replace hm : Rg Q H H136 := hm.tr gz_51
    replace hB : B ≤ H136.sh.length := Nat.le_trans hB ((m_Math_min z134)).mo.len
    have s_52 : Sa H H136 := (m_Math_min z134)
    obtain ⟨v138, H139, z137, hG⟩ := bC_s hF; clear hF
    have gz_53 := (g_Math_max z137 hm.1)
    replace hm : Rg Q H H139 := hm.tr gz_53
    replace hB : B ≤ H139.sh.length := Nat.le_trans hB ((m_Math_max z137)).mo.len
    have s_54 : Sa H H139 := (s_52).tr (m_Math_max z137)
    have hr := Option.some.inj hG; subst hr
    exact ⟨hm, (fun x e => by cases e)⟩
  · clear hF
    have hr := Option.some.inj hG; subst hr
    exact ⟨hm, (fun x e => by cases e)⟩
set_option maxRecDepth 20000 in
set_option maxHeartbeats 2000000 in
theorem gB_Reader_readConst_200 {N : Nat} {Q : Nat → Prop} {p0 : Nat} {p1 : Int32} {B : Nat} (hn : ∀ a, B ≤ a → Q a) (q_p0 : Q p0) {l3 : Int32} {l5 : Int32} {H : Hp} {r : (Ot Int32) × Hp} (hF : B_Reader_readConst_200 N p0 p1 l3 l5 H = some r) (hc0 : Cl Q H) (hB : B ≤ H.sh.length) : Rg Q H r.2 ∧ (∀ x, r.1 = .inr x → Q x) := by
  unfold B_Reader_readConst_200 at hF
  have hm := Rg.rf hc0
  rcases ite_s hF with ⟨q_55, hG⟩ | ⟨q_55, hG⟩
  · clear hF
    have gz := gB_Reader_readConst_212 hn q_p0 hG hm.1 hB
    exact ⟨hm.tr gz.1, gz.2⟩
  · clear hF
    have gz := gB_Reader_readConst_212 hn q_p0 hG hm.1 hB
    exact ⟨hm.tr gz.1, gz.2⟩
set_option maxRecDepth 20000 in
set_option maxHeartbeats 2000000 in
theorem gB_Reader_readConst_188 {N : Nat} {Q : Nat → Prop} {p0 : Nat} {p1 : Int32} {B : Nat} (hn : ∀ a, B ≤ a → Q a) (q_p0 : Q p0) {l2 : Int32} {l3 : Int32} {l5 : Int32} {w0 : Int32} {w1 : Int32} {H : Hp} {r : (Ot Int32) × Hp} (hF : B_Reader_readConst_188 N p0 p1 l2 l3 l5 w0 w1 H = some r) (hc0 : Cl Q H) (hB : B ≤ H.sh.length) : Rg Q H r.2 ∧ (∀ x, r.1 = .inr x → Q x) := by
  unfold B_Reader_readConst_188 at hF
  have hm := Rg.rf hc0
  rcases ite_s hF with ⟨q_56, hG⟩ | ⟨q_56, hG⟩
  · clear hF
    have gz := gB_Reader_readConst_200 hn q_p0 hG hm.1 hB
    exact ⟨hm.tr gz.1, gz.2⟩
  · clear hF
    obtain ⟨q142, hF⟩ := ck_s hG; clear hG
    obtain ⟨a143, e144, hG⟩ := rf_s hF; clear hF
    have qa143 : Q a143 := hm.1 _ _ _ q_p0 e144
    obtain ⟨q145, hF⟩ := ck_s hG; clear hG
    refine bT_c hF (fun x149 H148 z146 er => ?_) (fun v147 H148 z146 hG => ?_)
    · subst er; have gz := (g_Lexer_refuse hn z146 hm.1 hB qa143); exact ⟨hm.tr gz.1, (fun x e => by cases e; exact gz.2 _ rfl)⟩
    clear hF
    have gz_57 := (g_Lexer_refuse hn z146 hm.1 hB qa143)
    replace hm : Rg Q H H148 := hm.tr gz_57.1
    replace hB : B ≤ H148.sh.length := Nat.le_trans hB ((m_Lexer_refuse z146)).len
    have mz_58 : Mo H H148 := (m_Lexer_refuse z146)
    have q_59 := (mz_58).get q142
    have q_60 := (mz_58).get q145
    have gz := gB_Reader_readConst_200 hn q_p0 hG hm.1 hB
    exact ⟨hm.tr gz.1, gz.2⟩
set_option maxRecDepth 20000 in
set_option maxHeartbeats 2000000 in
theorem gB_Reader_readConst_176 {N : Nat} {Q : Nat → Prop} {p0 : Nat} {p1 : Int32} {B : Nat} (hn : ∀ a, B ≤ a → Q a) (q_p0 : Q p0) {l2 : Int32} {l3 : Int32} {l5 : Int32} {l6 : Int32} {H : Hp} {r : (Ot Int32) × Hp} (hF : B_Reader_readConst_176 N p0 p1 l2 l3 l5 l6 H = some r) (hc0 : Cl Q H) (hB : B ≤ H.sh.length) : Rg Q H r.2 ∧ (∀ x, r.1 = .inr x → Q x) := by
  unfold B_Reader_readConst_176 at hF
  have hm := Rg.rf hc0
  rcases ite_s hF with ⟨q_61, hG⟩ | ⟨q_61, hG⟩
  · clear hF
    have gz := gB_Reader_readConst_188 hn q_p0 hG hm.1 hB
    exact ⟨hm.tr gz.1, gz.2⟩
  · clear hF
    have gz := gB_Reader_readConst_188 hn q_p0 hG hm.1 hB
    exact ⟨hm.tr gz.1, gz.2⟩
set_option maxRecDepth 20000 in
set_option maxHeartbeats 2000000 in
theorem gB_Reader_readConst_84 {N : Nat} {Q : Nat → Prop} {p0 : Nat} {p1 : Int32} {B : Nat} (hn : ∀ a, B ≤ a → Q a) (q_p0 : Q p0) {l2 : Int32} {l3 : Int32} {l5 : Int32} {w0 : Int32} {H : Hp} {r : (Ot Int32) × Hp} (hF : B_Reader_readConst_84 N p0 p1 l2 l3 l5 w0 H = some r) (hc0 : Cl Q H) (hB : B ≤ H.sh.length) : Rg Q H r.2 ∧ (∀ x, r.1 = .inr x → Q x) := by
  unfold B_Reader_readConst_84 at hF
  have hm := Rg.rf hc0
  have gz := gB_Reader_readConst_176 hn q_p0 hF hm.1 hB
  exact ⟨hm.tr gz.1, gz.2⟩
set_option maxRecDepth 20000 in
set_option maxHeartbeats 2000000 in
theorem gB_Reader_readConst_64 {N : Nat} {Q : Nat → Prop} {p0 : Nat} {p1 : Int32} {B : Nat} (hn : ∀ a, B ≤ a → Q a) (q_p0 : Q p0) {l2 : Int32} {l3 : Int32} {l4 : Int32} {H : Hp} {r : (Ot Int32) × Hp} (hF : B_Reader_readConst_64 N p0 p1 l2 l3 l4 H = some r) (hc0 : Cl Q H) (hB : B ≤ H.sh.length) : Rg Q H r.2 ∧ (∀ x, r.1 = .inr x → Q x) := by
  unfold B_Reader_readConst_64 at hF
  have hm := Rg.rf hc0
  obtain ⟨q151, hG⟩ := ck_s hF; clear hF
  obtain ⟨a152, e153, hF⟩ := rf_s hG; clear hG
  have qa152 : Q a152 := hm.1 _ _ _ q_p0 e153
  obtain ⟨q154, hG⟩ := ck_s hF; clear hF
  refine bT_c hG (fun x158 H157 z155 er => ?_) (fun v156 H157 z155 hF => ?_)
  · subst er; have gz := (g_Lexer_takeValue hn z155 hm.1 hB qa152); exact ⟨hm.tr gz.1, (fun x e => by cases e; exact gz.2 _ rfl)⟩
  clear hG
  have gz_62 := (g_Lexer_takeValue hn z155 hm.1 hB qa152)
  replace hm : Rg Q H H157 := hm.tr gz_62.1
  replace hB : B ≤ H157.sh.length := Nat.le_trans hB ((m_Lexer_takeValue z155)).len
  have mz_63 : Mo H H157 := (m_Lexer_takeValue z155)
  have q_64 := (mz_63).get q151
  have q_65 := (mz_63).get q154
  rcases ite_s hF with ⟨q_66, hG⟩ | ⟨q_66, hG⟩
  · clear hF
    have gz := gB_Reader_readConst_84 hn q_p0 hG hm.1 hB
    exact ⟨hm.tr gz.1, gz.2⟩
  · clear hF
    have gz := gB_Reader_readConst_84 hn q_p0 hG hm.1 hB
    exact ⟨hm.tr gz.1, gz.2⟩
set_option maxRecDepth 20000 in
set_option maxHeartbeats 2000000 in
theorem gB_Reader_readConst_161 {N : Nat} {Q : Nat → Prop} {p0 : Nat} {p1 : Int32} {B : Nat} (hn : ∀ a, B ≤ a → Q a) (q_p0 : Q p0) {l2 : Int32} {l3 : Int32} {l5 : Int32} {l6 : Int32} {H : Hp} {r : (Ot Int32) × Hp} (hF : B_Reader_readConst_161 N p0 p1 l2 l3 l5 l6 H = some r) (hc0 : Cl Q H) (hB : B ≤ H.sh.length) : Rg Q H r.2 ∧ (∀ x, r.1 = .inr x → Q x) := by
  unfold B_Reader_readConst_161 at hF
  have hm := Rg.rf hc0
  obtain ⟨q160, hG⟩ := ck_s hF; clear hF
  obtain ⟨a161, e162, hF⟩ := rf_s hG; clear hG
  have qa161 : Q a161 := hm.1 _ _ _ q_p0 e162
  obtain ⟨a163, e164, hG⟩ := rf_s hF; clear hF
  have qa163 : Q a163 := hm.1 _ _ _ q_p0 e164
  obtain ⟨q165, hF⟩ := ck_s hG; clear hG
  obtain ⟨x166, -, hG⟩ := bnd_g hF; clear hF
  obtain ⟨q167, hF⟩ := ck_s hG; clear hG
  refine bT_c hF (fun x171 H170 z168 er => ?_) (fun v169 H170 z168 hG => ?_)
  · subst er; have gz := (g_Lexer_refuse hn z168 hm.1 hB qa161); exact ⟨hm.tr gz.1, (fun x e => by cases e; exact gz.2 _ rfl)⟩
  clear hF
  have gz_67 := (g_Lexer_refuse hn z168 hm.1 hB qa161)
  replace hm : Rg Q H H170 := hm.tr gz_67.1
  replace hB : B ≤ H170.sh.length := Nat.le_trans hB ((m_Lexer_refuse z168)).len
  have mz_68 : Mo H H170 := (m_Lexer_refuse z168)
  have q_69 := (mz_68).get q160
  have q_70 := (mz_68).get q165
  have q_71 := (mz_68).get q167
  have gz := gB_Reader_readConst_176 hn q_p0 hG hm.1 hB
  exact ⟨hm.tr gz.1, gz.2⟩
set_option maxRecDepth 20000 in
set_option maxHeartbeats 2000000 in
theorem gB_Reader_readConst_134 {N : Nat} {Q : Nat → Prop} {p0 : Nat} {p1 : Int32} {B : Nat} (hn : ∀ a, B ≤ a → Q a) (q_p0 : Q p0) {l2 : Int32} {l3 : Int32} {l4 : Int32} {l5 : Int32} {l6 : Int32} {H : Hp} {r : (Ot Int32) × Hp} (hF : B_Reader_readConst_134 N p0 p1 l2 l3 l4 l5 l6 H = some r) (hc0 : Cl Q H) (hB : B ≤ H.sh.length) : Rg Q H r.2 ∧ (∀ x, r.1 = .inr x → Q x) := by
  unfold B_Reader_readConst_134 at hF
  have hm := Rg.rf hc0
  rcases ite_s hF with ⟨q_72, hG⟩ | ⟨q_72, hG⟩
  · clear hF
    rcases ite_s hG with ⟨q_73, hF⟩ | ⟨q_73, hF⟩
    · clear hG
      obtain ⟨q174, hG⟩ := ck_s hF; clear hF
      obtain ⟨a175, e176, hF⟩ := rf_s hG; clear hG
      have qa175 : Q a175 := hm.1 _ _ _ q_p0 e176
      obtain ⟨q177, hG⟩ := ck_s hF; clear hF
      obtain ⟨v179, H180, z178, hF⟩ := bC_s hG; clear hG
      have gz_74 := (g_Lexer_advance z178 hm.1 qa175)
      replace hm : Rg Q H H180 := hm.tr gz_74
      replace hB : B ≤ H180.sh.length := Nat.le_trans hB ((m_Lexer_advance z178)).mo.len
      have s_75 : Sa H H180 := (m_Lexer_advance z178)
      have gz := gB_Reader_readConst_176 hn q_p0 hF hm.1 hB
      exact ⟨hm.tr gz.1, gz.2⟩
    · clear hG
      have gz := gB_Reader_readConst_161 hn q_p0 hF hm.1 hB
      exact ⟨hm.tr gz.1, gz.2⟩
  · clear hF
    have gz := gB_Reader_readConst_161 hn q_p0 hG hm.1 hB
    exact ⟨hm.tr gz.1, gz.2⟩
set_option maxRecDepth 20000 in
set_option maxHeartbeats 2000000 in
theorem gB_Reader_readConst_119 {N : Nat} {Q : Nat → Prop} {p0 : Nat} {p1 : Int32} {B : Nat} (hn : ∀ a, B ≤ a → Q a) (q_p0 : Q p0) {l2 : Int32} {l3 : Int32} {w0 : Int32} {H : Hp} {r : (Ot Int32) × Hp} (hF : B_Reader_readConst_119 N p0 p1 l2 l3 w0 H = some r) (hc0 : Cl Q H) (hB : B ≤ H.sh.length) : Rg Q H r.2 ∧ (∀ x, r.1 = .inr x → Q x) := by
  unfold B_Reader_readConst_119 at hF
  have hm := Rg.rf hc0
  obtain ⟨q181, hG⟩ := ck_s hF; clear hF
  obtain ⟨a182, e183, hF⟩ := rf_s hG; clear hG
  have qa182 : Q a182 := hm.1 _ _ _ q_p0 e183
  obtain ⟨q184, hG⟩ := ck_s hF; clear hF
  obtain ⟨v186, H187, z185, hF⟩ := bC_s hG; clear hG
  have gz_76 := (g_Lexer_advance z185 hm.1 qa182)
  replace hm : Rg Q H H187 := hm.tr gz_76
  replace hB : B ≤ H187.sh.length := Nat.le_trans hB ((m_Lexer_advance z185)).mo.len
  have s_77 : Sa H H187 := (m_Lexer_advance z185)
  have gz := gB_Reader_readConst_176 hn q_p0 hF hm.1 hB
  exact ⟨hm.tr gz.1, gz.2⟩
set_option maxRecDepth 20000 in
set_option maxHeartbeats 2000000 in
theorem gB_Reader_readConst_107 {N : Nat} {Q : Nat → Prop} {p0 : Nat} {p1 : Int32} {B : Nat} (hn : ∀ a, B ≤ a → Q a) (q_p0 : Q p0) {l2 : Int32} {l3 : Int32} {l4 : Int32} {H : Hp} {r : (Ot Int32) × Hp} (hF : B_Reader_readConst_107 N p0 p1 l2 l3 l4 H = some r) (hc0 : Cl Q H) (hB : B ≤ H.sh.length) : Rg Q H r.2 ∧ (∀ x, r.1 = .inr x → Q x) := by
  unfold B_Reader_readConst_107 at hF
  have hm := Rg.rf hc0
  rcases ite_s hF with ⟨q_78, hG⟩ | ⟨q_78, hG⟩
  · clear hF
    have gz := gB_Reader_readConst_119 hn q_p0 hG hm.1 hB
    exact ⟨hm.tr gz.1, gz.2⟩
  · clear hF
    have gz := gB_Reader_readConst_119 hn q_p0 hG hm.1 hB
    exact ⟨hm.tr gz.1, gz.2⟩
set_option maxRecDepth 20000 in
set_option maxHeartbeats 2000000 in
theorem gB_Reader_readConst_37 {N : Nat} {Q : Nat → Prop} {p0 : Nat} {p1 : Int32} {B : Nat} (hn : ∀ a, B ≤ a → Q a) (q_p0 : Q p0) {l2 : Int32} {l3 : Int32} {H : Hp} {r : (Ot Int32) × Hp} (hF : B_Reader_readConst_37 N p0 p1 l2 l3 H = some r) (hc0 : Cl Q H) (hB : B ≤ H.sh.length) : Rg Q H r.2 ∧ (∀ x, r.1 = .inr x → Q x) := by
  unfold B_Reader_readConst_37 at hF
  have hm := Rg.rf hc0
  obtain ⟨q189, hG⟩ := ck_s hF; clear hF
  obtain ⟨a190, e191, hF⟩ := rf_s hG; clear hG
  have qa190 : Q a190 := hm.1 _ _ _ q_p0 e191
  obtain ⟨q192, hG⟩ := ck_s hF; clear hF
  obtain ⟨x193, -, hF⟩ := bnd_g hG; clear hG
  rcases ite_s hF with ⟨q_79, hG⟩ | ⟨q_79, hG⟩
  · clear hF
    have gz := gB_Reader_readConst_64 hn q_p0 hG hm.1 hB
    exact ⟨hm.tr gz.1, gz.2⟩
  · clear hF
    rcases ite_s hG with ⟨q_80, hF⟩ | ⟨q_80, hF⟩
    · clear hG
      have gz := gB_Reader_readConst_64 hn q_p0 hF hm.1 hB
      exact ⟨hm.tr gz.1, gz.2⟩
    · clear hG
      rcases ite_s hF with ⟨q_81, hG⟩ | ⟨q_81, hG⟩
      · clear hF
        rcases ite_s hG with ⟨q_82, hF⟩ | ⟨q_82, hF⟩
        · clear hG
          have gz := gB_Reader_readConst_107 hn q_p0 hF hm.1 hB
          exact ⟨hm.tr gz.1, gz.2⟩
        · clear hG
          rcases ite_s hF with ⟨q_83, hG⟩ | ⟨q_83, hG⟩
          · clear hF
            have gz := gB_Reader_readConst_107 hn q_p0 hG hm.1 hB
            exact ⟨hm.tr gz.1, gz.2⟩
          · clear hF
            have gz := gB_Reader_readConst_134 hn q_p0 hG hm.1 hB
            exact ⟨hm.tr gz.1, gz.2⟩
      · clear hF
        have gz := gB_Reader_readConst_134 hn q_p0 hG hm.1 hB
        exact ⟨hm.tr gz.1, gz.2⟩
set_option maxRecDepth 20000 in
set_option maxHeartbeats 2000000 in
theorem gB_Reader_readConst_25 {N : Nat} {Q : Nat → Prop} {p0 : Nat} {p1 : Int32} {B : Nat} (hn : ∀ a, B ≤ a → Q a) (q_p0 : Q p0) {l2 : Int32} {w0 : Int32} {H : Hp} {r : (Ot Int32) × Hp} (hF : B_Reader_readConst_25 N p0 p1 l2 w0 H = some r) (hc0 : Cl Q H) (hB : B ≤ H.sh.length) : Rg Q H r.2 ∧ (∀ x, r.1 = .inr x → Q x) := by
  unfold B_Reader_readConst_25 at hF
  have hm := Rg.rf hc0
  rcases ite_s hF with ⟨q_84, hG⟩ | ⟨q_84, hG⟩
  · clear hF
    have gz := gB_Reader_readConst_37 hn q_p0 hG hm.1 hB
    exact ⟨hm.tr gz.1, gz.2⟩
  · clear hF
    obtain ⟨q200, hF⟩ := ck_s hG; clear hG
    obtain ⟨a201, e202, hG⟩ := rf_s hF; clear hF
    have qa201 : Q a201 := hm.1 _ _ _ q_p0 e202
    obtain ⟨q203, hF⟩ := ck_s hG; clear hG
    obtain ⟨v205, H206, z204, hG⟩ := bC_s hF; clear hF
    have gz_85 := (g_Lexer_advance z204 hm.1 qa201)
    replace hm : Rg Q H H206 := hm.tr gz_85
    replace hB : B ≤ H206.sh.length := Nat.le_trans hB ((m_Lexer_advance z204)).mo.len
    have s_86 : Sa H H206 := (m_Lexer_advance z204)
    have gz := gB_Reader_readConst_37 hn q_p0 hG hm.1 hB
    exact ⟨hm.tr gz.1, gz.2⟩
set_option maxRecDepth 20000 in
set_option maxHeartbeats 2000000 in
theorem g_Reader_readConst {N : Nat} {Q : Nat → Prop} {p0 : Nat} {p1 : Int32} {H : Hp} {r : (Ot Int32) × Hp} {B : Nat} (hn : ∀ a, B ≤ a → Q a) (hF : F_Reader_readConst N p0 p1 H = some r) (hc0 : Cl Q H) (hB : B ≤ H.sh.length) (q_p0 : Q p0) : Rg Q H r.2 ∧ (∀ x, r.1 = .inr x → Q x) := by
  unfold F_Reader_readConst at hF
  have hm := Rg.rf hc0
  obtain ⟨q207, hG⟩ := ck_s hF; clear hF
  obtain ⟨a208, e209, hF⟩ := rf_s hG; clear hG
  have qa208 : Q a208 := hm.1 _ _ _ q_p0 e209
  obtain ⟨q210, hG⟩ := ck_s hF; clear hF
  obtain ⟨x211, -, hF⟩ := bnd_g hG; clear hG
  obtain ⟨a212, e213, hG⟩ := rf_s hF; clear hF
  have qa212 : Q a212 := hm.1 _ _ _ q_p0 e213
  obtain ⟨q214, hF⟩ := ck_s hG; clear hG
  obtain ⟨x215, -, hG⟩ := bnd_g hF; clear hF
  rcases ite_s hG with ⟨q_87, hF⟩ | ⟨q_87, hF⟩
  · clear hG
    have gz := gB_Reader_readConst_25 hn q_p0 hF hm.1 hB
    exact ⟨hm.tr gz.1, gz.2⟩
  · clear hG
    have gz := gB_Reader_readConst_25 hn q_p0 hF hm.1 hB
    exact ⟨hm.tr gz.1, gz.2⟩
set_option maxRecDepth 20000 in
set_option maxHeartbeats 2000000 in
theorem gB_Reader_readValues_173 {N : Nat} {Q : Nat → Prop} {p0 : Nat} {p1 : Int32} {p2 : Int32} {B : Nat} (hn : ∀ a, B ≤ a → Q a) (q_p0 : Q p0)  {H : Hp} {r : (Ot Unit) × Hp} (hF : B_Reader_readValues_173 N p0 p1 p2  H = some r) (hc0 : Cl Q H) (hB : B ≤ H.sh.length) : Rg Q H r.2 ∧ (∀ x, r.1 = .inr x → Q x) := by
  unfold B_Reader_readValues_173 at hF
  have hm := Rg.rf hc0
  obtain ⟨q91, hG⟩ := ck_s hF; clear hF
  obtain ⟨a92, e93, hF⟩ := rf_s hG; clear hG
  have qa92 : Q a92 := hm.1 _ _ _ q_p0 e93
  obtain ⟨q94, hG⟩ := ck_s hF; clear hF
  refine bT_c hG (fun x98 H97 z95 er => ?_) (fun v96 H97 z95 hF => ?_)
  · subst er; have gz := (g_Lexer_take hn z95 hm.1 hB qa92); exact ⟨hm.tr gz.1, (fun x e => by cases e; exact gz.2 _ rfl)⟩
  clear hG
  have gz_104 := (g_Lexer_take hn z95 hm.1 hB qa92)
  replace hm : Rg Q H H97 := hm.tr gz_104.1
  replace hB : B ≤ H97.sh.length := Nat.le_trans hB ((m_Lexer_take z95)).len
  have mz_105 : Mo H H97 := (m_Lexer_take z95)
  have q_106 := (mz_105).get q91
  have q_107 := (mz_105).get q94
  have hr := Option.some.inj hF; subst hr
  exact ⟨hm, (fun x e => by cases e)⟩
set_option maxRecDepth 20000 in
set_option maxHeartbeats 2000000 in
theorem gB_Reader_readValues_99 {N : Nat} {Q : Nat → Prop} {p0 : Nat} {p1 : Int32} {p2 : Int32} {kq5 : Int32 → Int32 → Hp → Option ((Ot Unit) × Hp)} {B : Nat} (hn : ∀ a, B ≤ a → Q a) (q_p0 : Q p0) (hg5 : ∀ (l3 : Int32) (l4 : Int32) (H : Hp) (r : (Ot Unit) × Hp), kq5 l3 l4 H = some r → Cl Q H → B ≤ H.sh.length → Rg Q H r.2 ∧ (∀ x, r.1 = .inr x → Q x)) {l3 : Int32} {l4 : Int32} {l6 : Int32} {l7 : Int32} {H : Hp} {r : (Ot Unit) × Hp} (hF : B_Reader_readValues_99 N p0 p1 p2 kq5 l3 l4 l6 l7 H = some r) (hc0 : Cl Q H) (hB : B ≤ H.sh.length) : Rg Q H r.2 ∧ (∀ x, r.1 = .inr x → Q x) := by
  unfold B_Reader_readValues_99 at hF
  have hm := Rg.rf hc0
  obtain ⟨q99, hG⟩ := ck_s hF; clear hF
  obtain ⟨a100, e101, hF⟩ := rf_s hG; clear hG
  have qa100 : Q a100 := hm.1 _ _ _ q_p0 e101
  obtain ⟨q102, hG⟩ := ck_s hF; clear hF
  refine bT_c hG (fun x106 H105 z103 er => ?_) (fun v104 H105 z103 hF => ?_)
  · subst er; have gz := (g_Lexer_take hn z103 hm.1 hB qa100); exact ⟨hm.tr gz.1, (fun x e => by cases e; exact gz.2 _ rfl)⟩
  clear hG
  have gz_108 := (g_Lexer_take hn z103 hm.1 hB qa100)
  replace hm : Rg Q H H105 := hm.tr gz_108.1
  replace hB : B ≤ H105.sh.length := Nat.le_trans hB ((m_Lexer_take z103)).len
  have mz_109 : Mo H H105 := (m_Lexer_take z103)
  have q_110 := (mz_109).get q99
  have q_111 := (mz_109).get q102
  obtain ⟨a107, e108, hG⟩ := rf_s hF; clear hF
  have qa107 : Q a107 := hm.1 _ _ _ q_p0 e108
  obtain ⟨q109, hF⟩ := ck_s hG; clear hG
  obtain ⟨a110, e111, hG⟩ := rf_s hF; clear hF
  have qa110 : Q a110 := hm.1 _ _ _ qa107 e111
  obtain ⟨q112, hF⟩ := ck_s hG; clear hG
  obtain ⟨a113, e114, hG⟩ := rf_s hF; clear hF
  have qa113 : Q a113 := hm.1 _ _ _ qa110 e114
  obtain ⟨n115, q116, hF⟩ := ar_s hG; clear hG
  obtain ⟨q117, hG⟩ := ck_s hF; clear hF
  obtain ⟨a118, e119, hF⟩ := rf_s hG; clear hG
  have qa118 : Q a118 := hm.1 _ _ _ qa113 e119
  obtain ⟨q120, hG⟩ := ck_s hF; clear hF
  obtain ⟨x121, -, hF⟩ := bnd_g hG; clear hG
  refine bT_c hF (fun x125 H124 z122 er => ?_) (fun v123 H124 z122 hG => ?_)
  · subst er; have gz := (g_Reader_readConst hn z122 hm.1 hB q_p0); exact ⟨hm.tr gz.1, (fun x e => by cases e; exact gz.2 _ rfl)⟩
  clear hF
  have gz_112 := (g_Reader_readConst hn z122 hm.1 hB q_p0)
  replace hm : Rg Q H H124 := hm.tr gz_112.1
  replace hB : B ≤ H124.sh.length := Nat.le_trans hB ((m_Reader_readConst z122)).len
  have mz_113 : Mo H105 H124 := (m_Reader_readConst z122)
  have q_114 := (mz_113).get q_110
  have q_115 := (mz_113).get q_111
  have q_116 := (mz_113).get q109
  have q_117 := (mz_113).get q112
  have q_118 := (mz_113).get q116
  have q_119 := (mz_113).get q120
  obtain ⟨a126, e127, hF⟩ := rf_s hG; clear hG
  have qa126 : Q a126 := hm.1 _ _ _ q_p0 e127
  obtain ⟨q128, hG⟩ := ck_s hF; clear hF
  obtain ⟨a129, e130, hF⟩ := rf_s hG; clear hG
  have qa129 : Q a129 := hm.1 _ _ _ qa126 e130
  obtain ⟨n131, q132, hG⟩ := ar_s hF; clear hF
  obtain ⟨q133, hF⟩ := ck_s hG; clear hG
  obtain ⟨H134, eH134, hG⟩ := bnd_g hF; clear hF
  replace hm : Rg Q H H134 := hm.tr (by rw [eH134]; exact Rg.sD hm.1 qa129)
  have s_120 : Sa H124 H134 := by rw [eH134]; exact Sa.rf _
  replace hB : B ≤ H134.sh.length := by rw [eH134]; exact hB
  obtain ⟨a135, e136, hF⟩ := rf_s hG; clear hG
  have qa135 : Q a135 := hm.1 _ _ _ q_p0 e136
  obtain ⟨q137, hG⟩ := ck_s hF; clear hF
  rw [(s_120).1] at q137
  obtain ⟨x138, -, hF⟩ := bnd_g hG; clear hG
  rcases ite_s hF with ⟨q_121, hG⟩ | ⟨q_121, hG⟩
  · clear hF
    have gz := hg5 (l3 ||| l7) (l4 + 1) H134 r hG hm.1 hB
    exact ⟨hm.tr gz.1, gz.2⟩
  · clear hF
    have gz := gB_Reader_readValues_173 hn q_p0 hG hm.1 hB
    exact ⟨hm.tr gz.1, gz.2⟩
set_option maxRecDepth 20000 in
set_option maxHeartbeats 2000000 in
theorem gB_Reader_readValues_63 {N : Nat} {Q : Nat → Prop} {p0 : Nat} {p1 : Int32} {p2 : Int32} {kq5 : Int32 → Int32 → Hp → Option ((Ot Unit) × Hp)} {B : Nat} (hn : ∀ a, B ≤ a → Q a) (q_p0 : Q p0) (hg5 : ∀ (l3 : Int32) (l4 : Int32) (H : Hp) (r : (Ot Unit) × Hp), kq5 l3 l4 H = some r → Cl Q H → B ≤ H.sh.length → Rg Q H r.2 ∧ (∀ x, r.1 = .inr x → Q x)) {l3 : Int32} {l4 : Int32} {l5 : Int32} {l6 : Int32} {H : Hp} {r : (Ot Unit) × Hp} (hF : B_Reader_readValues_63 N p0 p1 p2 kq5 l3 l4 l5 l6 H = some r) (hc0 : Cl Q H) (hB : B ≤ H.sh.length) : Rg Q H r.2 ∧ (∀ x, r.1 = .inr x → Q x) := by
  unfold B_Reader_readValues_63 at hF
  have hm := Rg.rf hc0
  obtain ⟨q140, hG⟩ := ck_s hF; clear hF
  obtain ⟨a141, e142, hF⟩ := rf_s hG; clear hG
  have qa141 : Q a141 := hm.1 _ _ _ q_p0 e142
  obtain ⟨q143, hG⟩ := ck_s hF; clear hF
  obtain ⟨a144, e145, hF⟩ := rf_s hG; clear hG
  have qa144 : Q a144 := hm.1 _ _ _ qa141 e145
  obtain ⟨q146, hG⟩ := ck_s hF; clear hF
  obtain ⟨a147, e148, hF⟩ := rf_s hG; clear hG
  have qa147 : Q a147 := hm.1 _ _ _ qa144 e148
  obtain ⟨n149, q150, hG⟩ := ar_s hF; clear hF
  obtain ⟨q151, hF⟩ := ck_s hG; clear hG
  obtain ⟨x152, -, hG⟩ := bnd_g hF; clear hF
  obtain ⟨x153, -, hF⟩ := bnd_g hG; clear hG
  rcases ite_s hF with ⟨q_122, hG⟩ | ⟨q_122, hG⟩
  · clear hF
    have gz := gB_Reader_readValues_99 hn q_p0 hg5 hG hm.1 hB
    exact ⟨hm.tr gz.1, gz.2⟩
  · clear hF
    obtain ⟨a155, e156, hF⟩ := rf_s hG; clear hG
    have qa155 : Q a155 := hm.1 _ _ _ q_p0 e156
    obtain ⟨q157, hG⟩ := ck_s hF; clear hF
    refine bT_c hG (fun x161 H160 z158 er => ?_) (fun v159 H160 z158 hF => ?_)
    · subst er; have gz := (g_Lexer_refuse hn z158 hm.1 hB qa155); exact ⟨hm.tr gz.1, (fun x e => by cases e; exact gz.2 _ rfl)⟩
    clear hG
    have gz_123 := (g_Lexer_refuse hn z158 hm.1 hB qa155)
    replace hm : Rg Q H H160 := hm.tr gz_123.1
    replace hB : B ≤ H160.sh.length := Nat.le_trans hB ((m_Lexer_refuse z158)).len
    have mz_124 : Mo H H160 := (m_Lexer_refuse z158)
    have q_125 := (mz_124).get q140
    have q_126 := (mz_124).get q143
    have q_127 := (mz_124).get q146
    have q_128 := (mz_124).get q150
    have q_129 := (mz_124).get q157
    have gz := gB_Reader_readValues_99 hn q_p0 hg5 hF hm.1 hB
    exact ⟨hm.tr gz.1, gz.2⟩
set_option maxRecDepth 20000 in
set_option maxHeartbeats 2000000 in
theorem gB_Reader_readValues_5 {N : Nat} {Q : Nat → Prop} {p0 : Nat} {p1 : Int32} {p2 : Int32} {B : Nat} (hn : ∀ a, B ≤ a → Q a) (q_p0 : Q p0) : ∀ (n : Nat) (l3 : Int32) (l4 : Int32) (H : Hp) (r : (Ot Unit) × Hp), B_Reader_readValues_5 N p0 p1 p2 n l3 l4 H = some r → Cl Q H → B ≤ H.sh.length → Rg Q H r.2 ∧ (∀ x, r.1 = .inr x → Q x) := by
  intro n
  induction n with
  | zero => intro l3 l4 H r hF; rw [B_Reader_readValues_5] at hF; cases hF
  | succ n ih =>
    intro l3 l4 H r hF hc0 hB
    rw [B_Reader_readValues_5] at hF
    have hm := Rg.rf hc0
    rcases ite_s hF with ⟨q_130, hG⟩ | ⟨q_130, hG⟩
    · clear hF
      have gz := gB_Reader_readValues_173 hn q_p0 hG hm.1 hB
      exact ⟨hm.tr gz.1, gz.2⟩
    · clear hF
      obtain ⟨q163, hF⟩ := ck_s hG; clear hG
      obtain ⟨a164, e165, hG⟩ := rf_s hF; clear hF
      have qa164 : Q a164 := hm.1 _ _ _ q_p0 e165
      obtain ⟨q166, hF⟩ := ck_s hG; clear hG
      obtain ⟨v168, H169, z167, hG⟩ := bC_s hF; clear hF
      have gz_131 := (g_Lexer_advance z167 hm.1 qa164)
      replace hm : Rg Q H H169 := hm.tr gz_131
      replace hB : B ≤ H169.sh.length := Nat.le_trans hB ((m_Lexer_advance z167)).mo.len
      have s_132 : Sa H H169 := (m_Lexer_advance z167)
      obtain ⟨a170, e171, hF⟩ := rf_s hG; clear hG
      have qa170 : Q a170 := hm.1 _ _ _ q_p0 e171
      obtain ⟨q172, hG⟩ := ck_s hF; clear hF
      rw [(s_132).1] at q172
      obtain ⟨x173, -, hF⟩ := bnd_g hG; clear hG
      obtain ⟨a174, e175, hG⟩ := rf_s hF; clear hF
      have qa174 : Q a174 := hm.1 _ _ _ q_p0 e175
      obtain ⟨q176, hF⟩ := ck_s hG; clear hG
      rw [(s_132).1] at q176
      obtain ⟨a177, e178, hG⟩ := rf_s hF; clear hF
      have qa177 : Q a177 := hm.1 _ _ _ qa174 e178
      obtain ⟨a179, e180, hF⟩ := rf_s hG; clear hG
      have qa179 : Q a179 := hm.1 _ _ _ q_p0 e180
      obtain ⟨q181, hG⟩ := ck_s hF; clear hF
      rw [(s_132).1] at q181
      refine bT_c hG (fun x185 H184 z182 er => ?_) (fun v183 H184 z182 hF => ?_)
      · subst er; have gz := (g_Lexer_takeName hn z182 hm.1 hB qa179); exact ⟨hm.tr gz.1, (fun x e => by cases e; exact gz.2.2 _ rfl)⟩
      clear hG
      have gz_133 := (g_Lexer_takeName hn z182 hm.1 hB qa179)
      replace hm : Rg Q H H184 := hm.tr gz_133.1
      replace hB : B ≤ H184.sh.length := Nat.le_trans hB ((m_Lexer_takeName z182)).len
      have mz_134 : Mo H169 H184 := (m_Lexer_takeName z182)
      have q_135 := (mz_134).get (by rw [(s_132).1]; exact q163)
      have q_136 := (mz_134).get (by rw [(s_132).1]; exact q166)
      have q_137 := (mz_134).get (by rw [(s_132).1]; exact q172)
      have q_138 := (mz_134).get (by rw [(s_132).1]; exact q176)
      have q_139 := (mz_134).get (by rw [(s_132).1]; exact q181)
      obtain ⟨a186, ea186, hG⟩ := on_s hF; clear hF
      subst ea186
      have qa186 : Q a186 := gz_133.2.1 _ rfl
      obtain ⟨q187, hF⟩ := ck_s hG; clear hG
      obtain ⟨v189, H190, z188, hG⟩ := bC_s hF; clear hF
      have gz_140 := (g_Shapes_memberNamed z188 hm.1 qa177 qa186)
      replace hm : Rg Q H H190 := hm.tr gz_140
      replace hB : B ≤ H190.sh.length := Nat.le_trans hB ((m_Shapes_memberNamed z188)).mo.len
      have s_141 : Sa H184 H190 := (m_Shapes_memberNamed z188)
      rcases ite_s hG with ⟨q_142, hF⟩ | ⟨q_142, hF⟩
      · clear hG
        have gz := gB_Reader_readValues_63 hn q_p0 ih hF hm.1 hB
        exact ⟨hm.tr gz.1, gz.2⟩
      · clear hG
        obtain ⟨a192, e193, hG⟩ := rf_s hF; clear hF
        have qa192 : Q a192 := hm.1 _ _ _ q_p0 e193
        obtain ⟨q194, hF⟩ := ck_s hG; clear hG
        rw [(s_141).1] at q194
        refine bT_c hF (fun x198 H197 z195 er => ?_) (fun v196 H197 z195 hG => ?_)
        · subst er; have gz := (g_Lexer_refuse hn z195 hm.1 hB qa192); exact ⟨hm.tr gz.1, (fun x e => by cases e; exact gz.2 _ rfl)⟩
        clear hF
        have gz_143 := (g_Lexer_refuse hn z195 hm.1 hB qa192)
        replace hm : Rg Q H H197 := hm.tr gz_143.1
        replace hB : B ≤ H197.sh.length := Nat.le_trans hB ((m_Lexer_refuse z195)).len
        have mz_144 : Mo H190 H197 := (m_Lexer_refuse z195)
        have q_145 := (mz_144).get (by rw [(s_141).1]; exact q_135)
        have q_146 := (mz_144).get (by rw [(s_141).1]; exact q_136)
        have q_147 := (mz_144).get (by rw [(s_141).1]; exact q_137)
        have q_148 := (mz_144).get (by rw [(s_141).1]; exact q_138)
        have q_149 := (mz_144).get (by rw [(s_141).1]; exact q_139)
        have q_150 := (mz_144).get (by rw [(s_141).1]; exact q187)
        have q_151 := (mz_144).get (by rw [(s_141).1]; exact q194)
        have gz := gB_Reader_readValues_63 hn q_p0 ih hG hm.1 hB
        exact ⟨hm.tr gz.1, gz.2⟩
set_option maxRecDepth 20000 in
set_option maxHeartbeats 2000000 in
theorem g_Reader_readValues {N : Nat} {Q : Nat → Prop} {p0 : Nat} {p1 : Int32} {p2 : Int32} {H : Hp} {r : (Ot Unit) × Hp} {B : Nat} (hn : ∀ a, B ≤ a → Q a) (hF : F_Reader_readValues N p0 p1 p2 H = some r) (hc0 : Cl Q H) (hB : B ≤ H.sh.length) (q_p0 : Q p0) : Rg Q H r.2 ∧ (∀ x, r.1 = .inr x → Q x) := by
  unfold F_Reader_readValues at hF
  have hm := Rg.rf hc0
  have gz := gB_Reader_readValues_5 hn q_p0 N 0 0 H r hF hm.1 hB
  exact ⟨hm.tr gz.1, gz.2⟩
set_option maxRecDepth 20000 in
set_option maxHeartbeats 2000000 in
theorem gB_Reader_readPart_94 {N : Nat} {Q : Nat → Prop} {p0 : Nat} {p1 : Int32} {B : Nat} (hn : ∀ a, B ≤ a → Q a) (q_p0 : Q p0) {l4 : Int32} {l5 : Nat} {H : Hp} {r : (Ot Unit) × Hp} (hF : B_Reader_readPart_94 N p0 p1 l4 l5 H = some r) (hc0 : Cl Q H) (hB : B ≤ H.sh.length) (q_l5 : Q l5) : Rg Q H r.2 ∧ (∀ x, r.1 = .inr x → Q x) := by
  unfold B_Reader_readPart_94 at hF
  have hm := Rg.rf hc0
  obtain ⟨q67, hG⟩ := ck_s hF; clear hF
  obtain ⟨a68, e69, hF⟩ := rf_s hG; clear hG
  have qa68 : Q a68 := hm.1 _ _ _ q_p0 e69
  obtain ⟨q70, hG⟩ := ck_s hF; clear hF
  obtain ⟨a71, e72, hF⟩ := rf_s hG; clear hG
  have qa71 : Q a71 := hm.1 _ _ _ qa68 e72
  obtain ⟨q73, hG⟩ := ck_s hF; clear hF
  obtain ⟨x74, -, hF⟩ := bnd_g hG; clear hG
  obtain ⟨n75, q76, hG⟩ := ar_s hF; clear hF
  obtain ⟨q77, hF⟩ := ck_s hG; clear hG
  obtain ⟨H78, eH78, hG⟩ := bnd_g hF; clear hF
  replace hm : Rg Q H H78 := hm.tr (by rw [eH78]; exact Rg.sD hm.1 qa71)
  have s_84 : Sa H H78 := by rw [eH78]; exact Sa.rf _
  replace hB : B ≤ H78.sh.length := by rw [eH78]; exact hB
  obtain ⟨a79, e80, hF⟩ := rf_s hG; clear hG
  have qa79 : Q a79 := hm.1 _ _ _ q_p0 e80
  obtain ⟨q81, hG⟩ := ck_s hF; clear hF
  rw [(s_84).1] at q81
  obtain ⟨x82, -, hF⟩ := bnd_g hG; clear hG
  rcases ite_s hF with ⟨q_85, hG⟩ | ⟨q_85, hG⟩
  · clear hF
    obtain ⟨x84, -, hF⟩ := bnd_g hG; clear hG
    refine bT_c hF (fun x88 H87 z85 er => ?_) (fun v86 H87 z85 hG => ?_)
    · subst er; have gz := (g_Reader_readValues hn z85 hm.1 hB q_p0); exact ⟨hm.tr gz.1, (fun x e => by cases e; exact gz.2 _ rfl)⟩
    clear hF
    have gz_86 := (g_Reader_readValues hn z85 hm.1 hB q_p0)
    replace hm : Rg Q H H87 := hm.tr gz_86.1
    replace hB : B ≤ H87.sh.length := Nat.le_trans hB ((m_Reader_readValues z85)).len
    have mz_87 : Mo H78 H87 := (m_Reader_readValues z85)
    have q_88 := (mz_87).get (by rw [(s_84).1]; exact q67)
    have q_89 := (mz_87).get (by rw [(s_84).1]; exact q70)
    have q_90 := (mz_87).get (by rw [(s_84).1]; exact q73)
    have q_91 := (mz_87).get (by rw [(s_84).1]; exact q76)
    have q_92 := (mz_87).get (by rw [(s_84).1]; exact q81)
    have hr := Option.some.inj hG; subst hr
    exact ⟨hm, (fun x e => by cases e)⟩
  · clear hF
    have hr := Option.some.inj hG; subst hr
    exact ⟨hm, (fun x e => by cases e)⟩
set_option maxRecDepth 20000 in
set_option maxHeartbeats 2000000 in
theorem gB_Reader_readPart_71 {N : Nat} {Q : Nat → Prop} {p0 : Nat} {p1 : Int32} {B : Nat} (hn : ∀ a, B ≤ a → Q a) (q_p0 : Q p0) {l2 : Int32} {l4 : Int32} {l5 : Nat} {H : Hp} {r : (Ot Unit) × Hp} (hF : B_Reader_readPart_71 N p0 p1 l2 l4 l5 H = some r) (hc0 : Cl Q H) (hB : B ≤ H.sh.length) (q_l5 : Q l5) : Rg Q H r.2 ∧ (∀ x, r.1 = .inr x → Q x) := by
  unfold B_Reader_readPart_71 at hF
  have hm := Rg.rf hc0
  obtain ⟨q89, hG⟩ := ck_s hF; clear hF
  obtain ⟨x90, -, hF⟩ := bnd_g hG; clear hG
  rcases ite_s hF with ⟨q_93, hG⟩ | ⟨q_93, hG⟩
  · clear hF
    obtain ⟨q92, hF⟩ := ck_s hG; clear hG
    obtain ⟨a93, e94, hG⟩ := rf_s hF; clear hF
    have qa93 : Q a93 := hm.1 _ _ _ q_p0 e94
    obtain ⟨q95, hF⟩ := ck_s hG; clear hG
    refine bT_c hF (fun x99 H98 z96 er => ?_) (fun v97 H98 z96 hG => ?_)
    · subst er; have gz := (g_Lexer_refuse hn z96 hm.1 hB qa93); exact ⟨hm.tr gz.1, (fun x e => by cases e; exact gz.2 _ rfl)⟩
    clear hF
    have gz_94 := (g_Lexer_refuse hn z96 hm.1 hB qa93)
    replace hm : Rg Q H H98 := hm.tr gz_94.1
    replace hB : B ≤ H98.sh.length := Nat.le_trans hB ((m_Lexer_refuse z96)).len
    have mz_95 : Mo H H98 := (m_Lexer_refuse z96)
    have q_96 := (mz_95).get q89
    have q_97 := (mz_95).get q92
    have q_98 := (mz_95).get q95
    have gz := gB_Reader_readPart_94 hn q_p0 hG hm.1 hB q_l5
    exact ⟨hm.tr gz.1, gz.2⟩
  · clear hF
    have gz := gB_Reader_readPart_94 hn q_p0 hG hm.1 hB q_l5
    exact ⟨hm.tr gz.1, gz.2⟩
set_option maxRecDepth 20000 in
set_option maxHeartbeats 2000000 in
theorem gB_Reader_readPart_46 {N : Nat} {Q : Nat → Prop} {p0 : Nat} {p1 : Int32} {B : Nat} (hn : ∀ a, B ≤ a → Q a) (q_p0 : Q p0) {l2 : Int32} {l3 : Nat} {l4 : Int32} {H : Hp} {r : (Ot Unit) × Hp} (hF : B_Reader_readPart_46 N p0 p1 l2 l3 l4 H = some r) (hc0 : Cl Q H) (hB : B ≤ H.sh.length) (q_l3 : Q l3) : Rg Q H r.2 ∧ (∀ x, r.1 = .inr x → Q x) := by
  unfold B_Reader_readPart_46 at hF
  have hm := Rg.rf hc0
  obtain ⟨q100, hG⟩ := ck_s hF; clear hF
  refine bT_c hG (fun x104 H103 z101 er => ?_) (fun v102 H103 z101 hF => ?_)
  · subst er; have gz := (g_Reader_known hn z101 hm.1 hB q_p0 q_l3); exact ⟨hm.tr gz.1, (fun x e => by cases e; exact gz.2.2 _ rfl)⟩
  clear hG
  have gz_99 := (g_Reader_known hn z101 hm.1 hB q_p0 q_l3)
  replace hm : Rg Q H H103 := hm.tr gz_99.1
  replace hB : B ≤ H103.sh.length := Nat.le_trans hB ((m_Reader_known z101)).len
  have mz_100 : Mo H H103 := (m_Reader_known z101)
  have q_101 := (mz_100).get q100
  obtain ⟨a105, ea105, hG⟩ := on_s hF; clear hF
  subst ea105
  have qa105 : Q a105 := gz_99.2.1 _ rfl
  obtain ⟨q106, hF⟩ := ck_s hG; clear hG
  obtain ⟨x107, -, hG⟩ := bnd_g hF; clear hF
  rcases ite_s hG with ⟨q_102, hF⟩ | ⟨q_102, hF⟩
  · clear hG
    have gz := gB_Reader_readPart_71 hn q_p0 hF hm.1 hB qa105
    exact ⟨hm.tr gz.1, gz.2⟩
  · clear hG
    obtain ⟨a109, e110, hG⟩ := rf_s hF; clear hF
    have qa109 : Q a109 := hm.1 _ _ _ q_p0 e110
    obtain ⟨q111, hF⟩ := ck_s hG; clear hG
    refine bT_c hF (fun x115 H114 z112 er => ?_) (fun v113 H114 z112 hG => ?_)
    · subst er; have gz := (g_Lexer_refuse hn z112 hm.1 hB qa109); exact ⟨hm.tr gz.1, (fun x e => by cases e; exact gz.2 _ rfl)⟩
    clear hF
    have gz_103 := (g_Lexer_refuse hn z112 hm.1 hB qa109)
    replace hm : Rg Q H H114 := hm.tr gz_103.1
    replace hB : B ≤ H114.sh.length := Nat.le_trans hB ((m_Lexer_refuse z112)).len
    have mz_104 : Mo H103 H114 := (m_Lexer_refuse z112)
    have q_105 := (mz_104).get q_101
    have q_106 := (mz_104).get q106
    have q_107 := (mz_104).get q111
    have gz := gB_Reader_readPart_71 hn q_p0 hG hm.1 hB qa105
    exact ⟨hm.tr gz.1, gz.2⟩
set_option maxRecDepth 20000 in
set_option maxHeartbeats 2000000 in
theorem g_Reader_readPart {N : Nat} {Q : Nat → Prop} {p0 : Nat} {p1 : Int32} {H : Hp} {r : (Ot Unit) × Hp} {B : Nat} (hn : ∀ a, B ≤ a → Q a) (hF : F_Reader_readPart N p0 p1 H = some r) (hc0 : Cl Q H) (hB : B ≤ H.sh.length) (q_p0 : Q p0) : Rg Q H r.2 ∧ (∀ x, r.1 = .inr x → Q x) := by
  unfold F_Reader_readPart at hF
  have hm := Rg.rf hc0
  obtain ⟨q116, hG⟩ := ck_s hF; clear hF
  obtain ⟨a117, e118, hF⟩ := rf_s hG; clear hG
  have qa117 : Q a117 := hm.1 _ _ _ q_p0 e118
  obtain ⟨q119, hG⟩ := ck_s hF; clear hF
  obtain ⟨x120, -, hF⟩ := bnd_g hG; clear hG
  obtain ⟨a121, e122, hG⟩ := rf_s hF; clear hF
  have qa121 : Q a121 := hm.1 _ _ _ q_p0 e122
  obtain ⟨q123, hF⟩ := ck_s hG; clear hG
  refine bT_c hF (fun x127 H126 z124 er => ?_) (fun v125 H126 z124 hG => ?_)
  · subst er; have gz := (g_Lexer_takeName hn z124 hm.1 hB qa121); exact ⟨hm.tr gz.1, (fun x e => by cases e; exact gz.2.2 _ rfl)⟩
  clear hF
  have gz_108 := (g_Lexer_takeName hn z124 hm.1 hB qa121)
  replace hm : Rg Q H H126 := hm.tr gz_108.1
  replace hB : B ≤ H126.sh.length := Nat.le_trans hB ((m_Lexer_takeName z124)).len
  have mz_109 : Mo H H126 := (m_Lexer_takeName z124)
  have q_110 := (mz_109).get q116
  have q_111 := (mz_109).get q119
  have q_112 := (mz_109).get q123
  obtain ⟨a128, ea128, hF⟩ := on_s hG; clear hG
  subst ea128
  have qa128 : Q a128 := gz_108.2.1 _ rfl
  obtain ⟨a129, e130, hG⟩ := rf_s hF; clear hF
  have qa129 : Q a129 := hm.1 _ _ _ q_p0 e130
  obtain ⟨q131, hF⟩ := ck_s hG; clear hG
  obtain ⟨a132, e133, hG⟩ := rf_s hF; clear hF
  have qa132 : Q a132 := hm.1 _ _ _ qa129 e133
  obtain ⟨n134, q135, hF⟩ := ar_s hG; clear hG
  obtain ⟨q136, hG⟩ := ck_s hF; clear hF
  obtain ⟨x137, -, hF⟩ := bnd_g hG; clear hG
  obtain ⟨v139, H140, z138, hG⟩ := bC_s hF; clear hF
  have gz_113 := (g_Integer_bitCount z138 hm.1)
  replace hm : Rg Q H H140 := hm.tr gz_113
  replace hB : B ≤ H140.sh.length := Nat.le_trans hB ((m_Integer_bitCount z138)).mo.len
  have s_114 : Sa H126 H140 := (m_Integer_bitCount z138)
  rcases ite_s hG with ⟨q_115, hF⟩ | ⟨q_115, hF⟩
  · clear hG
    have gz := gB_Reader_readPart_46 hn q_p0 hF hm.1 hB qa128
    exact ⟨hm.tr gz.1, gz.2⟩
  · clear hG
    obtain ⟨a142, e143, hG⟩ := rf_s hF; clear hF
    have qa142 : Q a142 := hm.1 _ _ _ q_p0 e143
    obtain ⟨q144, hF⟩ := ck_s hG; clear hG
    rw [(s_114).1] at q144
    refine bT_c hF (fun x148 H147 z145 er => ?_) (fun v146 H147 z145 hG => ?_)
    · subst er; have gz := (g_Lexer_refuse hn z145 hm.1 hB qa142); exact ⟨hm.tr gz.1, (fun x e => by cases e; exact gz.2 _ rfl)⟩
    clear hF
    have gz_116 := (g_Lexer_refuse hn z145 hm.1 hB qa142)
    replace hm : Rg Q H H147 := hm.tr gz_116.1
    replace hB : B ≤ H147.sh.length := Nat.le_trans hB ((m_Lexer_refuse z145)).len
    have mz_117 : Mo H140 H147 := (m_Lexer_refuse z145)
    have q_118 := (mz_117).get (by rw [(s_114).1]; exact q_110)
    have q_119 := (mz_117).get (by rw [(s_114).1]; exact q_111)
    have q_120 := (mz_117).get (by rw [(s_114).1]; exact q_112)
    have q_121 := (mz_117).get (by rw [(s_114).1]; exact q131)
    have q_122 := (mz_117).get (by rw [(s_114).1]; exact q135)
    have q_123 := (mz_117).get (by rw [(s_114).1]; exact q144)
    have gz := gB_Reader_readPart_46 hn q_p0 hG hm.1 hB qa128
    exact ⟨hm.tr gz.1, gz.2⟩
set_option maxRecDepth 20000 in
set_option maxHeartbeats 2000000 in
theorem gB_Reader_readPrefab_143 {N : Nat} {Q : Nat → Prop} {p0 : Nat} {B : Nat} (hn : ∀ a, B ≤ a → Q a) (q_p0 : Q p0)  {H : Hp} {r : (Ot Unit) × Hp} (hF : B_Reader_readPrefab_143 N p0  H = some r) (hc0 : Cl Q H) (hB : B ≤ H.sh.length) : Rg Q H r.2 ∧ (∀ x, r.1 = .inr x → Q x) := by
  unfold B_Reader_readPrefab_143 at hF
  have hm := Rg.rf hc0
  obtain ⟨q81, hG⟩ := ck_s hF; clear hF
  obtain ⟨a82, e83, hF⟩ := rf_s hG; clear hG
  have qa82 : Q a82 := hm.1 _ _ _ q_p0 e83
  obtain ⟨q84, hG⟩ := ck_s hF; clear hF
  refine bT_c hG (fun x88 H87 z85 er => ?_) (fun v86 H87 z85 hF => ?_)
  · subst er; have gz := (g_Lexer_take hn z85 hm.1 hB qa82); exact ⟨hm.tr gz.1, (fun x e => by cases e; exact gz.2 _ rfl)⟩
  clear hG
  have gz_73 := (g_Lexer_take hn z85 hm.1 hB qa82)
  replace hm : Rg Q H H87 := hm.tr gz_73.1
  replace hB : B ≤ H87.sh.length := Nat.le_trans hB ((m_Lexer_take z85)).len
  have mz_74 : Mo H H87 := (m_Lexer_take z85)
  have q_75 := (mz_74).get q81
  have q_76 := (mz_74).get q84
  have hr := Option.some.inj hF; subst hr
  exact ⟨hm, (fun x e => by cases e)⟩
set_option maxRecDepth 20000 in
set_option maxHeartbeats 2000000 in
theorem gB_Reader_readPrefab_105 {N : Nat} {Q : Nat → Prop} {p0 : Nat} {B : Nat} (hn : ∀ a, B ≤ a → Q a) (q_p0 : Q p0) : ∀ (n : Nat) (l1 : Int32) (l3 : Int32) (H : Hp) (r : (Ot Unit) × Hp), B_Reader_readPrefab_105 N p0 n l1 l3 H = some r → Cl Q H → B ≤ H.sh.length → Rg Q H r.2 ∧ (∀ x, r.1 = .inr x → Q x) := by
  intro n
  induction n with
  | zero => intro l1 l3 H r hF; rw [B_Reader_readPrefab_105] at hF; cases hF
  | succ n ih =>
    intro l1 l3 H r hF hc0 hB
    rw [B_Reader_readPrefab_105] at hF
    have hm := Rg.rf hc0
    rcases ite_s hF with ⟨q_77, hG⟩ | ⟨q_77, hG⟩
    · clear hF
      have gz := gB_Reader_readPrefab_143 hn q_p0 hG hm.1 hB
      exact ⟨hm.tr gz.1, gz.2⟩
    · clear hF
      obtain ⟨q90, hF⟩ := ck_s hG; clear hG
      obtain ⟨a91, e92, hG⟩ := rf_s hF; clear hF
      have qa91 : Q a91 := hm.1 _ _ _ q_p0 e92
      obtain ⟨q93, hF⟩ := ck_s hG; clear hG
      obtain ⟨x94, -, hG⟩ := bnd_g hF; clear hF
      rcases ite_s hG with ⟨q_78, hF⟩ | ⟨q_78, hF⟩
      · clear hG
        have gz := gB_Reader_readPrefab_143 hn q_p0 hF hm.1 hB
        exact ⟨hm.tr gz.1, gz.2⟩
      · clear hG
        refine bT_c hF (fun x99 H98 z96 er => ?_) (fun v97 H98 z96 hG => ?_)
        · subst er; have gz := (g_Reader_readPart hn z96 hm.1 hB q_p0); exact ⟨hm.tr gz.1, (fun x e => by cases e; exact gz.2 _ rfl)⟩
        clear hF
        have gz_79 := (g_Reader_readPart hn z96 hm.1 hB q_p0)
        replace hm : Rg Q H H98 := hm.tr gz_79.1
        replace hB : B ≤ H98.sh.length := Nat.le_trans hB ((m_Reader_readPart z96)).len
        have mz_80 : Mo H H98 := (m_Reader_readPart z96)
        have q_81 := (mz_80).get q90
        have q_82 := (mz_80).get q93
        obtain ⟨a100, e101, hF⟩ := rf_s hG; clear hG
        have qa100 : Q a100 := hm.1 _ _ _ q_p0 e101
        obtain ⟨q102, hG⟩ := ck_s hF; clear hF
        refine bT_c hG (fun x106 H105 z103 er => ?_) (fun v104 H105 z103 hF => ?_)
        · subst er; have gz := (g_Lexer_take hn z103 hm.1 hB qa100); exact ⟨hm.tr gz.1, (fun x e => by cases e; exact gz.2 _ rfl)⟩
        clear hG
        have gz_83 := (g_Lexer_take hn z103 hm.1 hB qa100)
        replace hm : Rg Q H H105 := hm.tr gz_83.1
        replace hB : B ≤ H105.sh.length := Nat.le_trans hB ((m_Lexer_take z103)).len
        have mz_84 : Mo H98 H105 := (m_Lexer_take z103)
        have q_85 := (mz_84).get q_81
        have q_86 := (mz_84).get q_82
        have q_87 := (mz_84).get q102
        have gz := ih l1 (l3 + 1) H105 r hF hm.1 hB
        exact ⟨hm.tr gz.1, gz.2⟩
set_option maxRecDepth 20000 in
set_option maxHeartbeats 2000000 in
theorem gB_Reader_readPrefab_61 {N : Nat} {Q : Nat → Prop} {p0 : Nat} {B : Nat} (hn : ∀ a, B ≤ a → Q a) (q_p0 : Q p0) : ∀ (n : Nat) (l1 : Int32) (l2 : Int32) (l3 : Int32) (H : Hp) (r : (Ot Unit) × Hp), B_Reader_readPrefab_61 N p0 n l1 l2 l3 H = some r → Cl Q H → B ≤ H.sh.length → Rg Q H r.2 ∧ (∀ x, r.1 = .inr x → Q x) := by
  intro n
  induction n with
  | zero => intro l1 l2 l3 H r hF; rw [B_Reader_readPrefab_61] at hF; cases hF
  | succ n ih =>
    intro l1 l2 l3 H r hF hc0 hB
    rw [B_Reader_readPrefab_61] at hF
    have hm := Rg.rf hc0
    rcases ite_s hF with ⟨q_88, hG⟩ | ⟨q_88, hG⟩
    · clear hF
      obtain ⟨q108, hF⟩ := ck_s hG; clear hG
      obtain ⟨a109, e110, hG⟩ := rf_s hF; clear hF
      have qa109 : Q a109 := hm.1 _ _ _ q_p0 e110
      obtain ⟨q111, hF⟩ := ck_s hG; clear hG
      refine bT_c hF (fun x115 H114 z112 er => ?_) (fun v113 H114 z112 hG => ?_)
      · subst er; have gz := (g_Lexer_take hn z112 hm.1 hB qa109); exact ⟨hm.tr gz.1, (fun x e => by cases e; exact gz.2 _ rfl)⟩
      clear hF
      have gz_89 := (g_Lexer_take hn z112 hm.1 hB qa109)
      replace hm : Rg Q H H114 := hm.tr gz_89.1
      replace hB : B ≤ H114.sh.length := Nat.le_trans hB ((m_Lexer_take z112)).len
      have mz_90 : Mo H H114 := (m_Lexer_take z112)
      have q_91 := (mz_90).get q108
      have q_92 := (mz_90).get q111
      have gz := gB_Reader_readPrefab_105 hn q_p0 N l1 0 H114 r hG hm.1 hB
      exact ⟨hm.tr gz.1, gz.2⟩
    · clear hF
      obtain ⟨q116, hF⟩ := ck_s hG; clear hG
      obtain ⟨a117, e118, hG⟩ := rf_s hF; clear hF
      have qa117 : Q a117 := hm.1 _ _ _ q_p0 e118
      obtain ⟨q119, hF⟩ := ck_s hG; clear hG
      obtain ⟨a120, e121, hG⟩ := rf_s hF; clear hF
      have qa120 : Q a120 := hm.1 _ _ _ qa117 e121
      obtain ⟨a122, e123, hF⟩ := rf_s hG; clear hG
      have qa122 : Q a122 := hm.1 _ _ _ q_p0 e123
      obtain ⟨q124, hG⟩ := ck_s hF; clear hF
      obtain ⟨v126, H127, z125, hF⟩ := bC_s hG; clear hG
      have gz_93 := (g_Program_firstValue z125 hm.1 qa122)
      replace hm : Rg Q H H127 := hm.tr gz_93
      replace hB : B ≤ H127.sh.length := Nat.le_trans hB ((m_Program_firstValue z125)).mo.len
      have s_94 : Sa H H127 := (m_Program_firstValue z125)
      obtain ⟨n128, q129, hG⟩ := ar_s hF; clear hF
      rw [(s_94).1] at q129
      obtain ⟨q130, hF⟩ := ck_s hG; clear hG
      obtain ⟨H131, eH131, hG⟩ := bnd_g hF; clear hF
      replace hm : Rg Q H H131 := hm.tr (by rw [eH131]; exact Rg.sD hm.1 qa120)
      have s_95 : Sa H H131 := by rw [eH131]; exact s_94
      replace hB : B ≤ H131.sh.length := by rw [eH131]; exact hB
      have gz := ih l1 l2 (l3 + 1) H131 r hG hm.1 hB
      exact ⟨hm.tr gz.1, gz.2⟩
set_option maxRecDepth 20000 in
set_option maxHeartbeats 2000000 in
theorem g_Reader_readPrefab {N : Nat} {Q : Nat → Prop} {p0 : Nat} {H : Hp} {r : (Ot Unit) × Hp} {B : Nat} (hn : ∀ a, B ≤ a → Q a) (hF : F_Reader_readPrefab N p0 H = some r) (hc0 : Cl Q H) (hB : B ≤ H.sh.length) (q_p0 : Q p0) : Rg Q H r.2 ∧ (∀ x, r.1 = .inr x → Q x) := by
  unfold F_Reader_readPrefab at hF
  have hm := Rg.rf hc0
  obtain ⟨q132, hG⟩ := ck_s hF; clear hF
  obtain ⟨a133, e134, hF⟩ := rf_s hG; clear hG
  have qa133 : Q a133 := hm.1 _ _ _ q_p0 e134
  obtain ⟨q135, hG⟩ := ck_s hF; clear hF
  obtain ⟨x136, -, hF⟩ := bnd_g hG; clear hG
  refine bT_c hF (fun x140 H139 z137 er => ?_) (fun v138 H139 z137 hG => ?_)
  · subst er; have gz := (g_Reader_beginOne hn z137 hm.1 hB q_p0); exact ⟨hm.tr gz.1, (fun x e => by cases e; exact gz.2 _ rfl)⟩
  clear hF
  have gz_96 := (g_Reader_beginOne hn z137 hm.1 hB q_p0)
  replace hm : Rg Q H H139 := hm.tr gz_96.1
  replace hB : B ≤ H139.sh.length := Nat.le_trans hB ((m_Reader_beginOne z137)).len
  have mz_97 : Mo H H139 := (m_Reader_beginOne z137)
  have q_98 := (mz_97).get q132
  have q_99 := (mz_97).get q135
  obtain ⟨a141, e142, hF⟩ := rf_s hG; clear hG
  have qa141 : Q a141 := hm.1 _ _ _ q_p0 e142
  obtain ⟨q143, hG⟩ := ck_s hF; clear hF
  obtain ⟨x144, -, hF⟩ := bnd_g hG; clear hG
  refine bT_c hF (fun x148 H147 z145 er => ?_) (fun v146 H147 z145 hG => ?_)
  · subst er; have gz := (g_Reader_declare hn z145 hm.1 hB q_p0); exact ⟨hm.tr gz.1, (fun x e => by cases e; exact gz.2.2 _ rfl)⟩
  clear hF
  have gz_100 := (g_Reader_declare hn z145 hm.1 hB q_p0)
  replace hm : Rg Q H H147 := hm.tr gz_100.1
  replace hB : B ≤ H147.sh.length := Nat.le_trans hB ((m_Reader_declare z145)).len
  have mz_101 : Mo H139 H147 := (m_Reader_declare z145)
  have q_102 := (mz_101).get q_98
  have q_103 := (mz_101).get q_99
  have q_104 := (mz_101).get q143
  obtain ⟨a149, ea149, hF⟩ := on_s hG; clear hG
  subst ea149
  have qa149 : Q a149 := gz_100.2.1 _ rfl
  obtain ⟨a150, e151, hG⟩ := rf_s hF; clear hF
  have qa150 : Q a150 := hm.1 _ _ _ q_p0 e151
  obtain ⟨q152, hF⟩ := ck_s hG; clear hG
  obtain ⟨H153, eH153, hG⟩ := bnd_g hF; clear hF
  replace hm : Rg Q H H153 := hm.tr (by rw [eH153]; exact Rg.sD hm.1 qa150)
  have s_105 : Sa H147 H153 := by rw [eH153]; exact Sa.rf _
  replace hB : B ≤ H153.sh.length := by rw [eH153]; exact hB
  obtain ⟨a154, e155, hF⟩ := rf_s hG; clear hG
  have qa154 : Q a154 := hm.1 _ _ _ q_p0 e155
  obtain ⟨q156, hG⟩ := ck_s hF; clear hF
  rw [(s_105).1] at q156
  obtain ⟨a157, e158, hF⟩ := rf_s hG; clear hG
  have qa157 : Q a157 := hm.1 _ _ _ qa154 e158
  obtain ⟨n159, q160, hG⟩ := ar_s hF; clear hF
  rw [(s_105).1] at q160
  obtain ⟨q161, hF⟩ := ck_s hG; clear hG
  obtain ⟨H162, eH162, hG⟩ := bnd_g hF; clear hF
  replace hm : Rg Q H H162 := hm.tr (by rw [eH162]; exact Rg.sD hm.1 qa157)
  have s_106 : Sa H147 H162 := by rw [eH162]; exact s_105
  replace hB : B ≤ H162.sh.length := by rw [eH162]; exact hB
  obtain ⟨a163, e164, hF⟩ := rf_s hG; clear hG
  have qa163 : Q a163 := hm.1 _ _ _ q_p0 e164
  obtain ⟨q165, hG⟩ := ck_s hF; clear hF
  rw [(s_106).1] at q165
  obtain ⟨a166, e167, hF⟩ := rf_s hG; clear hG
  have qa166 : Q a166 := hm.1 _ _ _ qa163 e167
  obtain ⟨q168, hG⟩ := ck_s hF; clear hF
  rw [(s_106).1] at q168
  obtain ⟨v170, H171, z169, hF⟩ := bC_s hG; clear hG
  have gz_107 := (g_Shapes_total z169 hm.1 qa166)
  replace hm : Rg Q H H171 := hm.tr gz_107
  replace hB : B ≤ H171.sh.length := Nat.le_trans hB ((m_Shapes_total z169)).mo.len
  have s_108 : Sa H147 H171 := (s_106).tr (m_Shapes_total z169)
  have gz := gB_Reader_readPrefab_61 hn q_p0 N x144 v170 0 H171 r hF hm.1 hB
  exact ⟨hm.tr gz.1, gz.2⟩
set_option maxRecDepth 20000 in
set_option maxHeartbeats 2000000 in
theorem gB_Reader_namesBehind_122 {N : Nat} {Q : Nat → Prop} {p0 : Nat} {p1 : Int32} {p2 : Int32} {p3 : Int32} {p4 : Int32} {kq19 : Int32 → Int32 → Hp → Option ((Ot Int32) × Hp)} {B : Nat} (hn : ∀ a, B ≤ a → Q a) (q_p0 : Q p0) (hg19 : ∀ (l5 : Int32) (l6 : Int32) (H : Hp) (r : (Ot Int32) × Hp), kq19 l5 l6 H = some r → Cl Q H → B ≤ H.sh.length → Rg Q H r.2 ∧ (∀ x, r.1 = .inr x → Q x)) {l5 : Int32} {l6 : Int32} {l9 : Int32} {H : Hp} {r : (Ot Int32) × Hp} (hF : B_Reader_namesBehind_122 N p0 p1 p2 p3 p4 kq19 l5 l6 l9 H = some r) (hc0 : Cl Q H) (hB : B ≤ H.sh.length) : Rg Q H r.2 ∧ (∀ x, r.1 = .inr x → Q x) := by
  unfold B_Reader_namesBehind_122 at hF
  have hm := Rg.rf hc0
  obtain ⟨q89, hG⟩ := ck_s hF; clear hF
  obtain ⟨a90, e91, hF⟩ := rf_s hG; clear hG
  have qa90 : Q a90 := hm.1 _ _ _ q_p0 e91
  obtain ⟨q92, hG⟩ := ck_s hF; clear hF
  obtain ⟨x93, -, hF⟩ := bnd_g hG; clear hG
  rcases ite_s hF with ⟨q_79, hG⟩ | ⟨q_79, hG⟩
  · clear hF
    have gz := hg19 (l5 ||| l9) (l6 + 1) H r hG hm.1 hB
    exact ⟨hm.tr gz.1, gz.2⟩
  · clear hF
    have hr := Option.some.inj hG; subst hr
    exact ⟨hm, (fun x e => by cases e)⟩
set_option maxRecDepth 20000 in
set_option maxHeartbeats 2000000 in
theorem gB_Reader_namesBehind_112 {N : Nat} {Q : Nat → Prop} {p0 : Nat} {p1 : Int32} {p2 : Int32} {p3 : Int32} {p4 : Int32} {kq19 : Int32 → Int32 → Hp → Option ((Ot Int32) × Hp)} {B : Nat} (hn : ∀ a, B ≤ a → Q a) (q_p0 : Q p0) (hg19 : ∀ (l5 : Int32) (l6 : Int32) (H : Hp) (r : (Ot Int32) × Hp), kq19 l5 l6 H = some r → Cl Q H → B ≤ H.sh.length → Rg Q H r.2 ∧ (∀ x, r.1 = .inr x → Q x)) {l5 : Int32} {l6 : Int32} {l7 : Int32} {l9 : Int32} {H : Hp} {r : (Ot Int32) × Hp} (hF : B_Reader_namesBehind_112 N p0 p1 p2 p3 p4 kq19 l5 l6 l7 l9 H = some r) (hc0 : Cl Q H) (hB : B ≤ H.sh.length) : Rg Q H r.2 ∧ (∀ x, r.1 = .inr x → Q x) := by
  unfold B_Reader_namesBehind_112 at hF
  have hm := Rg.rf hc0
  obtain ⟨q95, hG⟩ := ck_s hF; clear hF
  obtain ⟨a96, e97, hF⟩ := rf_s hG; clear hG
  have qa96 : Q a96 := hm.1 _ _ _ q_p0 e97
  obtain ⟨q98, hG⟩ := ck_s hF; clear hF
  refine bT_c hG (fun x102 H101 z99 er => ?_) (fun v100 H101 z99 hF => ?_)
  · subst er; have gz := (g_Lexer_refuse hn z99 hm.1 hB qa96); exact ⟨hm.tr gz.1, (fun x e => by cases e; exact gz.2 _ rfl)⟩
  clear hG
  have gz_80 := (g_Lexer_refuse hn z99 hm.1 hB qa96)
  replace hm : Rg Q H H101 := hm.tr gz_80.1
  replace hB : B ≤ H101.sh.length := Nat.le_trans hB ((m_Lexer_refuse z99)).len
  have mz_81 : Mo H H101 := (m_Lexer_refuse z99)
  have q_82 := (mz_81).get q95
  have q_83 := (mz_81).get q98
  have gz := gB_Reader_namesBehind_122 hn q_p0 hg19 hF hm.1 hB
  exact ⟨hm.tr gz.1, gz.2⟩
set_option maxRecDepth 20000 in
set_option maxHeartbeats 2000000 in
theorem gB_Reader_namesBehind_95 {N : Nat} {Q : Nat → Prop} {p0 : Nat} {p1 : Int32} {p2 : Int32} {p3 : Int32} {p4 : Int32} {kq19 : Int32 → Int32 → Hp → Option ((Ot Int32) × Hp)} {B : Nat} (hn : ∀ a, B ≤ a → Q a) (q_p0 : Q p0) (hg19 : ∀ (l5 : Int32) (l6 : Int32) (H : Hp) (r : (Ot Int32) × Hp), kq19 l5 l6 H = some r → Cl Q H → B ≤ H.sh.length → Rg Q H r.2 ∧ (∀ x, r.1 = .inr x → Q x)) {l5 : Int32} {l6 : Int32} {l7 : Int32} {l8 : Nat} {l9 : Int32} {H : Hp} {r : (Ot Int32) × Hp} (hF : B_Reader_namesBehind_95 N p0 p1 p2 p3 p4 kq19 l5 l6 l7 l8 l9 H = some r) (hc0 : Cl Q H) (hB : B ≤ H.sh.length) (q_l8 : Q l8) : Rg Q H r.2 ∧ (∀ x, r.1 = .inr x → Q x) := by
  unfold B_Reader_namesBehind_95 at hF
  have hm := Rg.rf hc0
  obtain ⟨q103, hG⟩ := ck_s hF; clear hF
  obtain ⟨x104, -, hF⟩ := bnd_g hG; clear hG
  rcases ite_s hF with ⟨q_84, hG⟩ | ⟨q_84, hG⟩
  · clear hF
    rcases ite_s hG with ⟨q_85, hF⟩ | ⟨q_85, hF⟩
    · clear hG
      have gz := gB_Reader_namesBehind_112 hn q_p0 hg19 hF hm.1 hB
      exact ⟨hm.tr gz.1, gz.2⟩
    · clear hG
      have gz := gB_Reader_namesBehind_122 hn q_p0 hg19 hF hm.1 hB
      exact ⟨hm.tr gz.1, gz.2⟩
  · clear hF
    have gz := gB_Reader_namesBehind_112 hn q_p0 hg19 hG hm.1 hB
    exact ⟨hm.tr gz.1, gz.2⟩
set_option maxRecDepth 20000 in
set_option maxHeartbeats 2000000 in
theorem gB_Reader_namesBehind_19 {N : Nat} {Q : Nat → Prop} {p0 : Nat} {p1 : Int32} {p2 : Int32} {p3 : Int32} {p4 : Int32} {B : Nat} (hn : ∀ a, B ≤ a → Q a) (q_p0 : Q p0) : ∀ (n : Nat) (l5 : Int32) (l6 : Int32) (H : Hp) (r : (Ot Int32) × Hp), B_Reader_namesBehind_19 N p0 p1 p2 p3 p4 n l5 l6 H = some r → Cl Q H → B ≤ H.sh.length → Rg Q H r.2 ∧ (∀ x, r.1 = .inr x → Q x) := by
  intro n
  induction n with
  | zero => intro l5 l6 H r hF; rw [B_Reader_namesBehind_19] at hF; cases hF
  | succ n ih =>
    intro l5 l6 H r hF hc0 hB
    rw [B_Reader_namesBehind_19] at hF
    have hm := Rg.rf hc0
    rcases ite_s hF with ⟨q_86, hG⟩ | ⟨q_86, hG⟩
    · clear hF
      have hr := Option.some.inj hG; subst hr
      exact ⟨hm, (fun x e => by cases e)⟩
    · clear hF
      obtain ⟨q108, hF⟩ := ck_s hG; clear hG
      obtain ⟨a109, e110, hG⟩ := rf_s hF; clear hF
      have qa109 : Q a109 := hm.1 _ _ _ q_p0 e110
      obtain ⟨q111, hF⟩ := ck_s hG; clear hG
      obtain ⟨v113, H114, z112, hG⟩ := bC_s hF; clear hF
      have gz_87 := (g_Lexer_advance z112 hm.1 qa109)
      replace hm : Rg Q H H114 := hm.tr gz_87
      replace hB : B ≤ H114.sh.length := Nat.le_trans hB ((m_Lexer_advance z112)).mo.len
      have s_88 : Sa H H114 := (m_Lexer_advance z112)
      obtain ⟨a115, e116, hF⟩ := rf_s hG; clear hG
      have qa115 : Q a115 := hm.1 _ _ _ q_p0 e116
      obtain ⟨q117, hG⟩ := ck_s hF; clear hF
      rw [(s_88).1] at q117
      obtain ⟨x118, -, hF⟩ := bnd_g hG; clear hG
      obtain ⟨a119, e120, hG⟩ := rf_s hF; clear hF
      have qa119 : Q a119 := hm.1 _ _ _ q_p0 e120
      obtain ⟨q121, hF⟩ := ck_s hG; clear hG
      rw [(s_88).1] at q121
      refine bT_c hF (fun x125 H124 z122 er => ?_) (fun v123 H124 z122 hG => ?_)
      · subst er; have gz := (g_Lexer_takeName hn z122 hm.1 hB qa119); exact ⟨hm.tr gz.1, (fun x e => by cases e; exact gz.2.2 _ rfl)⟩
      clear hF
      have gz_89 := (g_Lexer_takeName hn z122 hm.1 hB qa119)
      replace hm : Rg Q H H124 := hm.tr gz_89.1
      replace hB : B ≤ H124.sh.length := Nat.le_trans hB ((m_Lexer_takeName z122)).len
      have mz_90 : Mo H114 H124 := (m_Lexer_takeName z122)
      have q_91 := (mz_90).get (by rw [(s_88).1]; exact q108)
      have q_92 := (mz_90).get (by rw [(s_88).1]; exact q111)
      have q_93 := (mz_90).get (by rw [(s_88).1]; exact q117)
      have q_94 := (mz_90).get (by rw [(s_88).1]; exact q121)
      obtain ⟨a126, ea126, hF⟩ := on_s hG; clear hG
      subst ea126
      have qa126 : Q a126 := gz_89.2.1 _ rfl
      refine bT_c hF (fun x130 H129 z127 er => ?_) (fun v128 H129 z127 hG => ?_)
      · subst er; have gz := (g_Reader_known hn z127 hm.1 hB q_p0 qa126); exact ⟨hm.tr gz.1, (fun x e => by cases e; exact gz.2.2 _ rfl)⟩
      clear hF
      have gz_95 := (g_Reader_known hn z127 hm.1 hB q_p0 qa126)
      replace hm : Rg Q H H129 := hm.tr gz_95.1
      replace hB : B ≤ H129.sh.length := Nat.le_trans hB ((m_Reader_known z127)).len
      have mz_96 : Mo H124 H129 := (m_Reader_known z127)
      have q_97 := (mz_96).get q_91
      have q_98 := (mz_96).get q_92
      have q_99 := (mz_96).get q_93
      have q_100 := (mz_96).get q_94
      obtain ⟨a131, ea131, hF⟩ := on_s hG; clear hG
      subst ea131
      have qa131 : Q a131 := gz_95.2.1 _ rfl
      obtain ⟨q132, hG⟩ := ck_s hF; clear hF
      obtain ⟨x133, -, hF⟩ := bnd_g hG; clear hG
      obtain ⟨x134, -, hG⟩ := bnd_g hF; clear hF
      obtain ⟨x135, -, hF⟩ := bnd_g hG; clear hG
      rcases ite_s hF with ⟨q_101, hG⟩ | ⟨q_101, hG⟩
      · clear hF
        rcases ite_s hG with ⟨q_102, hF⟩ | ⟨q_102, hF⟩
        · clear hG
          have gz := gB_Reader_namesBehind_95 hn q_p0 ih hF hm.1 hB qa131
          exact ⟨hm.tr gz.1, gz.2⟩
        · clear hG
          obtain ⟨a138, e139, hG⟩ := rf_s hF; clear hF
          have qa138 : Q a138 := hm.1 _ _ _ q_p0 e139
          obtain ⟨q140, hF⟩ := ck_s hG; clear hG
          refine bT_c hF (fun x144 H143 z141 er => ?_) (fun v142 H143 z141 hG => ?_)
          · subst er; have gz := (g_Lexer_refuse hn z141 hm.1 hB qa138); exact ⟨hm.tr gz.1, (fun x e => by cases e; exact gz.2 _ rfl)⟩
          clear hF
          have gz_103 := (g_Lexer_refuse hn z141 hm.1 hB qa138)
          replace hm : Rg Q H H143 := hm.tr gz_103.1
          replace hB : B ≤ H143.sh.length := Nat.le_trans hB ((m_Lexer_refuse z141)).len
          have mz_104 : Mo H129 H143 := (m_Lexer_refuse z141)
          have q_105 := (mz_104).get q_97
          have q_106 := (mz_104).get q_98
          have q_107 := (mz_104).get q_99
          have q_108 := (mz_104).get q_100
          have q_109 := (mz_104).get q132
          have q_110 := (mz_104).get q140
          have gz := gB_Reader_namesBehind_95 hn q_p0 ih hG hm.1 hB qa131
          exact ⟨hm.tr gz.1, gz.2⟩
      · clear hF
        have gz := gB_Reader_namesBehind_95 hn q_p0 ih hG hm.1 hB qa131
        exact ⟨hm.tr gz.1, gz.2⟩
set_option maxRecDepth 20000 in
set_option maxHeartbeats 2000000 in
theorem g_Reader_namesBehind {N : Nat} {Q : Nat → Prop} {p0 : Nat} {p1 : Int32} {p2 : Int32} {p3 : Int32} {p4 : Int32} {H : Hp} {r : (Ot Int32) × Hp} {B : Nat} (hn : ∀ a, B ≤ a → Q a) (hF : F_Reader_namesBehind N p0 p1 p2 p3 p4 H = some r) (hc0 : Cl Q H) (hB : B ≤ H.sh.length) (q_p0 : Q p0) : Rg Q H r.2 ∧ (∀ x, r.1 = .inr x → Q x) := by
  unfold F_Reader_namesBehind at hF
  have hm := Rg.rf hc0
  obtain ⟨q145, hG⟩ := ck_s hF; clear hF
  obtain ⟨a146, e147, hF⟩ := rf_s hG; clear hG
  have qa146 : Q a146 := hm.1 _ _ _ q_p0 e147
  obtain ⟨q148, hG⟩ := ck_s hF; clear hF
  obtain ⟨x149, -, hF⟩ := bnd_g hG; clear hG
  rcases ite_s hF with ⟨q_111, hG⟩ | ⟨q_111, hG⟩
  · clear hF
    have gz := gB_Reader_namesBehind_19 hn q_p0 N 0 0 H r hG hm.1 hB
    exact ⟨hm.tr gz.1, gz.2⟩
  · clear hF
    have hr := Option.some.inj hG; subst hr
    exact ⟨hm, (fun x e => by cases e)⟩
set_option maxRecDepth 20000 in
set_option maxHeartbeats 2000000 in
theorem gB_Program_isApart_80 {N : Nat} {Q : Nat → Prop} {p0 : Nat} {p1 : Int32} {p2 : Int32} (q_p0 : Q p0)  {H : Hp} {r : Int32 × Hp} (hF : B_Program_isApart_80 N p0 p1 p2  H = some r) (hc0 : Cl Q H) : Rg Q H r.2 := by
  unfold B_Program_isApart_80 at hF
  have hm := Rg.rf hc0
  have hr := Option.some.inj hF; subst hr
  exact hm
set_option maxRecDepth 20000 in
set_option maxHeartbeats 2000000 in
theorem g_Program_isApart {N : Nat} {Q : Nat → Prop} {p0 : Nat} {p1 : Int32} {p2 : Int32} {H : Hp} {r : Int32 × Hp} (hF : F_Program_isApart N p0 p1 p2 H = some r) (hc0 : Cl Q H) (q_p0 : Q p0) : Rg Q H r.2 := by
  unfold F_Program_isApart at hF
  have hm := Rg.rf hc0
  obtain ⟨q121, hG⟩ := ck_s hF; clear hF
  obtain ⟨a122, e123, hF⟩ := rf_s hG; clear hG
  have qa122 : Q a122 := hm.1 _ _ _ q_p0 e123
  obtain ⟨n124, q125, hG⟩ := ar_s hF; clear hF
  obtain ⟨q126, hF⟩ := ck_s hG; clear hG
  obtain ⟨x127, -, hG⟩ := bnd_g hF; clear hF
  obtain ⟨a128, e129, hF⟩ := rf_s hG; clear hG
  have qa128 : Q a128 := hm.1 _ _ _ q_p0 e129
  obtain ⟨n130, q131, hG⟩ := ar_s hF; clear hF
  obtain ⟨q132, hF⟩ := ck_s hG; clear hG
  obtain ⟨x133, -, hG⟩ := bnd_g hF; clear hF
  obtain ⟨a134, e135, hF⟩ := rf_s hG; clear hG
  have qa134 : Q a134 := hm.1 _ _ _ q_p0 e135
  obtain ⟨n136, q137, hG⟩ := ar_s hF; clear hF
  obtain ⟨q138, hF⟩ := ck_s hG; clear hG
  obtain ⟨x139, -, hG⟩ := bnd_g hF; clear hF
  obtain ⟨x140, -, hF⟩ := bnd_g hG; clear hG
  obtain ⟨a141, e142, hG⟩ := rf_s hF; clear hF
  have qa141 : Q a141 := hm.1 _ _ _ q_p0 e142
  obtain ⟨n143, q144, hF⟩ := ar_s hG; clear hG
  obtain ⟨q145, hG⟩ := ck_s hF; clear hF
  obtain ⟨x146, -, hF⟩ := bnd_g hG; clear hG
  obtain ⟨a147, e148, hG⟩ := rf_s hF; clear hF
  have qa147 : Q a147 := hm.1 _ _ _ q_p0 e148
  obtain ⟨n149, q150, hF⟩ := ar_s hG; clear hG
  obtain ⟨q151, hG⟩ := ck_s hF; clear hF
  obtain ⟨x152, -, hF⟩ := bnd_g hG; clear hG
  obtain ⟨a153, e154, hG⟩ := rf_s hF; clear hF
  have qa153 : Q a153 := hm.1 _ _ _ q_p0 e154
  obtain ⟨n155, q156, hF⟩ := ar_s hG; clear hG
  obtain ⟨q157, hG⟩ := ck_s hF; clear hF
  obtain ⟨x158, -, hF⟩ := bnd_g hG; clear hG
  obtain ⟨x159, -, hG⟩ := bnd_g hF; clear hF
  obtain ⟨a160, e161, hF⟩ := rf_s hG; clear hG
  have qa160 : Q a160 := hm.1 _ _ _ q_p0 e161
  obtain ⟨n162, q163, hG⟩ := ar_s hF; clear hF
  obtain ⟨q164, hF⟩ := ck_s hG; clear hG
  obtain ⟨x165, -, hG⟩ := bnd_g hF; clear hF
  rcases ite_s hG with ⟨q_4, hF⟩ | ⟨q_4, hF⟩
  · clear hG
    exact hm.tr (gB_Program_isApart_80 q_p0 hF hm.1)
  · clear hG
    obtain ⟨a167, e168, hG⟩ := rf_s hF; clear hF
    have qa167 : Q a167 := hm.1 _ _ _ q_p0 e168
    obtain ⟨n169, q170, hF⟩ := ar_s hG; clear hG
    obtain ⟨q171, hG⟩ := ck_s hF; clear hF
    obtain ⟨x172, -, hF⟩ := bnd_g hG; clear hG
    rcases ite_s hF with ⟨q_5, hG⟩ | ⟨q_5, hG⟩
    · clear hF
      obtain ⟨a174, e175, hF⟩ := rf_s hG; clear hG
      have qa174 : Q a174 := hm.1 _ _ _ q_p0 e175
      obtain ⟨n176, q177, hG⟩ := ar_s hF; clear hF
      obtain ⟨q178, hF⟩ := ck_s hG; clear hG
      obtain ⟨x179, -, hG⟩ := bnd_g hF; clear hF
      rcases ite_s hG with ⟨q_6, hF⟩ | ⟨q_6, hF⟩
      · clear hG
        have hr := Option.some.inj hF; subst hr
        exact hm
      · clear hG
        exact hm.tr (gB_Program_isApart_80 q_p0 hF hm.1)
    · clear hF
      exact hm.tr (gB_Program_isApart_80 q_p0 hG hm.1)
set_option maxRecDepth 20000 in
set_option maxHeartbeats 2000000 in
theorem gB_Program_settleGroup_70 {N : Nat} {Q : Nat → Prop} {p0 : Nat} (q_p0 : Q p0) {l1 : Int32} {H : Hp} {r : Unit × Hp} (hF : B_Program_settleGroup_70 N p0 l1 H = some r) (hc0 : Cl Q H) : Rg Q H r.2 := by
  unfold B_Program_settleGroup_70 at hF
  have hm := Rg.rf hc0
  obtain ⟨q61, hG⟩ := ck_s hF; clear hF
  obtain ⟨a62, e63, hF⟩ := rf_s hG; clear hG
  have qa62 : Q a62 := hm.1 _ _ _ q_p0 e63
  obtain ⟨x64, -, hG⟩ := bnd_g hF; clear hF
  obtain ⟨n65, q66, hF⟩ := ar_s hG; clear hG
  obtain ⟨q67, hG⟩ := ck_s hF; clear hF
  obtain ⟨H68, eH68, hF⟩ := bnd_g hG; clear hG
  replace hm : Rg Q H H68 := hm.tr (by rw [eH68]; exact Rg.sD hm.1 qa62)
  have s_12 : Sa H H68 := by rw [eH68]; exact Sa.rf _
  have hr := Option.some.inj hF; subst hr
  exact hm
set_option maxRecDepth 20000 in
set_option maxHeartbeats 2000000 in
theorem gB_Program_settleGroup_50 {N : Nat} {Q : Nat → Prop} {p0 : Nat} {kq19 : Int32 → Int32 → Int32 → Hp → Option (Unit × Hp)} (q_p0 : Q p0) (hg19 : ∀ (l1 : Int32) (l2 : Int32) (l3 : Int32) (H : Hp) (r : Unit × Hp), kq19 l1 l2 l3 H = some r → Cl Q H → Rg Q H r.2) {l1 : Int32} {l2 : Int32} {l3 : Int32} {H : Hp} {r : Unit × Hp} (hF : B_Program_settleGroup_50 N p0 kq19 l1 l2 l3 H = some r) (hc0 : Cl Q H) : Rg Q H r.2 := by
  unfold B_Program_settleGroup_50 at hF
  have hm := Rg.rf hc0
  exact hm.tr (hg19 l1 l2 (l3 + 1) H r hF hm.1)
set_option maxRecDepth 20000 in
set_option maxHeartbeats 2000000 in
theorem gB_Program_settleGroup_19 {N : Nat} {Q : Nat → Prop} {p0 : Nat} (q_p0 : Q p0) : ∀ (n : Nat) (l1 : Int32) (l2 : Int32) (l3 : Int32) (H : Hp) (r : Unit × Hp), B_Program_settleGroup_19 N p0 n l1 l2 l3 H = some r → Cl Q H → Rg Q H r.2 := by
  intro n
  induction n with
  | zero => intro l1 l2 l3 H r hF; rw [B_Program_settleGroup_19] at hF; cases hF
  | succ n ih =>
    intro l1 l2 l3 H r hF hc0
    rw [B_Program_settleGroup_19] at hF
    have hm := Rg.rf hc0
    rcases ite_s hF with ⟨q_13, hG⟩ | ⟨q_13, hG⟩
    · clear hF
      rcases ite_s hG with ⟨q_14, hF⟩ | ⟨q_14, hF⟩
      · clear hG
        exact hm.tr (gB_Program_settleGroup_70 q_p0 hF hm.1)
      · clear hG
        obtain ⟨q71, hG⟩ := ck_s hF; clear hF
        obtain ⟨x72, -, hF⟩ := bnd_g hG; clear hG
        obtain ⟨H73, eH73, hG⟩ := bnd_g hF; clear hF
        replace hm : Rg Q H H73 := hm.tr (by rw [eH73]; exact Rg.sD hm.1 q_p0)
        have s_15 : Sa H H73 := by rw [eH73]; exact Sa.rf _
        exact hm.tr (gB_Program_settleGroup_70 q_p0 hG hm.1)
    · clear hF
      obtain ⟨q74, hF⟩ := ck_s hG; clear hG
      obtain ⟨a75, e76, hG⟩ := rf_s hF; clear hF
      have qa75 : Q a75 := hm.1 _ _ _ q_p0 e76
      obtain ⟨n77, q78, hF⟩ := ar_s hG; clear hG
      obtain ⟨q79, hG⟩ := ck_s hF; clear hF
      obtain ⟨x80, -, hF⟩ := bnd_g hG; clear hG
      obtain ⟨x81, -, hG⟩ := bnd_g hF; clear hF
      rcases ite_s hG with ⟨q_16, hF⟩ | ⟨q_16, hF⟩
      · clear hG
        obtain ⟨v84, H85, z83, hG⟩ := bC_s hF; clear hF
        have gz_17 := (g_Program_isApart z83 hm.1 q_p0)
        replace hm : Rg Q H H85 := hm.tr gz_17
        have s_18 : Sa H H85 := (m_Program_isApart z83)
        rcases ite_s hG with ⟨q_19, hF⟩ | ⟨q_19, hF⟩
        · clear hG
          exact hm.tr (gB_Program_settleGroup_50 q_p0 ih hF hm.1)
        · clear hG
          exact hm.tr (gB_Program_settleGroup_50 q_p0 ih hF hm.1)
      · clear hG
        exact hm.tr (gB_Program_settleGroup_50 q_p0 ih hF hm.1)
set_option maxRecDepth 20000 in
set_option maxHeartbeats 2000000 in
theorem gB_Program_settleGroup_16 {N : Nat} {Q : Nat → Prop} {p0 : Nat} (q_p0 : Q p0) {l1 : Int32} {w0 : Int32} {H : Hp} {r : Unit × Hp} (hF : B_Program_settleGroup_16 N p0 l1 w0 H = some r) (hc0 : Cl Q H) : Rg Q H r.2 := by
  unfold B_Program_settleGroup_16 at hF
  have hm := Rg.rf hc0
  exact hm.tr (gB_Program_settleGroup_19 q_p0 N l1 w0 0 H r hF hm.1)
set_option maxRecDepth 20000 in
set_option maxHeartbeats 2000000 in
theorem g_Program_settleGroup {N : Nat} {Q : Nat → Prop} {p0 : Nat} {H : Hp} {r : Unit × Hp} (hF : F_Program_settleGroup N p0 H = some r) (hc0 : Cl Q H) (q_p0 : Q p0) : Rg Q H r.2 := by
  unfold F_Program_settleGroup at hF
  have hm := Rg.rf hc0
  obtain ⟨q87, hG⟩ := ck_s hF; clear hF
  obtain ⟨x88, -, hF⟩ := bnd_g hG; clear hG
  obtain ⟨x89, -, hG⟩ := bnd_g hF; clear hF
  rcases ite_s hG with ⟨q_20, hF⟩ | ⟨q_20, hF⟩
  · clear hG
    exact hm.tr (gB_Program_settleGroup_16 q_p0 hF hm.1)
  · clear hG
    exact hm.tr (gB_Program_settleGroup_16 q_p0 hF hm.1)
set_option maxRecDepth 20000 in
set_option maxHeartbeats 2000000 in
theorem gB_Reader_readHead_86 {N : Nat} {Q : Nat → Prop} {p0 : Nat} {B : Nat} (hn : ∀ a, B ≤ a → Q a) (q_p0 : Q p0) {l1 : Int32} {l2 : Int32} {H : Hp} {r : (Ot Unit) × Hp} (hF : B_Reader_readHead_86 N p0 l1 l2 H = some r) (hc0 : Cl Q H) (hB : B ≤ H.sh.length) : Rg Q H r.2 ∧ (∀ x, r.1 = .inr x → Q x) := by
  unfold B_Reader_readHead_86 at hF
  have hm := Rg.rf hc0
  obtain ⟨q103, hG⟩ := ck_s hF; clear hF
  refine bT_c hG (fun x107 H106 z104 er => ?_) (fun v105 H106 z104 hF => ?_)
  · subst er; have gz := (g_Reader_namesBehind hn z104 hm.1 hB q_p0); exact ⟨hm.tr gz.1, (fun x e => by cases e; exact gz.2 _ rfl)⟩
  clear hG
  have gz_230 := (g_Reader_namesBehind hn z104 hm.1 hB q_p0)
  replace hm : Rg Q H H106 := hm.tr gz_230.1
  replace hB : B ≤ H106.sh.length := Nat.le_trans hB ((m_Reader_namesBehind z104)).len
  have mz_231 : Mo H H106 := (m_Reader_namesBehind z104)
  have q_232 := (mz_231).get q103
  obtain ⟨a108, e109, hG⟩ := rf_s hF; clear hF
  have qa108 : Q a108 := hm.1 _ _ _ q_p0 e109
  obtain ⟨q110, hF⟩ := ck_s hG; clear hG
  obtain ⟨a111, e112, hG⟩ := rf_s hF; clear hF
  have qa111 : Q a111 := hm.1 _ _ _ qa108 e112
  obtain ⟨n113, q114, hF⟩ := ar_s hG; clear hG
  obtain ⟨q115, hG⟩ := ck_s hF; clear hF
  obtain ⟨H116, eH116, hF⟩ := bnd_g hG; clear hG
  replace hm : Rg Q H H116 := hm.tr (by rw [eH116]; exact Rg.sD hm.1 qa111)
  have s_233 : Sa H106 H116 := by rw [eH116]; exact Sa.rf _
  replace hB : B ≤ H116.sh.length := by rw [eH116]; exact hB
  obtain ⟨a117, e118, hG⟩ := rf_s hF; clear hF
  have qa117 : Q a117 := hm.1 _ _ _ q_p0 e118
  obtain ⟨q119, hF⟩ := ck_s hG; clear hG
  rw [(s_233).1] at q119
  obtain ⟨a120, e121, hG⟩ := rf_s hF; clear hF
  have qa120 : Q a120 := hm.1 _ _ _ qa117 e121
  refine bT_c hG (fun x125 H124 z122 er => ?_) (fun v123 H124 z122 hF => ?_)
  · subst er; have gz := (g_Reader_namesBehind hn z122 hm.1 hB q_p0); exact ⟨hm.tr gz.1, (fun x e => by cases e; exact gz.2 _ rfl)⟩
  clear hG
  have gz_234 := (g_Reader_namesBehind hn z122 hm.1 hB q_p0)
  replace hm : Rg Q H H124 := hm.tr gz_234.1
  replace hB : B ≤ H124.sh.length := Nat.le_trans hB ((m_Reader_namesBehind z122)).len
  have mz_235 : Mo H116 H124 := (m_Reader_namesBehind z122)
  have q_236 := (mz_235).get (by rw [(s_233).1]; exact q_232)
  have q_237 := (mz_235).get (by rw [(s_233).1]; exact q110)
  have q_238 := (mz_235).get (by rw [(s_233).1]; exact q114)
  have q_239 := (mz_235).get (by rw [(s_233).1]; exact q119)
  obtain ⟨n126, q127, hG⟩ := ar_s hF; clear hF
  obtain ⟨q128, hF⟩ := ck_s hG; clear hG
  obtain ⟨H129, eH129, hG⟩ := bnd_g hF; clear hF
  replace hm : Rg Q H H129 := hm.tr (by rw [eH129]; exact Rg.sD hm.1 qa120)
  have s_240 : Sa H124 H129 := by rw [eH129]; exact Sa.rf _
  replace hB : B ≤ H129.sh.length := by rw [eH129]; exact hB
  refine bT_c hG (fun x133 H132 z130 er => ?_) (fun v131 H132 z130 hF => ?_)
  · subst er; have gz := (g_Reader_namesBehind hn z130 hm.1 hB q_p0); exact ⟨hm.tr gz.1, (fun x e => by cases e; exact gz.2 _ rfl)⟩
  clear hG
  have gz_241 := (g_Reader_namesBehind hn z130 hm.1 hB q_p0)
  replace hm : Rg Q H H132 := hm.tr gz_241.1
  replace hB : B ≤ H132.sh.length := Nat.le_trans hB ((m_Reader_namesBehind z130)).len
  have mz_242 : Mo H129 H132 := (m_Reader_namesBehind z130)
  have q_243 := (mz_242).get (by rw [(s_240).1]; exact q_236)
  have q_244 := (mz_242).get (by rw [(s_240).1]; exact q_237)
  have q_245 := (mz_242).get (by rw [(s_240).1]; exact q_238)
  have q_246 := (mz_242).get (by rw [(s_240).1]; exact q_239)
  have q_247 := (mz_242).get (by rw [(s_240).1]; exact q127)
  obtain ⟨a134, e135, hG⟩ := rf_s hF; clear hF
  have qa134 : Q a134 := hm.1 _ _ _ q_p0 e135
  obtain ⟨q136, hF⟩ := ck_s hG; clear hG
  obtain ⟨a137, e138, hG⟩ := rf_s hF; clear hF
  have qa137 : Q a137 := hm.1 _ _ _ qa134 e138
  obtain ⟨n139, q140, hF⟩ := ar_s hG; clear hG
  obtain ⟨q141, hG⟩ := ck_s hF; clear hF
  obtain ⟨H142, eH142, hF⟩ := bnd_g hG; clear hG
  replace hm : Rg Q H H142 := hm.tr (by rw [eH142]; exact Rg.sD hm.1 qa137)
  have s_248 : Sa H132 H142 := by rw [eH142]; exact Sa.rf _
  replace hB : B ≤ H142.sh.length := by rw [eH142]; exact hB
  obtain ⟨a143, e144, hG⟩ := rf_s hF; clear hF
  have qa143 : Q a143 := hm.1 _ _ _ q_p0 e144
  obtain ⟨q145, hF⟩ := ck_s hG; clear hG
  rw [(s_248).1] at q145
  obtain ⟨a146, e147, hG⟩ := rf_s hF; clear hF
  have qa146 : Q a146 := hm.1 _ _ _ qa143 e147
  refine bT_c hG (fun x151 H150 z148 er => ?_) (fun v149 H150 z148 hF => ?_)
  · subst er; have gz := (g_Reader_namesBehind hn z148 hm.1 hB q_p0); exact ⟨hm.tr gz.1, (fun x e => by cases e; exact gz.2 _ rfl)⟩
  clear hG
  have gz_249 := (g_Reader_namesBehind hn z148 hm.1 hB q_p0)
  replace hm : Rg Q H H150 := hm.tr gz_249.1
  replace hB : B ≤ H150.sh.length := Nat.le_trans hB ((m_Reader_namesBehind z148)).len
  have mz_250 : Mo H142 H150 := (m_Reader_namesBehind z148)
  have q_251 := (mz_250).get (by rw [(s_248).1]; exact q_243)
  have q_252 := (mz_250).get (by rw [(s_248).1]; exact q_244)
  have q_253 := (mz_250).get (by rw [(s_248).1]; exact q_245)
  have q_254 := (mz_250).get (by rw [(s_248).1]; exact q_246)
  have q_255 := (mz_250).get (by rw [(s_248).1]; exact q_247)
  have q_256 := (mz_250).get (by rw [(s_248).1]; exact q136)
  have q_257 := (mz_250).get (by rw [(s_248).1]; exact q140)
  have q_258 := (mz_250).get (by rw [(s_248).1]; exact q145)
  obtain ⟨n152, q153, hG⟩ := ar_s hF; clear hF
  obtain ⟨q154, hF⟩ := ck_s hG; clear hG
  obtain ⟨H155, eH155, hG⟩ := bnd_g hF; clear hF
  replace hm : Rg Q H H155 := hm.tr (by rw [eH155]; exact Rg.sD hm.1 qa146)
  have s_259 : Sa H150 H155 := by rw [eH155]; exact Sa.rf _
  replace hB : B ≤ H155.sh.length := by rw [eH155]; exact hB
  obtain ⟨a156, e157, hF⟩ := rf_s hG; clear hG
  have qa156 : Q a156 := hm.1 _ _ _ q_p0 e157
  obtain ⟨q158, hG⟩ := ck_s hF; clear hF
  rw [(s_259).1] at q158
  obtain ⟨a159, e160, hF⟩ := rf_s hG; clear hG
  have qa159 : Q a159 := hm.1 _ _ _ qa156 e160
  obtain ⟨a161, e162, hG⟩ := rf_s hF; clear hF
  have qa161 : Q a161 := hm.1 _ _ _ q_p0 e162
  obtain ⟨q163, hF⟩ := ck_s hG; clear hG
  rw [(s_259).1] at q163
  obtain ⟨x164, -, hG⟩ := bnd_g hF; clear hF
  obtain ⟨n165, q166, hF⟩ := ar_s hG; clear hG
  rw [(s_259).1] at q166
  obtain ⟨q167, hG⟩ := ck_s hF; clear hF
  obtain ⟨H168, eH168, hF⟩ := bnd_g hG; clear hG
  replace hm : Rg Q H H168 := hm.tr (by rw [eH168]; exact Rg.sD hm.1 qa159)
  have s_260 : Sa H150 H168 := by rw [eH168]; exact s_259
  replace hB : B ≤ H168.sh.length := by rw [eH168]; exact hB
  obtain ⟨a169, e170, hG⟩ := rf_s hF; clear hF
  have qa169 : Q a169 := hm.1 _ _ _ q_p0 e170
  obtain ⟨q171, hF⟩ := ck_s hG; clear hG
  rw [(s_260).1] at q171
  obtain ⟨v173, H174, z172, hG⟩ := bC_s hF; clear hF
  have gz_261 := (g_Program_settleGroup z172 hm.1 qa169)
  replace hm : Rg Q H H174 := hm.tr gz_261
  replace hB : B ≤ H174.sh.length := Nat.le_trans hB ((m_Program_settleGroup z172)).mo.len
  have s_262 : Sa H150 H174 := (s_260).tr (m_Program_settleGroup z172)
  have hr := Option.some.inj hG; subst hr
  exact ⟨hm, (fun x e => by cases e)⟩
set_option maxRecDepth 20000 in
set_option maxHeartbeats 2000000 in
theorem g_Reader_readHead {N : Nat} {Q : Nat → Prop} {p0 : Nat} {H : Hp} {r : (Ot Unit) × Hp} {B : Nat} (hn : ∀ a, B ≤ a → Q a) (hF : F_Reader_readHead N p0 H = some r) (hc0 : Cl Q H) (hB : B ≤ H.sh.length) (q_p0 : Q p0) : Rg Q H r.2 ∧ (∀ x, r.1 = .inr x → Q x) := by
  unfold F_Reader_readHead at hF
  have hm := Rg.rf hc0
  obtain ⟨q175, hG⟩ := ck_s hF; clear hF
  obtain ⟨a176, e177, hF⟩ := rf_s hG; clear hG
  have qa176 : Q a176 := hm.1 _ _ _ q_p0 e177
  obtain ⟨q178, hG⟩ := ck_s hF; clear hF
  obtain ⟨x179, -, hF⟩ := bnd_g hG; clear hG
  refine bT_c hF (fun x183 H182 z180 er => ?_) (fun v181 H182 z180 hG => ?_)
  · subst er; have gz := (g_Reader_beginOne hn z180 hm.1 hB q_p0); exact ⟨hm.tr gz.1, (fun x e => by cases e; exact gz.2 _ rfl)⟩
  clear hF
  have gz_263 := (g_Reader_beginOne hn z180 hm.1 hB q_p0)
  replace hm : Rg Q H H182 := hm.tr gz_263.1
  replace hB : B ≤ H182.sh.length := Nat.le_trans hB ((m_Reader_beginOne z180)).len
  have mz_264 : Mo H H182 := (m_Reader_beginOne z180)
  have q_265 := (mz_264).get q175
  have q_266 := (mz_264).get q178
  obtain ⟨a184, e185, hF⟩ := rf_s hG; clear hG
  have qa184 : Q a184 := hm.1 _ _ _ q_p0 e185
  obtain ⟨q186, hG⟩ := ck_s hF; clear hF
  obtain ⟨x187, -, hF⟩ := bnd_g hG; clear hG
  refine bT_c hF (fun x191 H190 z188 er => ?_) (fun v189 H190 z188 hG => ?_)
  · subst er; have gz := (g_Reader_declare hn z188 hm.1 hB q_p0); exact ⟨hm.tr gz.1, (fun x e => by cases e; exact gz.2.2 _ rfl)⟩
  clear hF
  have gz_267 := (g_Reader_declare hn z188 hm.1 hB q_p0)
  replace hm : Rg Q H H190 := hm.tr gz_267.1
  replace hB : B ≤ H190.sh.length := Nat.le_trans hB ((m_Reader_declare z188)).len
  have mz_268 : Mo H182 H190 := (m_Reader_declare z188)
  have q_269 := (mz_268).get q_265
  have q_270 := (mz_268).get q_266
  have q_271 := (mz_268).get q186
  obtain ⟨a192, ea192, hF⟩ := on_s hG; clear hG
  subst ea192
  have qa192 : Q a192 := gz_267.2.1 _ rfl
  obtain ⟨a193, e194, hG⟩ := rf_s hF; clear hF
  have qa193 : Q a193 := hm.1 _ _ _ q_p0 e194
  obtain ⟨q195, hF⟩ := ck_s hG; clear hG
  obtain ⟨H196, eH196, hG⟩ := bnd_g hF; clear hF
  replace hm : Rg Q H H196 := hm.tr (by rw [eH196]; exact Rg.sD hm.1 qa193)
  have s_272 : Sa H190 H196 := by rw [eH196]; exact Sa.rf _
  replace hB : B ≤ H196.sh.length := by rw [eH196]; exact hB
  obtain ⟨a197, e198, hF⟩ := rf_s hG; clear hG
  have qa197 : Q a197 := hm.1 _ _ _ q_p0 e198
  obtain ⟨q199, hG⟩ := ck_s hF; clear hF
  rw [(s_272).1] at q199
  obtain ⟨a200, e201, hF⟩ := rf_s hG; clear hG
  have qa200 : Q a200 := hm.1 _ _ _ qa197 e201
  refine bT_c hF (fun x205 H204 z202 er => ?_) (fun v203 H204 z202 hG => ?_)
  · subst er; have gz := (g_Reader_namesBehind hn z202 hm.1 hB q_p0); exact ⟨hm.tr gz.1, (fun x e => by cases e; exact gz.2 _ rfl)⟩
  clear hF
  have gz_273 := (g_Reader_namesBehind hn z202 hm.1 hB q_p0)
  replace hm : Rg Q H H204 := hm.tr gz_273.1
  replace hB : B ≤ H204.sh.length := Nat.le_trans hB ((m_Reader_namesBehind z202)).len
  have mz_274 : Mo H196 H204 := (m_Reader_namesBehind z202)
  have q_275 := (mz_274).get (by rw [(s_272).1]; exact q_269)
  have q_276 := (mz_274).get (by rw [(s_272).1]; exact q_270)
  have q_277 := (mz_274).get (by rw [(s_272).1]; exact q_271)
  have q_278 := (mz_274).get (by rw [(s_272).1]; exact q195)
  have q_279 := (mz_274).get (by rw [(s_272).1]; exact q199)
  obtain ⟨n206, q207, hF⟩ := ar_s hG; clear hG
  obtain ⟨q208, hG⟩ := ck_s hF; clear hF
  obtain ⟨H209, eH209, hF⟩ := bnd_g hG; clear hG
  replace hm : Rg Q H H209 := hm.tr (by rw [eH209]; exact Rg.sD hm.1 qa200)
  have s_280 : Sa H204 H209 := by rw [eH209]; exact Sa.rf _
  replace hB : B ≤ H209.sh.length := by rw [eH209]; exact hB
  obtain ⟨a210, e211, hG⟩ := rf_s hF; clear hF
  have qa210 : Q a210 := hm.1 _ _ _ q_p0 e211
  obtain ⟨q212, hF⟩ := ck_s hG; clear hG
  rw [(s_280).1] at q212
  obtain ⟨x213, -, hG⟩ := bnd_g hF; clear hF
  rcases ite_s hG with ⟨q_281, hF⟩ | ⟨q_281, hF⟩
  · clear hG
    have gz := gB_Reader_readHead_86 hn q_p0 hF hm.1 hB
    exact ⟨hm.tr gz.1, gz.2⟩
  · clear hG
    obtain ⟨a215, e216, hG⟩ := rf_s hF; clear hF
    have qa215 : Q a215 := hm.1 _ _ _ q_p0 e216
    obtain ⟨a217, e218, hF⟩ := rf_s hG; clear hG
    have qa217 : Q a217 := hm.1 _ _ _ q_p0 e218
    obtain ⟨q219, hG⟩ := ck_s hF; clear hF
    rw [(s_280).1] at q219
    obtain ⟨x220, -, hF⟩ := bnd_g hG; clear hG
    obtain ⟨q221, hG⟩ := ck_s hF; clear hF
    rw [(s_280).1] at q221
    refine bT_c hG (fun x225 H224 z222 er => ?_) (fun v223 H224 z222 hF => ?_)
    · subst er; have gz := (g_Lexer_refuse hn z222 hm.1 hB qa215); exact ⟨hm.tr gz.1, (fun x e => by cases e; exact gz.2 _ rfl)⟩
    clear hG
    have gz_282 := (g_Lexer_refuse hn z222 hm.1 hB qa215)
    replace hm : Rg Q H H224 := hm.tr gz_282.1
    replace hB : B ≤ H224.sh.length := Nat.le_trans hB ((m_Lexer_refuse z222)).len
    have mz_283 : Mo H209 H224 := (m_Lexer_refuse z222)
    have q_284 := (mz_283).get (by rw [(s_280).1]; exact q_275)
    have q_285 := (mz_283).get (by rw [(s_280).1]; exact q_276)
    have q_286 := (mz_283).get (by rw [(s_280).1]; exact q_277)
    have q_287 := (mz_283).get (by rw [(s_280).1]; exact q_278)
    have q_288 := (mz_283).get (by rw [(s_280).1]; exact q_279)
    have q_289 := (mz_283).get (by rw [(s_280).1]; exact q207)
    have q_290 := (mz_283).get (by rw [(s_280).1]; exact q212)
    have q_291 := (mz_283).get (by rw [(s_280).1]; exact q219)
    have q_292 := (mz_283).get (by rw [(s_280).1]; exact q221)
    have gz := gB_Reader_readHead_86 hn q_p0 hF hm.1 hB
    exact ⟨hm.tr gz.1, gz.2⟩
set_option maxRecDepth 20000 in
set_option maxHeartbeats 2000000 in
theorem g_Body_open {N : Nat} {Q : Nat → Prop} {p0 : Nat} {p1 : Nat} {H : Hp} {r : Unit × Hp} (hF : F_Body_open N p0 p1 H = some r) (hc0 : Cl Q H) (q_p0 : Q p0) (q_p1 : Q p1) : Rg Q H r.2 := by
  unfold F_Body_open at hF
  have hm := Rg.rf hc0
  obtain ⟨q17, hG⟩ := ck_s hF; clear hF
  obtain ⟨H18, eH18, hF⟩ := bnd_g hG; clear hG
  replace hm : Rg Q H H18 := hm.tr (by rw [eH18]; exact Rg.sP hm.1 q_p0 (is_rf q_p1) q17 rfl)
  have s_11 : Sa H H18 := by rw [eH18]; exact Sa.rf _
  obtain ⟨q19, hG⟩ := ck_s hF; clear hF
  rw [(s_11).1] at q19
  obtain ⟨x20, -, hF⟩ := bnd_g hG; clear hG
  obtain ⟨H21, eH21, hG⟩ := bnd_g hF; clear hF
  replace hm : Rg Q H H21 := hm.tr (by rw [eH21]; exact Rg.sD hm.1 q_p0)
  have s_12 : Sa H H21 := by rw [eH21]; exact s_11
  obtain ⟨H22, eH22, hF⟩ := bnd_g hG; clear hG
  replace hm : Rg Q H H22 := hm.tr (by rw [eH22]; exact Rg.sD hm.1 q_p0)
  have s_13 : Sa H H22 := by rw [eH22]; exact s_12
  obtain ⟨H23, eH23, hG⟩ := bnd_g hF; clear hF
  replace hm : Rg Q H H23 := hm.tr (by rw [eH23]; exact Rg.sD hm.1 q_p0)
  have s_14 : Sa H H23 := by rw [eH23]; exact s_13
  obtain ⟨H24, eH24, hF⟩ := bnd_g hG; clear hG
  replace hm : Rg Q H H24 := hm.tr (by rw [eH24]; exact Rg.sD hm.1 q_p0)
  have s_15 : Sa H H24 := by rw [eH24]; exact s_14
  have hr := Option.some.inj hF; subst hr
  exact hm
set_option maxRecDepth 20000 in
set_option maxHeartbeats 2000000 in
theorem g_Program_add {N : Nat} {Q : Nat → Prop} {p0 : Nat} {p1 : Int32} {H : Hp} {r : Int32 × Hp} (hF : F_Program_add N p0 p1 H = some r) (hc0 : Cl Q H) (q_p0 : Q p0) : Rg Q H r.2 := by
  unfold F_Program_add at hF
  have hm := Rg.rf hc0
  obtain ⟨q29, hG⟩ := ck_s hF; clear hF
  obtain ⟨x30, -, hF⟩ := bnd_g hG; clear hG
  rcases ite_s hF with ⟨q_6, hG⟩ | ⟨q_6, hG⟩
  · clear hF
    obtain ⟨x32, -, hF⟩ := bnd_g hG; clear hG
    have hr := Option.some.inj hF; subst hr
    exact hm
  · clear hF
    obtain ⟨a33, e34, hF⟩ := rf_s hG; clear hG
    have qa33 : Q a33 := hm.1 _ _ _ q_p0 e34
    obtain ⟨x35, -, hG⟩ := bnd_g hF; clear hF
    obtain ⟨n36, q37, hF⟩ := ar_s hG; clear hG
    obtain ⟨q38, hG⟩ := ck_s hF; clear hF
    obtain ⟨H39, eH39, hF⟩ := bnd_g hG; clear hG
    replace hm : Rg Q H H39 := hm.tr (by rw [eH39]; exact Rg.sD hm.1 qa33)
    have s_7 : Sa H H39 := by rw [eH39]; exact Sa.rf _
    obtain ⟨x40, -, hG⟩ := bnd_g hF; clear hF
    obtain ⟨H41, eH41, hF⟩ := bnd_g hG; clear hG
    replace hm : Rg Q H H41 := hm.tr (by rw [eH41]; exact Rg.sD hm.1 q_p0)
    have s_8 : Sa H H41 := by rw [eH41]; exact s_7
    obtain ⟨x42, -, hG⟩ := bnd_g hF; clear hF
    have hr := Option.some.inj hG; subst hr
    exact hm
set_option maxRecDepth 20000 in
set_option maxHeartbeats 2000000 in
theorem gB_Body_newLocal_34 {N : Nat} {Q : Nat → Prop} {p0 : Nat} {B : Nat} (hn : ∀ a, B ≤ a → Q a) (q_p0 : Q p0) {l1 : Int32} {l2 : Nat} {H : Hp} {r : (Ot (Option Nat)) × Hp} (hF : B_Body_newLocal_34 N p0 l1 l2 H = some r) (hc0 : Cl Q H) (hB : B ≤ H.sh.length) (q_l2 : Q l2) : Rg Q H r.2 ∧ (∀ a, r.1 = .inl (some a) → Q a) ∧ (∀ x, r.1 = .inr x → Q x) := by
  unfold B_Body_newLocal_34 at hF
  have hm := Rg.rf hc0
  obtain ⟨q45, hG⟩ := ck_s hF; clear hF
  obtain ⟨a46, e47, hF⟩ := rf_s hG; clear hG
  have qa46 : Q a46 := hm.1 _ _ _ q_p0 e47
  obtain ⟨q48, hG⟩ := ck_s hF; clear hF
  obtain ⟨v50, H51, z49, hF⟩ := bC_s hG; clear hG
  have gz_40 := (g_Program_find z49 hm.1 qa46 q_l2)
  replace hm : Rg Q H H51 := hm.tr gz_40.1
  replace hB : B ≤ H51.sh.length := Nat.le_trans hB ((m_Program_find z49)).mo.len
  have s_41 : Sa H H51 := (m_Program_find z49)
  refine nl_c hF (fun ea52 hG => ?_) (fun a52 ea52 hG => ?_)
  · clear hF; subst ea52
    have hr := Option.some.inj hG; subst hr
    exact ⟨hm, (fun a e => by cases e; exact q_l2), (fun x e => by cases e)⟩
  clear hF; subst ea52
  have qa52 : Q a52 := gz_40.2 _ rfl
  obtain ⟨a53, e54, hF⟩ := rf_s hG; clear hG
  have qa53 : Q a53 := hm.1 _ _ _ q_p0 e54
  obtain ⟨q55, hG⟩ := ck_s hF; clear hF
  rw [(s_41).1] at q55
  refine bT_c hG (fun x59 H58 z56 er => ?_) (fun v57 H58 z56 hF => ?_)
  · subst er; have gz := (g_Lexer_refuse hn z56 hm.1 hB qa53); exact ⟨hm.tr gz.1, (fun a e => by cases e), (fun x e => by cases e; exact gz.2 _ rfl)⟩
  clear hG
  have gz_42 := (g_Lexer_refuse hn z56 hm.1 hB qa53)
  replace hm : Rg Q H H58 := hm.tr gz_42.1
  replace hB : B ≤ H58.sh.length := Nat.le_trans hB ((m_Lexer_refuse z56)).len
  have mz_43 : Mo H51 H58 := (m_Lexer_refuse z56)
  have q_44 := (mz_43).get (by rw [(s_41).1]; exact q45)
  have q_45 := (mz_43).get (by rw [(s_41).1]; exact q48)
  have q_46 := (mz_43).get (by rw [(s_41).1]; exact q55)
  have hr := Option.some.inj hF; subst hr
  exact ⟨hm, (fun a e => by cases e; exact q_l2), (fun x e => by cases e)⟩
set_option maxRecDepth 20000 in
set_option maxHeartbeats 2000000 in
theorem g_Body_newLocal {N : Nat} {Q : Nat → Prop} {p0 : Nat} {H : Hp} {r : (Ot (Option Nat)) × Hp} {B : Nat} (hn : ∀ a, B ≤ a → Q a) (hF : F_Body_newLocal N p0 H = some r) (hc0 : Cl Q H) (hB : B ≤ H.sh.length) (q_p0 : Q p0) : Rg Q H r.2 ∧ (∀ a, r.1 = .inl (some a) → Q a) ∧ (∀ x, r.1 = .inr x → Q x) := by
  unfold F_Body_newLocal at hF
  have hm := Rg.rf hc0
  obtain ⟨q60, hG⟩ := ck_s hF; clear hF
  obtain ⟨a61, e62, hF⟩ := rf_s hG; clear hG
  have qa61 : Q a61 := hm.1 _ _ _ q_p0 e62
  obtain ⟨q63, hG⟩ := ck_s hF; clear hF
  obtain ⟨x64, -, hF⟩ := bnd_g hG; clear hG
  obtain ⟨a65, e66, hG⟩ := rf_s hF; clear hF
  have qa65 : Q a65 := hm.1 _ _ _ q_p0 e66
  obtain ⟨q67, hF⟩ := ck_s hG; clear hG
  refine bT_c hF (fun x71 H70 z68 er => ?_) (fun v69 H70 z68 hG => ?_)
  · subst er; have gz := (g_Lexer_takeName hn z68 hm.1 hB qa65); exact ⟨hm.tr gz.1, (fun a e => by cases e), (fun x e => by cases e; exact gz.2.2 _ rfl)⟩
  clear hF
  have gz_47 := (g_Lexer_takeName hn z68 hm.1 hB qa65)
  replace hm : Rg Q H H70 := hm.tr gz_47.1
  replace hB : B ≤ H70.sh.length := Nat.le_trans hB ((m_Lexer_takeName z68)).len
  have mz_48 : Mo H H70 := (m_Lexer_takeName z68)
  have q_49 := (mz_48).get q60
  have q_50 := (mz_48).get q63
  have q_51 := (mz_48).get q67
  obtain ⟨a72, ea72, hF⟩ := on_s hG; clear hG
  subst ea72
  have qa72 : Q a72 := gz_47.2.1 _ rfl
  obtain ⟨x73, -, hG⟩ := bnd_g hF; clear hF
  rcases ite_s hG with ⟨q_52, hF⟩ | ⟨q_52, hF⟩
  · clear hG
    have gz := gB_Body_newLocal_34 hn q_p0 hF hm.1 hB qa72
    exact ⟨hm.tr gz.1, gz.2⟩
  · clear hG
    obtain ⟨a75, e76, hG⟩ := rf_s hF; clear hF
    have qa75 : Q a75 := hm.1 _ _ _ q_p0 e76
    obtain ⟨q77, hF⟩ := ck_s hG; clear hG
    refine bT_c hF (fun x81 H80 z78 er => ?_) (fun v79 H80 z78 hG => ?_)
    · subst er; have gz := (g_Lexer_refuse hn z78 hm.1 hB qa75); exact ⟨hm.tr gz.1, (fun a e => by cases e), (fun x e => by cases e; exact gz.2 _ rfl)⟩
    clear hF
    have gz_53 := (g_Lexer_refuse hn z78 hm.1 hB qa75)
    replace hm : Rg Q H H80 := hm.tr gz_53.1
    replace hB : B ≤ H80.sh.length := Nat.le_trans hB ((m_Lexer_refuse z78)).len
    have mz_54 : Mo H70 H80 := (m_Lexer_refuse z78)
    have q_55 := (mz_54).get q_49
    have q_56 := (mz_54).get q_50
    have q_57 := (mz_54).get q_51
    have q_58 := (mz_54).get q77
    have gz := gB_Body_newLocal_34 hn q_p0 hG hm.1 hB qa72
    exact ⟨hm.tr gz.1, gz.2⟩
set_option maxRecDepth 20000 in
set_option maxHeartbeats 2000000 in
theorem gB_Body_deepen_24 {N : Nat} {Q : Nat → Prop} {p0 : Nat} {B : Nat} (hn : ∀ a, B ≤ a → Q a) (q_p0 : Q p0)  {H : Hp} {r : (Ot Unit) × Hp} (hF : B_Body_deepen_24 N p0  H = some r) (hc0 : Cl Q H) (hB : B ≤ H.sh.length) : Rg Q H r.2 ∧ (∀ x, r.1 = .inr x → Q x) := by
  unfold B_Body_deepen_24 at hF
  have hm := Rg.rf hc0
  obtain ⟨q35, hG⟩ := ck_s hF; clear hF
  obtain ⟨x36, -, hF⟩ := bnd_g hG; clear hG
  obtain ⟨H37, eH37, hG⟩ := bnd_g hF; clear hF
  replace hm : Rg Q H H37 := hm.tr (by rw [eH37]; exact Rg.sD hm.1 q_p0)
  have s_13 : Sa H H37 := by rw [eH37]; exact Sa.rf _
  replace hB : B ≤ H37.sh.length := by rw [eH37]; exact hB
  have hr := Option.some.inj hG; subst hr
  exact ⟨hm, (fun x e => by cases e)⟩
set_option maxRecDepth 20000 in
set_option maxHeartbeats 2000000 in
theorem g_Body_deepen {N : Nat} {Q : Nat → Prop} {p0 : Nat} {H : Hp} {r : (Ot Unit) × Hp} {B : Nat} (hn : ∀ a, B ≤ a → Q a) (hF : F_Body_deepen N p0 H = some r) (hc0 : Cl Q H) (hB : B ≤ H.sh.length) (q_p0 : Q p0) : Rg Q H r.2 ∧ (∀ x, r.1 = .inr x → Q x) := by
  unfold F_Body_deepen at hF
  have hm := Rg.rf hc0
  obtain ⟨q38, hG⟩ := ck_s hF; clear hF
  obtain ⟨x39, -, hF⟩ := bnd_g hG; clear hG
  rcases ite_s hF with ⟨q_14, hG⟩ | ⟨q_14, hG⟩
  · clear hF
    have gz := gB_Body_deepen_24 hn q_p0 hG hm.1 hB
    exact ⟨hm.tr gz.1, gz.2⟩
  · clear hF
    obtain ⟨a41, e42, hF⟩ := rf_s hG; clear hG
    have qa41 : Q a41 := hm.1 _ _ _ q_p0 e42
    obtain ⟨a43, e44, hG⟩ := rf_s hF; clear hF
    have qa43 : Q a43 := hm.1 _ _ _ q_p0 e44
    obtain ⟨q45, hF⟩ := ck_s hG; clear hG
    obtain ⟨x46, -, hG⟩ := bnd_g hF; clear hF
    obtain ⟨q47, hF⟩ := ck_s hG; clear hG
    refine bT_c hF (fun x51 H50 z48 er => ?_) (fun v49 H50 z48 hG => ?_)
    · subst er; have gz := (g_Lexer_refuse hn z48 hm.1 hB qa41); exact ⟨hm.tr gz.1, (fun x e => by cases e; exact gz.2 _ rfl)⟩
    clear hF
    have gz_15 := (g_Lexer_refuse hn z48 hm.1 hB qa41)
    replace hm : Rg Q H H50 := hm.tr gz_15.1
    replace hB : B ≤ H50.sh.length := Nat.le_trans hB ((m_Lexer_refuse z48)).len
    have mz_16 : Mo H H50 := (m_Lexer_refuse z48)
    have q_17 := (mz_16).get q38
    have q_18 := (mz_16).get q45
    have q_19 := (mz_16).get q47
    have gz := gB_Body_deepen_24 hn q_p0 hG hm.1 hB
    exact ⟨hm.tr gz.1, gz.2⟩
set_option maxRecDepth 20000 in
set_option maxHeartbeats 2000000 in
theorem gB_Body_openParens_27 {N : Nat} {Q : Nat → Prop} {p0 : Nat} {B : Nat} (hn : ∀ a, B ≤ a → Q a) (q_p0 : Q p0)  {H : Hp} {r : (Ot Unit) × Hp} (hF : B_Body_openParens_27 N p0  H = some r) (hc0 : Cl Q H) (hB : B ≤ H.sh.length) : Rg Q H r.2 ∧ (∀ x, r.1 = .inr x → Q x) := by
  unfold B_Body_openParens_27 at hF
  have hm := Rg.rf hc0
  obtain ⟨q57, hG⟩ := ck_s hF; clear hF
  refine bT_c hG (fun x61 H60 z58 er => ?_) (fun v59 H60 z58 hF => ?_)
  · subst er; have gz := (g_Body_deepen hn z58 hm.1 hB q_p0); exact ⟨hm.tr gz.1, (fun x e => by cases e; exact gz.2 _ rfl)⟩
  clear hG
  have gz_21 := (g_Body_deepen hn z58 hm.1 hB q_p0)
  replace hm : Rg Q H H60 := hm.tr gz_21.1
  replace hB : B ≤ H60.sh.length := Nat.le_trans hB ((m_Body_deepen z58)).len
  have mz_22 : Mo H H60 := (m_Body_deepen z58)
  have q_23 := (mz_22).get q57
  obtain ⟨a62, e63, hG⟩ := rf_s hF; clear hF
  have qa62 : Q a62 := hm.1 _ _ _ q_p0 e63
  obtain ⟨q64, hF⟩ := ck_s hG; clear hG
  obtain ⟨v66, H67, z65, hG⟩ := bC_s hF; clear hF
  have gz_24 := (g_Lexer_advance z65 hm.1 qa62)
  replace hm : Rg Q H H67 := hm.tr gz_24
  replace hB : B ≤ H67.sh.length := Nat.le_trans hB ((m_Lexer_advance z65)).mo.len
  have s_25 : Sa H60 H67 := (m_Lexer_advance z65)
  have hr := Option.some.inj hG; subst hr
  exact ⟨hm, (fun x e => by cases e)⟩
set_option maxRecDepth 20000 in
set_option maxHeartbeats 2000000 in
theorem g_Body_openParens {N : Nat} {Q : Nat → Prop} {p0 : Nat} {H : Hp} {r : (Ot Unit) × Hp} {B : Nat} (hn : ∀ a, B ≤ a → Q a) (hF : F_Body_openParens N p0 H = some r) (hc0 : Cl Q H) (hB : B ≤ H.sh.length) (q_p0 : Q p0) : Rg Q H r.2 ∧ (∀ x, r.1 = .inr x → Q x) := by
  unfold F_Body_openParens at hF
  have hm := Rg.rf hc0
  obtain ⟨q68, hG⟩ := ck_s hF; clear hF
  obtain ⟨a69, e70, hF⟩ := rf_s hG; clear hG
  have qa69 : Q a69 := hm.1 _ _ _ q_p0 e70
  obtain ⟨q71, hG⟩ := ck_s hF; clear hF
  obtain ⟨x72, -, hF⟩ := bnd_g hG; clear hG
  rcases ite_s hF with ⟨q_26, hG⟩ | ⟨q_26, hG⟩
  · clear hF
    have gz := gB_Body_openParens_27 hn q_p0 hG hm.1 hB
    exact ⟨hm.tr gz.1, gz.2⟩
  · clear hF
    obtain ⟨a74, e75, hF⟩ := rf_s hG; clear hG
    have qa74 : Q a74 := hm.1 _ _ _ q_p0 e75
    obtain ⟨a76, e77, hG⟩ := rf_s hF; clear hF
    have qa76 : Q a76 := hm.1 _ _ _ q_p0 e77
    obtain ⟨q78, hF⟩ := ck_s hG; clear hG
    obtain ⟨x79, -, hG⟩ := bnd_g hF; clear hF
    obtain ⟨q80, hF⟩ := ck_s hG; clear hG
    refine bT_c hF (fun x84 H83 z81 er => ?_) (fun v82 H83 z81 hG => ?_)
    · subst er; have gz := (g_Lexer_refuse hn z81 hm.1 hB qa74); exact ⟨hm.tr gz.1, (fun x e => by cases e; exact gz.2 _ rfl)⟩
    clear hF
    have gz_27 := (g_Lexer_refuse hn z81 hm.1 hB qa74)
    replace hm : Rg Q H H83 := hm.tr gz_27.1
    replace hB : B ≤ H83.sh.length := Nat.le_trans hB ((m_Lexer_refuse z81)).len
    have mz_28 : Mo H H83 := (m_Lexer_refuse z81)
    have q_29 := (mz_28).get q68
    have q_30 := (mz_28).get q71
    have q_31 := (mz_28).get q78
    have q_32 := (mz_28).get q80
    have gz := gB_Body_openParens_27 hn q_p0 hG hm.1 hB
    exact ⟨hm.tr gz.1, gz.2⟩
set_option maxRecDepth 20000 in
set_option maxHeartbeats 2000000 in
theorem g_Body_closeParens {N : Nat} {Q : Nat → Prop} {p0 : Nat} {H : Hp} {r : (Ot Unit) × Hp} {B : Nat} (hn : ∀ a, B ≤ a → Q a) (hF : F_Body_closeParens N p0 H = some r) (hc0 : Cl Q H) (hB : B ≤ H.sh.length) (q_p0 : Q p0) : Rg Q H r.2 ∧ (∀ x, r.1 = .inr x → Q x) := by
  unfold F_Body_closeParens at hF
  have hm := Rg.rf hc0
  obtain ⟨q21, hG⟩ := ck_s hF; clear hF
  obtain ⟨a22, e23, hF⟩ := rf_s hG; clear hG
  have qa22 : Q a22 := hm.1 _ _ _ q_p0 e23
  obtain ⟨q24, hG⟩ := ck_s hF; clear hF
  refine bT_c hG (fun x28 H27 z25 er => ?_) (fun v26 H27 z25 hF => ?_)
  · subst er; have gz := (g_Lexer_take hn z25 hm.1 hB qa22); exact ⟨hm.tr gz.1, (fun x e => by cases e; exact gz.2 _ rfl)⟩
  clear hG
  have gz_11 := (g_Lexer_take hn z25 hm.1 hB qa22)
  replace hm : Rg Q H H27 := hm.tr gz_11.1
  replace hB : B ≤ H27.sh.length := Nat.le_trans hB ((m_Lexer_take z25)).len
  have mz_12 : Mo H H27 := (m_Lexer_take z25)
  have q_13 := (mz_12).get q21
  have q_14 := (mz_12).get q24
  obtain ⟨x29, -, hG⟩ := bnd_g hF; clear hF
  obtain ⟨H30, eH30, hF⟩ := bnd_g hG; clear hG
  replace hm : Rg Q H H30 := hm.tr (by rw [eH30]; exact Rg.sD hm.1 q_p0)
  have s_15 : Sa H27 H30 := by rw [eH30]; exact Sa.rf _
  replace hB : B ≤ H30.sh.length := by rw [eH30]; exact hB
  have hr := Option.some.inj hF; subst hr
  exact ⟨hm, (fun x e => by cases e)⟩
set_option maxRecDepth 20000 in
set_option maxHeartbeats 2000000 in
theorem g_Body_knownHere {N : Nat} {Q : Nat → Prop} {p0 : Nat} {H : Hp} {r : (Ot (Option Nat)) × Hp} {B : Nat} (hn : ∀ a, B ≤ a → Q a) (hF : F_Body_knownHere N p0 H = some r) (hc0 : Cl Q H) (hB : B ≤ H.sh.length) (q_p0 : Q p0) : Rg Q H r.2 ∧ (∀ a, r.1 = .inl (some a) → Q a) ∧ (∀ x, r.1 = .inr x → Q x) := by
  unfold F_Body_knownHere at hF
  have hm := Rg.rf hc0
  obtain ⟨q55, hG⟩ := ck_s hF; clear hF
  obtain ⟨a56, e57, hF⟩ := rf_s hG; clear hG
  have qa56 : Q a56 := hm.1 _ _ _ q_p0 e57
  obtain ⟨q58, hG⟩ := ck_s hF; clear hF
  obtain ⟨x59, -, hF⟩ := bnd_g hG; clear hG
  obtain ⟨a60, e61, hG⟩ := rf_s hF; clear hF
  have qa60 : Q a60 := hm.1 _ _ _ q_p0 e61
  obtain ⟨a62, e63, hF⟩ := rf_s hG; clear hG
  have qa62 : Q a62 := hm.1 _ _ _ q_p0 e63
  obtain ⟨q64, hG⟩ := ck_s hF; clear hF
  refine bT_c hG (fun x68 H67 z65 er => ?_) (fun v66 H67 z65 hF => ?_)
  · subst er; have gz := (g_Lexer_takeName hn z65 hm.1 hB qa62); exact ⟨hm.tr gz.1, (fun a e => by cases e), (fun x e => by cases e; exact gz.2.2 _ rfl)⟩
  clear hG
  have gz_32 := (g_Lexer_takeName hn z65 hm.1 hB qa62)
  replace hm : Rg Q H H67 := hm.tr gz_32.1
  replace hB : B ≤ H67.sh.length := Nat.le_trans hB ((m_Lexer_takeName z65)).len
  have mz_33 : Mo H H67 := (m_Lexer_takeName z65)
  have q_34 := (mz_33).get q55
  have q_35 := (mz_33).get q58
  have q_36 := (mz_33).get q64
  obtain ⟨a69, ea69, hG⟩ := on_s hF; clear hF
  subst ea69
  have qa69 : Q a69 := gz_32.2.1 _ rfl
  obtain ⟨q70, hF⟩ := ck_s hG; clear hG
  obtain ⟨v72, H73, z71, hG⟩ := bC_s hF; clear hF
  have gz_37 := (g_Program_find z71 hm.1 qa60 qa69)
  replace hm : Rg Q H H73 := hm.tr gz_37.1
  replace hB : B ≤ H73.sh.length := Nat.le_trans hB ((m_Program_find z71)).mo.len
  have s_38 : Sa H67 H73 := (m_Program_find z71)
  refine nl_c hG (fun ea74 hF => ?_) (fun a74 ea74 hF => ?_)
  · clear hG; subst ea74
    obtain ⟨a75, e76, hG⟩ := rf_s hF; clear hF
    have qa75 : Q a75 := hm.1 _ _ _ q_p0 e76
    obtain ⟨q77, hF⟩ := ck_s hG; clear hG
    rw [(s_38).1] at q77
    refine bT_c hF (fun x81 H80 z78 er => ?_) (fun v79 H80 z78 hG => ?_)
    · subst er; have gz := (g_Lexer_refuse hn z78 hm.1 hB qa75); exact ⟨hm.tr gz.1, (fun a e => by cases e), (fun x e => by cases e; exact gz.2 _ rfl)⟩
    clear hF
    have gz_39 := (g_Lexer_refuse hn z78 hm.1 hB qa75)
    replace hm : Rg Q H H80 := hm.tr gz_39.1
    replace hB : B ≤ H80.sh.length := Nat.le_trans hB ((m_Lexer_refuse z78)).len
    have mz_40 : Mo H73 H80 := (m_Lexer_refuse z78)
    have q_41 := (mz_40).get (by rw [(s_38).1]; exact q_34)
    have q_42 := (mz_40).get (by rw [(s_38).1]; exact q_35)
    have q_43 := (mz_40).get (by rw [(s_38).1]; exact q_36)
    have q_44 := (mz_40).get (by rw [(s_38).1]; exact q70)
    have q_45 := (mz_40).get (by rw [(s_38).1]; exact q77)
    have hr := Option.some.inj hG; subst hr
    exact ⟨hm, (fun a e => by cases e), (fun x e => by cases e)⟩
  clear hG; subst ea74
  have qa74 : Q a74 := gz_37.2 _ rfl
  have hr := Option.some.inj hF; subst hr
  exact ⟨hm, (fun a e => by cases e; exact qa74), (fun x e => by cases e)⟩
set_option maxRecDepth 20000 in
set_option maxHeartbeats 2000000 in
theorem g_Body_numberHere {N : Nat} {Q : Nat → Prop} {p0 : Nat} {p1 : Int32} {H : Hp} {r : (Ot Int32) × Hp} {B : Nat} (hn : ∀ a, B ≤ a → Q a) (hF : F_Body_numberHere N p0 p1 H = some r) (hc0 : Cl Q H) (hB : B ≤ H.sh.length) (q_p0 : Q p0) : Rg Q H r.2 ∧ (∀ x, r.1 = .inr x → Q x) := by
  unfold F_Body_numberHere at hF
  have hm := Rg.rf hc0
  obtain ⟨q45, hG⟩ := ck_s hF; clear hF
  obtain ⟨a46, e47, hF⟩ := rf_s hG; clear hG
  have qa46 : Q a46 := hm.1 _ _ _ q_p0 e47
  obtain ⟨q48, hG⟩ := ck_s hF; clear hF
  obtain ⟨x49, -, hF⟩ := bnd_g hG; clear hG
  refine bT_c hF (fun x53 H52 z50 er => ?_) (fun v51 H52 z50 hG => ?_)
  · subst er; have gz := (g_Body_knownHere hn z50 hm.1 hB q_p0); exact ⟨hm.tr gz.1, (fun x e => by cases e; exact gz.2.2 _ rfl)⟩
  clear hF
  have gz_27 := (g_Body_knownHere hn z50 hm.1 hB q_p0)
  replace hm : Rg Q H H52 := hm.tr gz_27.1
  replace hB : B ≤ H52.sh.length := Nat.le_trans hB ((m_Body_knownHere z50)).len
  have mz_28 : Mo H H52 := (m_Body_knownHere z50)
  have q_29 := (mz_28).get q45
  have q_30 := (mz_28).get q48
  obtain ⟨a54, ea54, hF⟩ := on_s hG; clear hG
  subst ea54
  have qa54 : Q a54 := gz_27.2.1 _ rfl
  obtain ⟨q55, hG⟩ := ck_s hF; clear hF
  obtain ⟨x56, -, hF⟩ := bnd_g hG; clear hG
  rcases ite_s hF with ⟨q_31, hG⟩ | ⟨q_31, hG⟩
  · clear hF
    obtain ⟨x58, -, hF⟩ := bnd_g hG; clear hG
    have hr := Option.some.inj hF; subst hr
    exact ⟨hm, (fun x e => by cases e)⟩
  · clear hF
    obtain ⟨a59, e60, hF⟩ := rf_s hG; clear hG
    have qa59 : Q a59 := hm.1 _ _ _ q_p0 e60
    obtain ⟨q61, hG⟩ := ck_s hF; clear hF
    refine bT_c hG (fun x65 H64 z62 er => ?_) (fun v63 H64 z62 hF => ?_)
    · subst er; have gz := (g_Lexer_refuse hn z62 hm.1 hB qa59); exact ⟨hm.tr gz.1, (fun x e => by cases e; exact gz.2 _ rfl)⟩
    clear hG
    have gz_32 := (g_Lexer_refuse hn z62 hm.1 hB qa59)
    replace hm : Rg Q H H64 := hm.tr gz_32.1
    replace hB : B ≤ H64.sh.length := Nat.le_trans hB ((m_Lexer_refuse z62)).len
    have mz_33 : Mo H52 H64 := (m_Lexer_refuse z62)
    have q_34 := (mz_33).get q_29
    have q_35 := (mz_33).get q_30
    have q_36 := (mz_33).get q55
    have q_37 := (mz_33).get q61
    obtain ⟨x66, -, hG⟩ := bnd_g hF; clear hF
    have hr := Option.some.inj hG; subst hr
    exact ⟨hm, (fun x e => by cases e)⟩
