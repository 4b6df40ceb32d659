/-! ===== which statement ===== -/
theorem bT_u {m : Option (Ot Unit × Hp)} : bT m (fun _ H => some (.inl (), H)) = m := by
  cases m with
  | none => rfl
  | some q => obtain ⟨v, H⟩ := q; cases v <;> rfl
theorem bC_u {m : Option (Unit × Hp)} : bC m (fun _ H => some ((), H)) = m := by
  cases m with
  | none => rfl
  | some q => rfl
theorem sD_sD {H : Hp} {a f : Nat} {u v : Int32} : (H.sD a f u).sD a f v = H.sD a f v := by
  unfold Hp.sD
  have : up2 (up2 H.D a f u) a f v = up2 H.D a f v := by
    funext x y
    unfold up2
    by_cases h : x = a <;> by_cases h2 : y = f <;> simp only [h, h2, if_true, if_false]
  show mkH (up2 (up2 H.D a f u) a f v) H.P H.L H.sh H.sl = _
  rw [this]
section Par
variable {N p w T : Nat} {L : List (Nat × Nat × Int32 × Bool × Nat)} {g : Nat → Nat} {E : Nat → Nat → Nat} {Nm : Nat → Nat → List Nat} {Pv : Nat → Nat → Int32} {nL lc dp : Nat} {ln : Nat → List Nat} {lk lf : Nat → Nat} {hd : Nat → Int32}
theorem sA_2 {A : Hp} {i cs : Nat} {o : Orc_BodyS} (ha : (JA p T L g E Nm Pv nL lc dp ln lk lf hd i cs A)) (h : tkk L i = 2) : F_Body_readStatement N o 9 A = F_Body_readGiven N 9 A := by
  have hG := ha.1.1.1
  unfold F_Body_readStatement
  simp only [bT_u]
  rw [ck_t (rS_9 hG), rf_t (rP_9_0 hG), ck_t (rS_1 hG), bnd_t, ha.1.2.2.2.2.1, h, if_pos (by decide)]
theorem sA_54 {A : Hp} {i cs : Nat} {o : Orc_BodyS} (ha : (JA p T L g E Nm Pv nL lc dp ln lk lf hd i cs A)) (h : tkk L i = 54) : F_Body_readStatement N o 9 A = F_Body_readLet N 9 A := by
  have hG := ha.1.1.1
  unfold F_Body_readStatement
  simp only [bT_u]
  rw [ck_t (rS_9 hG), rf_t (rP_9_0 hG), ck_t (rS_1 hG), bnd_t, ha.1.2.2.2.2.1, h, if_neg (by decide), if_pos (by decide)]
theorem sA_55 {A : Hp} {i cs : Nat} {o : Orc_BodyS} (ha : (JA p T L g E Nm Pv nL lc dp ln lk lf hd i cs A)) (h : tkk L i = 55) : F_Body_readStatement N o 9 A = F_Body_readIf N o 9 A := by
  have hG := ha.1.1.1
  unfold F_Body_readStatement
  simp only [bT_u]
  rw [ck_t (rS_9 hG), rf_t (rP_9_0 hG), ck_t (rS_1 hG), bnd_t, ha.1.2.2.2.2.1, h, if_neg (by decide), if_neg (by decide), if_pos (by decide)]
theorem sA_57 {A : Hp} {i cs : Nat} {o : Orc_BodyS} (ha : (JA p T L g E Nm Pv nL lc dp ln lk lf hd i cs A)) (h : tkk L i = 57) : F_Body_readStatement N o 9 A = F_Body_readWhile N o 9 A := by
  have hG := ha.1.1.1
  unfold F_Body_readStatement
  simp only [bT_u]
  rw [ck_t (rS_9 hG), rf_t (rP_9_0 hG), ck_t (rS_1 hG), bnd_t, ha.1.2.2.2.2.1, h, if_neg (by decide), if_neg (by decide), if_neg (by decide), if_pos (by decide)]
theorem sA_58 {A : Hp} {i cs : Nat} {o : Orc_BodyS} (ha : (JA p T L g E Nm Pv nL lc dp ln lk lf hd i cs A)) (h : tkk L i = 58) : F_Body_readStatement N o 9 A = F_Body_readFor N o 9 A := by
  have hG := ha.1.1.1
  unfold F_Body_readStatement
  simp only [bT_u]
  rw [ck_t (rS_9 hG), rf_t (rP_9_0 hG), ck_t (rS_1 hG), bnd_t, ha.1.2.2.2.2.1, h, if_neg (by decide), if_neg (by decide), if_neg (by decide), if_neg (by decide), if_pos (by decide)]
theorem sA_61 {A : Hp} {i cs : Nat} {o : Orc_BodyS} (ha : (JA p T L g E Nm Pv nL lc dp ln lk lf hd i cs A)) (h : tkk L i = 61) : F_Body_readStatement N o 9 A = F_Body_readHear N o 9 A := by
  have hG := ha.1.1.1
  unfold F_Body_readStatement
  simp only [bT_u]
  rw [ck_t (rS_9 hG), rf_t (rP_9_0 hG), ck_t (rS_1 hG), bnd_t, ha.1.2.2.2.2.1, h, if_neg (by decide), if_neg (by decide), if_neg (by decide), if_neg (by decide), if_neg (by decide), if_pos (by decide)]
theorem sA_62 {A : Hp} {i cs : Nat} {o : Orc_BodyS} (ha : (JA p T L g E Nm Pv nL lc dp ln lk lf hd i cs A)) (h : tkk L i = 62) : F_Body_readStatement N o 9 A = F_Body_readSpawn N 9 A := by
  have hG := ha.1.1.1
  unfold F_Body_readStatement
  simp only [bT_u]
  rw [ck_t (rS_9 hG), rf_t (rP_9_0 hG), ck_t (rS_1 hG), bnd_t, ha.1.2.2.2.2.1, h, if_neg (by decide), if_neg (by decide), if_neg (by decide), if_neg (by decide), if_neg (by decide), if_neg (by decide), if_pos (by decide)]
theorem sA_63 {A : Hp} {i cs : Nat} {o : Orc_BodyS} (ha : (JA p T L g E Nm Pv nL lc dp ln lk lf hd i cs A)) (h : tkk L i = 63) : F_Body_readStatement N o 9 A = F_Body_readTargeted N 9 (63 : Int32) A := by
  have hG := ha.1.1.1
  unfold F_Body_readStatement
  simp only [bT_u]
  rw [ck_t (rS_9 hG), rf_t (rP_9_0 hG), ck_t (rS_1 hG), bnd_t, ha.1.2.2.2.2.1, h, if_neg (by decide), if_neg (by decide), if_neg (by decide), if_neg (by decide), if_neg (by decide), if_neg (by decide), if_neg (by decide), if_pos (by decide), rf_t (rP_9_0 hG), ck_t (rS_1 hG), bnd_t, ha.1.2.2.2.2.1, h]
  rfl
theorem sA_64 {A : Hp} {i cs : Nat} {o : Orc_BodyS} (ha : (JA p T L g E Nm Pv nL lc dp ln lk lf hd i cs A)) (h : tkk L i = 64) : F_Body_readStatement N o 9 A = F_Body_readTargeted N 9 (64 : Int32) A := by
  have hG := ha.1.1.1
  unfold F_Body_readStatement
  simp only [bT_u]
  rw [ck_t (rS_9 hG), rf_t (rP_9_0 hG), ck_t (rS_1 hG), bnd_t, ha.1.2.2.2.2.1, h, if_neg (by decide), if_neg (by decide), if_neg (by decide), if_neg (by decide), if_neg (by decide), if_neg (by decide), if_neg (by decide), if_neg (by decide), if_pos (by decide), rf_t (rP_9_0 hG), ck_t (rS_1 hG), bnd_t, ha.1.2.2.2.2.1, h]
  rfl
theorem sA_65 {A : Hp} {i cs : Nat} {o : Orc_BodyS} (ha : (JA p T L g E Nm Pv nL lc dp ln lk lf hd i cs A)) (h : tkk L i = 65) : F_Body_readStatement N o 9 A = F_Body_readTargeted N 9 (65 : Int32) A := by
  have hG := ha.1.1.1
  unfold F_Body_readStatement
  simp only [bT_u]
  rw [ck_t (rS_9 hG), rf_t (rP_9_0 hG), ck_t (rS_1 hG), bnd_t, ha.1.2.2.2.2.1, h, if_neg (by decide), if_neg (by decide), if_neg (by decide), if_neg (by decide), if_neg (by decide), if_neg (by decide), if_neg (by decide), if_neg (by decide), if_neg (by decide), if_pos (by decide), rf_t (rP_9_0 hG), ck_t (rS_1 hG), bnd_t, ha.1.2.2.2.2.1, h]
  rfl
theorem sA_66 {A : Hp} {i cs : Nat} {o : Orc_BodyS} (ha : (JA p T L g E Nm Pv nL lc dp ln lk lf hd i cs A)) (h : tkk L i = 66) : F_Body_readStatement N o 9 A = F_Body_readPut N 9 A := by
  have hG := ha.1.1.1
  unfold F_Body_readStatement
  simp only [bT_u]
  rw [ck_t (rS_9 hG), rf_t (rP_9_0 hG), ck_t (rS_1 hG), bnd_t, ha.1.2.2.2.2.1, h, if_neg (by decide), if_neg (by decide), if_neg (by decide), if_neg (by decide), if_neg (by decide), if_neg (by decide), if_neg (by decide), if_neg (by decide), if_neg (by decide), if_neg (by decide), if_pos (by decide)]
theorem sA_67 {A : Hp} {i cs : Nat} {o : Orc_BodyS} (ha : (JA p T L g E Nm Pv nL lc dp ln lk lf hd i cs A)) (h : tkk L i = 67) : F_Body_readStatement N o 9 A = F_Body_readEmit N 9 A := by
  have hG := ha.1.1.1
  unfold F_Body_readStatement
  simp only [bT_u]
  rw [ck_t (rS_9 hG), rf_t (rP_9_0 hG), ck_t (rS_1 hG), bnd_t, ha.1.2.2.2.2.1, h, if_neg (by decide), if_neg (by decide), if_neg (by decide), if_neg (by decide), if_neg (by decide), if_neg (by decide), if_neg (by decide), if_neg (by decide), if_neg (by decide), if_neg (by decide), if_neg (by decide), if_pos (by decide)]
theorem sA_69 {A : Hp} {i cs : Nat} {o : Orc_BodyS} (ha : (JA p T L g E Nm Pv nL lc dp ln lk lf hd i cs A)) (h : tkk L i = 69) : F_Body_readStatement N o 9 A = F_Body_readShow N 9 A := by
  have hG := ha.1.1.1
  unfold F_Body_readStatement
  simp only [bT_u]
  rw [ck_t (rS_9 hG), rf_t (rP_9_0 hG), ck_t (rS_1 hG), bnd_t, ha.1.2.2.2.2.1, h, if_neg (by decide), if_neg (by decide), if_neg (by decide), if_neg (by decide), if_neg (by decide), if_neg (by decide), if_neg (by decide), if_neg (by decide), if_neg (by decide), if_neg (by decide), if_neg (by decide), if_neg (by decide), if_pos (by decide)]
theorem sA_70 {A : Hp} {i cs : Nat} {o : Orc_BodyS} (ha : (JA p T L g E Nm Pv nL lc dp ln lk lf hd i cs A)) (h : tkk L i = 70) : F_Body_readStatement N o 9 A = bC (F_Lexer_advance N 1 A) fun v88 H89 => rf (H89.P 9 1) fun a90 => ck (H89.sh[a90]? = some (4, 0)) <| bC (F_Program_add N a90 (11 : Int32) H89) fun v94 H95 => rf (H95.P 9 0) fun a96 => ck (H95.sh[a96]? = some (1, 0)) <| F_Lexer_take N a96 (15 : Int32) H95 := by
  have hG := ha.1.1.1
  unfold F_Body_readStatement
  simp only [bT_u]
  rw [ck_t (rS_9 hG), rf_t (rP_9_0 hG), ck_t (rS_1 hG), bnd_t, ha.1.2.2.2.2.1, h, if_neg (by decide), if_neg (by decide), if_neg (by decide), if_neg (by decide), if_neg (by decide), if_neg (by decide), if_neg (by decide), if_neg (by decide), if_neg (by decide), if_neg (by decide), if_neg (by decide), if_neg (by decide), if_neg (by decide), if_pos (by decide), rf_t (rP_9_0 hG), ck_t (rS_1 hG)]
theorem sB_2 {B : Hp} {i : Nat} {o' : Orc_TextS} (hb : (JB w T L g E Nm Pv nL lc dp ln lk lf hd i B)) (h : tkk L i = 2) : F_MText_statement N o' w B = F_MText_assigns N w B := by
  have hi := hb.1.2.2.2.2.1
  have h61 : L.length ≤ 6001 := by have := hb.1.2.2.2.2.2.2.1; have := hb.1.2.2.2.2.2.2.2.1; omega
  unfold F_MText_statement
  simp only [bC_u]
  rw [ck_t (TS hb.1.1.1), rf_t (TP_3 hb.1.1.1), bnd_t, hb.1.2.2.1, ar_t (TA_3 hb.1.1.1), rdI (by omega) (by decide), (hb.1.2.1 i hi).1, h, if_pos (by decide)]
theorem sB_54 {B : Hp} {i : Nat} {o' : Orc_TextS} (hb : (JB w T L g E Nm Pv nL lc dp ln lk lf hd i B)) (h : tkk L i = 54) : F_MText_statement N o' w B = bC (F_MText_localName N w (B.sD w 11 (nI (i + 1)))) fun v15 H16 => bC (F_MText_takes N w (61 : Int32) H16) fun v18 H19 => bC ((X_TextE N 50).1 w H19) fun v21 H22 => bC (F_MText_tells N w v15 v21 (0 : Int32) H22) fun v24 H25 => F_MText_takes N w (59 : Int32) H25 := by
  have hi := hb.1.2.2.2.2.1
  have h61 : L.length ≤ 6001 := by have := hb.1.2.2.2.2.2.2.1; have := hb.1.2.2.2.2.2.2.2.1; omega
  unfold F_MText_statement
  simp only [bC_u]
  rw [ck_t (TS hb.1.1.1), rf_t (TP_3 hb.1.1.1), bnd_t, hb.1.2.2.1, ar_t (TA_3 hb.1.1.1), rdI (by omega) (by decide), (hb.1.2.1 i hi).1, h, if_neg (by decide), bnd_t, bnd_t, nI_1, bnd_t, if_pos (by decide)]
theorem sB_55 {B : Hp} {i : Nat} {o' : Orc_TextS} (hb : (JB w T L g E Nm Pv nL lc dp ln lk lf hd i B)) (h : tkk L i = 55) : F_MText_statement N o' w B = bC (F_MText_wants N (X_TextE N 50) w (3 : Int32) (B.sD w 11 (nI (i + 1)))) fun v31 H32 => bC (F_MText_block N o' w H32) fun v34 H35 => bC (F_MText_accepts N w (216 : Int32) H35) fun v37 H38 => if v37 = (0 : Int32) then some ((), H38) else F_MText_block N o' w H38 := by
  have hi := hb.1.2.2.2.2.1
  have h61 : L.length ≤ 6001 := by have := hb.1.2.2.2.2.2.2.1; have := hb.1.2.2.2.2.2.2.2.1; omega
  unfold F_MText_statement
  simp only [bC_u]
  rw [ck_t (TS hb.1.1.1), rf_t (TP_3 hb.1.1.1), bnd_t, hb.1.2.2.1, ar_t (TA_3 hb.1.1.1), rdI (by omega) (by decide), (hb.1.2.1 i hi).1, h, if_neg (by decide), bnd_t, bnd_t, nI_1, bnd_t, if_neg (by decide), if_pos (by decide)]
theorem sB_57 {B : Hp} {i : Nat} {o' : Orc_TextS} (hb : (JB w T L g E Nm Pv nL lc dp ln lk lf hd i B)) (h : tkk L i = 57) : F_MText_statement N o' w B = bC (F_MText_wants N (X_TextE N 50) w (3 : Int32) (B.sD w 11 (nI (i + 1)))) fun v45 H46 => F_MText_block N o' w H46 := by
  have hi := hb.1.2.2.2.2.1
  have h61 : L.length ≤ 6001 := by have := hb.1.2.2.2.2.2.2.1; have := hb.1.2.2.2.2.2.2.2.1; omega
  unfold F_MText_statement
  simp only [bC_u]
  rw [ck_t (TS hb.1.1.1), rf_t (TP_3 hb.1.1.1), bnd_t, hb.1.2.2.1, ar_t (TA_3 hb.1.1.1), rdI (by omega) (by decide), (hb.1.2.1 i hi).1, h, if_neg (by decide), bnd_t, bnd_t, nI_1, bnd_t, if_neg (by decide), if_neg (by decide), if_pos (by decide)]
theorem sB_58 {B : Hp} {i : Nat} {o' : Orc_TextS} (hb : (JB w T L g E Nm Pv nL lc dp ln lk lf hd i B)) (h : tkk L i = 58) : F_MText_statement N o' w B = F_MText_goes N o' w (B.sD w 11 (nI (i + 1))) := by
  have hi := hb.1.2.2.2.2.1
  have h61 : L.length ≤ 6001 := by have := hb.1.2.2.2.2.2.2.1; have := hb.1.2.2.2.2.2.2.2.1; omega
  unfold F_MText_statement
  simp only [bC_u]
  rw [ck_t (TS hb.1.1.1), rf_t (TP_3 hb.1.1.1), bnd_t, hb.1.2.2.1, ar_t (TA_3 hb.1.1.1), rdI (by omega) (by decide), (hb.1.2.1 i hi).1, h, if_neg (by decide), bnd_t, bnd_t, nI_1, bnd_t, if_neg (by decide), if_neg (by decide), if_neg (by decide), if_pos (by decide)]
theorem sB_61 {B : Hp} {i : Nat} {o' : Orc_TextS} (hb : (JB w T L g E Nm Pv nL lc dp ln lk lf hd i B)) (h : tkk L i = 61) : F_MText_statement N o' w B = F_MText_hears N o' w (B.sD w 11 (nI (i + 1))) := by
  have hi := hb.1.2.2.2.2.1
  have h61 : L.length ≤ 6001 := by have := hb.1.2.2.2.2.2.2.1; have := hb.1.2.2.2.2.2.2.2.1; omega
  unfold F_MText_statement
  simp only [bC_u]
  rw [ck_t (TS hb.1.1.1), rf_t (TP_3 hb.1.1.1), bnd_t, hb.1.2.2.1, ar_t (TA_3 hb.1.1.1), rdI (by omega) (by decide), (hb.1.2.1 i hi).1, h, if_neg (by decide), bnd_t, bnd_t, nI_1, bnd_t, if_neg (by decide), if_neg (by decide), if_neg (by decide), if_neg (by decide), if_pos (by decide)]
theorem sB_62 {B : Hp} {i : Nat} {o' : Orc_TextS} (hb : (JB w T L g E Nm Pv nL lc dp ln lk lf hd i B)) (h : tkk L i = 62) : F_MText_statement N o' w B = F_MText_spawns N w (B.sD w 11 (nI (i + 1))) := by
  have hi := hb.1.2.2.2.2.1
  have h61 : L.length ≤ 6001 := by have := hb.1.2.2.2.2.2.2.1; have := hb.1.2.2.2.2.2.2.2.1; omega
  unfold F_MText_statement
  simp only [bC_u]
  rw [ck_t (TS hb.1.1.1), rf_t (TP_3 hb.1.1.1), bnd_t, hb.1.2.2.1, ar_t (TA_3 hb.1.1.1), rdI (by omega) (by decide), (hb.1.2.1 i hi).1, h, if_neg (by decide), bnd_t, bnd_t, nI_1, bnd_t, if_neg (by decide), if_neg (by decide), if_neg (by decide), if_neg (by decide), if_neg (by decide), if_pos (by decide)]
theorem sB_63 {B : Hp} {i : Nat} {o' : Orc_TextS} (hb : (JB w T L g E Nm Pv nL lc dp ln lk lf hd i B)) (h : tkk L i = 63) : F_MText_statement N o' w B = F_MText_commands N w (223 : Int32) (B.sD w 11 (nI (i + 1))) := by
  have hi := hb.1.2.2.2.2.1
  have h61 : L.length ≤ 6001 := by have := hb.1.2.2.2.2.2.2.1; have := hb.1.2.2.2.2.2.2.2.1; omega
  unfold F_MText_statement
  simp only [bC_u]
  rw [ck_t (TS hb.1.1.1), rf_t (TP_3 hb.1.1.1), bnd_t, hb.1.2.2.1, ar_t (TA_3 hb.1.1.1), rdI (by omega) (by decide), (hb.1.2.1 i hi).1, h, if_neg (by decide), bnd_t, bnd_t, nI_1, bnd_t, if_neg (by decide), if_neg (by decide), if_neg (by decide), if_neg (by decide), if_neg (by decide), if_neg (by decide), if_pos (by decide)]
  rfl
theorem sB_64 {B : Hp} {i : Nat} {o' : Orc_TextS} (hb : (JB w T L g E Nm Pv nL lc dp ln lk lf hd i B)) (h : tkk L i = 64) : F_MText_statement N o' w B = F_MText_commands N w (224 : Int32) (B.sD w 11 (nI (i + 1))) := by
  have hi := hb.1.2.2.2.2.1
  have h61 : L.length ≤ 6001 := by have := hb.1.2.2.2.2.2.2.1; have := hb.1.2.2.2.2.2.2.2.1; omega
  unfold F_MText_statement
  simp only [bC_u]
  rw [ck_t (TS hb.1.1.1), rf_t (TP_3 hb.1.1.1), bnd_t, hb.1.2.2.1, ar_t (TA_3 hb.1.1.1), rdI (by omega) (by decide), (hb.1.2.1 i hi).1, h, if_neg (by decide), bnd_t, bnd_t, nI_1, bnd_t, if_neg (by decide), if_neg (by decide), if_neg (by decide), if_neg (by decide), if_neg (by decide), if_neg (by decide), if_neg (by decide), if_pos (by decide)]
  rfl
theorem sB_65 {B : Hp} {i : Nat} {o' : Orc_TextS} (hb : (JB w T L g E Nm Pv nL lc dp ln lk lf hd i B)) (h : tkk L i = 65) : F_MText_statement N o' w B = F_MText_commands N w (225 : Int32) (B.sD w 11 (nI (i + 1))) := by
  have hi := hb.1.2.2.2.2.1
  have h61 : L.length ≤ 6001 := by have := hb.1.2.2.2.2.2.2.1; have := hb.1.2.2.2.2.2.2.2.1; omega
  unfold F_MText_statement
  simp only [bC_u]
  rw [ck_t (TS hb.1.1.1), rf_t (TP_3 hb.1.1.1), bnd_t, hb.1.2.2.1, ar_t (TA_3 hb.1.1.1), rdI (by omega) (by decide), (hb.1.2.1 i hi).1, h, if_neg (by decide), bnd_t, bnd_t, nI_1, bnd_t, if_neg (by decide), if_neg (by decide), if_neg (by decide), if_neg (by decide), if_neg (by decide), if_neg (by decide), if_neg (by decide), if_neg (by decide), if_pos (by decide)]
  rfl
theorem sB_66 {B : Hp} {i : Nat} {o' : Orc_TextS} (hb : (JB w T L g E Nm Pv nL lc dp ln lk lf hd i B)) (h : tkk L i = 66) : F_MText_statement N o' w B = F_MText_commands N w (226 : Int32) (B.sD w 11 (nI (i + 1))) := by
  have hi := hb.1.2.2.2.2.1
  have h61 : L.length ≤ 6001 := by have := hb.1.2.2.2.2.2.2.1; have := hb.1.2.2.2.2.2.2.2.1; omega
  unfold F_MText_statement
  simp only [bC_u]
  rw [ck_t (TS hb.1.1.1), rf_t (TP_3 hb.1.1.1), bnd_t, hb.1.2.2.1, ar_t (TA_3 hb.1.1.1), rdI (by omega) (by decide), (hb.1.2.1 i hi).1, h, if_neg (by decide), bnd_t, bnd_t, nI_1, bnd_t, if_neg (by decide), if_neg (by decide), if_neg (by decide), if_neg (by decide), if_neg (by decide), if_neg (by decide), if_neg (by decide), if_neg (by decide), if_neg (by decide), if_pos (by decide)]
  rfl
theorem sB_67 {B : Hp} {i : Nat} {o' : Orc_TextS} (hb : (JB w T L g E Nm Pv nL lc dp ln lk lf hd i B)) (h : tkk L i = 67) : F_MText_statement N o' w B = F_MText_emits N w (B.sD w 11 (nI (i + 1))) := by
  have hi := hb.1.2.2.2.2.1
  have h61 : L.length ≤ 6001 := by have := hb.1.2.2.2.2.2.2.1; have := hb.1.2.2.2.2.2.2.2.1; omega
  unfold F_MText_statement
  simp only [bC_u]
  rw [ck_t (TS hb.1.1.1), rf_t (TP_3 hb.1.1.1), bnd_t, hb.1.2.2.1, ar_t (TA_3 hb.1.1.1), rdI (by omega) (by decide), (hb.1.2.1 i hi).1, h, if_neg (by decide), bnd_t, bnd_t, nI_1, bnd_t, if_neg (by decide), if_neg (by decide), if_neg (by decide), if_neg (by decide), if_neg (by decide), if_neg (by decide), if_neg (by decide), if_neg (by decide), if_neg (by decide), if_neg (by decide), if_pos (by decide)]
theorem sB_69 {B : Hp} {i : Nat} {o' : Orc_TextS} (hb : (JB w T L g E Nm Pv nL lc dp ln lk lf hd i B)) (h : tkk L i = 69) : F_MText_statement N o' w B = F_MText_commands N w (229 : Int32) (B.sD w 11 (nI (i + 1))) := by
  have hi := hb.1.2.2.2.2.1
  have h61 : L.length ≤ 6001 := by have := hb.1.2.2.2.2.2.2.1; have := hb.1.2.2.2.2.2.2.2.1; omega
  unfold F_MText_statement
  simp only [bC_u]
  rw [ck_t (TS hb.1.1.1), rf_t (TP_3 hb.1.1.1), bnd_t, hb.1.2.2.1, ar_t (TA_3 hb.1.1.1), rdI (by omega) (by decide), (hb.1.2.1 i hi).1, h, if_neg (by decide), bnd_t, bnd_t, nI_1, bnd_t, if_neg (by decide), if_neg (by decide), if_neg (by decide), if_neg (by decide), if_neg (by decide), if_neg (by decide), if_neg (by decide), if_neg (by decide), if_neg (by decide), if_neg (by decide), if_neg (by decide), if_pos (by decide)]
  rfl
theorem sB_70 {B : Hp} {i : Nat} {o' : Orc_TextS} (hb : (JB w T L g E Nm Pv nL lc dp ln lk lf hd i B)) (h : tkk L i = 70) : F_MText_statement N o' w B = F_MText_takes N w (59 : Int32) (B.sD w 11 (nI (i + 1))) := by
  have hi := hb.1.2.2.2.2.1
  have h61 : L.length ≤ 6001 := by have := hb.1.2.2.2.2.2.2.1; have := hb.1.2.2.2.2.2.2.2.1; omega
  unfold F_MText_statement
  simp only [bC_u]
  rw [ck_t (TS hb.1.1.1), rf_t (TP_3 hb.1.1.1), bnd_t, hb.1.2.2.1, ar_t (TA_3 hb.1.1.1), rdI (by omega) (by decide), (hb.1.2.1 i hi).1, h, if_neg (by decide), bnd_t, bnd_t, nI_1, bnd_t, if_neg (by decide), if_neg (by decide), if_neg (by decide), if_neg (by decide), if_neg (by decide), if_neg (by decide), if_neg (by decide), if_neg (by decide), if_neg (by decide), if_neg (by decide), if_neg (by decide), if_neg (by decide), if_pos (by decide)]
theorem st_no {A B : Hp} {i cs : Nat} {o : Orc_BodyS} {o' : Orc_TextS} {Post : Nat → Unit → Hp → Unit → Hp → Prop} (ha : (JA p T L g E Nm Pv nL lc dp ln lk lf hd i cs A)) (hb : (JB w T L g E Nm Pv nL lc dp ln lk lf hd i B)) (h : ¬ (tkk L i = 2 ∨ tkk L i = 54 ∨ tkk L i = 55 ∨ tkk L i = 57 ∨ tkk L i = 58 ∨ tkk L i = 61 ∨ tkk L i = 62 ∨ tkk L i = 63 ∨ tkk L i = 64 ∨ tkk L i = 65 ∨ tkk L i = 66 ∨ tkk L i = 67 ∨ tkk L i = 69 ∨ tkk L i = 70)) : (Out (SBo p (E 0 0)) (SRo w) w L i A B (F_Body_readStatement N o 9 A) (F_MText_statement N o' w B) Post) := by
  have hG := ha.1.1.1
  have hi := hb.1.2.2.2.2.1
  have h61 : L.length ≤ 6001 := by have := hb.1.2.2.2.2.2.2.1; have := hb.1.2.2.2.2.2.2.2.1; omega
  have h81 := (ha.1.2.2.2.2.2.2.2.2.2.2.2.1 i hi).2.1
  have ns : ∀ k, (k = 2 ∨ k = 54 ∨ k = 55 ∨ k = 57 ∨ k = 58 ∨ k = 61 ∨ k = 62 ∨ k = 63 ∨ k = 64 ∨ k = 65 ∨ k = 66 ∨ k = 67 ∨ k = 69 ∨ k = 70) → ¬ tkk L i = k := fun k hk z => h (by subst z; exact hk)
  unfold F_Body_readStatement F_MText_statement
  simp only [bT_u, bC_u]
  rw [ck_t (rS_9 hG), rf_t (rP_9_0 hG), ck_t (rS_1 hG), bnd_t, ha.1.2.2.2.2.1, ck_t (TS hb.1.1.1), rf_t (TP_3 hb.1.1.1), bnd_t, hb.1.2.2.1, ar_t (TA_3 hb.1.1.1), rdI (by omega) (by decide), (hb.1.2.1 i hi).1]
  simp only [(show (nI (tkk L i) = (2 : Int32)) = (tkk L i = 2) from kc_eq ha.1 (by decide)), (show (nI (tkk L i) = (54 : Int32)) = (tkk L i = 54) from kc_eq ha.1 (by decide)), (show (nI (tkk L i) = (55 : Int32)) = (tkk L i = 55) from kc_eq ha.1 (by decide)), (show (nI (tkk L i) = (57 : Int32)) = (tkk L i = 57) from kc_eq ha.1 (by decide)), (show (nI (tkk L i) = (58 : Int32)) = (tkk L i = 58) from kc_eq ha.1 (by decide)), (show (nI (tkk L i) = (61 : Int32)) = (tkk L i = 61) from kc_eq ha.1 (by decide)), (show (nI (tkk L i) = (62 : Int32)) = (tkk L i = 62) from kc_eq ha.1 (by decide)), (show (nI (tkk L i) = (63 : Int32)) = (tkk L i = 63) from kc_eq ha.1 (by decide)), (show (nI (tkk L i) = (64 : Int32)) = (tkk L i = 64) from kc_eq ha.1 (by decide)), (show (nI (tkk L i) = (65 : Int32)) = (tkk L i = 65) from kc_eq ha.1 (by decide)), (show (nI (tkk L i) = (66 : Int32)) = (tkk L i = 66) from kc_eq ha.1 (by decide)), (show (nI (tkk L i) = (67 : Int32)) = (tkk L i = 67) from kc_eq ha.1 (by decide)), (show (nI (tkk L i) = (69 : Int32)) = (tkk L i = 69) from kc_eq ha.1 (by decide)), (show (nI (tkk L i) = (70 : Int32)) = (tkk L i = 70) from kc_eq ha.1 (by decide)), (show (nI (tyK (tkk L i)) = (1 : Int32)) = (tkk L i = 2) from propext (LB.ty hb.1 (k := 2) (by decide))), (show (nI (tyK (tkk L i)) = (214 : Int32)) = (tkk L i = 54) from propext (LB.ty hb.1 (k := 54) (by decide))), (show (nI (tyK (tkk L i)) = (215 : Int32)) = (tkk L i = 55) from propext (LB.ty hb.1 (k := 55) (by decide))), (show (nI (tyK (tkk L i)) = (217 : Int32)) = (tkk L i = 57) from propext (LB.ty hb.1 (k := 57) (by decide))), (show (nI (tyK (tkk L i)) = (218 : Int32)) = (tkk L i = 58) from propext (LB.ty hb.1 (k := 58) (by decide))), (show (nI (tyK (tkk L i)) = (221 : Int32)) = (tkk L i = 61) from propext (LB.ty hb.1 (k := 61) (by decide))), (show (nI (tyK (tkk L i)) = (222 : Int32)) = (tkk L i = 62) from propext (LB.ty hb.1 (k := 62) (by decide))), (show (nI (tyK (tkk L i)) = (223 : Int32)) = (tkk L i = 63) from propext (LB.ty hb.1 (k := 63) (by decide))), (show (nI (tyK (tkk L i)) = (224 : Int32)) = (tkk L i = 64) from propext (LB.ty hb.1 (k := 64) (by decide))), (show (nI (tyK (tkk L i)) = (225 : Int32)) = (tkk L i = 65) from propext (LB.ty hb.1 (k := 65) (by decide))), (show (nI (tyK (tkk L i)) = (226 : Int32)) = (tkk L i = 66) from propext (LB.ty hb.1 (k := 66) (by decide))), (show (nI (tyK (tkk L i)) = (227 : Int32)) = (tkk L i = 67) from propext (LB.ty hb.1 (k := 67) (by decide))), (show (nI (tyK (tkk L i)) = (229 : Int32)) = (tkk L i = 69) from propext (LB.ty hb.1 (k := 69) (by decide))), (show (nI (tyK (tkk L i)) = (230 : Int32)) = (tkk L i = 70) from propext (LB.ty hb.1 (k := 70) (by decide)))]
  rw [if_neg (ns 2 (by omega)), if_neg (ns 54 (by omega)), if_neg (ns 55 (by omega)), if_neg (ns 57 (by omega)), if_neg (ns 58 (by omega)), if_neg (ns 61 (by omega)), if_neg (ns 62 (by omega)), if_neg (ns 63 (by omega)), if_neg (ns 64 (by omega)), if_neg (ns 65 (by omega)), if_neg (ns 66 (by omega)), if_neg (ns 67 (by omega)), if_neg (ns 69 (by omega)), if_neg (ns 70 (by omega)), if_neg (ns 2 (by omega)), bnd_t, bnd_t, nI_1, bnd_t, if_neg (ns 54 (by omega)), if_neg (ns 55 (by omega)), if_neg (ns 57 (by omega)), if_neg (ns 58 (by omega)), if_neg (ns 61 (by omega)), if_neg (ns 62 (by omega)), if_neg (ns 63 (by omega)), if_neg (ns 64 (by omega)), if_neg (ns 65 (by omega)), if_neg (ns 66 (by omega)), if_neg (ns 67 (by omega)), if_neg (ns 69 (by omega)), if_neg (ns 70 (by omega)), rf_t (rP_9_0 hG), rf_t (rP_9_0 hG), ck_t (rS_1 hG), bnd_t, ha.1.2.2.2.2.2.1, ck_t (rS_1 hG), ev_refuse hG]
  have e : (B.sD w 11 (nI (i + 1))).sD w 11 (nI i) = B := by
    rw [sD_sD, ← hb.1.2.2.1, sD_self]
  rw [e, bnd_t, bnd_t, hb.1.2.2.1, show F_MText_fails N w (1 : Int32) (nI i) B = _ from ev_fails (k := 1) hb.1 hi]
  exact Out.no (k := 1) hb.1 (by decide) (by decide) hi (hb.1.fail (by decide) (by decide)) SRo_fail
end Par
