/-! ===== a member that is given a value ===== -/
section Par
variable {N p w T : Nat} {L : List (Nat × Nat × Int32 × Bool × Nat)} {g : Nat → Nat} {E : Nat → Nat → Nat} {Nm : Nat → Nat → List Nat} {Pv : Nat → Nat → Int32} {nL lc dp : Nat} {ln : Nat → List Nat} {lk lf : Nat → Nat} {hd : Nat → Int32}
theorem nx_pos {B : Hp} {i j : Nat} (h : LB B w L T g j) (hi : i + 1 < L.length) : tkp L i + 1 ≤ tkp L (i + 1) := by
  obtain ⟨a1, a2, a3, a4, a5⟩ := h.2.2.2.2.2.2.2.2.1 i hi
  omega
theorem nx_pos2 {B : Hp} {i j : Nat} (h : LB B w L T g j) (hi : i + 1 < L.length) (hk : 40 ≤ tkk L i) : tkp L i + 2 ≤ tkp L (i + 1) := by
  obtain ⟨a1, a2, a3, a4, a5⟩ := h.2.2.2.2.2.2.2.2.1 i hi
  have := a5 hk
  omega
def gvB (N w : Nat) (c : Int32) (B : Hp) : Option (Int32 × Hp) := bC (F_MText_takes N w (46 : Int32) B) fun _ H => bC (F_MText_memberName N w c H) fun m H2 => bC (F_MText_takes N w (61 : Int32) H2) fun _ H3 => some (m, H3)
theorem jo_gvm {A B : Hp} {i cs c : Nat} (ha : (JA p T L g E Nm Pv nL lc dp ln lk lf hd i cs A)) (hb : (JB w T L g E Nm Pv nL lc dp ln lk lf hd i B)) (hC : (CX p E Nm nL lc dp ln lk lf hd)) (hN : 7000 ≤ N) (hc : c < E 4 0) : (Out (SBo p (E 0 0)) (SRo w) w L i A B (F_Body_givenMember N 9 (nI c) A) (gvB N w (nI c) B) (fun j v A' y B' => j = i + 3 ∧ tkk L i = 16 ∧ tkk L (i + 1) = 2 ∧ tkk L (i + 2) = 17 ∧ (JA p T L g E Nm Pv nL lc dp ln lk lf hd (i + 3) cs A') ∧ (JB w T L g E Nm Pv nL lc dp ln lk lf hd (i + 3) B') ∧ (∀ x, A'.D (p + 191) x = A.D (p + 191) x) ∧ ∃ m, mOf E c m ∧ v = nI m ∧ y = nI m ∧ B'.D (w + 7) (i + 1) = nI m ∧ mfr w (i + 1) B B')) := by
  have hG := ha.1.1.1
  have hp := hC.2.1
  unfold F_Body_givenMember gvB
  rw [ck_t (rS_9 hG), rf_t (rP_9_0 hG), ck_t (rS_1 hG)]
  refine Out.bind (show _ from jo_take (k := 16) ha hb hC (by decide) (by decide)) ?_ ?_
  rotate_left
  · intro y B' k p0 hz
    obtain ⟨y2, B2, e1, e2, e3⟩ := fz_memberName (N := N) (c := nI c) hz
    exact ⟨y2, B2, by rw [bC_t e1, bC_t (fz_takes e2)], e2, e3⟩
  intro j v A1 y B1 hij hxa hsb hQ
  obtain ⟨rfl, q1, rfl, rfl, hA1, hB1⟩ := hQ
  have hG1 := hA1.1.1.1
  have hP1 := hA1.pP hC
  rw [rf_t hA1.2.2.1, ck_t (PrS hP1), rf_t (PrP_2 hP1)]
  refine Out.bind (jo_member hA1 hB1 hC hN hc) ?_ ?_
  rotate_left
  · intro y B' k p0 hz
    exact ⟨y, B', by rw [bC_t (fz_takes hz)], hz, same.rf⟩
  intro j v A2 y B2 hij hxa hsb hQ
  obtain ⟨rfl, q2, hA2, hB2, hco2, m, hm, rfl, rfl, rfl⟩ := hQ
  have hG2 := hA2.1.1.1
  rw [rf_t (rP_9_0 hG2), ck_t (rS_1 hG2)]
  refine Out.bind (show _ from jo_take (k := 17) hA2 hB2 hC (by decide) (by decide)) ?_ (fun y B' k p0 hz => ⟨nI m, B', rfl, hz, same.rf⟩)
  intro j v A3 y B3 hij hxa hsb hQ
  obtain ⟨rfl, q3, rfl, rfl, hA3, hB3⟩ := hQ
  refine Or.inr ⟨_, _, _, _, i + 3, rfl, rfl, Nat.le_refl _, hA3.1.2.2.2.2.2.2.1, exA.rf.mono (fun _ _ h => h) (by omega), same.rf, rfl, q1, q2, q3, hA3, hB3, fun x => ?_, m, hm, rfl, rfl, ?_, fun t ht => ⟨?_, ?_⟩⟩
  · rw [code_adv hp, hco2, code_adv hp]
  · rw [rdw (by omega), rds]
  · rw [rdw (by omega), rdf (by omega), rdw (by omega), rdw (by omega)]
  · rw [rdw (by omega), rdw (by omega), rdw (by omega), rdw (by omega)]
/-- member, sign and value, whatever comes then -/
theorem jo_gm {γ : Type} {A B : Hp} {i cs c : Nat} {K : Int32 → Hp → Option (Ot γ × Hp)} {K' : Hp → Option (Unit × Hp)} {Post : Nat → γ → Hp → Unit → Hp → Prop} (ha : (JA p T L g E Nm Pv nL lc dp ln lk lf hd i cs A)) (hb : (JB w T L g E Nm Pv nL lc dp ln lk lf hd i B)) (hC : (CX p E Nm nL lc dp ln lk lf hd)) (hN : 7000 ≤ N) (hc : c < E 4 0) (hcs : cs + 2 ≤ 2 * tkp L i)
    (hs : ∀ j m cs' A' B', mOf E c m → (JA p T L g E Nm Pv nL lc dp ln lk lf hd j (cs' + hld (E 6 m)) A') → (JB w T L g E Nm Pv nL lc dp ln lk lf hd j B') → i + 3 < j → tkk L i = 16 → tkk L (i + 1) = 2 → tkk L (i + 2) = 17 → cs ≤ cs' → cs' + 6 + 2 * tkp L i ≤ cs + 2 * tkp L j → cfr p cs A A' → mfr w (i + 1) B B' → (E 6 m = 1 → A'.D (p + 191) cs' = 43) → B'.D (w + 7) (i + 1) = nI m → (∀ cd mn nu, Agr p w cs cs' i j A' B' cd mn nu → DE (tyF L) mn nu cd E nL lc lk hd 0 dp (i + 3) j cs cs' (pl (E 6 m))) → (Out (SBo p (E 0 0)) (SRo w) w L j A' B' (K (nI m) A') (K' B') Post))
    (hz : ∀ B' k p0, Zf B' w k p0 → ∃ B2, K' B' = some ((), B2) ∧ Zf B2 w k p0 ∧ same (SRo w) B' B2) :
    (Out (SBo p (E 0 0)) (SRo w) w L i A B (bT (F_Body_givenMember N 9 (nI c) A) fun v110 H111 => bC (F_Body_kindAt N 9 v110 H111) fun v114 H115 => bT (F_Body_want N (X_BodyE N 140) 9 v114 H115) fun v117 H118 => K v110 H118) (bC (F_MText_takes N w (46 : Int32) B) fun v26 H27 => bC (F_MText_memberName N w (nI c) H27) fun v29 H30 => bC (F_MText_takes N w (61 : Int32) H30) fun v32 H33 => bnd ((H33.D w 9)) fun x34 => if x34 = (0 : Int32) then rf (H33.P w 19) fun a44 => ar H33 100 a44 fun n46 => ck (inb v29 n46) <| bnd ((H33.D a44 (v29).toNatClampNeg)) fun x49 => bC (F_MText_plain N x49 H33) fun v51 H52 => bC (F_MText_wants N (X_TextE N 50) w v51 H52) fun v54 H55 => K' H55 else K' H33) Post) := by
  have e : (bC (F_MText_takes N w (46 : Int32) B) fun v26 H27 => bC (F_MText_memberName N w (nI c) H27) fun v29 H30 => bC (F_MText_takes N w (61 : Int32) H30) fun v32 H33 => bnd ((H33.D w 9)) fun x34 => if x34 = (0 : Int32) then rf (H33.P w 19) fun a44 => ar H33 100 a44 fun n46 => ck (inb v29 n46) <| bnd ((H33.D a44 (v29).toNatClampNeg)) fun x49 => bC (F_MText_plain N x49 H33) fun v51 H52 => bC (F_MText_wants N (X_TextE N 50) w v51 H52) fun v54 H55 => K' H55 else K' H33) = bC (gvB N w (nI c) B) fun v29 H33 => bnd ((H33.D w 9)) fun x34 => if x34 = (0 : Int32) then rf (H33.P w 19) fun a44 => ar H33 100 a44 fun n46 => ck (inb v29 n46) <| bnd ((H33.D a44 (v29).toNatClampNeg)) fun x49 => bC (F_MText_plain N x49 H33) fun v51 H52 => bC (F_MText_wants N (X_TextE N 50) w v51 H52) fun v54 H55 => K' H55 else K' H33 := by
    unfold gvB
    simp only [bC_as, bC_v]
  rw [e]
  refine Out.bind (jo_gvm ha hb hC hN hc) ?_ ?_
  rotate_left
  · intro y B' k p0 hzf
    obtain ⟨B2, e1, e2, e3⟩ := hz B' k p0 hzf
    exact ⟨(), B2, by rw [bnd_t, if_neg hzf.n0, e1], e2, e3⟩
  intro j v A3 y B3 hij hxa hsb hQ
  obtain ⟨rfl, q1, q2, q3, hA3, hB3, hco3, m, hm, rfl, rfl, hmn, hmf3⟩ := hQ
  obtain ⟨p1, p2, p3⟩ := pos_lt hb.1 (show 2 ≤ tkk L i by omega)
  have hE := hC.1
  have h48 : E 5 (E 4 0) ≤ 48 := hE.2.2.2.1
  have hmE : m < E 5 (E 4 0) := by have := (hE.2.2.1 c hc).2.2; have := hm.2.2; omega
  have hk6 : E 6 m ≤ 4 := hE.2.2.2.2.1 m hmE
  have hl3 := hB3.1.2.2.2.2.1
  have u1 : tkp L (i + 1) + 1 ≤ tkp L (i + 2) := nx_pos hB3.1 (by omega)
  have u2 : tkp L (i + 2) + 1 ≤ tkp L (i + 3) := nx_pos hB3.1 (by omega)
  rw [bC_t (ev_kindAt hA3 hC hmE), bnd_t, hB3.1.2.2.2.1, if_pos (show (0 : Int32) = 0 from rfl), rf_t (TP_19 hB3.1.1.1), ar_t (TA_19 hB3.1.1.1), rdI (show m < 48 by omega) (by decide), (hB3.2.1.2.1.2.2.1 m hmE).2, bC_t (ev_plain hk6)]
  refine Out.bind (jo_want (kw := E 6 m) (jo_expr hN hC) hA3 hB3 hC (by omega) hk6) ?_ ?_
  rotate_left
  · intro y B' k p0 hzf
    obtain ⟨B2, e1, e2, e3⟩ := hz B' k p0 hzf
    exact ⟨(), B2, e1, e2, e3⟩
  intro j v A4 y B4 hij hxa hsb hQ
  obtain ⟨cs', rfl, hA4, hB4, h1, h2, h3, h4, h5, h6, h7⟩ := hQ
  refine hs j m cs' A4 B4 hm hA4 hB4 h1 q1 q2 q3 h2 (by omega) (fun x hx => ?_) (hmf3.tr h5 (by omega)) h6 ?_ (fun cd mn nu hag => h7 cd mn nu ⟨hag.1, fun t a b => hag.2 t (by omega) b⟩)
  · rw [h4 x hx, hco3]
  · rw [(h5 (i + 1) (by omega)).1, hmn]
end Par
