/-! ===== emit ===== -/
section Par
variable {N p w T : Nat} {L : List (Nat × Nat × Int32 × Bool × Nat)} {g : Nat → Nat} {E : Nat → Nat → Nat} {Nm : Nat → Nat → List Nat} {Pv : Nat → Nat → Int32} {nL lc dp : Nat} {ln : Nat → List Nat} {lk lf : Nat → Nat} {hd : Nat → Int32}
theorem jo_args {A0 B0 : Hp} {i cs0 e : Nat} (hC : (CX p E Nm nL lc dp ln lk lf hd)) (h20 : dp < 20) (hN : 7000 ≤ N) (he : e < E 9 0) (q0 : tkk L i = 67) (q1 : tkk L (i + 1) = 2) (q2 : tkk L (i + 2) = 12) (hcs0 : cs0 + 7 ≤ 2 * tkp L i) :
    ∀ M j cs n A B f f' tn, L.length - j ≤ M → M + 1 < f → M + 2 < f' → tn ≤ j → n ≤ j → (JA p T L g E Nm Pv nL lc (dp + 1) ln lk lf hd j cs A) → (JB w T L g E Nm Pv nL lc (dp + 1) ln lk lf hd j B) → i + 3 ≤ j → cs0 ≤ cs → cs + 2 * tkp L i + 6 ≤ cs0 + 2 * tkp L j → cfr p cs0 A0 A → mfr w i B0 B → B.D (w + 7) (i + 1) = nI e →
      ((n = 0 ∧ j = i + 3 ∧ cs = cs0) ∨ (1 ≤ n ∧ ∃ m0, j = m0 + 1 ∧ tkk L m0 = 14 ∧ i + 3 ≤ m0 ∧ (n ≤ E 10 e → ∀ cd mn nu, Agr p w cs0 cs (i + 3) m0 A B cd mn nu → DS (tyF L) mn nu cd E 4 nL lc lk hd (dp + 1) (i + 3) m0 cs0 cs n (fun _ => e)))) →
      (Out (SBo p (E 0 0)) (SRo w) w L j A B (B_Body_readEmit_53 N 9 f (nI e) (nI (E 10 e)) (nI n) 1 (nI tn) A) (B_MText_emits_31 N w f' (nI e) (nI n) 1 B) (fun j _ A' _ B' => (PS p w T L g E Nm Pv nL lc dp ln lk lf hd i cs0 A0 B0) j A' B')) := by
  have hp := hC.2.1
  have hC1 : (CX p E Nm nL lc (dp + 1) ln lk lf hd) := hC.dep (by have := hC.2.2.2.2.1; omega) (by omega)
  have h9 : E 9 0 ≤ 8 := hC.1.2.2.2.2.2.1
  obtain ⟨h10, h11, h4e⟩ := hC.1.2.2.2.2.2.2.2.1 e he
  intro M
  induction M with
  | zero => intro j cs n A B f f' tn hm _ _ _ _ ha; exact absurd ha.1.2.2.2.2.2.2.1 (by omega)
  | succ M ihm =>
    intro j cs n A B f f' tn hm hf hf' htn hnj ha hb hij hc0 hcost hcf hmf hme hacc
    have hG := ha.1.1.1
    have hj := hb.1.2.2.2.2.1
    have hP := ha.pP hC1
    have h61 : L.length ≤ 6001 := by have := hb.1.2.2.2.2.2.2.1; have := hb.1.2.2.2.2.2.2.2.1; omega
    obtain ⟨f, rfl⟩ : ∃ z, f = z + 1 := ⟨f - 1, by omega⟩
    obtain ⟨f', rfl⟩ : ∃ z, f' = z + 1 := ⟨f' - 1, by omega⟩
    have ez : B.D (w + 16) e = nI (E 10 e) := hb.2.1.2.2.1.2.1 e he
    -- behind one more value
    have after : ∀ j2 c2 A2 B2, (JA p T L g E Nm Pv nL lc (dp + 1) ln lk lf hd j2 c2 A2) → (JB w T L g E Nm Pv nL lc (dp + 1) ln lk lf hd j2 B2) → j < j2 → cs ≤ c2 → c2 + 2 * tkp L j ≤ cs + 2 * tkp L j2 + 1 → cfr p cs A A2 → mfr w j B B2 → (n + 1 ≤ E 10 e → ∀ cd mn nu, Agr p w cs0 c2 (i + 3) j2 A2 B2 cd mn nu → DS (tyF L) mn nu cd E 4 nL lc lk hd (dp + 1) (i + 3) j2 cs0 c2 (n + 1) (fun _ => e)) →
        (Out (SBo p (E 0 0)) (SRo w) w L j2 A2 B2 ((ck (A2.sh[9]? = some (6, 0)) <| rf (A2.P 9 0) fun a167 => ck (A2.sh[a167]? = some (1, 0)) <| bnd ((A2.D a167 2)) fun x170 => if x170 = (14 : Int32) then B_Body_readEmit_128 N 9 (fun l1 l2 l3 l4 l5 H => B_Body_readEmit_53 N 9 f l1 l2 l3 l4 l5 H) (nI e) (nI (E 10 e)) (nI n + 1) (nI tn) 1 A2 else B_Body_readEmit_128 N 9 (fun l1 l2 l3 l4 l5 H => B_Body_readEmit_53 N 9 f l1 l2 l3 l4 l5 H) (nI e) (nI (E 10 e)) (nI n + 1) (nI tn) 0 A2)) (B_MText_emits_77 N w (fun l1 l2 l3 H => B_MText_emits_31 N w f' l1 l2 l3 H) (nI e) (nI n) B2) (fun j _ A' _ B' => (PS p w T L g E Nm Pv nL lc dp ln lk lf hd i cs0 A0 B0) j A' B')) := by
      clear hacc
      intro j2 c2 A2 B2 hA2 hB2 hjj hcc hco hcf2 hmf2 hd2
      have hG2 := hA2.1.1.1
      have hj2 := hB2.1.2.2.2.2.1
      have h81 := (hA2.1.2.2.2.2.2.2.2.2.2.2.2.1 j2 hj2).2.1
      have k14 : (nI (tkk L j2) = (14 : Int32)) = (tkk L j2 = 14) := propext (nI_eq (b := 14) (by omega) (by decide))
      obtain ⟨f, rfl⟩ : ∃ z, f = z + 1 := ⟨f - 1, by omega⟩
      obtain ⟨f', rfl⟩ : ∃ z, f' = z + 1 := ⟨f' - 1, by omega⟩
      have cf2 : cfr p cs0 A0 A2 := hcf.tr hcf2 hc0
      have mf2 : mfr w i B0 B2 := hmf.tr hmf2 (by omega)
      have me2 : B2.D (w + 7) (i + 1) = nI e := by rw [(hmf2 (i + 1) (by omega)).1, hme]
      unfold B_MText_emits_77 B_Body_readEmit_128 B_Body_readEmit_142
      rw [ck_t (rS_9 hG2), rf_t (rP_9_0 hG2), ck_t (rS_1 hG2), bnd_t, hA2.1.2.2.2.2.1, ck_t (TS hB2.1.1.1), show (44 : Int32) = nI (tyK 14) from rfl, ev_accepts hB2.1 (by decide)]
      by_cases z : tkk L j2 = 14
      · have hn3 := hB2.1.gt (show 2 ≤ tkk L j2 by omega)
        have u1 := nx_pos hb.1 hn3
        have hA3 := hA2.adv hC1 hn3
        have hB3 := hB2.nx hn3
        rw [if_pos (show nI (tkk L j2) = (14 : Int32) by rw [k14]; exact z), if_pos z, if_neg (show ¬ (1 : Int32) = 0 by decide), ck_t (rS_9 hG2), rf_t (rP_9_0 hG2), ck_t (rS_1 hG2), bC_t (ev_advance hA2.1 hn3), bC_v, nI_1, nI_1]
        refine Out.pre (ihm (j2 + 1) c2 (n + 1) _ _ (f + 1) (f' + 1) (tn + 1) (by omega) (by omega) (by omega) (by omega) (by omega) hA3 hB3 (by omega) (by omega) (by omega) (fun x hx => ?_) (fun t ht => ?_) ?_ (Or.inr ⟨by omega, j2, rfl, z, by omega, fun y cd mn nu hag => hd2 y cd mn nu ⟨fun x a b => ?_, fun t a b => ?_⟩⟩)) (adv_ex.mono SL_SBo (Nat.le_refl _)) (same.rf.sD (by unfold SRo; omega)) (show j2 ≤ j2 + 1 by omega) hn3 (by omega)
        · rw [code_adv hp, cf2 x hx]
        · rw [rdw (by omega), rdw (by omega)]; exact mf2 t ht
        · rw [rdw (by omega), me2]
        · rw [hag.1 x a b, code_adv hp]
        · obtain ⟨v1, v2⟩ := hag.2 t a b
          rw [rdw (by omega)] at v1 v2
          exact ⟨v1, v2⟩
      · rw [if_neg (show ¬ nI (tkk L j2) = (14 : Int32) by rw [k14]; exact z), if_neg z, if_pos (show (0 : Int32) = 0 from rfl), bC_v, nI_1, nI_1]
        show (Out (SBo p (E 0 0)) (SRo w) w L j2 A2 B2 (B_Body_readEmit_53 N 9 (f + 1) (nI e) (nI (E 10 e)) (nI (n + 1)) 0 (nI (tn + 1)) A2) (B_MText_emits_31 N w (f' + 1) (nI e) (nI (n + 1)) 0 B2) _)
        rw [B_Body_readEmit_53, if_neg (show ¬ (6000 : Int32) < nI (tn + 1) from nI_nlt (a := 6000) (by omega) (by decide)), if_pos (show (0 : Int32) = 0 from rfl), B_MText_emits_31, ck_t (TS hB2.1.1.1), bnd_t, hB2.1.2.2.2.1, if_pos (show (0 : Int32) = 0 from rfl), if_pos (show (0 : Int32) = 0 from rfl)]
        exact jo_emEnd (n := n + 1) hA2 hB2 hC h20 hN he (by omega) q0 q1 q2 (by omega) (by omega) (by omega) (by omega) cf2 mf2 me2 (fun y => hd2 (by omega))
    have fzA : ∀ B' k p0, Zf B' w k p0 → ∃ B2, B_MText_emits_77 N w (fun l1 l2 l3 H => B_MText_emits_31 N w f' l1 l2 l3 H) (nI e) (nI n) B' = some ((), B2) ∧ Zf B2 w k p0 ∧ same (SRo w) B' B2 := by
      intro B' k p0 hz
      obtain ⟨f', rfl⟩ : ∃ z, f' = z + 1 := ⟨f' - 1, by omega⟩
      unfold B_MText_emits_77
      rw [ck_t (TS hz.1), bC_t (fz_accepts hz)]
      exact fz_31 (by omega) hz
    rw [B_Body_readEmit_53, if_neg (show ¬ (6000 : Int32) < nI tn from nI_nlt (a := 6000) (by omega) (by decide)), if_neg (show ¬ (1 : Int32) = 0 by decide), B_MText_emits_31, ck_t (TS hb.1.1.1), bnd_t, hb.1.2.2.2.1, if_pos (show (0 : Int32) = 0 from rfl), if_neg (show ¬ (1 : Int32) = 0 by decide), rf_t (TP_23 hb.1.1.1), ar_t (TA_23 hb.1.1.1), rdI (show e < 8 by omega) (by decide), ez]
    by_cases hsz : E 10 e ≤ n
    · rw [if_pos (show nI (E 10 e) ≤ nI n from nI_le hsz (by omega)), if_pos (show nI (E 10 e) ≤ nI n from nI_le hsz (by omega))]
      unfold B_Body_readEmit_104
      rw [ck_t (rS_9 hG)]
      refine Out.bind (jo_any (jo_expr hN hC1) ha hb (by omega)) ?_ ?_
      rotate_left
      · intro y B' k p0 hz
        obtain ⟨B2, e1, e2, e3⟩ := fzA B' k p0 hz
        exact ⟨(), B2, e1, e2, e3⟩
      intro j2 v A2 y B2 hij2 hxa2 hsb2 hQ
      obtain ⟨k, c2, rfl, rfl, hk, hA2, hB2, hlt, hd1, hd2, hcf2, hmf2, hde⟩ := hQ
      exact after j2 c2 A2 B2 hA2 hB2 hlt hd1 (by omega) hcf2 hmf2 (fun z => absurd z (by omega))
    · have hk12 : E 12 (4 * e + n) ≤ 4 := hC.1.2.2.2.2.2.2.2.2.1 e n he (by omega)
      have f1 : A.D (p + 181) e = nI (E 11 e) := ha.2.1.2.2.1.2.1 e (by omega)
      have km := (ha.2.1.2.2.1.2.2.1 e n he (by omega)).2
      have rm := PeM hP (E 11 e + n) (by omega)
      have kb := (hb.2.1.2.2.1.2.2.1 e n he (by omega)).2
      have e4 : (4 : Int32) * nI e + nI n = nI (4 * e + n) := by
        have h0 : ∀ x : Fin 8, (4 : Int32) * nI x.val = nI (4 * x.val) := by decide
        have := h0 ⟨e, by omega⟩
        simp only at this
        rw [this, nI_add]
      have e5 : nI (E 11 e) + nI n = nI (E 11 e + n) := nI_add _ _
      rw [if_neg (show ¬ nI (E 10 e) ≤ nI n from nI_ge (by omega) (by omega)), if_neg (show ¬ nI (E 10 e) ≤ nI n from nI_ge (by omega) (by omega)), ck_t (rS_9 hG), rf_t ha.2.2.1, ck_t (PrS hP), rf_t (PrP_3 hP), ck_t (PrA_3 hP), rf_t (PeP_1 hP), rf_t ha.2.2.1, ck_t (PrS hP), rf_t (PrP_3 hP), ck_t (PrA_3 hP), rf_t (PeP_2 hP), ar_t (PeA_2 hP), rdI (show e < 9 by omega) (by decide), f1, ar_t (PeA_1 hP), e5, rdP (show E 11 e + n < 32 by omega) (by decide), rf_t rm.1, ck_t rm.2, bnd_t, km, rf_t (TP_24 hb.1.1.1), ar_t (TA_24 hb.1.1.1), e4, rdI (show 4 * e + n < 32 by omega) (by decide), kb, bC_t (ev_plain hk12)]
      unfold B_Body_readEmit_104
      rw [ck_t (rS_9 hG)]
      refine Out.bind (jo_want (kw := E 12 (4 * e + n)) (jo_expr hN hC1) ha hb hC1 (by omega) hk12) ?_ ?_
      rotate_left
      · intro y B' k p0 hz
        obtain ⟨B2, e1, e2, e3⟩ := fzA B' k p0 hz
        exact ⟨(), B2, e1, e2, e3⟩
      intro j2 v A2 y B2 hij2 hxa2 hsb2 hQ
      obtain ⟨c2, rfl, hA2, hB2, hlt, hd1, hd2, hcf2, hmf2, h6, hde⟩ := hQ
      have hh : hld (E 12 (4 * e + n)) ≤ 1 := by unfold hld; split <;> omega
      refine after j2 (c2 + hld (E 12 (4 * e + n))) A2 B2 hA2 hB2 hlt (by omega) (by omega) hcf2 hmf2 (fun z cd mn nu hag => ?_)
      have hol : E 12 (4 * e + n) = 1 → cd c2 = 43 := fun y => by
        have hh1 : hld (E 12 (4 * e + n)) = 1 := if_pos y
        rw [hag.1 c2 (by omega) (by omega)]; exact h6 y
      have hde' := hde cd mn nu ⟨fun x a b => hag.1 x (by omega) (by omega), fun t a b => hag.2 t (by omega) b⟩
      rcases hacc with ⟨rfl, rfl, rfl⟩ | ⟨hn1, m0, rfl, q14, him0, hd0⟩
      · exact DS.ar1 hde' hol
      · refine DS.arn (m := m0) (b := cs) (hd0 (by omega) cd mn nu ⟨fun x a b => ?_, fun t a b => ?_⟩) hn1 (tyF_k q14) hde' hol
        · rw [hag.1 x a (by omega), hcf2 x b]
        · rw [(hag.2 t a (by omega)).1, (hag.2 t a (by omega)).2]; exact hmf2 t (by omega)
def emK (N : Nat) (p0 : Nat) (v6 : Int32) (H7 : Hp) : Option (Unit × Hp) :=
    bC (F_MText_opens N p0 H7) fun v9 H10 =>
    bC (F_MText_is N p0 (41 : Int32) H10) fun v12 H13 =>
    if v12 = (0 : Int32) then
    B_MText_emits_30 N p0 v6 0 1 H13
    else
    B_MText_emits_30 N p0 v6 0 0 H13
theorem jo_emit {A B : Hp} {i cs : Nat} {o : Orc_BodyS} {o' : Orc_TextS} (ha : (JA p T L g E Nm Pv nL lc dp ln lk lf hd i cs A)) (hb : (JB w T L g E Nm Pv nL lc dp ln lk lf hd i B)) (hC : (CX p E Nm nL lc dp ln lk lf hd)) (hcs : cs + 7 ≤ 2 * tkp L i) (hN : 7000 ≤ N) (q : tkk L i = 67) : (Out (SBo p (E 0 0)) (SRo w) w L i A B (F_Body_readStatement N o 9 A) (F_MText_statement N o' w B) (fun j _ A' _ B' => (PS p w T L g E Nm Pv nL lc dp ln lk lf hd i cs A B) j A' B')) := by
  have hp := hC.2.1
  have hG := ha.1.1.1
  have hnx := hb.1.gt (show 2 ≤ tkk L i by omega)
  have u0 := nx_pos2 hb.1 hnx (show 40 ≤ tkk L i by omega)
  have hA1 := ha.adv hC hnx
  have hB1 := hb.nx hnx
  have hW := hC.1.2.2.2.2.2.2.2.2.2.2.2.2.2.2
  have h9 : E 9 0 ≤ 8 := hC.1.2.2.2.2.2.1
  have e : F_MText_emits N w (B.sD w 11 (nI (i + 1))) = bC (bC (F_MText_name N w (B.sD w 11 (nI (i + 1)))) (fun y H => F_MText_numberOf N w y (nI (1 + 2)) H)) (emK N w) := by
    unfold F_MText_emits
    rw [ck_t (TS hB1.1.1.1), bC_as]
    rfl
  have fz30 : ∀ v B' k p0, Zf B' w k p0 → ∃ B2, (bC (F_MText_is N w (41 : Int32) B') fun v12 H13 => if v12 = (0 : Int32) then B_MText_emits_30 N w v 0 1 H13 else B_MText_emits_30 N w v 0 0 H13) = some ((), B2) ∧ Zf B2 w k p0 ∧ same (SRo w) B' B2 := by
    intro v B' k p0 hz
    obtain ⟨n, rfl⟩ : ∃ n, N = n + 1 := ⟨N - 1, by omega⟩
    rw [bC_t (fz_is hz), if_pos rfl]
    exact fz_31 (by omega) hz
  rw [sA_67 ha q, sB_67 hb q, e]
  unfold F_Body_readEmit
  rw [ck_t (rS_9 hG), rf_t (rP_9_0 hG), ck_t (rS_1 hG), bC_t (ev_advance ha.1 hnx)]
  refine Out.pre (Out.bind (show _ from jo_number (so := 1) hA1 hB1 hC hN (by decide)) ?_ ?_) (adv_ex.mono SL_SBo (Nat.le_refl _)) (same.rf.sD (by unfold SRo; omega)) (show i ≤ i + 1 by omega) hnx (by omega)
  rotate_left
  · intro y B' k p0 hz
    obtain ⟨B2, e1, e2, e3⟩ := fz30 y B' k p0 hz
    exact ⟨(), B2, by unfold emK; rw [bC_t (fz_opens hz), e1], e2, e3⟩
  intro j v A2 y B2 hij hxa hsb hQ
  obtain ⟨rfl, q2, hA2, hB2, hco2, k, hk1, hk2, rfl, rfl, hBe⟩ := hQ
  have he : E 3 k < E 9 0 := (hW k hk1).2.2.2.1 hk2
  obtain ⟨h10, h11, h4e⟩ := hC.1.2.2.2.2.2.2.2.1 (E 3 k) he
  unfold emK
  refine Out.bind (jo_opens hA2 hB2 hC) ?_ ?_
  rotate_left
  · intro y B' k2 p0 hz
    obtain ⟨B2, e1, e2, e3⟩ := fz30 (nI (E 3 k)) B' k2 p0 hz
    exact ⟨(), B2, e1, e2, e3⟩
  intro j v A3 y B3 hij hxa3 hsb3 hQ
  obtain ⟨rfl, q12, h20, hAe, hBe3, hA3', hB3'⟩ := hQ
  have hA3 : (JA p T L g E Nm Pv nL lc (dp + 1) ln lk lf hd (i + 3) cs A3) := hA3'
  have hB3 : (JB w T L g E Nm Pv nL lc (dp + 1) ln lk lf hd (i + 3) B3) := hB3'
  have hG3 := hA3.1.1.1
  have hl3 := hB3.1.2.2.2.2.1
  have hC1 : (CX p E Nm nL lc (dp + 1) ln lk lf hd) := hC.dep (by have := hC.2.2.2.2.1; omega) (by omega)
  have hP3 := hA3.pP hC1
  have h81 := (hA3.1.2.2.2.2.2.2.2.2.2.2.2.1 (i + 3) hl3).2.1
  have h61 : L.length ≤ 6001 := by have := hb.1.2.2.2.2.2.2.1; have := hb.1.2.2.2.2.2.2.2.1; omega
  have u1 : tkp L (i + 1) + 1 ≤ tkp L (i + 2) := nx_pos hb.1 (by omega)
  have u2 : tkp L (i + 2) + 1 ≤ tkp L (i + 3) := nx_pos hb.1 (by omega)
  have f1 : A3.D (p + 181) (E 3 k) = nI (E 11 (E 3 k)) := hA3.2.1.2.2.1.2.1 _ (by omega)
  have f2 : A3.D (p + 181) (E 3 k + 1) = nI (E 11 (E 3 k + 1)) := hA3.2.1.2.2.1.2.1 _ (by omega)
  have esz := ev_sizeOf (N := N) (PrA_3 hP3) (PeP_2 hP3) (PeA_2 hP3) (by decide) hA3.2.1.2.2.1.1 (by omega) he f1 f2 (by omega)
  rw [show E 11 (E 3 k + 1) - E 11 (E 3 k) = E 10 (E 3 k) by omega] at esz
  have k13 : (nI (tkk L (i + 3)) = (13 : Int32)) = (tkk L (i + 3) = 13) := propext (nI_eq (b := 13) (by omega) (by decide))
  have cc3 : cfr p cs A A3 := fun x hx => by rw [hAe, code_adv hp, rdw (by omega), hco2, code_adv hp]
  have mm3 : mfr w i B B3 := fun t ht => by
    rw [hBe3, hBe, rdw (by omega), rdw (by omega), rdf (by omega), rdw (by omega), rdw (by omega), rdw (by omega), rdw (by omega), rdw (by omega), rdw (by omega), rdw (by omega)]
    exact ⟨rfl, rfl⟩
  have me3 : B3.D (w + 7) (i + 1) = nI (E 3 k) := by rw [hBe3, hBe, rdw (by omega), rdw (by omega), rds]
  have q12' : tkk L (i + 2) = 12 := q12
  rw [rf_t hA3.2.2.1, ck_t (PrS hP3), rf_t (PrP_3 hP3), ck_t (PrA_3 hP3), bC_t esz, rf_t (rP_9_0 hG3), ck_t (rS_1 hG3), bnd_t, hA3.1.2.2.2.2.1, bC_t (show F_MText_is N w (41 : Int32) B3 = some (bI (decide (tkk L (i + 3) = 13)), B3) from ev_is (k := 13) hB3.1 (by decide))]
  unfold B_Body_readEmit_48 B_MText_emits_30
  show (Out (SBo p (E 0 0)) (SRo w) w L (i + 3) A3 B3 _ _ _)
  by_cases z : tkk L (i + 3) = 13
  · rw [if_pos (show nI (tkk L (i + 3)) = (13 : Int32) by rw [k13]; exact z), decide_eq_true z, if_neg bI_t0]
    have h2 : ∀ M, M = N → (Out (SBo p (E 0 0)) (SRo w) w L (i + 3) A3 B3 (B_Body_readEmit_53 N 9 M (nI (E 3 k)) (nI (E 10 (E 3 k))) 0 0 0 A3) (B_MText_emits_31 N w M (nI (E 3 k)) 0 0 B3) (fun j _ A' _ B' => (PS p w T L g E Nm Pv nL lc dp ln lk lf hd i cs A B) j A' B')) := by
      intro M hM
      obtain ⟨M, rfl⟩ : ∃ n, M = n + 1 := ⟨M - 1, by omega⟩
      rw [B_Body_readEmit_53, if_neg (show ¬ (6000 : Int32) < 0 by decide), if_pos (show (0 : Int32) = 0 from rfl), B_MText_emits_31, ck_t (TS hB3.1.1.1), bnd_t, hB3.1.2.2.2.1, if_pos (show (0 : Int32) = 0 from rfl), if_pos (show (0 : Int32) = 0 from rfl)]
      exact jo_emEnd (n := 0) hA3 hB3 hC h20 hN he (by omega) q q2 q12' (by omega) (by omega) (by omega) hcs cc3 mm3 me3 (fun y cd mn nu hag => DS.ar0)
    exact h2 N rfl
  · rw [if_neg (show ¬ nI (tkk L (i + 3)) = (13 : Int32) by rw [k13]; exact z), decide_eq_false z, if_pos bI_f]
    exact jo_args hC h20 hN he q q2 q12' hcs (L.length - (i + 3)) (i + 3) cs 0 A3 B3 N N 0 (Nat.le_refl _) (by omega) (by omega) (by omega) (by omega) hA3 hB3 (by omega) (Nat.le_refl _) (by omega) cc3 mm3 me3 (Or.inl ⟨rfl, rfl, rfl⟩)
end Par
