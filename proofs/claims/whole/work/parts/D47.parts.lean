/-! ===== spawn ===== -/
section Par
variable {N p w T : Nat} {L : List (Nat × Nat × Int32 × Bool × Nat)} {g : Nat → Nat} {E : Nat → Nat → Nat} {Nm : Nat → Nat → List Nat} {Pv : Nat → Nat → Int32} {nL lc dp : Nat} {ln : Nat → List Nat} {lk lf : Nat → Nat} {hd : Nat → Int32}
theorem fz_sp27 {B : Hp} {k p0 f : Nat} {a b c : Int32} (h : Zf B w k p0) : ∃ B', B_MText_spawns_27 N w (f + 1) a b c B = some ((), B') ∧ Zf B' w k p0 ∧ same (SRo w) B B' := by
  obtain ⟨B1, e1, e2, e3⟩ := fz_closes (N := N) h
  rw [B_MText_spawns_27, ck_t (TS h.1), bnd_t, if_neg h.n0]
  unfold B_MText_spawns_154 B_MText_spawns_158
  rw [ck_t (TS h.1), bC_t e1, ck_t (TS e2.1), bC_t (fz_takes e2)]
  exact ⟨B1, rfl, e2, e3⟩
theorem fz_sp141 {B : Hp} {k p0 f : Nat} {a b : Int32} (h : Zf B w k p0) : ∃ B', B_MText_spawns_141 N w (fun l1 l2 l3 H => B_MText_spawns_27 N w (f + 1) l1 l2 l3 H) a b B = some ((), B') ∧ Zf B' w k p0 ∧ same (SRo w) B B' := by
  unfold B_MText_spawns_141
  rw [ck_t (TS h.1), bC_t (fz_accepts h)]
  exact fz_sp27 h
theorem fz_sp100 {B : Hp} {k p0 f : Nat} {a b c : Int32} (h : Zf B w k p0) : ∃ B', B_MText_spawns_100 N w (fun l1 l2 l3 H => B_MText_spawns_27 N w (f + 1) l1 l2 l3 H) a b c B = some ((), B') ∧ Zf B' w k p0 ∧ same (SRo w) B B' := by
  unfold B_MText_spawns_100
  obtain ⟨y, B1, e1, e2, e3⟩ := fz_memberName (N := N) (c := c) h
  obtain ⟨B2, g1, g2, g3⟩ := fz_sp141 (N := N) (f := f) (a := a) (b := b) e2
  rw [ck_t (TS h.1), bC_t (fz_takes h), bC_t e1, bC_t (fz_takes e2), bnd_t, if_neg e2.n0, g1]
  exact ⟨B2, rfl, g2, e3.tr g3⟩
theorem jo_parts {S2 : Nat → Nat → Bool} {A0 B0 : Hp} {i cs0 f a : Nat} (hC : (CX p E Nm nL lc dp ln lk lf hd)) (h20 : dp < 20) (hN : 7000 ≤ N) (hS : ∀ a f, S2 a f = false → SBo p (E 0 0) a f = false) (hSa : ∀ y, S2 a y = true) (hf : f < E 15 0) (ha6 : 626 ≤ a) (q0 : tkk L i = 62) (q1 : tkk L (i + 1) = 2) (q2 : tkk L (i + 2) = 12) (hcs0 : cs0 + 7 ≤ 2 * tkp L i) :
    ∀ M j cs n A B fu fu' (of : Nat → Nat), n + M = 5 → n ≤ 4 → M + 1 < fu → M + 1 < fu' → (JA p T L g E Nm Pv nL lc (dp + 1) ln lk lf hd j cs A) → (JB w T L g E Nm Pv nL lc (dp + 1) ln lk lf hd j B) → i + 3 ≤ j → cs0 ≤ cs → cs + n + 2 + 2 * tkp L i ≤ cs0 + 2 * tkp L j → cfr p cs0 A0 A → mfr w i B0 B → B.D (w + 7) (i + 1) = nI f → A.sh[a]? = some (100, 4) → (∀ t, t < n → A.D a t = nI (of t)) →
      ((n = 0 ∧ j = i + 3 ∧ cs = cs0) ∨ (1 ≤ n ∧ ∃ m0, j = m0 + 1 ∧ tkk L m0 = 14 ∧ i + 3 ≤ m0 ∧ (∀ (of' : Nat → Nat) cd mn nu, (∀ t, t < n → of' t = of t) → of' 9 = f → Agr p w cs0 cs (i + 3) m0 A B cd mn nu → DS (tyF L) mn nu cd E 3 nL lc lk hd (dp + 1) (i + 3) m0 cs0 cs n of'))) →
      (Out S2 (SRo w) w L j A B (B_Body_readSpawn_41 N 9 fu (nI f) a (nI n) 1 (nI n) A) (B_MText_spawns_27 N w fu' (nI f) (nI n) 1 B) (fun j _ A' _ B' => (PS p w T L g E Nm Pv nL lc dp ln lk lf hd i cs0 A0 B0) j A' B')) := by
  have hp := hC.2.1
  have hC1 : (CX p E Nm nL lc (dp + 1) ln lk lf hd) := hC.dep (by have := hC.2.2.2.2.1; omega) (by omega)
  have h12 : nL ≤ 12 := hC.2.2.2.1
  have h56 : E 0 0 ≤ 56 := hC.1.2.2.2.2.2.2.2.2.2.2.2.2.2.1
  have naB : ∀ y, SBo p (E 0 0) a y = false := fun y => by unfold SBo; exact decide_eq_false (by omega)
  have naL : ∀ y, SL a y = false := fun y => by unfold SL; exact decide_eq_false (by omega)
  have npa : p + 191 ≠ a := by omega
  intro M
  induction M with
  | zero => intro j cs n A B fu fu' of h1 h2; exact absurd h1 (by omega)
  | succ M ihm =>
    intro j cs n A B fu fu' of hnM hn4 hfu hfu' ha hb hij hc0 hcost hcf hmf hme hsh hof hacc
    have hG := ha.1.1.1
    have hj := hb.1.2.2.2.2.1
    obtain ⟨fu, rfl⟩ : ∃ z, fu = z + 2 := ⟨fu - 2, by omega⟩
    obtain ⟨fu', rfl⟩ : ∃ z, fu' = z + 2 := ⟨fu' - 2, by omega⟩
    have hal : a < A.sh.length := by
      rcases Nat.lt_or_ge a A.sh.length with z | z
      · exact z
      · rw [List.getElem?_eq_none z] at hsh; exact absurd hsh (by simp)
    rw [B_Body_readSpawn_41, if_neg (show ¬ (4 : Int32) < nI n from nI_nlt (a := 4) (by omega) (by decide)), if_neg (show ¬ (1 : Int32) = 0 by decide), ck_t (rS_9 hG), B_MText_spawns_27, ck_t (TS hb.1.1.1), bnd_t, hb.1.2.2.2.1, if_pos (show (0 : Int32) = 0 from rfl), if_neg (show ¬ (1 : Int32) = 0 by decide)]
    refine jo_partS (K' := fun v H => B_MText_spawns_100 N w (fun l1 l2 l3 H => B_MText_spawns_27 N w (fu' + 1) l1 l2 l3 H) (nI f) (nI n) v H) ha hb hC1 hN hS hf hn4 ?_ (fun v B' k p0 hz => fz_sp100 hz)
    intro A1 c hn c4 cb t2 hA1 hB1 hco1 hx1
    have hj1 := hB1.1.2.2.2.2.1
    have u1 := nx_pos hb.1 hj1
    show (Out S2 (SRo w) w L (j + 1) A1 _ _ (B_MText_spawns_100 N w (fun l1 l2 l3 H => B_MText_spawns_27 N w (fu' + 1) l1 l2 l3 H) (nI f) (nI n) (nI c) _) _)
    unfold B_MText_spawns_100
    rw [ck_t (TS hB1.1.1.1)]
    refine jo_gmS (K := fun v H => if (4 : Int32) ≤ nI n then B_Body_readSpawn_88 N 9 (fun l1 l2 l3 l4 l5 H => B_Body_readSpawn_41 N 9 (fu + 1) l1 l2 l3 l4 l5 H) (nI f) a (nI n) (nI n) H else ar H 100 a fun n54 => ck (inb (nI n) n54) <| bnd (H.sD a (nI n).toNatClampNeg v) fun H57 => B_Body_readSpawn_88 N 9 (fun l1 l2 l3 l4 l5 H => B_Body_readSpawn_41 N 9 (fu + 1) l1 l2 l3 l4 l5 H) (nI f) a (nI n + 1) (nI n) H57) hA1 hB1 hC1 hN hS c4 (by omega) ?_ (fun B' k p0 hz => fz_sp141 hz)
    intro j2 m c2 A2 B2 hm hA2 hB2 hlt t16 t2' t17 hc1 hc2 hcf2 hmf2 hh hmn hde hx2
    obtain ⟨kk, hx2⟩ := hx2
    have hs2 : A2.sh[a]? = some (100, 4) := hx2.get (hx1.get hsh)
    have hd2 : ∀ t, A2.D a t = A.D a t := fun t => by
      rw [(hx2.2.2.2 a t (by have := hx1.len; omega) (naB t)).1, (hx1.2.2.2 a t hal (naL t)).1]
    have hld1 : hld (E 6 m) ≤ 1 := by unfold hld; split <;> omega
    have hA3 := hA2.arr (f := n) (v := nI m) hC.1 hp h12 hs2 ha6
    have hG2 := hA3.1.1.1
    have hj2 := hB2.1.2.2.2.2.1
    have h81 := (hA2.1.2.2.2.2.2.2.2.2.2.2.2.1 j2 hj2).2.1
    have k14 : (nI (tkk L j2) = (14 : Int32)) = (tkk L j2 = 14) := propext (nI_eq (b := 14) (by omega) (by decide))
    have hs3 : (A2.sD a n (nI m)).sh[a]? = some (100, 4) := hs2
    have hd3 : ∀ t, t < n + 1 → (A2.sD a n (nI m)).D a t = nI (up1 of n m t) := fun t ht => by
      unfold up1
      by_cases z : t = n
      · rw [z, rds, if_pos rfl]
      · rw [rdf z, hd2, if_neg z]; exact hof t (by omega)
    have cf3 : cfr p cs0 A0 (A2.sD a n (nI m)) := fun x hx => by
      rw [rdw npa, hcf2 x (show x < cs by omega), hco1, hcf x hx]
    have mf3 : mfr w i B0 B2 := fun t ht => by
      rw [(hmf2 t (by omega)).1, (hmf2 t (by omega)).2, rdf (by omega), rdw (by omega), rdw (by omega), rdw (by omega)]
      exact hmf t ht
    have me3 : B2.D (w + 7) (i + 1) = nI f := by
      rw [(hmf2 (i + 1) (by omega)).1, rdf (by omega), rdw (by omega), hme]
    have hds : ∀ (of' : Nat → Nat) cd mn nu, (∀ t, t < n + 1 → of' t = up1 of n m t) → of' 9 = f → Agr p w cs0 (c2 + hld (E 6 m)) (i + 3) j2 (A2.sD a n (nI m)) B2 cd mn nu → DS (tyF L) mn nu cd E 3 nL lc lk hd (dp + 1) (i + 3) j2 cs0 (c2 + hld (E 6 m)) (n + 1) of' := by
      intro of' cd mn nu ho h9 hag
      have om : of' n = m := by rw [ho n (by omega)]; unfold up1; rw [if_pos rfl]
      have cda : ∀ x, cs0 ≤ x → x < c2 + hld (E 6 m) → cd x = A2.D (p + 191) x := fun x h1 h2 => by rw [hag.1 x h1 h2, rdw npa]
      have hol : E 6 m = 1 → cd c2 = 43 := fun y => by
        have hh1 : hld (E 6 m) = 1 := if_pos y
        rw [cda c2 (by omega) (by omega)]; exact hh y
      have hde' := hde cd mn nu ⟨fun x a b => cda x (by omega) (by omega), fun t a b => hag.2 t (by omega) b⟩
      have hmm : mn (j + 2) = nI m := by rw [(hag.2 (j + 2) (by omega) (by omega)).1]; exact hmn
      rcases hacc with ⟨rfl, rfl, rfl⟩ | ⟨hn1, m0, rfl, q14, him0, hd0⟩
      · rw [← om] at hol hde' hmm hm ⊢
        exact DS.pa1 (tyF_k t16) hmm hm (tyF_k t17) hde' hol (by rw [h9]; exact cb)
      · rw [← om] at hol hde' hmm hm ⊢
        refine DS.pan (m := m0) (b := cs) (hd0 of' cd mn nu (fun t ht => ?_) h9 ⟨fun x a b => ?_, fun t a b => ?_⟩) hn (tyF_k q14) (tyF_k t16) hmm hm (tyF_k t17) hde' hol (by rw [h9]; exact cb)
        · rw [ho t (by omega)]; unfold up1; rw [if_neg (by omega)]
        · rw [cda x a (by omega), hcf2 x b, hco1]
        · rw [(hag.2 t a (by omega)).1, (hag.2 t a (by omega)).2, (hmf2 t (by omega)).1, (hmf2 t (by omega)).2, rdf (by omega), rdw (by omega), rdw (by omega), rdw (by omega)]
          exact ⟨rfl, rfl⟩
    clear hacc hde
    show (Out S2 (SRo w) w L j2 A2 B2 ((if (4 : Int32) ≤ nI n then B_Body_readSpawn_88 N 9 (fun l1 l2 l3 l4 l5 H => B_Body_readSpawn_41 N 9 (fu + 1) l1 l2 l3 l4 l5 H) (nI f) a (nI n) (nI n) A2 else ar A2 100 a fun n54 => ck (inb (nI n) n54) <| bnd (A2.sD a (nI n).toNatClampNeg (nI m)) fun H57 => B_Body_readSpawn_88 N 9 (fun l1 l2 l3 l4 l5 H => B_Body_readSpawn_41 N 9 (fu + 1) l1 l2 l3 l4 l5 H) (nI f) a (nI n + 1) (nI n) H57)) _ _)
    rw [if_neg (show ¬ (4 : Int32) ≤ nI n from nI_ge (b := 4) (by omega) (by decide)), ar_t hs2, wrI (show n < 4 by omega) (by decide)]
    unfold B_MText_spawns_141 B_Body_readSpawn_88 B_Body_readSpawn_105 B_Body_readSpawn_119
    refine Out.pre (i := j2) (k := 0) (A1 := A2.sD a n (nI m)) (B1 := B2) ?_ (exA.rf.sD (hSa n)) same.rf (Nat.le_refl _) hj2 (by omega)
    rw [ck_t (rS_9 hG2), rf_t (rP_9_0 hG2), ck_t (rS_1 hG2), bnd_t, hA3.1.2.2.2.2.1, ck_t (TS hB2.1.1.1), show (44 : Int32) = nI (tyK 14) from rfl, ev_accepts hB2.1 (by decide)]
    have w1 : tkp L (j + 1) + 1 ≤ tkp L (j + 2) := nx_pos hb.1 (by omega)
    by_cases z : tkk L j2 = 14
    · have hn3 := hB2.1.gt (show 2 ≤ tkk L j2 by omega)
      have u3 := nx_pos hb.1 hn3
      have hA4 := hA3.adv hC1 hn3
      have hB4 := hB2.nx hn3
      rw [if_pos (show nI (tkk L j2) = (14 : Int32) by rw [k14]; exact z), if_pos z, if_neg (show ¬ (1 : Int32) = 0 by decide), ck_t (rS_9 hG2), rf_t (rP_9_0 hG2), ck_t (rS_1 hG2), bC_t (ev_advance hA3.1 hn3), bC_v, nI_1]
      refine Out.pre (ihm (j2 + 1) (c2 + hld (E 6 m)) (n + 1) _ _ (fu + 1) (fu' + 1) (up1 of n m) (by omega) (by omega) (by omega) (by omega) hA4 hB4 (by omega) (by omega) (by omega) (fun x hx => ?_) (fun t ht => ?_) ?_ hs3 (fun t ht => ?_) (Or.inr ⟨by omega, j2, rfl, z, by omega, fun of' cd mn nu y1 y2 hag => hds of' cd mn nu y1 y2 ⟨fun x a b => ?_, fun t a b => ?_⟩⟩)) (adv_ex.mono (fun x y h => SL_SBo x y (hS x y h)) (Nat.le_refl _)) (same.rf.sD (by unfold SRo; omega)) (show j2 ≤ j2 + 1 by omega) hn3 (by omega)
      · rw [code_adv hp, cf3 x hx]
      · rw [rdw (by omega), rdw (by omega)]; exact mf3 t ht
      · rw [rdw (by omega), me3]
      · unfold advA; rw [rdw (by omega), rdw (by omega), rdw (by omega)]; exact hd3 t ht
      · rw [hag.1 x a b, code_adv hp]
      · obtain ⟨v1, v2⟩ := hag.2 t a b
        rw [rdw (by omega)] at v1 v2
        exact ⟨v1, v2⟩
    · rw [if_neg (show ¬ nI (tkk L j2) = (14 : Int32) by rw [k14]; exact z), if_neg z, if_pos (show (0 : Int32) = 0 from rfl), bC_v, nI_1]
      show (Out S2 (SRo w) w L j2 (A2.sD a n (nI m)) B2 (B_Body_readSpawn_41 N 9 (fu + 1) (nI f) a (nI (n + 1)) 0 (nI (n + 1)) (A2.sD a n (nI m))) (B_MText_spawns_27 N w (fu' + 1) (nI f) (nI (n + 1)) 0 B2) _)
      rw [B_Body_readSpawn_41, if_neg (show ¬ (4 : Int32) < nI (n + 1) from nI_nlt (a := 4) (by omega) (by decide)), if_pos (show (0 : Int32) = 0 from rfl), B_MText_spawns_27, ck_t (TS hB2.1.1.1), bnd_t, hB2.1.2.2.2.1, if_pos (show (0 : Int32) = 0 from rfl), if_pos (show (0 : Int32) = 0 from rfl)]
      have h60 : tkp L j2 ≤ 6000 := by have := (hb.1.2.2.2.2.2.2.2.2.2.1 j2 hj2).1; have := hb.1.2.2.2.2.2.2.2.1; omega
      refine Out.wk ((jo_spClose (f := f) (n := n + 1) (of := up1 of n m) hA3 hB2 hC h20 hN (by omega) (by omega) hs3 ha6 hd3).mono hS) ?_
      intro j3 v A4 y B4 hij3 hxa hsb hQ
      obtain ⟨rfl, q13, q15, hA4, hB4, hcf4, hmf4, d0, d1, d2, d3⟩ := hQ
      have hj4 := hB4.1.2.2.2.2.1
      have v1 : tkp L j2 + 1 ≤ tkp L (j2 + 1) := nx_pos hb.1 (by omega)
      have v2 : tkp L (j2 + 1) + 1 ≤ tkp L (j2 + 2) := nx_pos hb.1 (by omega)
      refine ⟨c2 + hld (E 6 m) + 3 + (n + 1), nL, ln, lk, lf, hA4, hB4, hC, Nat.le_refl _, fun x _ => ⟨rfl, rfl, rfl⟩, by omega, by omega, by omega, cf3.tr hcf4 (by omega), mf3.tr (hmf4 i) (Nat.le_refl _), fun cd mn nu hag => ?_⟩
      have of9 : up1 (up1 of n m) 9 f 9 = f := by unfold up1; rw [if_pos rfl]
      have oft : ∀ t, t < n + 1 → up1 (up1 of n m) 9 f t = up1 of n m t := fun t ht => by
        show (if t = 9 then f else up1 of n m t) = _
        rw [if_neg (by omega)]
      refine DS.spw (m := j2) (b := c2 + hld (E 6 m)) (f := f) (n := n + 1) (of := up1 (up1 of n m) 9 f) (tyF_k q0) (tyF_k q1) ?_ hf (tyF_k q2) h20 (hds _ cd mn nu oft of9 ⟨fun x a b => ?_, fun t a b => ?_⟩) (by omega) (tyF_k q13) (tyF_k q15) ?_ ?_ ?_ (fun t ht => ?_) of9
      · rw [(hag.2 (i + 1) (by omega) (by omega)).1, (hmf4 (i + 2) (i + 1) (by omega)).1, me3]
      · rw [hag.1 x (by omega) (by omega), hcf4 x (by omega)]
      · rw [(hag.2 t (by omega) (by omega)).1, (hag.2 t (by omega) (by omega)).2]; exact hmf4 (t + 1) t (by omega)
      · rw [hag.1 _ (by omega) (by omega), d0]
      · rw [hag.1 _ (by omega) (by omega), d1]
      · rw [hag.1 _ (by omega) (by omega), d2]
      · rw [hag.1 _ (by omega) (by omega), d3 t ht, oft t ht]
end Par
