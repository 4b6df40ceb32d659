/-! ===== spawn, the statement ===== -/
theorem exA.nar {S S2 : Nat → Nat → Bool} {k j : Nat} {A A3 A4 : Hp} (h1 : exA S k A A3) (h2 : exA S2 j A3 A4) (hS : ∀ x f, x < A.sh.length → S x f = false → S2 x f = false) : exA S (k + j) A A4 := by
  have hl := h1.len
  obtain ⟨⟨l1, a1, a2⟩, a3, a4, a5⟩ := h1
  obtain ⟨⟨l2, b1, b2⟩, b3, b4, b5⟩ := h2
  refine ⟨⟨l1 ++ l2, by rw [b1, a1, List.append_assoc], by rw [List.length_append]; omega⟩, by omega, by omega, fun x f hx hs => ?_⟩
  obtain ⟨c1, c2⟩ := b5 x f (by omega) (hS x f hx hs)
  obtain ⟨d1, d2⟩ := a5 x f hx hs
  exact ⟨c1.trans d1, c2.trans d2⟩
theorem Out.bindP {α β γ δ : Type} {S : Nat → Nat → Bool} {R : Nat → Nat → Prop} {w : Nat} {L : List (Nat × Nat × Int32 × Bool × Nat)} {i : Nat} {A B A1 B1 : Hp} {fA : Option (Ot α × Hp)} {fB : Option (β × Hp)} {Post : Nat → α → Hp → β → Hp → Prop} {K : α → Hp → Option (Ot γ × Hp)} {K' : β → Hp → Option (δ × Hp)} {Post' : Nat → γ → Hp → δ → Hp → Prop}
    (h : Out S R w L (i + 1) A1 B1 fA fB Post) (ha : exA S 0 A A1) (hb : same R B B1) (hi : i + 1 < L.length) (hs : ∀ j v A' y B', i + 1 ≤ j → exA S (2 * (j - (i + 1))) A1 A' → same R B1 B' → Post j v A' y B' → ∃ A3 S2, exA S 1 A' A3 ∧ (∀ x f, x < A'.sh.length → S x f = false → S2 x f = false) ∧ Out S2 R w L j A3 B' (K v A') (K' y B') Post')
    (hz : ∀ y B' k p0, Zf B' w k p0 → ∃ y2 B2, K' y B' = some (y2, B2) ∧ Zf B2 w k p0 ∧ same R B' B2) : Out S R w L i A B (bT fA K) (bC fB K') Post' := by
  rcases h with ⟨x, A', y, B', k, p0, e1, e2, e3, e4, e5, e6, e7⟩ | ⟨v, A', y, B', j, e1, e2, e3, e4, e5, e6, e7⟩
  · obtain ⟨y2, B2, z1, z2, z3⟩ := hz y B' k p0 e5
    exact Or.inl ⟨x, A', y2, B2, k, p0, by rw [e1]; rfl, by rw [e2]; exact z1, e3, e4, z2, (ha.tr e6).mono (fun _ _ h => h) (by omega), hb.tr (e7.tr z3)⟩
  · rw [e1, e2]
    obtain ⟨A3, S2, g1, g2, g3⟩ := hs j v A' y B' e3 e5 e6 e7
    rcases g3 with ⟨x, A2, y2, B2, k, p0, f1, f2, f3, f4, f5, f6, f7⟩ | ⟨v2, A2, y2, B2, j2, f1, f2, f3, f4, f5, f6, f7⟩
    · exact Or.inl ⟨x, A2, y2, B2, k, p0, f1, f2, f3, f4, f5, ((ha.tr e5).tr (g1.nar f6 g2)).mono (fun _ _ h => h) (by omega), hb.tr (e6.tr f7)⟩
    · exact Or.inr ⟨v2, A2, y2, B2, j2, f1, f2, by omega, f4, ((ha.tr e5).tr (g1.nar f5 g2)).mono (fun _ _ h => h) (by omega), hb.tr (e6.tr f6), f7⟩
section Par
variable {N p w T : Nat} {L : List (Nat × Nat × Int32 × Bool × Nat)} {g : Nat → Nat} {E : Nat → Nat → Nat} {Nm : Nat → Nat → List Nat} {Pv : Nat → Nat → Int32} {nL lc dp : Nat} {ln : Nat → List Nat} {lk lf : Nat → Nat} {hd : Nat → Int32}
def spK (N w : Nat) (v6 : Int32) (H7 : Hp) : Option (Unit × Hp) :=
    bC (F_MText_is N w (40 : Int32) H7) fun v9 H10 =>
    if v9 = (0 : Int32) then
    B_MText_spawns_158 N w  H10
    else
    bC (F_MText_opens N w H10) fun v21 H22 =>
    B_MText_spawns_27 N w N v6 0 1 H22
theorem jo_spawn {A B : Hp} {i cs : Nat} {o : Orc_BodyS} {o' : Orc_TextS} (ha : (JA p T L g E Nm Pv nL lc dp ln lk lf hd i cs A)) (hb : (JB w T L g E Nm Pv nL lc dp ln lk lf hd i B)) (hC : (CX p E Nm nL lc dp ln lk lf hd)) (hcs : cs + 7 ≤ 2 * tkp L i) (hN : 7000 ≤ N) (q : tkk L i = 62) : (Out (SBo p (E 0 0)) (SRo w) w L i A B (F_Body_readStatement N o 9 A) (F_MText_statement N o' w B) (fun j _ A' _ B' => (PS p w T L g E Nm Pv nL lc dp ln lk lf hd i cs A B) j A' B')) := by
  have hp := hC.2.1
  have hG := ha.1.1.1
  have hnx := hb.1.gt (show 2 ≤ tkk L i by omega)
  have u0 := nx_pos2 hb.1 hnx (show 40 ≤ tkk L i by omega)
  have hA1 := ha.adv hC hnx
  have hB1 := hb.nx hnx
  have hW := hC.1.2.2.2.2.2.2.2.2.2.2.2.2.2.2
  have h56 : E 0 0 ≤ 56 := hC.1.2.2.2.2.2.2.2.2.2.2.2.2.2.1
  have h12 : nL ≤ 12 := hC.2.2.2.1
  have h60 : ∀ t, t < L.length → tkp L t ≤ 6000 := fun t ht => by have := (hb.1.2.2.2.2.2.2.2.2.2.1 t ht).1; have := hb.1.2.2.2.2.2.2.2.1; omega
  have e : F_MText_spawns N w (B.sD w 11 (nI (i + 1))) = bC (bC (F_MText_name N w (B.sD w 11 (nI (i + 1)))) (fun y H => F_MText_numberOf N w y (nI (2 + 2)) H)) (spK N w) := by
    unfold F_MText_spawns
    rw [ck_t (TS hB1.1.1.1), bC_as]
    rfl
  rw [sA_62 ha q, sB_62 hb q, e]
  unfold F_Body_readSpawn
  rw [ck_t (rS_9 hG), rf_t (rP_9_0 hG), ck_t (rS_1 hG), bC_t (ev_advance ha.1 hnx)]
  refine Out.bindP (show _ from jo_number (so := 2) hA1 hB1 hC hN (by decide)) (adv_ex.mono SL_SBo (Nat.le_refl _)) (same.rf.sD (by unfold SRo; omega)) hnx ?_ ?_
  rotate_left
  · intro y B' k p0 hz
    refine ⟨(), B', ?_, hz, same.rf⟩
    unfold spK
    rw [bC_t (fz_is hz), if_pos rfl]
    unfold B_MText_spawns_158
    rw [ck_t (TS hz.1), bC_t (fz_takes hz)]
  intro j v A2 y B2 hij hxa hsb hQ
  obtain ⟨rfl, q2, hA2, hB2, hco2, k, hk1, hk2, rfl, rfl, hBe⟩ := hQ
  have hf : E 3 k < E 15 0 := (hW k hk1).2.2.2.2.1 hk2
  have hle := hA2.1.1.1.len
  have hA3 := hA2.nw4 hC.1 hp h12
  have hi2 := hB2.1.2.2.2.2.1
  have hG3 := hA3.1.1.1
  have h81 := (hA2.1.2.2.2.2.2.2.2.2.2.2.2.1 (i + 1 + 1) hi2).2.1
  have k12 : (nI (tkk L (i + 1 + 1)) = (12 : Int32)) = (tkk L (i + 1 + 1) = 12) := propext (nI_eq (b := 12) (by omega) (by decide))
  have u1 : tkp L (i + 1) + 1 ≤ tkp L (i + 2) := nx_pos hb.1 hi2
  have hsh : (A2.nw (100, 4) 4).sh[A2.sh.length]? = some (100, 4) := by
    show (A2.sh ++ [(100, 4)])[A2.sh.length]? = _
    simp
  have xn : exA (fun _ _ => false) 1 A2 (A2.nw (100, 4) 4) := exA_nw
  have cc2 : cfr p cs A (A2.nw (100, 4) 4) := fun x hx => by
    rw [(xn.2.2.2 (p + 191) x (by omega) rfl).1, hco2, code_adv hp]
  have mm2 : mfr w i B B2 := fun t ht => by
    rw [hBe, rdf (by omega), rdw (by omega), rdw (by omega), rdw (by omega), rdw (by omega), rdw (by omega)]
    exact ⟨rfl, rfl⟩
  have me2 : B2.D (w + 7) (i + 1) = nI (E 3 k) := by rw [hBe, rds]
  refine ⟨A2.nw (100, 4) 4, fun x y => SBo p (E 0 0) x y || decide (x = A2.sh.length), exA_nw, fun x f hx hs => ?_, ?_⟩
  · show (SBo p (E 0 0) x f || decide (x = A2.sh.length)) = false
    rw [hs, decide_eq_false (by omega)]; rfl
  have hS : ∀ a f, (fun x y => SBo p (E 0 0) x y || decide (x = A2.sh.length)) a f = false → SBo p (E 0 0) a f = false := fun a f h => by
    have h' : (SBo p (E 0 0) a f || decide (a = A2.sh.length)) = false := h
    cases z : SBo p (E 0 0) a f with
    | false => rfl
    | true => rw [z] at h'; exact absurd h' (by simp)
  have hSa : ∀ y, (fun x y => SBo p (E 0 0) x y || decide (x = A2.sh.length)) A2.sh.length y = true := fun y => by
    show (SBo p (E 0 0) A2.sh.length y || decide (A2.sh.length = A2.sh.length)) = true
    rw [decide_eq_true rfl, Bool.or_true]
  generalize (fun x y => SBo p (E 0 0) x y || decide (x = A2.sh.length)) = S2 at hS hSa ⊢
  unfold spK
  show (Out S2 (SRo w) w L (i + 1 + 1) (A2.nw (100, 4) 4) B2 (ck (¬ (4 : Int32) < 0) _) _ _)
  rw [ck_t (show ¬ (4 : Int32) < 0 by decide), ck_t (show Int32.toNatClampNeg 4 * 4 ≤ 536870912 by decide), show Int32.toNatClampNeg 4 = 4 by decide, bnd_t (e := A2.nw (100, 4) 4), bnd_t (e := A2.sh.length), rf_t (rP_9_0 hG3), ck_t (rS_1 hG3), bnd_t, hA3.1.2.2.2.2.1, bC_t (show F_MText_is N w (40 : Int32) B2 = some (bI (decide (tkk L (i + 1 + 1) = 12)), B2) from ev_is (k := 12) hB2.1 (by decide))]
  by_cases z : tkk L (i + 1 + 1) = 12
  · rw [if_pos (show nI (tkk L (i + 1 + 1)) = (12 : Int32) by rw [k12]; exact z), decide_eq_true z, if_neg bI_t0]
    refine Out.bind ((jo_opens hA3 hB2 hC).mono hS) ?_ ?_
    rotate_left
    · intro y B' k2 p0 hz
      obtain ⟨n, rfl⟩ : ∃ n, N = n + 1 := ⟨N - 1, by omega⟩
      obtain ⟨B2, e1, e2, e3⟩ := fz_sp27 (N := n + 1) (f := n) (a := nI (E 3 k)) (b := 0) (c := 1) hz
      exact ⟨(), B2, e1, e2, e3⟩
    intro j v A4 y B4 hij hxa4 hsb4 hQ
    obtain ⟨rfl, q12, h20, hAe, hBe4, hA4', hB4'⟩ := hQ
    have hA4 : (JA p T L g E Nm Pv nL lc (dp + 1) ln lk lf hd (i + 3) cs A4) := hA4'
    have hB4 : (JB w T L g E Nm Pv nL lc (dp + 1) ln lk lf hd (i + 3) B4) := hB4'
    have hl4 := hB4.1.2.2.2.2.1
    have u2 : tkp L (i + 2) + 1 ≤ tkp L (i + 3) := nx_pos hb.1 (by omega)
    refine jo_parts (f := E 3 k) hC h20 hN hS hSa hf (by omega) q q2 q12 hcs 5 (i + 3) cs 0 A4 B4 N N (fun _ => 0) rfl (by omega) (by omega) (by omega) hA4 hB4 (by omega) (Nat.le_refl _) (by omega) ?_ ?_ ?_ ?_ (fun t ht => absurd ht (by omega)) (Or.inl ⟨rfl, rfl, rfl⟩)
    · intro x hx; rw [hAe, code_adv hp, rdw (by omega), cc2 x hx]
    · intro t ht
      rw [hBe4, rdw (by omega), rdw (by omega), rdw (by omega), rdw (by omega)]
      exact mm2 t ht
    · rw [hBe4, rdw (by omega), rdw (by omega), me2]
    · rw [hAe]; exact hsh
  · rw [if_neg (show ¬ nI (tkk L (i + 1 + 1)) = (12 : Int32) by rw [k12]; exact z), decide_eq_false z, if_pos bI_f]
    have v6 := h60 (i + 2) hi2
    refine Out.wk ((jo_spTail (f := E 3 k) (n := 0) (a := A2.sh.length) (of := fun _ => 0) hA3 hB2 hC hN (by omega) (by omega) hsh (by omega) (fun t ht => absurd ht (by omega))).mono hS) ?_
    intro j3 v A4 y B4 hij3 hxa hsb hQ
    obtain ⟨rfl, q15, hA4, hB4, hcf4, hmf4, d0, d1, d2, d3⟩ := hQ
    have hj4 : i + 3 < L.length := hB4.1.2.2.2.2.1
    have v1 : tkp L (i + 2) + 1 ≤ tkp L (i + 3) := nx_pos hb.1 hj4
    have v1' : tkp L (i + 1 + 1 + 1) = tkp L (i + 3) := rfl
    have v2' : tkp L (i + 1 + 1) = tkp L (i + 2) := rfl
    refine ⟨cs + 3 + 0, nL, ln, lk, lf, hA4, hB4, hC, Nat.le_refl _, fun x _ => ⟨rfl, rfl, rfl⟩, by omega, by omega, by omega, cc2.tr hcf4 (by omega), mm2.tr (hmf4 i) (Nat.le_refl _), fun cd mn nu hag => ?_⟩
    refine DS.sp0 (f := E 3 k) (tyF_k q) (tyF_k q2) ?_ hf (tyF_k q15) ?_ ?_ ?_
    · rw [(hag.2 (i + 1) (by omega) (by omega)).1, (hmf4 (i + 2) (i + 1) (by omega)).1, me2]
    · rw [hag.1 _ (by omega) (by omega), d0]
    · rw [hag.1 _ (by omega) (by omega), d1]
    · rw [hag.1 _ (by omega) (by omega), d2]; rfl
end Par
