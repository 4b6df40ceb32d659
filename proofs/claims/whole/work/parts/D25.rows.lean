/-! ===== rows of statements ===== -/
section Par
variable {N p w T : Nat} {L : List (Nat × Nat × Int32 × Bool × Nat)} {g : Nat → Nat} {E : Nat → Nat → Nat} {Nm : Nat → Nat → List Nat} {Pv : Nat → Nat → Int32} {nL lc dp : Nat} {ln : Nat → List Nat} {lk lf : Nat → Nat} {hd : Nat → Int32}
/-- what is known of statements at depth dp -/
def IHS (N : Nat) (o : Orc_BodyS) (o' : Orc_TextS) (p w T : Nat) (L : List (Nat × Nat × Int32 × Bool × Nat)) (g : Nat → Nat) (E : Nat → Nat → Nat) (Nm : Nat → Nat → List Nat) (Pv : Nat → Nat → Int32) (dp : Nat) : Prop := ∀ (nL lc : Nat) (ln : Nat → List Nat) (lk lf : Nat → Nat) (hd : Nat → Int32), (CX p E Nm nL lc dp ln lk lf hd) → ∀ i cs A B, (JA p T L g E Nm Pv nL lc dp ln lk lf hd i cs A) → (JB w T L g E Nm Pv nL lc dp ln lk lf hd i B) → cs + 7 ≤ 2 * tkp L i → (Out (SBo p (E 0 0)) (SRo w) w L i A B (F_Body_readStatement N o 9 A) (F_MText_statement N o' w B) (fun j _ A' _ B' => (PS p w T L g E Nm Pv nL lc dp ln lk lf hd i cs A B) j A' B'))
theorem fz_39 {B : Hp} {i0 k p0 : Nat} {v : Int32} {o' : Orc_TextS} (h : Zf B w k p0) (hi : i0 < 6002) : ∃ B', B_MText_statements_39 N o' w (nI i0) v B = some ((), B') ∧ Zf B' w k p0 ∧ same (SRo w) B B' := by
  have z2 : Zf (B.sD (w + 7) i0 (B.D w 11)) w k p0 := h.sD (by omega)
  refine ⟨(B.sD (w + 7) i0 (B.D w 11)).sD w 37 v, ?_, z2.sD (by omega), (same.rf.sD (by unfold SRo; omega)).sD (by unfold SRo; omega)⟩
  unfold B_MText_statements_39
  rw [ck_t (TS h.1), rf_t (TP_8 h.1), bnd_t, ar_t (TA_8 h.1), wrI hi (by decide), bC_t (fz_takes z2), bnd_t]
theorem fz_16 {B : Hp} {i0 k p0 n : Nat} {v : Int32} {o' : Orc_TextS} (h : Zf B w k p0) (hi : i0 < 6002) : ∃ B', B_MText_statements_16 N o' w (n + 1) (nI i0) v B = some ((), B') ∧ Zf B' w k p0 ∧ same (SRo w) B B' := by
  rw [B_MText_statements_16, ck_t (TS h.1), bnd_t, if_neg h.n0]
  exact fz_39 h hi
theorem ZS_st {o' : Orc_TextS} (hN : 1 ≤ N) : ZS w (fun a H => F_MText_statements N o' a H) := by
  intro B k p0 h
  obtain ⟨i, h1, h2⟩ := h.2.2.2.2.2
  obtain ⟨n, rfl⟩ : ∃ n, N = n + 1 := ⟨N - 1, by omega⟩
  obtain ⟨B', e1, e2, e3⟩ := fz_16 (N := n + 1) (n := n) (v := B.D w 37) (o' := o') h h2
  refine ⟨B', ?_, e2, e3⟩
  show F_MText_statements (n + 1) o' w B = _
  unfold F_MText_statements
  rw [ck_t (TS h.1), bnd_t, h1, bnd_t, bC_t (fz_takes h), e1]
theorem ZN_st {o' : Orc_TextS} (hN : 1 ≤ N) : ZN w T L g (fun a H => F_MText_statements N o' a H) := by
  intro i B hb hk
  have hi := hb.2.2.2.2.1
  have h61 : L.length ≤ 6001 := by have := hb.2.2.2.2.2.2.1; have := hb.2.2.2.2.2.2.2.1; omega
  have z := hb.fail (k := 1) (p := tkp L i) (by decide) (by decide)
  obtain ⟨n, rfl⟩ : ∃ n, N = n + 1 := ⟨N - 1, by omega⟩
  obtain ⟨B', e1, e2, e3⟩ := fz_16 (N := n + 1) (n := n) (v := B.D w 37) (o' := o') z (show i < 6002 by omega)
  refine ⟨B', ?_, e2, SRo_fail.tr e3⟩
  show F_MText_statements (n + 1) o' w B = _
  unfold F_MText_statements
  rw [ck_t (TS hb.1.1), bnd_t, hb.2.2.1, bnd_t, show (123 : Int32) = nI (tyK 10) from rfl, ev_takes hb (by decide), if_neg hk, bC_v, e1]
def PR (p w T : Nat) (L : List (Nat × Nat × Int32 × Bool × Nat)) (g : Nat → Nat) (E : Nat → Nat → Nat) (Nm : Nat → Nat → List Nat) (Pv : Nat → Nat → Int32) (nL lc dp : Nat) (ln : Nat → List Nat) (lk lf : Nat → Nat) (hd : Nat → Int32) (n0 : Nat) (m0 : Nat → List Nat) (k0 f0 : Nat → Nat) (i0 i cs : Nat) (A B : Hp) (j : Nat) (A' : Hp) (B' : Hp) : Prop :=
  ∃ (cs' m n1 : Nat) (k1 : Nat → Nat), j = m + 1 ∧ (JA p T L g E Nm Pv n0 lc dp m0 k0 f0 hd j cs' A') ∧ (JB w T L g E Nm Pv n0 lc dp m0 k0 f0 hd j B') ∧ i ≤ m ∧ tkk L m = 11 ∧ cs ≤ cs' ∧ cs' + 2 * tkp L i + 2 ≤ cs + 2 * tkp L j ∧ cfr p cs A A' ∧ (∀ t, t < i → t ≠ i0 → B'.D (w + 7) t = B.D (w + 7) t ∧ B'.D (w + 5) t = B.D (w + 5) t) ∧ B'.D (w + 7) i0 = nI m ∧ ∀ cd mn nu, Agr p w cs cs' i j A' B' cd mn nu → DS (tyF L) mn nu cd E 1 nL lc lk hd dp i m cs cs' n1 k1
theorem jo_rows {o : Orc_BodyS} {o' : Orc_TextS} {n0 i0 : Nat} {m0 : Nat → List Nat} {k0 f0 : Nat → Nat} (hS : IHS N o o' p w T L g E Nm Pv dp) :
    ∀ m (nL : Nat) (ln : Nat → List Nat) (lk lf : Nat → Nat), n0 ≤ nL → (∀ x, x < n0 → ln x = m0 x ∧ lk x = k0 x ∧ lf x = f0 x) → (CX p E Nm nL lc dp ln lk lf hd) → ∀ i cs A B n n' tn, L.length - i ≤ m → m < n → m + 1 < n' → tn ≤ i → (JA p T L g E Nm Pv nL lc dp ln lk lf hd i cs A) → (JB w T L g E Nm Pv nL lc dp ln lk lf hd i B) → cs + 8 ≤ 2 * tkp L i → i0 < i →
      (Out (SBo p (E 0 0)) (SRo w) w L i A B (B_Body_block_16 N o 9 n (nI n0) (nI tn) A) (B_MText_statements_16 N o' w n' (nI i0) (nI n0) B) (fun j _ A' _ B' => PR p w T L g E Nm Pv nL lc dp ln lk lf hd n0 m0 k0 f0 i0 i cs A B j A' B')) := by
  intro m
  induction m with
  | zero => intro nL ln lk lf _ _ _ i cs A B n n' tn hm _ _ _ ha; exact absurd ha.1.2.2.2.2.2.2.1 (by omega)
  | succ m ihm =>
    intro nL ln lk lf hn0 hag0 hC i cs A B n n' tn hm hn hn' htn ha hb hcs hi0
    have hG := ha.1.1.1
    have hi := ha.1.2.2.2.2.2.2.1
    have hp := hC.2.1
    have hP := ha.pP hC
    have h12 : nL ≤ 12 := hC.2.2.2.1
    have h56 : E 0 0 ≤ 56 := hC.1.2.2.2.2.2.2.2.2.2.2.2.2.2.1
    have h81 := (ha.1.2.2.2.2.2.2.2.2.2.2.2.1 i hi).2.1
    have h61 : L.length ≤ 6001 := by have := hb.1.2.2.2.2.2.2.1; have := hb.1.2.2.2.2.2.2.2.1; omega
    obtain ⟨n, rfl⟩ : ∃ z, n = z + 1 := ⟨n - 1, by omega⟩
    obtain ⟨n', rfl⟩ : ∃ z, n' = z + 1 := ⟨n' - 1, by omega⟩
    rw [B_Body_block_16, if_neg (show ¬ (6000 : Int32) < nI tn from nI_nlt (a := 6000) (by omega) (by decide)), ck_t (rS_9 hG), rf_t (rP_9_0 hG), ck_t (rS_1 hG), bnd_t, ha.1.2.2.2.2.1, B_MText_statements_16, ck_t (TS hb.1.1.1), bnd_t, hb.1.2.2.2.1, if_pos (show (0 : Int32) = 0 from rfl), bC_t (show F_MText_is N w (125 : Int32) B = some (bI (decide (tkk L i = 11)), B) from ev_is (k := 11) hb.1 (by decide))]
    by_cases q : tkk L i = 11
    · have hnx := hb.1.gt (show 2 ≤ tkk L i by omega)
      obtain ⟨q1, q2, q3⟩ := pos_lt hb.1 (show 2 ≤ tkk L i by omega)
      rw [if_pos (show nI (tkk L i) = (11 : Int32) by rw [q]; rfl), decide_eq_true q, if_neg bI_t0]
      unfold B_Body_block_54 B_MText_statements_39
      have hB1 : (JB w T L g E Nm Pv nL lc dp ln lk lf hd i (B.sD (w + 7) i0 (nI i))) := hb.sD rfl
      rw [ck_t (rS_9 hG), rf_t (rP_9_0 hG), ck_t (rS_1 hG), ck_t (TS hb.1.1.1), rf_t (TP_8 hb.1.1.1), bnd_t, hb.1.2.2.1, ar_t (TA_8 hb.1.1.1), wrI (show i0 < 6002 by omega) (by decide)]
      refine Out.pre (Out.bind (show _ from jo_take (k := 11) ha hB1 hC (by decide) (by decide)) ?_ ?_) (exA.rf.mono (fun _ _ h => h) (Nat.le_refl _)) (same.rf.sD (by unfold SRo; omega)) (Nat.le_refl _) hi (by omega)
      rotate_left
      · intro y B' kf p0 hz
        exact ⟨(), B'.sD w 37 (nI n0), by rw [bnd_t], hz.sD (by omega), same.rf.sD (by unfold SRo; omega)⟩
      intro j v A' y B' hij hxa hsb hQ
      obtain ⟨rfl, -, rfl, rfl, hA2, hB2⟩ := hQ
      have hP2 := hA2.pP hC
      rw [rf_t hA2.2.2.1, bnd_t, hA2.2.2.2.2.1, ck_t (PrS hP2), nI_dif hn0, bC_t (ev_forget hA2 hP2 hC.1 hn0 h12), bnd_t, bnd_t]
      refine Or.inr ⟨_, _, _, _, i + 1, rfl, rfl, Nat.le_refl _, hnx, ((exA.rf.sD (decide_eq_true (by omega))).sD (decide_eq_true (by omega))).mono (fun _ _ h => h) (by omega), same.rf.sD (by unfold SRo; omega), cs, i, nL, lk, rfl, hA2.fgt hC.1 hp hn0 h12 hag0, hB2.fgt hn0 hag0, Nat.le_refl _, q, Nat.le_refl _, by omega, fun x hx => ?_, fun t ht hne => ⟨?_, ?_⟩, ?_, fun cd mn nu hag => DS.nil ?_⟩
      · rw [rdw (by omega), rdw (by omega), code_adv hp]
      · rw [rdw (by omega), rdw (by omega), rdf (by omega)]
      · rw [rdw (by omega), rdw (by omega), rdw (by omega)]
      · rw [rdw (by omega), rdw (by omega), rds]
      · unfold tyF; rw [q]; rfl
    · rw [if_neg (show ¬ nI (tkk L i) = (11 : Int32) from fun z => q ((nI_eq (b := 11) (by omega) (by decide)).mp z)), decide_eq_false q, if_pos bI_f, rf_t ha.2.2.1, ck_t (PrS hP), bC_t (ev_add ha hP (by have := pos_j hb.1; omega))]
      have hA1 := ha.add (v := 1) hC
      refine Out.pre (Out.bind (hS nL lc ln lk lf hd hC i (cs + 1) _ B hA1 hb (by omega)) ?_ ?_) add_ex same.rf (Nat.le_refl _) hi (by omega)
      rotate_left
      · intro y B' kf p0 hz
        obtain ⟨n', rfl⟩ : ∃ z, n' = z + 1 := ⟨n' - 1, by omega⟩
        obtain ⟨B2, e1, e2, e3⟩ := fz_16 (N := N) (n := n') (v := nI n0) (o' := o') hz (show i0 < 6002 by omega)
        exact ⟨(), B2, e1, e2, e3⟩
      intro j v A' y B' hij hxa hsb hQ
      obtain ⟨c2, n2, m2, k2, f2, hA2, hB2, hC2, hn2, heq2, hlt, hd1, hd2, hcf2, hmf2, hds2⟩ := hQ
      have hi2 := hA2.1.2.2.2.2.2.2.1
      rw [nI_1]
      refine Out.wk (ihm n2 m2 k2 f2 (by omega) (fun x hx => ?_) hC2 j c2 A' B' n n' (tn + 1) (by omega) (by omega) (by omega) (by omega) hA2 hB2 (by omega) (by omega)) ?_
      · obtain ⟨a1, a2, a3⟩ := heq2 x (by omega)
        obtain ⟨b1, b2, b3⟩ := hag0 x hx
        exact ⟨a1.trans b1, a2.trans b2, a3.trans b3⟩
      · intro j2 v2 A3 y2 B3 hij2 hx2 hs2 hR
        obtain ⟨c3, mm, n1, k1, rfl, hA3, hB3, r1, r2, r3, r4, r5, r6, r7, r8⟩ := hR
        refine ⟨c3, mm, n1, k1, rfl, hA3, hB3, by omega, r2, by omega, by omega, ?_, fun t ht hne => ?_, r7, fun cd mn nu hag => ?_⟩
        · intro x hx
          rw [r5 x (by omega), hcf2 x (by omega), code_add, if_neg (by omega)]
        · obtain ⟨u1, u2⟩ := r6 t (by omega) hne
          obtain ⟨v1, v2⟩ := hmf2 t ht
          exact ⟨u1.trans v1, u2.trans v2⟩
        · have c0 : cd cs = 1 := by
            rw [hag.1 cs (by omega) (by omega), r5 cs (by omega), hcf2 cs (by omega), code_add, if_pos rfl]
          refine DS.cons ?_ c0 (hds2 cd mn nu ⟨fun x a b => ?_, fun t a b => ?_⟩) (r8 cd mn nu ⟨fun x a b => hag.1 x (by omega) b, fun t a b => hag.2 t (by omega) b⟩)
          · unfold tyF
            exact fun z => q ((hb.1.ty (k := 11) (by decide)).mp z)
          · rw [hag.1 x (by omega) (by omega), r5 x (by omega)]
          · obtain ⟨u1, u2⟩ := hag.2 t (by omega) (by omega)
            obtain ⟨v1, v2⟩ := r6 t (by omega) (by omega)
            exact ⟨u1.trans v1, u2.trans v2⟩
/-- a block -/
theorem jo_block {o : Orc_BodyS} {o' : Orc_TextS} (hN : 7000 ≤ N) (hS : IHS N o o' p w T L g E Nm Pv dp) : IHB (fun a H => F_Body_block N o a H) (fun a H => F_MText_statements N o' a H) p w T L g E Nm Pv dp := by
  intro nL lc ln lk lf hd hC i cs A B ha hb hcs
  have hG := ha.1.1.1
  have hi := ha.1.2.2.2.2.2.2.1
  have hp := hC.2.1
  have h61 : L.length ≤ 6001 := by have := hb.1.2.2.2.2.2.2.1; have := hb.1.2.2.2.2.2.2.2.1; omega
  show (Out (SBo p (E 0 0)) (SRo w) w L i A B (F_Body_block N o 9 A) (F_MText_statements N o' w B) _)
  unfold F_Body_block F_MText_statements
  rw [ck_t (rS_9 hG), bnd_t, ha.2.2.2.2.1, rf_t (rP_9_0 hG), ck_t (rS_1 hG), ck_t (TS hb.1.1.1), bnd_t, hb.1.2.2.1, bnd_t, hb.2.2.1]
  refine Out.bind (show _ from jo_take (k := 10) ha hb hC (by decide) (by decide)) ?_ ?_
  rotate_left
  · intro y B' kf p0 hz
    obtain ⟨n, rfl⟩ : ∃ n, N = n + 1 := ⟨N - 1, by omega⟩
    obtain ⟨B2, e1, e2, e3⟩ := fz_16 (N := n + 1) (n := n) (v := nI nL) (o' := o') hz (show i < 6002 by omega)
    exact ⟨(), B2, e1, e2, e3⟩
  intro j v A' y B' hij hxa hsb hQ
  obtain ⟨rfl, q, rfl, rfl, hA2, hB2⟩ := hQ
  obtain ⟨q1, q2, q3⟩ := pos_lt hb.1 (show 2 ≤ tkk L i by omega)
  refine Out.wk (jo_rows (n0 := nL) (i0 := i) (m0 := ln) (k0 := lk) (f0 := lf) hS (L.length - (i + 1)) nL ln lk lf (Nat.le_refl _) (fun x hx => ⟨rfl, rfl, rfl⟩) hC (i + 1) cs _ _ N N 0 (Nat.le_refl _) (by omega) (by omega) (by omega) hA2 hB2 (by omega) (by omega)) ?_
  intro j2 v2 A3 y2 B3 hij2 hx2 hs2 hR
  obtain ⟨c3, mm, n1, k1, rfl, hA3, hB3, r1, r2, r3, r4, r5, r6, r7, r8⟩ := hR
  refine ⟨c3, hA3, hB3, by omega, r3, by omega, fun x hx => ?_, fun t ht => ?_, fun cd mn nu hag => DS.blk ?_ (r8 cd mn nu ⟨hag.1, fun t a b => hag.2 t (by omega) b⟩) ?_ ?_⟩
  · rw [r5 x hx, code_adv hp]
  · obtain ⟨u1, u2⟩ := r6 t (by omega) (by omega)
    rw [rdw (by omega)] at u1 u2
    exact ⟨u1, u2⟩
  · unfold tyF; rw [q]; rfl
  · unfold tyF; rw [r2]; rfl
  · rw [(hag.2 i (by omega) (by omega)).1]; exact r7
end Par
