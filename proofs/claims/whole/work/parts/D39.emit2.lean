/-! ===== emit, its values ===== -/
section Par
variable {N p w T : Nat} {L : List (Nat × Nat × Int32 × Bool × Nat)} {g : Nat → Nat} {E : Nat → Nat → Nat} {Nm : Nat → Nat → List Nat} {Pv : Nat → Nat → Int32} {nL lc dp : Nat} {ln : Nat → List Nat} {lk lf : Nat → Nat} {hd : Nat → Int32}
theorem jo_emEnd {A B A0 B0 : Hp} {i m cs0 cs e n : Nat} (ha : (JA p T L g E Nm Pv nL lc (dp + 1) ln lk lf hd m cs A)) (hb : (JB w T L g E Nm Pv nL lc (dp + 1) ln lk lf hd m B)) (hC : (CX p E Nm nL lc dp ln lk lf hd)) (h20 : dp < 20) (hN : 7000 ≤ N) (he : e < E 9 0) (hn : n < 100000) (q0 : tkk L i = 67) (q1 : tkk L (i + 1) = 2) (q2 : tkk L (i + 2) = 12) (him : i + 3 ≤ m) (hc0 : cs0 ≤ cs) (hcost : cs + 2 * tkp L i + 5 ≤ cs0 + 2 * tkp L m) (hcs0 : cs0 + 7 ≤ 2 * tkp L i) (hcf : cfr p cs0 A0 A) (hmf : mfr w i B0 B) (hme : B.D (w + 7) (i + 1) = nI e)
    (hacc : n = E 10 e → ∀ cd mn nu, Agr p w cs0 cs (i + 3) m A B cd mn nu → DS (tyF L) mn nu cd E 4 nL lc lk hd (dp + 1) (i + 3) m cs0 cs n (fun _ => e)) :
    (Out (SBo p (E 0 0)) (SRo w) w L m A B (B_Body_readEmit_148 N 9 (nI e) (nI (E 10 e)) (nI n) A) (B_MText_emits_90 N w (nI e) (nI n) B) (fun j _ A' _ B' => (PS p w T L g E Nm Pv nL lc dp ln lk lf hd i cs0 A0 B0) j A' B')) := by
  have hp := hC.2.1
  have hG := ha.1.1.1
  have hm := hb.1.2.2.2.2.1
  have h81 := (ha.1.2.2.2.2.2.2.2.2.2.2.2.1 m hm).2.1
  have h9 : E 9 0 ≤ 8 := hC.1.2.2.2.2.2.1
  have h10 : E 10 e ≤ 4 := (hC.1.2.2.2.2.2.2.2.1 e he).1
  have ez : B.D (w + 16) e = nI (E 10 e) := hb.2.1.2.2.1.2.1 e he
  have k13 : (nI (tkk L m) = (13 : Int32)) = (tkk L m = 13) := propext (nI_eq (b := 13) (by omega) (by decide))
  have go : ∀ (_ : tkk L m = 13 → n = E 10 e), (Out (SBo p (E 0 0)) (SRo w) w L m A B (B_Body_readEmit_180 N 9 (nI e) A) (B_MText_emits_118 N w B) (fun j _ A' _ B' => (PS p w T L g E Nm Pv nL lc dp ln lk lf hd i cs0 A0 B0) j A' B')) := by
    intro hne
    refine Out.wk (jo_e180 (e := e) ha hb hC h20 (by omega) hN) ?_
    intro j v A' y B' hij hxa hsb hQ
    obtain ⟨q, r, b2, b3, rfl, hA', hB', h1, h2, h3, h4, h5, h6, h7, s1, s2, s3, s4, s5, s6, s7, s8, c1, c2, hde⟩ := hQ
    refine ⟨b3 + 2, nL, ln, lk, lf, hA', hB', hC, Nat.le_refl _, fun x hx => ⟨rfl, rfl, rfl⟩, by omega, by omega, by omega, fun x hx => ?_, fun t ht => ?_, fun cd mn nu hag => ?_⟩
    · rw [h6 x (by omega), hcf x hx]
    · rw [(h7 t (by omega)).1, (h7 t (by omega)).2]; exact hmf t ht
    · obtain ⟨d1, d2⟩ := hde cd mn nu ⟨fun x a b => hag.1 x (by omega) (by omega), fun t a b => hag.2 t (by omega) b⟩
      have m1 := (hag.2 (i + 1) (by omega) (by omega)).1
      rw [(h7 (i + 1) (by omega)).1, hme] at m1
      have hne' := hne s1
      have d0 := hacc hne' cd mn nu ⟨fun x a b => by rw [hag.1 x a (by omega), h6 x b], fun t a b => by
        rw [(hag.2 t (by omega) (by omega)).1, (hag.2 t (by omega) (by omega)).2]; exact h7 t b⟩
      rw [hne'] at d0
      refine DS.emt (m := m) (q := q) (r := r) (b := cs) (b2 := b2) (b3 := b3) (tyF_k q0) (tyF_k q1) m1 he (tyF_k q2) h20 d0 (tyF_k s1) (tyF_k s2) (tyF_k s3) d1 (tyF_k s4) (tyF_k s5) (tyF_k s6) d2 (tyF_k s7) (tyF_k s8) ?_ ?_
      · rw [hag.1 b3 (by omega) (by omega), c1]
      · rw [hag.1 (b3 + 1) (by omega) (by omega), c2]
  unfold B_Body_readEmit_148 B_MText_emits_90
  rw [ck_t (rS_9 hG), rf_t (rP_9_0 hG), ck_t (rS_1 hG), bnd_t, ha.1.2.2.2.2.1, ck_t (TS hb.1.1.1), bC_t (show F_MText_is N w (41 : Int32) B = some (bI (decide (tkk L m = 13)), B) from ev_is (k := 13) hb.1 (by decide))]
  by_cases z : tkk L m = 13
  · rw [if_pos (show nI (tkk L m) = (13 : Int32) by rw [k13]; exact z), decide_eq_true z, if_neg bI_t0, rf_t (TP_23 hb.1.1.1), ar_t (TA_23 hb.1.1.1), rdI (show e < 8 by omega) (by decide), ez]
    by_cases y : n = E 10 e
    · rw [if_pos (show nI n = nI (E 10 e) by rw [y]), if_pos (show nI n = nI (E 10 e) by rw [y])]
      exact go (fun _ => y)
    · have ny : ¬ nI n = nI (E 10 e) := fun x => y ((nI_eq (by omega) (by omega)).mp x)
      have z5 : Zf (failB B w 5 (tkp L m)) w 5 (tkp L m) := hb.1.fail (by decide) (by decide)
      obtain ⟨B2, f1, f2, f3⟩ := fz_118 (N := N) (by omega) z5
      rw [if_neg ny, if_neg ny, rf_t (rP_9_0 hG), rf_t (rP_9_0 hG), ck_t (rS_1 hG), bnd_t, ha.1.2.2.2.2.2.1, ck_t (rS_1 hG), ev_refuse hG, bT_z, bnd_t, hb.1.2.2.1, bC_t (show F_MText_fails N w (5 : Int32) (nI m) B = _ from ev_fails (k := 5) hb.1 hm), f1]
      exact Out.no (k := 5) hb.1 (by decide) (by decide) hm f2 (SRo_fail.tr f3)
  · rw [if_neg (show ¬ nI (tkk L m) = (13 : Int32) by rw [k13]; exact z), decide_eq_false z, if_pos bI_f]
    exact go (fun x => absurd x z)
theorem fz_31 {B : Hp} {k p0 f : Nat} {a b c : Int32} (hN : 1 ≤ N) (h : Zf B w k p0) : ∃ B', B_MText_emits_31 N w (f + 1) a b c B = some ((), B') ∧ Zf B' w k p0 ∧ same (SRo w) B B' := by
  rw [B_MText_emits_31, ck_t (TS h.1), bnd_t, if_neg h.n0]
  unfold B_MText_emits_90
  rw [ck_t (TS h.1), bC_t (fz_is h), if_pos rfl]
  exact fz_118 hN h
end Par
