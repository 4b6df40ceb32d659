/-! ===== names between declarations ===== -/
section Par
variable {N p w T : Nat} {L : List (Nat × Nat × Int32 × Bool × Nat)} {g : Nat → Nat} {E : Nat → Nat → Nat} {Nm : Nat → Nat → List Nat} {Pv : Nat → Nat → Int32} {nL lc dp : Nat} {ln : Nat → List Nat} {lk lf : Nat → Nat} {hd : Nat → Int32}
theorem ev_hsort {B : Hp} {i t : Nat} (hb1 : LB B w L T g i) (hq1 : EB1 B w E Nm) (h37 : B.D w 37 = 0) (hW1 : W1 E) (ht : t < L.length) (hN : 7000 ≤ N) : F_MText_sort N w (nI t) B = match fnm (Nm 1) (nmT g L t) (E 0 0) 0 with
    | some k => some (nI (E 2 k + 2), B)
    | none => some (0, failB B w 4 (tkp L t)) := by
  have hG := hb1.1.1
  have h56 : E 0 0 ≤ 56 := hW1.1
  unfold F_MText_sort
  rw [ck_t (TS hG), bnd_t, hb1.2.2.2.1, if_pos (by decide), bC_t (ev_local (K := 0) (f := fun _ => []) hG h37 (by decide) (hb1.tn ht) (fun k hk => absurd hk (by omega)) hN)]
  rw [show oNI (fnm (fun _ => []) (nmT g L t) 0 0) = -1 from rfl, if_pos (by decide), bC_t (ev_index (f := Nm 1) hG hq1.1 h56 (hb1.tn ht) (fun k hk => (hq1.2 k hk).1) hN)]
  cases hk : fnm (Nm 1) (nmT g L t) (E 0 0) 0 with
  | some k =>
    have hkb := fnm_bd _ _ _ hk
    unfold B_MText_sort_35
    rw [show oNI (some k) = nI k from rfl, if_pos (nI_pos' (by omega)), if_pos (nI_pos' (by omega)), ck_t (TS hG), rf_t (TP_14 hG), ar_t (TA_14 hG), rdI (by omega) (by decide), (hq1.2 k (by omega)).2.1]
  | none =>
    rw [show oNI none = -1 from rfl, if_neg (by decide), bC_t (show F_MText_fails N w (4 : Int32) (nI t) B = some ((), failB B w 4 (tkp L t)) from ev_fails (k := 4) hb1 ht)]
    unfold B_MText_sort_35
    rw [if_neg (by decide)]
theorem ev_hnum {B : Hp} {i t so : Nat} (hb1 : LB B w L T g i) (hq1 : EB1 B w E Nm) (h37 : B.D w 37 = 0) (hW1 : W1 E) (ht : t < L.length) (hN : 7000 ≤ N) (hso : so ≤ 3) : F_MText_numberOf N w (nI t) (nI (so + 2)) B = match fnm (Nm 1) (nmT g L t) (E 0 0) 0 with
      | some k => if E 2 k = so then some (nI (E 3 k), B.sD (w + 7) t (nI (E 3 k))) else some (0, failB B w 5 (tkp L t))
      | none => some (0, failB B w 4 (tkp L t)) := by
  have hG := hb1.1.1
  have h56 : E 0 0 ≤ 56 := hW1.1
  have hW := hW1.2
  have h61 : L.length ≤ 6001 := by have := hb1.2.2.2.2.2.2.1; have := hb1.2.2.2.2.2.2.2.1; omega
  unfold F_MText_numberOf
  rw [ck_t (TS hG), ev_hsort hb1 hq1 h37 hW1 ht hN]
  have f5 : F_MText_fails N w (5 : Int32) (nI t) B = some ((), failB B w 5 (tkp L t)) := ev_fails (k := 5) hb1 ht
  have z5 : Zf (failB B w 5 (tkp L t)) w 5 (tkp L t) := hb1.fail (by decide) (by decide)
  have z4 : Zf (failB B w 4 (tkp L t)) w 4 (tkp L t) := hb1.fail (by decide) (by decide)
  have t5 : B_MText_numberOf_24 N w (nI t) (nI (so + 2)) (failB B w 5 (tkp L t)) = some (0, failB B w 5 (tkp L t)) := by
    unfold B_MText_numberOf_24
    rw [ck_t (TS z5.1), bnd_t, if_neg z5.nle]
  have eix := ev_index (N := N) (f := Nm 1) hG hq1.1 h56 (hb1.tn ht) (fun k hk => (hq1.2 k hk).1) hN
  cases hk : fnm (Nm 1) (nmT g L t) (E 0 0) 0 with
  | some k =>
    simp only
    have hkb := fnm_bd _ _ _ hk
    have hw := hW k (by omega)
    rw [bC_v, bnd_t, hb1.2.2.2.1, if_pos rfl]
    by_cases q : E 2 k = so
    · rw [if_pos (by rw [q]), if_pos q]
      unfold B_MText_numberOf_24
      rw [ck_t (TS hG), bnd_t, hb1.2.2.2.1, if_pos (by decide), rf_t (TP_8 hG), rf_t (TP_15 hG), bC_t eix, hk, show oNI (some k) = nI k from rfl, ar_t (TA_15 hG), rdI (by omega) (by decide), (hq1.2 k (by omega)).2.2, ar_t (TA_8 hG), wrI (by omega) (by decide), rf_t (show (B.sD (w + 7) t (nI (E 3 k))).P w 8 = .ref (w + 7) from TP_8 hG), ar_sD, ar_t (TA_8 hG), rdI (by omega) (by decide), rds]
    · rw [if_neg (fun z => q (by have := (nI_eq (by omega) (by omega)).mp z; omega)), if_neg q, bC_t f5, t5]
  | none =>
    simp only
    rw [bC_v, bnd_t, if_neg z4.n0]
    unfold B_MText_numberOf_24
    rw [ck_t (TS z4.1), bnd_t, if_neg z4.nle]
theorem ev_hcompOf {B : Hp} {i t had oth may : Nat} (hb1 : LB B w L T g i) (hq1 : EB1 B w E Nm) (h37 : B.D w 37 = 0) (hW1 : W1 E) (ht : t < L.length) (hN : 7000 ≤ N) (h1 : had < 65536) (h2 : oth < 65536) (h3 : may < 65536) : F_MText_componentOf N w (nI t) (nI had) (nI oth) (nI may) B = match fnm (Nm 1) (nmT g L t) (E 0 0) 0 with
      | some k => if E 2 k = 0 then (if (had ||| oth) / 2 ^ E 3 k % 2 = 1 then some (0, failB B w 3 (tkp L t)) else if may / 2 ^ E 3 k % 2 = 1 then some (nI (E 3 k), B.sD (w + 7) t (nI (E 3 k))) else some (nI (E 3 k), failB (B.sD (w + 7) t (nI (E 3 k))) w 5 (tkp L t))) else some (0, failB B w 5 (tkp L t))
      | none => some (0, failB B w 4 (tkp L t)) := by
  have hG := hb1.1.1
  have h56 : E 0 0 ≤ 56 := hW1.1
  have hW := hW1.2
  have h61 : L.length ≤ 6001 := by have := hb1.2.2.2.2.2.2.1; have := hb1.2.2.2.2.2.2.2.1; omega
  have eix := ev_index (N := N) (f := Nm 1) hG hq1.1 h56 (hb1.tn ht) (fun k hk => (hq1.2 k hk).1) hN
  have en : F_MText_numberOf N w (nI t) (2 : Int32) B = _ := ev_hnum (so := 0) hb1 hq1 h37 hW1 ht hN (by decide)
  have z5 : Zf (failB B w 5 (tkp L t)) w 5 (tkp L t) := hb1.fail (by decide) (by decide)
  have z4 : Zf (failB B w 4 (tkp L t)) w 4 (tkp L t) := hb1.fail (by decide) (by decide)
  have z3 : Zf (failB B w 3 (tkp L t)) w 3 (tkp L t) := hb1.fail (by decide) (by decide)
  have hor : had ||| oth < 65536 := Nat.or_lt_two_pow (n := 16) h1 h2
  unfold F_MText_componentOf B_MText_componentOf_24 B_MText_componentOf_46
  rw [ck_t (TS hG), bnd_t, hb1.2.2.2.1, if_neg (by decide), bC_t (ev_local (K := 0) (f := fun _ => []) hG h37 (by decide) (hb1.tn ht) (fun k hk => absurd hk (by omega)) hN), show oNI (fnm (fun _ => []) (nmT g L t) 0 0) = -1 from rfl, if_pos (by decide), bC_t eix]
  cases hk : fnm (Nm 1) (nmT g L t) (E 0 0) 0 with
  | some k =>
    have hkb := fnm_bd _ _ _ hk
    have hw := hW k (by omega)
    rw [hk] at en
    simp only at en ⊢
    have e2 : (nI (E 2 k + 2) = (2 : Int32)) = (E 2 k = 0) := propext ⟨fun z => by have := (nI_eq (b := 2) (by omega) (by decide)).mp z; omega, fun z => by rw [z]; rfl⟩
    rw [show oNI (some k) = nI k from rfl, if_neg (nI_pos (by omega)), ck_t (TS hG), rf_t (TP_14 hG), ar_t (TA_14 hG), rdI (by omega) (by decide), (hq1.2 k (by omega)).2.1]
    simp only [e2]
    by_cases q : E 2 k = 0
    · rw [if_pos q, if_pos q]
      rw [if_pos q] at en
      unfold B_MText_componentOf_47
      have hB3 : LB (B.sD (w + 7) t (nI (E 3 k))) w L T g i := hb1.sD (by omega)
      have z7 : Zf (failB (B.sD (w + 7) t (nI (E 3 k))) w 5 (tkp L t)) w 5 (tkp L t) := hB3.fail (by decide) (by decide)
      rw [if_neg (show ¬ (1 : Int32) = 0 by decide), ck_t (TS hG), rf_t (TP_15 hG), ar_t (TA_15 hG), rdI (by omega) (by decide), (hq1.2 k (by omega)).2.2, nI_or]
      by_cases qb : (had ||| oth) / 2 ^ E 3 k % 2 = 1
      · rw [if_pos ((nI_bit1 (by omega) (by omega)).mpr qb), if_pos qb, bC_t (show F_MText_fails N w (3 : Int32) (nI t) B = _ from ev_fails (k := 3) hb1 ht)]
        unfold B_MText_componentOf_77
        rw [ck_t (TS z3.1), bC_t (fz_numberOf z3), bnd_t, if_neg z3.n0]
      · rw [if_neg (fun z => qb ((nI_bit1 (by omega) (by omega)).mp z)), if_neg qb]
        unfold B_MText_componentOf_77
        rw [ck_t (TS hG), bC_t en, bnd_t, hB3.2.2.2.1, if_pos rfl]
        by_cases qm : may / 2 ^ E 3 k % 2 = 1
        · rw [if_neg (fun z => (nI_bit0 (by omega) (by omega)).mp z qm), if_pos qm]
        · rw [if_pos ((nI_bit0 (by omega) (by omega)).mpr qm), if_neg qm, bC_t (show F_MText_fails N w (5 : Int32) (nI t) _ = _ from ev_fails (k := 5) hB3 ht)]
    · rw [if_neg q, if_neg q]
      rw [if_neg q] at en
      unfold B_MText_componentOf_47 B_MText_componentOf_77
      rw [if_pos rfl, ck_t (TS hG), bC_t en, bnd_t, if_neg z5.n0]
  | none =>
    rw [hk] at en
    simp only at en ⊢
    unfold B_MText_componentOf_47 B_MText_componentOf_77
    rw [show oNI none = -1 from rfl, if_pos (by decide), if_pos rfl, ck_t (TS hG), bC_t en, bnd_t, if_neg z4.n0]
theorem ev_hknown {A : Hp} {i s : Nat} {x : Int32} {n : List Nat} (ha1 : LA A L T g i) (hq1 : EA1 A p E Nm) (hK : A.D p 1 = nI (E 0 0)) (h82 : A.P 8 2 = .ref p) (hp : p = 133 ∨ p = 325) (hW1 : W1 E) (hs : strA A s n) (hN : 100 ≤ N) : F_Reader_known N 8 s x A = match fnm (Nm 1) n (E 0 0) 0 with
    | some k => some (.inl (some (p + 2 + k)), A)
    | none => some (.inr A.sh.length, refA A 4 x) := by
  have hG := ha1.1.1
  have hP := ha1.pP hp
  have h56 : E 0 0 ≤ 56 := hW1.1
  unfold F_Reader_known
  rw [ck_t (rS_8 hG), rf_t h82, ck_t (PrS hP), bC_t (ev_find (f := Nm 1) hP hK (by omega) hs (fun k hk => (hq1 k hk).1) hN)]
  cases fnm (Nm 1) n (E 0 0) 0 with
  | some k => rfl
  | none =>
    show nl none _ _ = _
    unfold nl
    simp only
    rw [rf_t (rP_8_0 hG), ck_t (rS_1 hG), ev_refuse hG]
    rfl
theorem ev_compOf {B : Hp} {i t had oth may : Nat} (hb : (UB w T L g E Nm Pv i B)) (hC : WU p E) (ht : t < L.length) (hN : 7000 ≤ N) (h1 : had < 65536) (h2 : oth < 65536) (h3 : may < 65536) : F_MText_componentOf N w (nI t) (nI had) (nI oth) (nI may) B = match fnm (Nm 1) (nmT g L t) (E 0 0) 0 with
      | some k => if E 2 k = 0 then (if (had ||| oth) / 2 ^ E 3 k % 2 = 1 then some (0, failB B w 3 (tkp L t)) else if may / 2 ^ E 3 k % 2 = 1 then some (nI (E 3 k), B.sD (w + 7) t (nI (E 3 k))) else some (nI (E 3 k), failB (B.sD (w + 7) t (nI (E 3 k))) w 5 (tkp L t))) else some (0, failB B w 5 (tkp L t))
      | none => some (0, failB B w 4 (tkp L t)) := ev_hcompOf hb.1 hb.2.1.1 hb.2.2.1 hC.1.w1 ht hN h1 h2 h3
theorem ev_known {A : Hp} {i cs s : Nat} {x : Int32} {n : List Nat} (ha : (UA p T L g E Nm Pv i cs A)) (hC : WU p E) (hs : strA A s n) (hN : 100 ≤ N) : F_Reader_known N 8 s x A = match fnm (Nm 1) n (E 0 0) 0 with
    | some k => some (.inl (some (p + 2 + k)), A)
    | none => some (.inr A.sh.length, refA A 4 x) := ev_hknown ha.1 ha.2.1.1 ha.2.2.1 ha.2.2.2.2 hC.2.1 hC.1.w1 hs hN
/-- a value of the reference's that no name stands for -/
theorem UB.mn {B : Hp} {i t : Nat} {v : Int32} (h : (UB w T L g E Nm Pv i B)) : (UB w T L g E Nm Pv i (B.sD (w + 7) t v)) := ⟨h.1.sD (by omega), h.2.1.ex (same.rf.sD (by unfold SRo; omega)), by rw [rdw (by omega)]; exact h.2.2.1, h.2.2.2⟩
end Par
