/-! ===== hear: the loop ===== -/
def hdE (hd : Nat → Int32) (e : Nat) : Nat → Int32 := fun x => if hd x = nI e then -1 else hd x
def upQ (Q : Nat → Nat → Nat) (l k : Nat) : Nat → Nat → Nat := fun x y => if x = 3 ∧ y = l then k else Q x y
theorem upQ_o {Q : Nat → Nat → Nat} {l k x : Nat} (h : x ≠ 3) : upQ Q l k x = Q x := by
  funext y
  exact if_neg (fun z => h z.1)
theorem upQ_s {Q : Nat → Nat → Nat} {l k : Nat} : upQ Q l k 3 l = k := if_pos ⟨rfl, rfl⟩
theorem upQ_n {Q : Nat → Nat → Nat} {l k y : Nat} (h : y ≠ l) : upQ Q l k 3 y = Q 3 y := if_neg (fun z => h z.2)
theorem same_r {E : Nat → Nat → Nat} {e : Nat} {v : Int32} {B B2 : Hp} (h : same (fun a f => FRB E a f ∨ (a = 615 ∧ f = e)) B B2) : same (FRB E) (B.sD 615 e v) (B2.sD 615 e v) := by
  refine ⟨fun a f y => ?_, h.2.1, h.2.2.1, h.2.2.2.1, h.2.2.2.2⟩
  by_cases q : a = 615
  · subst q
    by_cases q2 : f = e
    · subst q2
      rw [rds, rds]
    · rw [rdf q2, rdf q2, h.1 _ _ (fun z => z.elim y (fun z2 => q2 z2.2))]
  · rw [rdw q, rdw q, h.1 _ _ (fun z => z.elim y (fun z2 => q z2.1))]
section Par
variable {N p wo inp cs w u ir M K0 : Nat} {s pl : Int32} {ty mn nu cd : Nat → Int32} {E Q : Nat → Nat → Nat} {V : Nat → Nat → Int32} {nL lc : Nat} {lk : Nat → Nat} {hd : Nat → Int32}
theorem inn_e0 {e e2 l : Nat} (h1 : e < 100) (h2 : e2 < 100) (h : inn (hdE hd e) lc e2 l) : e2 ≠ e ∧ inn hd lc e2 l := by
  obtain ⟨k1, k2, k3⟩ := h
  have hx : ∀ x, hdE hd e x = if hd x = nI e then -1 else hd x := fun _ => rfl
  rw [hx] at k2
  by_cases q : hd l = nI e
  · rw [if_pos q] at k2
    exact absurd k2 (m1_n h2)
  · rw [if_neg q] at k2
    have ne : e2 ≠ e := fun z => q (by rw [k2, z])
    refine ⟨ne, k1, k2, fun l2 y1 y2 y3 => ?_⟩
    have := k3 l2 y1 y2
    rw [hx, if_neg (fun z => ne ((nI_eq (by omega) (by omega)).mp (y3.symm.trans z)))] at this
    exact this y3
theorem inn_e1 {e e2 l : Nat} (h1 : e < 100) (h2 : e2 < 100) (ne : e2 ≠ e) (h : inn hd lc e2 l) : inn (hdE hd e) lc e2 l := by
  obtain ⟨k1, k2, k3⟩ := h
  have hx : ∀ x, hdE hd e x = if hd x = nI e then -1 else hd x := fun _ => rfl
  refine ⟨k1, ?_, fun l2 y1 y2 y3 => ?_⟩
  · rw [hx, if_neg (fun z => ne ((nI_eq (by omega) (by omega)).mp (k2.symm.trans z)))]
    exact k2
  · rw [hx] at y3
    by_cases q : hd l2 = nI e
    · rw [if_pos q] at y3
      exact m1_n h2 y3
    · rw [if_neg q] at y3
      exact k3 l2 y1 y2 y3
theorem SIN.he {e i a h mk st la z : Nat} {dr : Int32} {A B : Hp} (hF : (FIX N p wo w u K0 M E)) (he : e < 8) (hI : (SIN p wo inp cs w u ir M ty mn nu cd E Q V nL lc hd K0 i a h A la z B mk st dr)) : (SIN p wo inp cs w u ir M ty mn nu cd E Q V nL lc (hdE hd e) K0 i a h A la z B mk st dr) := by
  obtain ⟨i1, i2, i3, i4, i5⟩ := hI
  have w6 := hF.1.2.2.2.2.2.1
  exact ⟨i1.hq (fun _ _ => rfl) (fun e2 l y1 y2 => i1.1.2.2.2.2.2.2.2.2.2.1 e2 l (inn_e0 (by omega) (by omega) y1).2 y2) (i1.2.2.2.hq (fun _ _ => rfl) (fun n y z => by
    rw [show hdE hd e (100 + n) = if hd (100 + n) = nI e then -1 else hd (100 + n) from rfl] at z
    split at z
    · exact absurd z (by decide)
    · exact z) (fun e2 l q y1 y2 y3 y4 => i1.2.2.2.2.2.2 e2 l q (inn_e0 (by omega) (by omega) y1).2 y2 y3 y4)), i2.hq (fun _ _ => rfl) (fun e2 l y1 y2 => i2.1.2.2.2.2.2.2.2.2 e2 l (inn_e0 (by omega) (by omega) y1).2 y2), i3, i4, i5⟩
theorem SIN.h15 {e i a h mk st la z : Nat} {dr x : Int32} {A B : Hp} (hF : (FIX N p wo w u K0 M E)) (he : e < 8) (hI : (SIN p wo inp cs w u ir M ty mn nu cd E Q V nL lc (hdE hd e) K0 i a h A la z B mk st dr)) : (SIN p wo inp cs w u ir M ty mn nu cd E Q V nL lc (hdE hd e) K0 i a h A la z (B.sD 615 e x) mk st dr) := by
  obtain ⟨i1, i2, i3, i4, i5⟩ := hI
  have w6 := hF.1.2.2.2.2.2.1
  have hu := lU_le hF.2.2.2.2.2.2.1
  have sB : same (fun a f => a = 615) B (B.sD 615 e x) := same.sD same.rf rfl
  refine ⟨i1, i2.fr4 hF.2.2.2.2.2.1 hF.2.2.2.2.2.2.1 sB (fun a f y => by omega) i2.1.2.2.1 (fun _ _ _ => rfl) (fun c m y1 y2 => by rw [rdw (by decide)]; exact i2.1.2.2.2.2.2.1 c m y1 y2) (fun n y => by rw [rdw (by decide)]; exact i2.1.2.2.2.2.2.2.2.1 n y) (fun e2 l y1 y2 => ?_), i3, ⟨by rw [rdw (by decide)]; exact i4.1, by rw [rdw (by decide)]; exact i4.2.1, by rw [rdw (by decide)]; exact i4.2.2.1, by rw [rdw (by decide)]; exact i4.2.2.2⟩, i5.fr (R := fun _ _ => False) same.rf sB (fun a f y => y.elim) (fun a f y => by omega)⟩
  obtain ⟨m1, m2, m3⟩ := i2.1.2.2.2.2.2.2.2.2 e2 l y1 y2
  exact ⟨by rw [rdf (inn_e0 (by omega) (by omega) y1).1]; exact m1, m2, fun q hq => by rw [rdw (by omega)]; exact m3 q hq⟩
theorem SIN.hin {e k i a h mk st la z : Nat} {dr : Int32} {A B : Hp} (hF : (FIX N p wo w u K0 M E)) (he : e < E 9 0) (hlc : lc < 21) (hI : (SIN p wo inp cs w u ir M ty mn nu cd E Q V nL lc (hdE hd e) K0 i a h A la z B mk st dr)) (hA : A.D 121 lc = nI k) (hB : B.D 615 e = nI k) (hk : k < Q 5 2) (hV : V 20 k = nI e) : (SIN p wo inp cs w u ir M ty mn nu cd E (upQ Q lc k) V nL (lc + 1) (uph hd lc (nI e)) K0 i a h A la z B mk st dr) := by
  obtain ⟨i1, i2, i3, i4, i5⟩ := hI
  have w6 := hF.1.2.2.2.2.2.1
  have h256 := i1.2.1.2.1.2
  have top : ∀ l, inn (uph hd lc (nI e)) (lc + 1) e l → l = lc := fun l y => by
    refine Decidable.byContradiction fun z => ?_
    have := y.2.2 lc (by have := y.1; omega) (by omega)
    rw [uph_e, if_pos rfl] at this
    exact this rfl
  have low : ∀ e2 l, e2 ≠ e → e2 < E 9 0 → inn (uph hd lc (nI e)) (lc + 1) e2 l → inn (hdE hd e) lc e2 l := fun e2 l ne y2 y => inn_e1 (by omega) (by omega) ne (inn_i (fun z => ne ((nI_eq (by omega) (by omega)).mp z.symm)) y)
  have e14 : (1004 : Int32) ≠ nI e := fun z => by
    have := (nI_eq (a := 1004) (b := e) (by omega) (by omega)).mp z
    omega
  refine ⟨i1.hq (fun x y => upQ_o y) (fun e2 l y1 y2 => ?_) (i1.2.2.2.hq (fun x y => upQ_o y) (fun n y z => ?_) (fun e2 l x y1 y2 y3 y4 => ?_)), i2.hq (fun x y => upQ_o y) (fun e2 l y1 y2 => ?_), i3, i4, i5⟩
  · by_cases q : e2 = e
    · subst q
      have hl := top l y1
      subst hl
      rw [upQ_s]
      exact ⟨hlc, hA, by omega, fun q hq => (i1.2.1.2.2.2 k hk).2.2.2 e2 q hV he hq⟩
    · have y3 := low e2 l q y2 y1
      rw [upQ_n (by have := y3.1; omega)]
      exact i1.1.2.2.2.2.2.2.2.2.2.1 e2 l y3 y2
  · rw [uph_e] at z
    split at z
    · exact absurd z.symm e14
    · rw [show hdE hd e (100 + n) = if hd (100 + n) = nI e then -1 else hd (100 + n) from rfl, z, if_neg e14]
  · by_cases q : e2 = e
    · subst q
      have hl := top l y1
      subst hl
      rw [upQ_s]
      exact i1.2.2.2.1.2.2.2.2 k hk e2 x hV he y3 y4
    · have y5 := low e2 l q y2 y1
      rw [upQ_n (by have := y5.1; omega)]
      exact i1.2.2.2.2.2.2 e2 l x y5 y2 y3 y4
  · by_cases q : e2 = e
    · subst q
      have hl := top l y1
      subst hl
      rw [upQ_s]
      exact ⟨hB, by omega, fun q hq => (i2.2.1.2 k hk).2.2.2 e2 q hV he hq⟩
    · have y3 := low e2 l q y2 y1
      rw [upQ_n (by have := y3.1; omega)]
      exact i2.1.2.2.2.2.2.2.2.2 e2 l y3 y2
theorem SIN.hout {e k i a h mk st la z : Nat} {dr : Int32} {A B : Hp} (hF : (FIX N p wo w u K0 M E)) (hlc : lc < 100) (he : e < E 9 0) (hI : (SIN p wo inp cs w u ir M ty mn nu cd E (upQ Q lc k) V nL (lc + 1) (uph hd lc (nI e)) K0 i a h A la z B mk st dr)) : (SIN p wo inp cs w u ir M ty mn nu cd E Q V nL lc (hdE hd e) K0 i a h A la z B mk st dr) := by
  obtain ⟨i1, i2, i3, i4, i5⟩ := hI
  have w6 := hF.1.2.2.2.2.2.1
  refine ⟨i1.hq (fun x y => (upQ_o y).symm) (fun e2 l y1 y2 => ?_) (i1.2.2.2.hq (fun x y => (upQ_o y).symm) (fun n y z => ?_) (fun e2 l x y1 y2 y3 y4 => ?_)), i2.hq (fun x y => (upQ_o y).symm) (fun e2 l y1 y2 => ?_), i3, i4, i5⟩
  · obtain ⟨ne, y3⟩ := inn_e0 (by omega) (by omega) y1
    have := i1.1.2.2.2.2.2.2.2.2.2.1 e2 l (inn_o (fun z => ne ((nI_eq (by omega) (by omega)).mp z.symm)) y3) y2
    rw [upQ_n (by have := y3.1; omega)] at this
    exact this
  · rw [show hdE hd e (100 + n) = if hd (100 + n) = nI e then -1 else hd (100 + n) from rfl] at z
    rw [uph_e, if_neg (by omega)]
    split at z
    · exact absurd z (by decide)
    · exact z
  · obtain ⟨ne, y5⟩ := inn_e0 (by omega) (by omega) y1
    have := i1.2.2.2.2.2.2 e2 l x (inn_o (fun z => ne ((nI_eq (by omega) (by omega)).mp z.symm)) y5) y2 y3 y4
    rw [upQ_n (by have := y5.1; omega)] at this
    exact this
  · obtain ⟨ne, y3⟩ := inn_e0 (by omega) (by omega) y1
    have := i2.1.2.2.2.2.2.2.2.2 e2 l (inn_o (fun z => ne ((nI_eq (by omega) (by omega)).mp z.symm)) y3) y2
    rw [upQ_n (by have := y3.1; omega)] at this
    exact this
theorem SFL.thenb {base la z st a b b2 : Nat} {tk : Int32} {A B B' : Hp} {X Y : Option (Unit × Hp)} (k : SFL N s pl wo base E tk lc K0 X a b A la z B st) (hb : b ≤ b2) (hY : ∀ B2, X = some ((), B2) → 0 < B2.D 611 10 → same (FRB E) B B2 → ∃ B3, Y = some ((), B3) ∧ same (fun a f => a = 611 ∧ f = 11 ∨ a = 615) B2 B3 ∧ same (FRB E) B' B3) : SFL N s pl wo base E tk lc K0 Y a b2 A la z B' st := by
  obtain ⟨m, A2, la2, z2, B2, y, st2, mk2, k1, k2, k3, k4, k5, k6, k7, k8, k9, k10, k11, k12, k13, k14⟩ := k
  obtain ⟨B3, e1, e2, e3⟩ := hY B2 k11 (by rw [k13]; exact k7) k12
  exact ⟨m, A2, la2, z2, B3, y, st2, mk2, by omega, k2, k3, k4, k5, k6, k7, k8, k9, k10, e1, e3, by rw [e2.1 611 10 (by omega)]; exact k13, k14.cg (fun _ _ => rfl) (fun y _ => e2.1 612 y (by omega))⟩
/-- the reference's loop -/
theorem hr_end {B : Hp} {o : Orc_RunS} {e op j : Nat} {bf : Int32} (h : RB B w u ir M ty mn nu) (he : e < 8) (ho : op < M) (hm : mn op = nI j) : B_MRunner_hears_145 N o 611 (nI e) (nI op) bf B = some ((), atB (atB (B.sD 615 e bf) op) (j + 1)) := by
  have h2 : RB (atB (B.sD 615 e bf) op) w u ir M ty mn nu := (h.sm (R := fun a f => a = 615) (same.sD same.rf rfl) (fun i => by
    obtain ⟨t0, t1, t2, t3, t4, t5, t6⟩ := h.T
    refine ⟨fun y => ?_, fun y => ?_, fun y => ?_⟩
    · rw [y, rA_611_15 h.1] at t2; exact absurd (congrArg Prod.snd (Option.some.inj t2)) (by decide)
    · rw [y, rA_611_15 h.1] at t6; exact absurd (congrArg Prod.snd (Option.some.inj t6)) (by decide)
    · rw [y, rA_611_15 h.1] at t4; exact absurd (congrArg Prod.snd (Option.some.inj t4)) (by decide))).ex atB_s
  unfold B_MRunner_hears_145
  rw [ck_t (rS_611 h.1), rf_t (rP_611_15 h.1), ar_t (rA_611_15 h.1), wrI he (by decide), bnd_t, show (B.sD 615 e bf).sD 611 11 (nI op) = atB (B.sD 615 e bf) op from rfl, bC_t (ev_skp h2 ho rds hm)]
theorem hr_stop {B : Hp} {o : Orc_RunS} {e op k C g : Nat} {bf : Int32} (h : RB B w u ir M ty mn nu) (h8 : B.D u 8 = nI C) (hC : C ≤ 256) (hk : k ≤ 256) (hs : C ≤ k ∨ ¬ B.D 611 10 = 0) : B_MRunner_hears_38 N o 611 (g + 1) (nI e) (nI op) bf (nI k) B = B_MRunner_hears_145 N o 611 (nI e) (nI op) bf B := by
  rw [B_MRunner_hears_38, ck_t (rS_611 h.1), rf_t h.2.2.2.2.1, ck_t (US h.2.2.1), bnd_t, h8]
  by_cases q : C ≤ k
  · rw [if_pos (nI_le q (by omega))]
  · rw [if_neg (nI_ge (by omega) (by omega)), bnd_t, if_neg (hs.resolve_left q)]
theorem hr_skip {B : Hp} {o : Orc_RunS} {e op k C g : Nat} {bf : Int32} (h : RB B w u ir M ty mn nu) (h8 : B.D u 8 = nI C) (hC : C ≤ 256) (hk : k < C) (h10 : B.D 611 10 = 0) (hm : ¬ (B.D (u + 5) k = nI e ∧ B.D (u + 6) k = B.D u 0 ∧ B.D (u + 7) k = B.D 611 6)) : B_MRunner_hears_38 N o 611 (g + 1) (nI e) (nI op) bf (nI k) B = B_MRunner_hears_38 N o 611 g (nI e) (nI op) bf (nI (k + 1)) B := by
  have hU := h.2.2.1
  rw [B_MRunner_hears_38, ck_t (rS_611 h.1), rf_t h.2.2.2.2.1, ck_t (US hU), bnd_t, h8, if_neg (nI_ge (by omega) (by omega)), bnd_t, h10, if_pos rfl, rf_t h.2.2.2.2.1, ck_t (US hU), rf_t (UP_9 hU), ar_t (UA_9 hU), rdI (show k < 256 by omega) (by decide)]
  unfold B_MRunner_hears_139
  by_cases q1 : B.D (u + 5) k = nI e
  · rw [if_pos q1, rf_t h.2.2.2.2.1, ck_t (US hU), rf_t (UP_10 hU), ar_t (UA_10 hU), rdI (show k < 256 by omega) (by decide), rf_t h.2.2.2.2.1, ck_t (US hU), bnd_t]
    by_cases q2 : B.D (u + 6) k = B.D u 0
    · rw [if_pos q2, rf_t h.2.2.2.2.1, ck_t (US hU), rf_t (UP_11 hU), ar_t (UA_11 hU), rdI (show k < 256 by omega) (by decide), bnd_t, if_neg (fun z => hm ⟨q1, q2, z⟩), nI_1]
    · rw [if_neg q2, nI_1]
  · rw [if_neg q1, nI_1]
theorem hr_run {B : Hp} {o : Orc_RunS} {e op C : Nat} {bf : Int32} (h : RB B w u ir M ty mn nu) (h8 : B.D u 8 = nI C) (hC : C ≤ 256) (h10 : B.D 611 10 = 0) : ∀ r k g, k + r ≤ C → (∀ x, k ≤ x → x < k + r → ¬ (B.D (u + 5) x = nI e ∧ B.D (u + 6) x = B.D u 0 ∧ B.D (u + 7) x = B.D 611 6)) → B_MRunner_hears_38 N o 611 (g + r) (nI e) (nI op) bf (nI k) B = B_MRunner_hears_38 N o 611 g (nI e) (nI op) bf (nI (k + r)) B := by
  intro r
  induction r with
  | zero => intro k g _ _; rfl
  | succ r ih =>
    intro k g hk hx
    rw [show g + (r + 1) = g + r + 1 by omega, hr_skip h h8 hC (by omega) h10 (hx k (by omega) (by omega)), ih (k + 1) g (by omega) (fun x y1 y2 => hx x (by omega) (by omega)), show k + 1 + r = k + (r + 1) by omega]
theorem hr_hit {B B1 : Hp} {o : Orc_RunS} {e op k C g : Nat} {bf : Int32} (h : RB B w u ir M ty mn nu) (he : e < 8) (h8 : B.D u 8 = nI C) (hC : C ≤ 256) (hk : k < C) (h10 : B.D 611 10 = 0) (hm : B.D (u + 5) k = nI e ∧ B.D (u + 6) k = B.D u 0 ∧ B.D (u + 7) k = B.D 611 6) (hc : F_MRunner_counts N 611 B = some ((), B1)) (hG1 : Gr B1) : B_MRunner_hears_38 N o 611 (g + 1) (nI e) (nI op) bf (nI k) B = (if B1.D 611 10 = (0 : Int32) then bC (o 611 (atB (B1.sD 615 e (nI k)) op)) fun _ H => B_MRunner_hears_38 N o 611 g (nI e) (nI op) bf (nI (k + 1)) H else B_MRunner_hears_38 N o 611 g (nI e) (nI op) bf (nI (k + 1)) (atB (B1.sD 615 e (nI k)) op)) := by
  have hU := h.2.2.1
  have hG2 : Gr (B1.sD 615 e (nI k)) := hG1
  rw [B_MRunner_hears_38, ck_t (rS_611 h.1), rf_t h.2.2.2.2.1, ck_t (US hU), bnd_t, h8, if_neg (nI_ge (by omega) (by omega)), bnd_t, h10, if_pos rfl, rf_t h.2.2.2.2.1, ck_t (US hU), rf_t (UP_9 hU), ar_t (UA_9 hU), rdI (show k < 256 by omega) (by decide), if_pos hm.1, rf_t h.2.2.2.2.1, ck_t (US hU), rf_t (UP_10 hU), ar_t (UA_10 hU), rdI (show k < 256 by omega) (by decide), rf_t h.2.2.2.2.1, ck_t (US hU), bnd_t, if_pos hm.2.1, rf_t h.2.2.2.2.1, ck_t (US hU), rf_t (UP_11 hU), ar_t (UA_11 hU), rdI (show k < 256 by omega) (by decide), bnd_t, if_pos hm.2.2, bC_t hc, rf_t (rP_611_15 hG1), ar_t (rA_611_15 hG1), wrI he (by decide), bnd_t, bnd_t, show (B1.sD 615 e (nI k)).sD 611 11 (nI op) = atB (B1.sD 615 e (nI k)) op from rfl, show (atB (B1.sD 615 e (nI k)) op).D 611 10 = B1.D 611 10 from by show ((B1.sD 615 e (nI k)).sD 611 11 (nI op)).D 611 10 = _; rw [rdf (by decide), rdw (by decide)]]
  unfold B_MRunner_hears_139
  rw [nI_1]
end Par
