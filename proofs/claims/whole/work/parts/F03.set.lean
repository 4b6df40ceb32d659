/-! ===== the call set ===== -/
theorem byt_hv (v : Int32) : byt v = hv 1 v := by
  have e1 : ((127 : Int32)).toInt = 127 := rfl
  have e2 : ((-128 : Int32)).toInt = -128 := rfl
  unfold byt hv
  rw [if_pos rfl]
  by_cases a : v < 127
  · rw [if_pos a]
    have a' := a
    rw [Int32.lt_iff_toInt_lt] at a'
    have n2 : ¬ (127 : Int32) < v := fun y => by rw [Int32.lt_iff_toInt_lt] at y; omega
    by_cases b : (-128 : Int32) < v
    · have n1 : ¬ v < (-128 : Int32) := fun y => by rw [Int32.lt_iff_toInt_lt] at y b; omega
      rw [if_pos b, if_neg n1, if_neg n2]
    · rw [if_neg b]
      by_cases c : v < (-128 : Int32)
      · rw [if_pos c]
      · rw [if_neg c, if_neg n2]
        apply Int32.toInt_inj.mp
        rw [Int32.lt_iff_toInt_lt] at b c
        omega
  · rw [if_neg a, if_pos (by decide)]
    have n1 : ¬ v < (-128 : Int32) := fun y => a (by rw [Int32.lt_iff_toInt_lt] at y ⊢; omega)
    rw [if_neg n1]
    by_cases c : (127 : Int32) < v
    · rw [if_pos c]
    · rw [if_neg c]
      apply Int32.toInt_inj.mp
      rw [Int32.lt_iff_toInt_lt] at a c
      omega
/-- what a member of kind k keeps of v -/
def vS (k : Nat) (v : Int32) : Int32 := if k = 3 then v &&& 1 else if k = 4 then (if (0 : Int32) ≤ v then v else -1) else hv k v
section Par
variable {N p wo inp cs w u ir M K0 : Nat} {s pl : Int32} {ty mn nu cd : Nat → Int32} {E Q : Nat → Nat → Nat} {V : Nat → Nat → Int32} {nL lc : Nat} {lk : Nat → Nat} {hd : Nat → Int32}
theorem set_jo {S : Nat → Nat} {b t0 la z us un c n : Nat} {e q i v : Int32} {Nm : Nat → Nat → List Nat} {Pv : Nat → Nat → Int32} {A B : Hp} (h : PLI N p cs w M ty mn nu cd E Nm Pv S b t0 A la z B us un c n) (hpr : A.P 0 4 = .ref p) (hE : WE E) (hN : 2000000 ≤ N) : ∃ r A2 B2 y, F_W_set N 0 e q i v A = some (r, A2) ∧ F_M_set N 517 e q i v B = some (r, B2) ∧ PLI N p cs w M ty mn nu cd E Nm Pv (addS S y) b t0 A2 la z B2 us un c n ∧ same (cW 12) A A2 ∧ same (EDB us un) B B2 := by
  have h0 := h.th (x := 0) hE
  have s0 : same (EDB us un) B (B.sD 517 0 0) := same.rf.sD (.inl ⟨rfl, rfl⟩)
  have eB : F_M_set N 517 e q i v B = bC (F_M_isQuiet N 517 (B.sD 517 0 0)) fun v4 H5 => if v4 = (0 : Int32) then some ((-10), H5) else bC (F_M_isMember N 517 e q i H5) fun v8 H9 => if v8 = (0 : Int32) then some ((-1), H9) else rf (H9.P 517 3) fun a11 => ck (H9.sh[a11]? = some (14, 0)) <| rf (H9.P a11 18) fun a14 => ar H9 100 a14 fun n16 => ck (inb q n16) <| bnd ((H9.D a14 (q).toNatClampNeg)) fun x19 => rf (H9.P 517 3) fun a20 => ck (H9.sh[a20]? = some (14, 0)) <| rf (H9.P a20 19) fun a23 => ar H9 100 a23 fun n25 => ck (inb (x19 + i) n25) <| bnd ((H9.D a23 ((x19 + i)).toNatClampNeg)) fun x28 => rf (H9.P 517 9) fun a29 => ck (H9.sh[a29]? = some (13, 0)) <| rf (H9.P a29 7) fun a32 => if x28 = (3 : Int32) then B_M_set_111 N 517 e q i v a32 (((48 : Int32) * (e &&& (255 : Int32))) + (x19 + i)) (v &&& (1 : Int32)) H9 else if x28 = (4 : Int32) then if (0 : Int32) ≤ v then B_M_set_111 N 517 e q i v a32 (((48 : Int32) * (e &&& (255 : Int32))) + (x19 + i)) v H9 else B_M_set_111 N 517 e q i v a32 (((48 : Int32) * (e &&& (255 : Int32))) + (x19 + i)) (-1) H9 else bC (F_M_held N x28 (v.toInt64) H9) fun v37 H38 => B_M_set_111 N 517 e q i v a32 (((48 : Int32) * (e &&& (255 : Int32))) + (x19 + i)) v37 H38 := by
    unfold F_M_set
    rw [ck_t (rS_517 h.1.2.1), bnd_t]
  generalize B.sD 517 0 0 = B0 at *
  obtain ⟨qa, qb⟩ := qt_A h0
  have h0' := h0
  obtain ⟨⟨hGA, hGB, hT, hL⟩, ⟨hus, hun, hne, b8, b9, b3⟩, ⟨n0, n1, n2, n3, n4, n5, n6⟩, ⟨Qn, x1, x2, x3⟩, ⟨Qs, y1, y2, y3⟩, hLk⟩ := h0
  have keep : PLI N p cs w M ty mn nu cd E Nm Pv (addS S 0) b t0 A la z B0 us un c n := ⟨⟨hGA, hGB, hT, hL⟩, ⟨hus, hun, hne, b8, b9, b3⟩, ⟨n0, n1, n2, n3, n4, n5, n6⟩, ⟨Qn, x1, ⟨fun q c m k1 k2 k3 k4 k5 => (x2.1 q c m k1 k2 k3 k4 k5).add, fun k hk e q k1 k2 k3 k4 => (x2.2.1 k hk e q k1 k2 k3 k4).add, x2.2.2⟩, x3.add⟩, ⟨Qs, y1, ⟨fun q c m k1 k2 k3 k4 k5 => (y2.1 q c m k1 k2 k3 k4 k5).add, fun k hk e q k1 k2 k3 k4 => (y2.2.1 k hk e q k1 k2 k3 k4).add, y2.2.2⟩, y3.add⟩, hLk⟩
  have hs := mb_jo (N := N) (e := e) (q := q) (i := i) hT hE hGA hGB hpr b3 hun b9 x1.1
  obtain ⟨⟨-, ⟨a3, a5, a6, -⟩, -⟩, ⟨-, ⟨b16, b12, b13, -⟩, -⟩, hp, hwT, -⟩ := hT
  have e4 : E 4 0 ≤ 16 := hE.1
  have hP := gr_P hGA hp
  have T := gr_T hGB w hwT
  have W := gr_W hGA 12 (by decide)
  have U := gr_U hGB un hun
  have hu1 := lU_le hus
  have hu2 := lU_le hun
  have hw' := lT_le hwT
  have l8 : lo8 e < 256 := lo8_lt
  have eA : ∀ (o : Int32), F_W_offsetOf N 0 e q i A = some (o, A) → F_W_set N 0 e q i v A = (if n = c then (if (0 : Int32) ≤ o then ck (inb o 48) <| rf (A.P (p + 88) (o).toNatClampNeg) fun a24 => ck (A.sh[a24]? = some (2, 0)) <| bnd ((A.D a24 3)) fun x27 => if x27 = (1 : Int32) then bC (F_Math_min N (127 : Int32) v A) fun v74 H75 => bC (F_Math_max N ((-128) : Int32) v74 H75) fun v77 H78 => B_W_set_103 N 0 e q i v o v77 H78 else if x27 = (3 : Int32) then bnd ((v &&& (1 : Int32))) fun x72 => B_W_set_103 N 0 e q i v o x72 A else if x27 = (4 : Int32) then bC (F_Math_max N ((-1) : Int32) v A) fun v70 H71 => B_W_set_103 N 0 e q i v o v70 H71 else B_W_set_103 N 0 e q i v o v A else some ((-1), A)) else some ((-10), A)) := fun o ho => by
    unfold F_W_set
    rw [ck_t (rS_0 hGA), rf_t (rP_0_2 hGA), ck_t (rS_11 hGA), bC_t qa]
    by_cases y : n = c
    · rw [if_pos y, if_pos y, if_neg (by decide), bC_t ho, rf_t hpr, ck_t (PrS hP), rf_t (PrP_2 hP), ck_t (PrA_2 hP), rf_t (PcP_1 hP), ar_t (PcA_1 hP)]
    · rw [if_neg y, if_neg y, if_pos rfl]
  rw [bC_t qb] at eB
  by_cases y : n = c
  · rw [if_pos y, if_neg (by decide)] at eB
    subst y
    rcases hs with ⟨cc, m, hc, rfl, rfl, hm, a, bb, k1, k2⟩ | ⟨k1, k2⟩
    · have mo : mOf E cc (E 5 cc + m) := ⟨hc, by omega, hm⟩
      obtain ⟨mE, m48, c16⟩ := mOf_lt hE mo
      have kd := hE.2.2.2.2.1 _ mE
      have hM := PcM hP (E 5 cc + m) m48
      have e1 : (nI (E 6 (E 5 cc + m)) = (1 : Int32)) = (E 6 (E 5 cc + m) = 1) := propext (nI_eq (b := 1) (by omega) (by decide))
      have e3 : (nI (E 6 (E 5 cc + m)) = (3 : Int32)) = (E 6 (E 5 cc + m) = 3) := propext (nI_eq (b := 3) (by omega) (by decide))
      have e44 : (nI (E 6 (E 5 cc + m)) = (4 : Int32)) = (E 6 (E 5 cc + m) = 4) := propext (nI_eq (b := 4) (by omega) (by decide))
      have eA2 : F_W_set N 0 e (nI cc) (nI m) v A = B_W_set_103 N 0 e (nI cc) (nI m) v (nI (E 5 cc + m)) (vS (E 6 (E 5 cc + m)) v) A := by
        rw [eA _ k1, if_pos rfl, if_pos (show (0 : Int32) ≤ nI (E 5 cc + m) from nI_le (a := 0) (by omega) (by omega)), rdP m48 (by decide), rf_t hM.1, ck_t hM.2, bnd_t, (a6 _ mE).2]
        simp only [e1, e3, e44]
        unfold F_Math_min F_Math_max vS
        by_cases z1 : E 6 (E 5 cc + m) = 1
        · rw [if_pos z1, z1, if_neg (show ¬ (1 : Nat) = 3 by decide), if_neg (show ¬ (1 : Nat) = 4 by decide), ← byt_hv]
          unfold byt
          by_cases u1 : v < 127
          · rw [if_pos u1, if_pos u1, bC_v]
            by_cases u2 : (-128 : Int32) < v
            · rw [if_pos u2, if_pos u2, bC_v]
            · rw [if_neg u2, if_neg u2, bC_v]
          · rw [if_neg u1, if_neg u1, bC_v, if_pos (by decide), if_pos (by decide), bC_v]
        · rw [if_neg z1]
          by_cases z3 : E 6 (E 5 cc + m) = 3
          · rw [if_pos z3, if_pos z3]
            rfl
          · rw [if_neg z3, if_neg z3]
            by_cases z4 : E 6 (E 5 cc + m) = 4
            · rw [if_pos z4, if_pos z4]
              by_cases u2 : (-1 : Int32) < v
              · rw [if_pos u2, if_pos (show (0 : Int32) ≤ v by rw [Int32.le_iff_toInt_le]; rw [Int32.lt_iff_toInt_lt] at u2; have e0 : ((0 : Int32)).toInt = 0 := rfl; have e9 : ((-1 : Int32)).toInt = -1 := rfl; omega), bC_v]
              · rw [if_neg u2, if_neg (show ¬ (0 : Int32) ≤ v by rw [Int32.le_iff_toInt_le]; rw [Int32.lt_iff_toInt_lt] at u2; have e0 : ((0 : Int32)).toInt = 0 := rfl; have e9 : ((-1 : Int32)).toInt = -1 := rfl; omega), bC_v]
            · rw [if_neg z4, if_neg z4]
              unfold hv
              rw [if_neg z1]
      have eB2 : F_M_set N 517 e (nI cc) (nI m) v B = B_M_set_111 N 517 e (nI cc) (nI m) v (un + 4) (nI (48 * lo8 e + (E 5 cc + m))) (vS (E 6 (E 5 cc + m)) v) B0 := by
        rw [eB, bC_t k2, if_neg (by decide), rf_t b3, ck_t (TS T), rf_t (TP_18 T), ar_t (TA_18 T), rdI (show cc < 17 by omega) (by decide), b12 cc (by omega), nI_ad, rf_t b3, ck_t (TS T), rf_t (TP_19 T), ar_t (TA_19 T), rdI m48 (by decide), (b13 _ mE).2, rf_t b9, ck_t (US U), rf_t (UP_7 U), lo8_e, show (48 : Int32) * nI (lo8 e) + nI (E 5 cc + m) = nI (48 * lo8 e + (E 5 cc + m)) from nI_ma 48 _ _, bC_t (ev_held kd)]
        simp only [e3, e44]
        unfold vS
        by_cases z3 : E 6 (E 5 cc + m) = 3
        · rw [if_pos z3, if_pos z3]
        · rw [if_neg z3, if_neg z3]
          by_cases z4 : E 6 (E 5 cc + m) = 4
          · rw [if_pos z4, if_pos z4]
            by_cases u2 : (0 : Int32) ≤ v
            · rw [if_pos u2, if_pos u2]
            · rw [if_neg u2, if_neg u2]
          · rw [if_neg z4, if_neg z4]
      obtain ⟨⟨w1, w2, w3, w4, w5, w6, w7⟩, q0, q1, q3, q15⟩ := x1
      generalize vS (E 6 (E 5 cc + m)) v = x at *
      generalize E 5 cc + m = mm at *
      have wd := w4.2.2 cc mm mo
      have bi : 48 * lo8 e + mm < 12288 := by omega
      have dA : ∀ a f, a ≠ 15 → (A.sD (12 + 3) (lo8 e * Qn 5 0 + mm) x).D a f = A.D a f := fun a f y => rdw y
      have dB : ∀ a f, a ≠ un + 4 → (B0.sD (un + 4) (48 * lo8 e + mm) x).D a f = B0.D a f := fun a f y => rdw y
      have hA2 : same (cW 12) A (A.sD (12 + 3) (lo8 e * Qn 5 0 + mm) x) := same.rf.sD (by unfold cW; omega)
      have hB2 : same (cU un) B0 (B0.sD (un + 4) (48 * lo8 e + mm) x) := same.rf.sD (by unfold cU; omega)
      have W2 : WPR (A.sD (12 + 3) (lo8 e * Qn 5 0 + mm) x) 12 (B0.sD (un + 4) (48 * lo8 e + mm) x) un E Qn := by
        refine ⟨⟨fun q hq => by rw [dA _ _ (by omega), dA _ _ (by omega)]; exact w1 q hq, fun q hq => by rw [dB _ _ (by omega), dB _ _ (by omega), dB _ _ (by omega)]; exact w2 q hq, fun q c2 m2 y1 y2 y3 y4 => ?_, ⟨by rw [dA _ _ (by omega)]; exact w4.1, w4.2⟩, ⟨by rw [dA _ _ (by omega)]; exact w5.1, w5.2⟩, ⟨by rw [dA _ _ (by omega)]; exact w6.1, by rw [dB _ _ (by omega)]; exact w6.2.1, w6.2.2.1, fun k hk => ?_⟩, by rw [dA _ _ (by omega)]; exact w7.1, by rw [dB _ _ (by omega)]; exact w7.2.1, w7.2.2.1, fun k hk => by rw [dA _ _ (by omega), dB _ _ (by omega)]; exact w7.2.2.2 k hk⟩, by rw [dA _ _ (by omega), dB _ _ (by omega)]; exact q0, by rw [dA _ _ (by omega), dB _ _ (by omega)]; exact q1, by rw [dA _ _ (by omega), dB _ _ (by omega)]; exact q3, ?_⟩
        · have m2l := (mOf_lt hE y4).2.1
          by_cases k2 : q = lo8 e ∧ m2 = mm
          · rw [k2.1, k2.2, rds, rds]
          · rw [rdf (fun y => k2 (ix_inj y wd (w4.2.2 c2 m2 y4))), rdf (fun y => k2 (by omega))]
            exact w3 q c2 m2 y1 y2 y3 y4
        · rw [dA _ _ (by omega), dA _ _ (by omega), dA _ _ (by omega), dB _ _ (by omega), dB _ _ (by omega), dB _ _ (by omega)]
          obtain ⟨m0, m1, m2, m3⟩ := w6.2.2.2 k hk
          exact ⟨m0, m1, m2, fun e q y1 y2 y3 => by rw [dA _ _ (by omega), dB _ _ (by omega)]; exact m3 e q y1 y2 y3⟩
        · unfold FLR
          rw [dA 12 2 (by omega), dA 12 4 (by omega), dA 12 5 (by omega), dA 12 6 (by omega), dB un 2 (by omega), dB un 13 (by omega), dB un 14 (by omega), dB un 15 (by omega)]
          exact q15
      have R2 : RVB (addS S (ixv x)) E Qn (B0.sD (un + 4) (48 * lo8 e + mm) x) un := by
        refine ⟨fun q c2 m2 y1 y2 y3 y4 y5 => ?_, fun k hk e q y1 y2 y3 y4 => ?_, fun k hk => by rw [dB _ _ (by omega)]; exact x2.2.2 k hk⟩
        · have m2l := (mOf_lt hE y4).2.1
          by_cases k2 : q = lo8 e ∧ m2 = mm
          · rw [k2.1, k2.2, rds]
            exact .inr (.inl addS_1)
          · rw [rdf (fun y => k2 (by omega))]
            exact (x2.1 q c2 m2 y1 y2 y3 y4 y5).add
        · rw [dB _ _ (by omega)] at y1
          rw [dB _ _ (by omega)]
          exact (x2.2.1 k hk e q y1 y2 y3 y4).add
      have a20 : (A.sD (12 + 3) (lo8 e * Qn 5 0 + mm) x).D 12 0 = nI n := by rw [dA _ _ (by omega)]; exact n6
      have eW : F_World_write N 12 (nI (lo8 e)) (nI mm) x A = some ((), A.sD (12 + 3) (lo8 e * Qn 5 0 + mm) x) := ev_write W w4.1 w4.2.1 l8 m48
      have GB2 := hB2.gr hGB
      have wr : (ck (inb (nI (48 * lo8 e + mm)) 12288) <| bnd (B0.sD (un + 4) (nI (48 * lo8 e + mm)).toNatClampNeg x) fun H42 => ck (H42.sh[517]? = some (12, 0)) <| rf (H42.P 517 8) fun a44 => rf (H42.P 517 9) fun a46 => ck (H42.sh[a44]? = some (13, 0)) <| bC (F_MWorld_copies N a44 a46 H42) fun v50 H51 => some ((0 : Int32), H51)) = (bC (F_MWorld_copies N us un (B0.sD (un + 4) (48 * lo8 e + mm) x)) fun v50 H51 => some ((0 : Int32), H51)) := by
        rw [wrI bi (by decide), ck_t (rS_517 GB2), rf_t (show (B0.sD (un + 4) (48 * lo8 e + mm) x).P 517 8 = .ref us from b8), rf_t (show (B0.sD (un + 4) (48 * lo8 e + mm) x).P 517 9 = .ref un from b9), ck_t (US (gr_U GB2 us hus))]
      obtain ⟨B3, c1, c2, c3⟩ := h0'.ed hE hN hA2 hB2 W2 R2 x3.add a20
      refine ⟨0, _, B3, ixv x, ?_, ?_, c2, hA2, (s0.tr (hB2.mono fun a f y => .inr (.inr y))).tr (c3.mono fun a f y => .inr (.inl y))⟩
      · rw [eA2]
        unfold B_W_set_103
        rw [ck_t (rS_0 hGA), rf_t (rP_0_2 hGA), ck_t (rS_11 hGA), rf_t (rP_11_0 hGA), rf_t (rP_0_2 hGA), ck_t (rS_11 hGA), rf_t (rP_11_0 hGA), ck_t (rA_11_0 hGA), bC_t (ev_placeOf W w1), if_pos a, ck_t (rA_11_0 hGA), bC_t eW]
      · rw [eB2]
        unfold B_M_set_111
        rw [ar_t (UA_7 U), wr, bC_t c1]
    · rw [bC_t k2, if_pos rfl] at eB
      refine ⟨-1, A, B0, 0, ?_, eB, keep, same.rf, s0⟩
      rw [eA _ k1, if_pos rfl, if_neg (by decide)]
  · rw [if_neg y, if_pos rfl] at eB
    refine ⟨-10, A, B0, 0, ?_, eB, keep, same.rf, s0⟩
    rcases hs with ⟨cc, m, -, -, -, -, -, -, k1, -⟩ | ⟨k1, -⟩
    · rw [eA _ k1, if_neg y]
    · rw [eA _ k1, if_neg y]
end Par
