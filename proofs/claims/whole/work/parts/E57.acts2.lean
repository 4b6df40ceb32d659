/-! ===== drop, take, put act alike ===== -/
section Par
variable {N p wo inp cs w u ir M K0 : Nat} {s pl : Int32} {ty mn nu cd : Nat → Int32} {E Q : Nat → Nat → Nat} {V : Nat → Nat → Int32} {nL lc : Nat} {lk : Nat → Nat} {hd : Nat → Int32}
/-- what both sides are at while commands act -/
def ACS (A : Hp) (la z : Nat) (B : Hp) (wo u k : Nat) (E Q : Nat → Nat → Nat) : Prop := Gr A ∧ Gr B ∧ wo ∈ lW ∧ u ∈ lU ∧ A.P 116 2 = .ref wo ∧ B.P 611 1 = .ref u ∧ LST A la z ∧ 11 * (k + 1) ≤ z ∧ k < 32768 ∧ WRL A wo B u E Q
theorem ACS.z {A B : Hp} {la z k : Nat} (h : ACS A la z B wo u k E Q) : z < 2 ^ 31 := by
  obtain ⟨-, -, -, -, -, -, ⟨-, -, -, t, l4, l5⟩, -⟩ := h
  have : 2 ^ t ≤ 2 ^ 9 := Nat.pow_le_pow_right (by decide) l4
  omega
theorem ac_hd {A B : Hp} {la z k : Nat} {v : Int32} (h : ACS A la z B wo u k E Q) (f0 : ¬ A.D la (11 * k) = 20 ∧ ¬ A.D la (11 * k) = 25 ∧ ¬ A.D la (11 * k) = 26) (f1 : A.D la (11 * k + 1) = v) : F_Ticker_acts N 116 la (nI (11 * k)) A = bC (F_Ticker_actOn N 116 la (nI (11 * k)) (if liv Q v then nI (lo8 v) else -1) A) fun v35 H36 => ck (v35 &&& 1 = v35) <| some (v35, H36) := by
  have hz := h.z
  obtain ⟨hGA, hGB, hw, hu, h116, h611, hL, hk, hk2, hW⟩ := h
  have W := gr_W hGA wo hw
  unfold F_Ticker_acts
  rw [ar_t hL.2.1, rdI (show 11 * k < z by omega) (by omega), if_neg f0.1, if_neg f0.2.1, if_neg f0.2.2, ck_t (rS_116 hGA), rf_t h116, nI_1, rdI (show 11 * k + 1 < z by omega) (by omega), f1, ck_t (WS W), bC_t (ev_placeOf W hW.1)]
/-- nobody lives there: nothing is done -/
theorem ac_no {A : Hp} {la k : Nat} : F_Ticker_actOn N 116 la (nI (11 * k)) (-1) A = some (0, A) := by
  unfold F_Ticker_actOn
  rw [if_neg (by decide)]
/-- the reference's head -/
theorem ar_hd {A B : Hp} {la z k : Nat} (h : ACS A la z B wo u k E Q) :
    (B.D 612 (12 * k) = 223 → F_MRunner_acts N 611 (nI (12 * k)) B = bC (F_MWorld_drops N u (B.D 612 (12 * k + 1)) B) fun v H => ck (v &&& 1 = v) <| some (v, H)) ∧
    (B.D 612 (12 * k) = 225 → F_MRunner_acts N 611 (nI (12 * k)) B = bC (F_MWorld_takes N u (B.D 612 (12 * k + 1)) (B.D 612 (12 * k + 2)) B) fun v H => ck (v &&& 1 = v) <| some (v, H)) ∧
    (B.D 612 (12 * k) = 226 → F_MRunner_acts N 611 (nI (12 * k)) B = bC (F_MWorld_has N u (B.D 612 (12 * k + 1)) (B.D 612 (12 * k + 2)) B) fun v112 H113 => if v112 = (0 : Int32) then some (0, H113) else rf (H113.P 611 1) fun a115 => ck (H113.sh[a115]? = some (13, 0)) <| rf (H113.P a115 7) fun a118 => rf (H113.P 611 3) fun a120 => ar H113 100 a120 fun n122 => ck (inb (nI (12 * k) + (3 : Int32)) n122) <| bnd ((H113.D a120 ((nI (12 * k) + (3 : Int32))).toNatClampNeg)) fun x125 => rf (H113.P 611 3) fun a126 => ar H113 100 a126 fun n128 => ck (inb (nI (12 * k) + (4 : Int32)) n128) <| bnd ((H113.D a126 ((nI (12 * k) + (4 : Int32))).toNatClampNeg)) fun x131 => ar H113 100 a118 fun n132 => ck (inb (((48 : Int32) * (B.D 612 (12 * k + 1) &&& (255 : Int32))) + x125) n132) <| bnd (H113.sD a118 ((((48 : Int32) * (B.D 612 (12 * k + 1) &&& (255 : Int32))) + x125)).toNatClampNeg x131) fun H135 => some (1, H135)) := by
  obtain ⟨hGA, hGB, hw, hu, h116, h611, hL, hk, hk2, hW⟩ := h
  have U := gr_U hGB u hu
  have i1 : 12 * k + 1 < 393216 := by omega
  have i2 : 12 * k + 2 < 393216 := by omega
  have i0 : 12 * k < 393216 := by omega
  refine ⟨fun g0 => ?_, fun g0 => ?_, fun g0 => ?_⟩
  · unfold F_MRunner_acts
    rw [ck_t (rS_611 hGB), rf_t (rP_611_3 hGB), ar_t (rA_611_3 hGB), nI_1, rdI i1 (by decide), rf_t (rP_611_3 hGB), ar_t (rA_611_3 hGB), show nI (12 * k) + (2 : Int32) = nI (12 * k + 2) from nI_ad _ 2, rdI i2 (by decide), rf_t (rP_611_3 hGB), ar_t (rA_611_3 hGB), rdI i0 (by decide), g0, if_neg (by decide), if_pos rfl, rf_t h611, ck_t (US U)]
  · unfold F_MRunner_acts
    rw [ck_t (rS_611 hGB), rf_t (rP_611_3 hGB), ar_t (rA_611_3 hGB), nI_1, rdI i1 (by decide), rf_t (rP_611_3 hGB), ar_t (rA_611_3 hGB), show nI (12 * k) + (2 : Int32) = nI (12 * k + 2) from nI_ad _ 2, rdI i2 (by decide), rf_t (rP_611_3 hGB), ar_t (rA_611_3 hGB), rdI i0 (by decide), g0, if_neg (by decide), if_neg (by decide), if_neg (by decide), if_pos rfl, rf_t h611, ck_t (US U)]
  · unfold F_MRunner_acts
    rw [ck_t (rS_611 hGB), rf_t (rP_611_3 hGB), ar_t (rA_611_3 hGB), nI_1, rdI i1 (by decide), rf_t (rP_611_3 hGB), ar_t (rA_611_3 hGB), show nI (12 * k) + (2 : Int32) = nI (12 * k + 2) from nI_ad _ 2, rdI i2 (by decide), rf_t (rP_611_3 hGB), ar_t (rA_611_3 hGB), rdI i0 (by decide), g0, if_neg (by decide), if_neg (by decide), if_neg (by decide), if_neg (by decide), if_pos rfl, rf_t h611, ck_t (US U)]
/-- put -/
theorem ac_put {A B : Hp} {la z k c m : Nat} {v : Int32} (hE : WE E) (h : ACS A la z B wo u k E Q) (hm : mOf E c m) (f0 : A.D la (11 * k) = 24) (g0 : B.D 612 (12 * k) = 226) (f1 : A.D la (11 * k + 1) = v) (g1 : B.D 612 (12 * k + 1) = v) (f2 : A.D la (11 * k + 2) = nI c) (g2 : B.D 612 (12 * k + 2) = nI c) (f3 : A.D la (11 * k + 3) = nI m) (g3 : B.D 612 (12 * k + 3) = nI m) (f4 : A.D la (11 * k + 4) = B.D 612 (12 * k + 4)) (f5 : E 6 m = 4 → SVx E (B.D 612 (12 * k + 4))) : ACT N wo u la k E Q A B := by
  have hz := h.z
  obtain ⟨mE, m48, c16⟩ := mOf_lt hE hm
  have eA := ac_hd (N := N) h (by rw [f0]; decide) f1
  have eB := (ar_hd (N := N) h).2.2 g0
  obtain ⟨hGA, hGB, hw, hu, h116, h611, hL, hk, hk2, hW⟩ := h
  have hwo := lW_le hw
  have hu' := lU_le hu
  have W := gr_W hGA wo hw
  have U := gr_U hGB u hu
  have hW' := hW
  obtain ⟨w1, w2, w3, w4, w5, w6, w7⟩ := hW
  have l8 : lo8 v < 256 := lo8_lt
  have bi : 48 * lo8 v + m < 12288 := by omega
  have bq : lo8 v * Q 5 0 + m < 12288 := by
    have : lo8 v * Q 5 0 ≤ 255 * 48 := Nat.mul_le_mul (by omega) w4.2.1
    omega
  have wd := w4.2.2 c m hm
  rw [g1, g2, bC_t (ev_mhas U w2 c16)] at eB
  have nothing : F_Ticker_acts N 116 la (nI (11 * k)) A = some (0, A) → F_MRunner_acts N 611 (nI (12 * k)) B = some (0, B) → ACT N wo u la k E Q A B := fun y1 y2 => ⟨0, 0, A, B, Q, y1, y2, Iff.rfl, same.rf, same.rf, hW', fun x _ _ _ _ => rfl, rfl, id, fun q => .inl rfl⟩
  by_cases a : liv Q v
  · have eO : F_Ticker_actOn N 116 la (nI (11 * k)) (nI (lo8 v)) A = (if (if Q 2 (lo8 v) / 2 ^ c % 2 = 1 then (1 : Int32) else 0) = 0 then some (0, A) else some (1, A.sD (wo + 3) (lo8 v * Q 5 0 + m) (B.D 612 (12 * k + 4)))) := by
      unfold F_Ticker_actOn B_Ticker_actOn_57
      rw [if_pos (show (0 : Int32) ≤ nI (lo8 v) from nI_le (a := 0) (by omega) (by omega)), ar_t hL.2.1, rdI (show 11 * k < z by omega) (by omega), f0, if_neg (show ¬ (24 : Int32) = 21 by decide), show nI (11 * k) + (2 : Int32) = nI (11 * k + 2) from nI_ad _ 2, rdI (show 11 * k + 2 < z by omega) (by omega), f2, ck_t (rS_116 hGA), rf_t h116, ck_t (WS W), bC_t (ev_owns W w1 l8 c16 a.1), if_neg (show ¬ (24 : Int32) = 22 by decide), if_neg (show ¬ (24 : Int32) = 22 by decide), if_neg (show ¬ (24 : Int32) = 23 by decide), ck_t (rS_116 hGA), rf_t h116, ar_t hL.2.1, show nI (11 * k) + (3 : Int32) = nI (11 * k + 3) from nI_ad _ 3, rdI (show 11 * k + 3 < z by omega) (by omega), f3, show nI (11 * k) + (4 : Int32) = nI (11 * k + 4) from nI_ad _ 4, rdI (show 11 * k + 4 < z by omega) (by omega), f4, ck_t (WS W), bC_t (ev_write W w4.1 w4.2.1 l8 m48)]
    rw [if_pos a, eO] at eA
    by_cases b : Q 2 (lo8 v) / 2 ^ c % 2 = 1
    · rw [if_pos b, if_neg (show ¬ (1 : Int32) = 0 by decide), bC_v, ck_t (by decide)] at eA
      rw [if_pos (show liv Q v ∧ Q 2 (lo8 v) / 2 ^ c % 2 = 1 from ⟨a, b⟩), if_neg (show ¬ (1 : Int32) = 0 by decide), rf_t h611, ck_t (US U), rf_t (UP_7 U), rf_t (rP_611_3 hGB), ar_t (rA_611_3 hGB), show nI (12 * k) + (3 : Int32) = nI (12 * k + 3) from nI_ad _ 3, rdI (show 12 * k + 3 < 393216 by omega) (by decide), g3, rf_t (rP_611_3 hGB), ar_t (rA_611_3 hGB), show nI (12 * k) + (4 : Int32) = nI (12 * k + 4) from nI_ad _ 4, rdI (show 12 * k + 4 < 393216 by omega) (by decide), ar_t (UA_7 U), lo8_e, show (48 : Int32) * nI (lo8 v) + nI m = nI (48 * lo8 v + m) from nI_ma 48 _ m, wrI bi (by decide)] at eB
      generalize B.D 612 (12 * k + 4) = x at eA eB f5
      refine ⟨1, 1, _, _, Q, eA, eB, Iff.rfl, same.sD same.rf (.inr (by omega)), same.sD same.rf (.inr (by omega)), ?_, fun x _ _ _ _ => rfl, rfl, fun cc => cc.fr (fun q c2 m2 y1 y2 y3 y4 y5 => by
        have m2l := (mOf_lt hE y4).2.1
        by_cases k2 : q = lo8 v ∧ m2 = m
        · rw [k2.1, k2.2, rds]
          rw [k2.2] at y5
          exact .inr (f5 y5)
        · exact .inl ⟨y2, y3, rdf (fun y => k2 (by omega))⟩) rfl (fun a f y => rdw (by omega)), fun q => .inl rfl⟩
      refine ⟨fun q hq => by rw [rdw (by omega), rdw (by omega)]; exact w1 q hq, fun q hq => by rw [rdw (by omega), rdw (by omega), rdw (by omega)]; exact w2 q hq, fun q c2 m2 y1 y2 y3 y4 => ?_, ⟨by rw [rdw (by omega)]; exact w4.1, w4.2⟩, ⟨by rw [rdw (by omega)]; exact w5.1, w5.2⟩, ⟨by rw [rdw (by omega)]; exact w6.1, by rw [rdw (by omega)]; exact w6.2.1, w6.2.2.1, fun k hk => ?_⟩, by rw [rdw (by omega)]; exact w7.1, by rw [rdw (by omega)]; exact w7.2.1, w7.2.2.1, fun k hk => by rw [rdw (by omega), rdw (by omega)]; exact w7.2.2.2 k hk⟩
      · have m2l := (mOf_lt hE y4).2.1
        by_cases k2 : q = lo8 v ∧ m2 = m
        · rw [k2.1, k2.2, rds, rds]
        · rw [rdf (fun y => k2 (ix_inj y wd (w4.2.2 c2 m2 y4))), rdf (fun y => k2 (by omega))]
          exact w3 q c2 m2 y1 y2 y3 y4
      · rw [rdw (by omega), rdw (by omega), rdw (by omega), rdw (by omega), rdw (by omega), rdw (by omega)]
        obtain ⟨m0, m1, m2, m3⟩ := w6.2.2.2 k hk
        exact ⟨m0, m1, m2, fun e q y1 y2 y3 => by rw [rdw (by omega), rdw (by omega)]; exact m3 e q y1 y2 y3⟩
    · rw [if_neg b, if_pos rfl, bC_v, ck_t (by decide)] at eA
      rw [if_neg (show ¬ (liv Q v ∧ Q 2 (lo8 v) / 2 ^ c % 2 = 1) from fun y => b y.2), if_pos rfl] at eB
      exact nothing eA eB
  · rw [if_neg a, ac_no, bC_v, ck_t (by decide)] at eA
    rw [if_neg (show ¬ (liv Q v ∧ Q 2 (lo8 v) / 2 ^ c % 2 = 1) from fun y => a y.1), if_pos rfl] at eB
    exact nothing eA eB
end Par
