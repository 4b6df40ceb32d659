/-! ===== emit acts alike ===== -/
section Par
variable {N p wo inp cs w u ir M K0 : Nat} {s pl : Int32} {ty mn nu cd : Nat → Int32} {E Q : Nat → Nat → Nat} {V : Nat → Nat → Int32} {nL lc : Nat} {lk : Nat → Nat} {hd : Nat → Int32}
theorem rdnn {H : Hp} {a b f g : Nat} {v : Int32} (h : ¬ (a = b ∧ f = g)) : (H.sD b g v).D a f = H.D a f := by
  by_cases y : a = b
  · rw [y, rdf (fun z => h ⟨y, z⟩)]
  · rw [rdw y]
theorem ev_pnd {k K : Nat} {p1 p2 p3 : Int32} (hk : k < 32768) (hK : K < 256) (hu : 581 ≤ u) (hu2 : 612 ∉ [u, u + 8]) : ∀ j n i B, i + j = 4 → j < n → isU B u → B.sh[612]? = some (100, 393216) → B.D u 8 = nI K → ∃ B2, B_MWorld_pends_45 N u p1 p2 p3 612 (nI (12 * k + 4)) n (nI i) B = some (1, B2) ∧ same (fun a f => (a = u + 8 ∧ 4 * K + i ≤ f ∧ f < 4 * K + 4) ∨ (a = u ∧ f = 8)) B B2 ∧ B2.D u 8 = nI (K + 1) ∧ ∀ q, i ≤ q → q < 4 → B2.D (u + 8) (4 * K + q) = B.D 612 (12 * k + 4 + q) := by
  have n1 : 612 ≠ u := fun z => hu2 (by rw [z]; exact List.mem_cons_self)
  have n2 : 612 ≠ u + 8 := fun z => hu2 (by rw [z]; exact List.mem_cons_of_mem _ List.mem_cons_self)
  intro j
  induction j with
  | zero =>
    intro n i B hi hn U h6 h8
    obtain ⟨n, rfl⟩ : ∃ y, n = y + 1 := ⟨n - 1, by omega⟩
    refine ⟨B.sD u 8 (nI (K + 1)), ?_, same.rf.sD (.inr ⟨rfl, rfl⟩), rds, fun q _ _ => by omega⟩
    rw [B_MWorld_pends_45, if_pos (show (4 : Int32) ≤ nI i from nI_le (a := 4) (by omega) (by omega)), ck_t (US U), bnd_t, h8, nI_1, bnd_t]
  | succ j ih =>
    intro n i B hi hn U h6 h8
    obtain ⟨n, rfl⟩ : ∃ y, n = y + 1 := ⟨n - 1, by omega⟩
    obtain ⟨B2, r1, r2, r3, r4⟩ := ih n (i + 1) (B.sD (u + 8) (4 * K + i) (B.D 612 (12 * k + 4 + i))) (by omega) (by omega) U h6 (by rw [rdw (by omega)]; exact h8)
    refine ⟨B2, ?_, ((same.rf (H := B)).sD (.inl (by omega))).tr (r2.mono fun a f y => by omega), r3, fun q h1 h2 => ?_⟩
    · rw [B_MWorld_pends_45, if_neg (show ¬ (4 : Int32) ≤ nI i from nI_ge (b := 4) (by omega) (by omega)), ck_t (US U), rf_t (UP_12 U), bnd_t, h8, ar_t h6, show nI (12 * k + 4) + nI i = nI (12 * k + 4 + i) from nI_ad _ i, rdI (show 12 * k + 4 + i < 393216 by omega) (by decide), ar_t (UA_12 U), show (4 : Int32) * nI K + nI i = nI (4 * K + i) from nI_ma 4 K i, wrI (show 4 * K + i < 1024 by omega) (by decide), nI_1]
      exact r1
    · by_cases y : q = i
      · rw [r2.1 _ _ (by omega), y, rds]
      · rw [r4 q (by omega) h2, rdw n2]
theorem ar_em {A B : Hp} {la z k : Nat} (h : ACS A la z B wo u k E Q) (g0 : B.D 612 (12 * k) = 227) : F_MRunner_acts N 611 (nI (12 * k)) B = bC (F_MWorld_pends N u (B.D 612 (12 * k + 1)) (B.D 612 (12 * k + 3)) (B.D 612 (12 * k + 2)) 612 (nI (12 * k + 4)) B) fun v H => ck (v &&& 1 = v) <| some (v, H) := by
  obtain ⟨hGA, hGB, hw, hu, h116, h611, hL, hk, hk2, hW⟩ := h
  have U := gr_U hGB u hu
  have i1 : 12 * k + 1 < 393216 := by omega
  have i2 : 12 * k + 2 < 393216 := by omega
  have i3 : 12 * k + 3 < 393216 := by omega
  have i0 : 12 * k < 393216 := by omega
  unfold F_MRunner_acts
  rw [ck_t (rS_611 hGB), rf_t (rP_611_3 hGB), ar_t (rA_611_3 hGB), nI_1, rdI i1 (by decide), rf_t (rP_611_3 hGB), ar_t (rA_611_3 hGB), show nI (12 * k) + (2 : Int32) = nI (12 * k + 2) from nI_ad _ 2, rdI i2 (by decide), rf_t (rP_611_3 hGB), ar_t (rA_611_3 hGB), rdI i0 (by decide), g0, if_neg (by decide), if_neg (by decide), if_neg (by decide), if_neg (by decide), if_neg (by decide), if_pos rfl, rf_t h611, rf_t (rP_611_3 hGB), ar_t (rA_611_3 hGB), show nI (12 * k) + (3 : Int32) = nI (12 * k + 3) from nI_ad _ 3, rdI i3 (by decide), rf_t (rP_611_3 hGB), ck_t (US U), show nI (12 * k) + (4 : Int32) = nI (12 * k + 4) from nI_ad _ 4]
theorem ac_emit {A B : Hp} {la z k e t : Nat} {tk : Int32} (hN : 300 ≤ N) (hE : WE E) (htk : A.D wo 0 = tk) (h : ACS A la z B wo u k E Q) (he : e < E 9 0) (f0 : A.D la (11 * k) = 25) (g0 : B.D 612 (12 * k) = 227) (f1 : A.D la (11 * k + 1) = nI e) (g1 : B.D 612 (12 * k + 1) = nI e) (f2 : A.D la (11 * k + 2) = nI t) (f3 : A.D la (11 * k + 3) = B.D 612 (12 * k + 2)) (g3 : B.D 612 (12 * k + 3) = tk + nI t) (f4 : ∀ i, i < E 10 e → i < 4 → A.D la (11 * k + (4 + i)) = B.D 612 (12 * k + (4 + i))) (f5 : ∀ i, i < E 10 e → i < 4 → E 12 (4 * e + i) = 4 → SVx E (B.D 612 (12 * k + (4 + i)))) : ACT N wo u la k E Q A B := by
  have hz := h.z
  have eB := ar_em (N := N) h g0
  obtain ⟨hGA, hGB, hw, hu, h116, h611, hL, hk, hk2, hW⟩ := h
  have hwo := lW_le hw
  have hu' := lU_le hu
  have W := gr_W hGA wo hw
  have U := gr_U hGB u hu
  have l3 := hL.2.2.1
  have hla : la ≠ wo + 4 := by omega
  have hla0 : la ≠ wo := by omega
  have hW' := hW
  obtain ⟨w1, w2, w3, w4, w5, w6, w7⟩ := hW
  have eA : F_Ticker_acts N 116 la (nI (11 * k)) A = bC (F_Ticker_actEmit N 116 la (nI (11 * k)) A) fun v22 H23 => ck (v22 &&& 1 = v22) <| some (v22, H23) := by
    unfold F_Ticker_acts
    rw [ar_t hL.2.1, rdI (show 11 * k < z by omega) (by omega), f0, if_neg (by decide), if_pos rfl, ck_t (rS_116 hGA)]
  rw [g1, g3] at eB
  generalize hx2 : B.D 612 (12 * k + 2) = x2 at eB f3
  unfold F_Ticker_actEmit at eA
  unfold F_MWorld_pends at eB
  rw [ck_t (rS_116 hGA), rf_t h116, ck_t (WS W), bnd_t, w6.1] at eA
  rw [ck_t (US U), bnd_t, w6.2.1] at eB
  by_cases q : Q 5 2 < 256
  · generalize hK : Q 5 2 = K at *
    have c7 : ((7 : Int32)).toNatClampNeg = 7 := rfl
    have eT : ∀ f, (A.cpy la (wo + 4) (11 * k + 1) (7 * K) 7).D wo f = A.D wo f := fun f => by rw [cpy_Dq, if_neg (by omega)]
    have eL : ∀ f, (A.cpy la (wo + 4) (11 * k + 1) (7 * K) 7).D la f = A.D la f := fun f => by rw [cpy_Dq, if_neg hla]
    have WC : isW (A.cpy la (wo + 4) (11 * k + 1) (7 * K) 7) wo := W
    have W2 : isW ((A.cpy la (wo + 4) (11 * k + 1) (7 * K) 7).sD (wo + 4) (7 * K + 1) (tk + nI t)) wo := W
    have h116c : (A.cpy la (wo + 4) (11 * k + 1) (7 * K) 7).P 116 2 = .ref wo := h116
    have h116d : ((A.cpy la (wo + 4) (11 * k + 1) (7 * K) 7).sD (wo + 4) (7 * K + 1) (tk + nI t)).P 116 2 = .ref wo := h116
    rw [if_pos (show nI K < (256 : Int32) from nI_lt (b := 256) q (by decide)), rf_t h116, ck_t (WS W), bnd_t, w6.1, bnd_t, rf_t h116, ck_t (WS W), rf_t (WP_12 W), ar_t hL.2.1, ar_t (WA_12 W), nI_1, show nI K * (7 : Int32) = nI (7 * K) from by rw [Nat.mul_comm]; exact nI_mu K 7, ck_t (show ¬ nI (11 * k + 1) < (0 : Int32) from nI_nlt (b := 0) (by omega) (by omega)), ck_t (show ¬ nI (7 * K) < (0 : Int32) from nI_nlt (b := 0) (by omega) (by omega)), ck_t (by decide), c7, cN (by omega), cN (by omega), ck_t (by omega), ck_t (by omega), bnd_t, rf_t h116c, ck_t (WS WC), rf_t (WP_12 WC), rf_t h116c, ck_t (WS WC), bnd_t, eT 0, htk, show nI (11 * k) + (2 : Int32) = nI (11 * k + 2) from nI_ad _ 2, rdI (show 11 * k + 2 < z by omega) (by omega), eL, f2, ar_t (WA_12 WC), nI_1, wrI (show 7 * K + 1 < 1792 by omega) (by decide), rf_t h116d, ck_t (WS W2), bnd_t, rdw (by omega), eT 13, w6.1, nI_1, bnd_t, bC_v, ck_t (by decide)] at eA
    have U1 : isU (B.sD (u + 5) K (nI e)) u := U
    have U2 : isU ((B.sD (u + 5) K (nI e)).sD (u + 6) K (tk + nI t)) u := U
    have U3 : isU (((B.sD (u + 5) K (nI e)).sD (u + 6) K (tk + nI t)).sD (u + 7) K x2) u := U
    have n612 : 612 ∉ [u, u + 8] := fun y => by
      rcases List.mem_cons.mp y with y | y
      · omega
      · have := List.mem_singleton.mp y
        omega
    obtain ⟨B2, r1, r2, r3, r4⟩ := ev_pnd (N := N) (p1 := nI e) (p2 := tk + nI t) (p3 := x2) hk2 q hu'.1 n612 4 N 0 (((B.sD (u + 5) K (nI e)).sD (u + 6) K (tk + nI t)).sD (u + 7) K x2) rfl (by omega) U3 (rA_611_3 hGB) (by rw [rdw (by omega), rdw (by omega), rdw (by omega)]; exact w6.2.1)
    rw [if_neg (show ¬ nI K = (256 : Int32) from fun y => by have := (nI_eq (b := 256) (by omega) (by decide)).mp y; omega), rf_t (UP_9 U), bnd_t, ar_t (UA_9 U), wrI q (by decide), rf_t (UP_10 U1), bnd_t, rdw (by omega), w6.2.1, ar_t (UA_10 U1), wrI q (by decide), rf_t (UP_11 U2), bnd_t, rdw (by omega), rdw (by omega), w6.2.1, ar_t (UA_11 U2), wrI q (by decide), show B_MWorld_pends_45 N u (nI e) (tk + nI t) x2 612 (nI (12 * k + 4)) N 0 _ = some (1, B2) from r1, bC_v, ck_t (by decide)] at eB
    have bB : ∀ a f, ¬ (a = u + 5 ∧ f = K) → ¬ (a = u + 6 ∧ f = K) → ¬ (a = u + 7 ∧ f = K) → (((B.sD (u + 5) K (nI e)).sD (u + 6) K (tk + nI t)).sD (u + 7) K x2).D a f = B.D a f := fun a f y1 y2 y3 => by
      rw [rdnn y3, rdnn y2, rdnn y1]
    have dB : ∀ a f, ¬ (a = u + 5 ∧ f = K) → ¬ (a = u + 6 ∧ f = K) → ¬ (a = u + 7 ∧ f = K) → ¬ (a = u + 8 ∧ 4 * K ≤ f ∧ f < 4 * K + 4) → ¬ (a = u ∧ f = 8) → B2.D a f = B.D a f := fun a f y1 y2 y3 y4 y5 => by
      rw [r2.1 _ _ (by omega), bB a f y1 y2 y3]
    have b5 : B2.D (u + 5) K = nI e := by rw [r2.1 _ _ (by omega), rdw (by omega), rdw (by omega), rds]
    have b6 : B2.D (u + 6) K = tk + nI t := by rw [r2.1 _ _ (by omega), rdw (by omega), rds]
    have b7 : B2.D (u + 7) K = x2 := by rw [r2.1 _ _ (by omega), rds]
    have b8 : ∀ q, q < 4 → B2.D (u + 8) (4 * K + q) = B.D 612 (12 * k + (4 + q)) := fun q hq => by
      rw [r4 q (by omega) hq, bB _ _ (by omega) (by omega) (by omega), show 12 * k + 4 + q = 12 * k + (4 + q) by omega]
    have aV : ∀ f, ((A.cpy la (wo + 4) (11 * k + 1) (7 * K) 7).sD (wo + 4) (7 * K + 1) (tk + nI t)).D (wo + 4) f = if f = 7 * K + 1 then tk + nI t else if 7 * K ≤ f ∧ f < 7 * K + 7 then A.D la (11 * k + 1 + (f - 7 * K)) else A.D (wo + 4) f := fun f => by
      by_cases y : f = 7 * K + 1
      · rw [y, rds, if_pos rfl]
      · rw [rdf y, if_neg y, cpy_Dq, if_pos rfl]
        rfl
    have dA : ∀ a f, ¬ (a = wo + 4 ∧ 7 * K ≤ f ∧ f < 7 * K + 7) → ¬ (a = wo ∧ f = 13) → (((A.cpy la (wo + 4) (11 * k + 1) (7 * K) 7).sD (wo + 4) (7 * K + 1) (tk + nI t)).sD wo 13 (nI (K + 1))).D a f = A.D a f := fun a f y1 y2 => by
      by_cases y : a = wo + 4
      · rw [y, rdw (by omega), aV, if_neg (fun z => y1 (by omega)), if_neg (fun z => y1 ⟨y, z⟩)]
      · by_cases y3 : a = wo
        · rw [y3, rdf (fun z => y2 ⟨y3, z⟩), rdw (by omega), eT]
        · rw [rdw y3, rdw y, cpy_Dq, if_neg y]
    have aK : ∀ f, (((A.cpy la (wo + 4) (11 * k + 1) (7 * K) 7).sD (wo + 4) (7 * K + 1) (tk + nI t)).sD wo 13 (nI (K + 1))).D (wo + 4) (7 * K + f) = if f = 1 then tk + nI t else if f < 7 then A.D la (11 * k + 1 + f) else A.D (wo + 4) (7 * K + f) := fun f => by
      rw [rdw (by omega), aV]
      by_cases y : f = 1
      · rw [if_pos (by omega), if_pos y]
      · rw [if_neg (by omega), if_neg y]
        by_cases y2 : f < 7
        · rw [if_pos (by omega), if_pos y2, show 7 * K + f - 7 * K = f by omega]
        · rw [if_neg (by omega), if_neg y2]
    have sA : same (WCA wo) A (((A.cpy la (wo + 4) (11 * k + 1) (7 * K) 7).sD (wo + 4) (7 * K + 1) (tk + nI t)).sD wo 13 (nI (K + 1))) := ⟨fun a f y => dA a f (fun z => y (.inr (by omega))) (fun z => y (.inl ⟨z.1, by omega⟩)), rfl, rfl, rfl, rfl⟩
    have aD13 : (((A.cpy la (wo + 4) (11 * k + 1) (7 * K) 7).sD (wo + 4) (7 * K + 1) (tk + nI t)).sD wo 13 (nI (K + 1))).D wo 13 = nI (K + 1) := rds
    generalize (((A.cpy la (wo + 4) (11 * k + 1) (7 * K) 7).sD (wo + 4) (7 * K + 1) (tk + nI t)).sD wo 13 (nI (K + 1))) = A2 at *
    have sB : same (WCB u) B B2 := (((same.rf.sD (.inr (by omega))).sD (.inr (by omega))).sD (.inr (by omega))).tr (r2.mono fun a f y => by unfold WCB; omega)
    refine ⟨1, 1, A2, B2, upR Q 5 2 (K + 1), eA, eB, Iff.rfl, sA, sB, ?_, fun x _ _ _ y => upR_o y, upR_n (by decide), fun cc => ⟨cc.1, fun q c m y1 y2 y3 y4 y5 => by
      rw [upR_o (by decide)] at y2 y3
      rw [dB _ _ (by omega) (by omega) (by omega) (by omega) (by omega)]
      exact cc.2.1 q c m y1 y2 y3 y4 y5, fun k' hk' e' q y1 y2 y3 y4 => by
      rw [upR_s] at hk'
      by_cases y : k' = K
      · rw [y]
        rw [y, b5] at y1
        have e8 := hE.2.2.2.2.2.1
        have ee : e = e' := (nI_eq (by omega) (by omega)).mp y1
        rw [← ee] at y3 y4
        have e4 := (hE.2.2.2.2.2.2.2.1 e he).1
        rw [b8 q (by omega)]
        exact f5 q y3 (by omega) y4
      · have e4 := (hE.2.2.2.2.2.2.2.1 e' y2).1
        rw [dB _ _ (by omega) (by omega) (by omega) (by omega) (by omega)] at y1
        rw [dB _ _ (by omega) (by omega) (by omega) (by omega) (by omega)]
        exact cc.2.2.1 k' (by omega) e' q y1 y2 y3 y4, fun k' hk' => by
      rw [upR_s] at hk'
      by_cases y : k' = K
      · exact ⟨e, he, by rw [y, b5]⟩
      · obtain ⟨e', e1, e2⟩ := cc.2.2.2 k' (by omega)
        exact ⟨e', e1, by rw [dB _ _ (by omega) (by omega) (by omega) (by omega) (by omega)]; exact e2⟩⟩, fun q => .inl (by rw [upR_o (by decide)])⟩
    unfold WRL PPL PPB
    rw [upR_o (show (0 : Nat) ≠ 5 by decide), upR_o (show (1 : Nat) ≠ 5 by decide), upR_o (show (2 : Nat) ≠ 5 by decide), upR_n (show (0 : Nat) ≠ 2 by decide), upR_n (show (1 : Nat) ≠ 2 by decide), upR_n (show (3 : Nat) ≠ 2 by decide), upR_s]
    refine ⟨fun q hq => by rw [dA _ _ (by omega) (by omega), dA _ _ (by omega) (by omega)]; exact w1 q hq, fun q hq => by rw [dB _ _ (by omega) (by omega) (by omega) (by omega) (by omega), dB _ _ (by omega) (by omega) (by omega) (by omega) (by omega), dB _ _ (by omega) (by omega) (by omega) (by omega) (by omega)]; exact w2 q hq, fun q c m y1 y2 y3 y4 => by rw [dA _ _ (by omega) (by omega), dB _ _ (by omega) (by omega) (by omega) (by omega) (by omega)]; exact w3 q c m y1 y2 y3 y4, ⟨by rw [dA _ _ (by omega) (by omega)]; exact w4.1, w4.2⟩, ⟨by rw [dA _ _ (by omega) (by omega)]; exact w5.1, w5.2⟩, ⟨aD13, r3, by omega, fun k' hk' => ?_⟩, by rw [dA _ _ (by omega) (by omega)]; exact w7.1, by rw [dB _ _ (by omega) (by omega) (by omega) (by omega) (by omega)]; exact w7.2.1, w7.2.2.1, fun k hk => by rw [dA _ _ (by omega) (by omega), dB _ _ (by omega) (by omega) (by omega) (by omega) (by omega)]; exact w7.2.2.2 k hk⟩
    by_cases y : k' = K
    · subst y
      refine ⟨?_, ?_, ?_, fun e' q y1 y2 y3 => ?_⟩
      · rw [b5, show 7 * k' = 7 * k' + 0 from rfl, aK, if_neg (by decide), if_pos (by decide)]
        exact f1
      · rw [b6, aK, if_pos rfl]
      · rw [b7, aK, if_neg (by decide), if_pos (by decide)]
        exact f3
      · have e8 := hE.2.2.2.2.2.1
        rw [b5] at y1
        have ee : e = e' := (nI_eq (by omega) (by omega)).mp y1
        rw [← ee] at y3
        have e4 := (hE.2.2.2.2.2.2.2.1 e he).1
        rw [b8 q (by omega), show 7 * k' + 3 + q = 7 * k' + (3 + q) by omega, aK, if_neg (by omega), if_pos (by omega), ← f4 q y3 (by omega), show 11 * k + 1 + (3 + q) = 11 * k + (4 + q) by omega]
    · obtain ⟨m0, m1, m2, m3⟩ := w6.2.2.2 k' (by omega)
      rw [dA _ _ (by omega) (by omega), dA _ _ (by omega) (by omega), dA _ _ (by omega) (by omega), dB _ _ (by omega) (by omega) (by omega) (by omega) (by omega), dB _ _ (by omega) (by omega) (by omega) (by omega) (by omega), dB _ _ (by omega) (by omega) (by omega) (by omega) (by omega)]
      refine ⟨m0, m1, m2, fun e' q y1 y2 y3 => ?_⟩
      have e4 := (hE.2.2.2.2.2.2.2.1 e' y2).1
      rw [dA _ _ (by omega) (by omega), dB _ _ (by omega) (by omega) (by omega) (by omega) (by omega)]
      exact m3 e' q y1 y2 y3
  · have : Q 5 2 = 256 := by omega
    rw [if_neg (show ¬ nI (Q 5 2) < (256 : Int32) from nI_nlt (b := 256) (by omega) (by omega)), bC_v, ck_t (by decide)] at eA
    rw [if_pos (by rw [this]; rfl), bC_v, ck_t (by decide)] at eB
    exact ⟨0, 0, A, B, Q, eA, eB, Iff.rfl, same.rf, same.rf, hW', fun x _ _ _ _ => rfl, rfl, id, fun q => .inl rfl⟩
end Par
