/-! ===== all listed commands act alike ===== -/
/-- a drop of place q's generation i is listed -/
def LDR (B : Hp) (K q i : Nat) : Prop := ∃ k, k < K ∧ B.D 612 (12 * k) = 223 ∧ B.D 612 (12 * k + 1) = nI (256 * i + q)
/-- what acting changes, with the count of what passed -/
def WDA (wo a f : Nat) : Prop := WCA wo a f ∨ (a = wo ∧ f = 3)
def WDB (u a f : Nat) : Prop := WCB u a f ∨ (a = u ∧ f = 3)
/-- between commands -/
def ACI (A : Hp) (p wo la z : Nat) (B : Hp) (w u K : Nat) (E Q : Nat → Nat → Nat) (Pv : Nat → Nat → Int32) (tk : Int32) : Prop := Gr A ∧ Gr B ∧ wo ∈ lW ∧ u ∈ lU ∧ A.P 116 2 = .ref wo ∧ B.P 611 1 = .ref u ∧ LST A la z ∧ 11 * K ≤ z ∧ K ≤ 32768 ∧ WRL A wo B u E Q ∧ ATX A p B w E Pv ∧ CMX A la B E tk K ∧ A.D wo 0 = tk ∧ A.D 117 1 = nI K ∧ B.D 611 4 = nI K ∧ A.D wo 3 = B.D u 3
section Par
variable {N p wo inp cs w u ir M K0 : Nat} {s pl : Int32} {ty mn nu cd : Nat → Int32} {E Q : Nat → Nat → Nat} {V : Nat → Nat → Int32} {nL lc : Nat} {lk : Nat → Nat} {hd : Nat → Int32}
theorem ac_all {A B : Hp} {Pv : Nat → Nat → Int32} {tk : Int32} {la z K k : Nat} (hPv : PVN E Pv) (hN : 300 ≤ N) (hE : WE E) (h : ACI A p wo la z B w u K E Q Pv tk) (hk : k < K) (hgen : B.D 612 (12 * k) = 223 → liv Q (B.D 612 (12 * k + 1)) → Q 0 (lo8 (B.D 612 (12 * k + 1))) + 1 < 8388608) : ACT N wo u la k E Q A B := by
  obtain ⟨a1, a2, a3, a4, a5, a6, a7, a8, a9, a10, a11, a12, a13, -⟩ := h
  have hS : ACS A la z B wo u k E Q := ⟨a1, a2, a3, a4, a5, a6, a7, by omega, by omega, a10⟩
  have c := a12 k hk
  unfold crowx crowg at c
  rcases c with ⟨c1, c2, fb, n, c3, c4, c5, c6, c7, c8, c9⟩ | ⟨c1, c2, c3, -⟩ | ⟨c, c1, c2, c3, c4, c5⟩ | ⟨c, m, c1, c2, c3, c4, c5, c6, c7, c8, c9, c10⟩ | ⟨e, t, c1, c2, c3, c4, c5, c6, c7, c8, c9, c10, c11⟩ | ⟨c1, c2, c3⟩
  · exact ac_spawn hPv hN hE a11 hS c3 c4 c1 c2 c5 c6 c7 c8 c9
  · exact ac_drop hS (hgen c2) c1 c2 c3 rfl
  · rcases c2 with ⟨d1, d2⟩ | ⟨d1, d2⟩
    · exact ac_give hN hE a11 hS c1 d1 d2 c3 rfl c4 c5
    · exact ac_take hS (by have := hE.1; omega) d1 d2 c3 rfl c4 c5
  · exact ac_put hE hS c1 c2 c3 c4 rfl c5 c6 c7 c8 c9 c10
  · exact ac_emit hN hE a13 hS c1 c4 c5 c6 c7 c8 c9 c10 (fun i x1 x2 => (c11 i x1 x2).1) (fun i x1 x2 => (c11 i x1 x2).2)
  · exact ac_show a1 a2 a3 a4 a5 a6 a7 (by omega) (by omega) c1 c2 c3 a10
theorem ACI.ne {A B : Hp} {Pv : Nat → Nat → Int32} {tk : Int32} {la z K : Nat} (h : ACI A p wo la z B w u K E Q Pv tk) : (∀ f, ¬ WDA wo la f) ∧ (∀ a f, 115 ≤ a → ¬ WDA wo a f) ∧ (∀ a f, a ≤ 580 ∨ 611 ≤ a → ¬ WDB u a f) := by
  obtain ⟨a1, a2, a3, a4, a5, a6, a7, -⟩ := h
  have hwo := lW_le a3
  have hu' := lU_le a4
  have l3 := a7.2.2.1
  refine ⟨fun f => ?_, fun a f y => ?_, fun a f y => ?_⟩
  · unfold WDA WCA; omega
  · unfold WDA WCA; omega
  · unfold WDB WCB; omega
/-- what stays while commands act -/
theorem ACI.fr {A B A2 B2 : Hp} {Q2 : Nat → Nat → Nat} {Pv : Nat → Nat → Int32} {tk : Int32} {la z K : Nat} (h : ACI A p wo la z B w u K E Q Pv tk) (hA : same (WDA wo) A A2) (hB : same (WDB u) B B2) (hW : WRL A2 wo B2 u E Q2) (h3 : A2.D wo 3 = B2.D u 3) : ACI A2 p wo la z B2 w u K E Q2 Pv tk := by
  obtain ⟨n1, n2, n3⟩ := h.ne
  obtain ⟨a1, a2, a3, a4, a5, a6, a7, a8, a9, a10, a11, a12, a13, a14, a15, a16⟩ := h
  have hwo := lW_le a3
  have hu' := lU_le a4
  obtain ⟨t1, t2, t3, t4, t5, t6, ⟨t7, t71, t72, t73⟩, ⟨t8, t81⟩, t9, t91⟩ := a11
  have hT' := lT_le t2
  have dA : ∀ a f, 115 ≤ a → A2.D a f = A.D a f := fun a f y => hA.1 a f (n2 a f y)
  have dB : ∀ a f, a ≤ 580 ∨ 611 ≤ a → B2.D a f = B.D a f := fun a f y => hB.1 a f (n3 a f y)
  refine ⟨hA.gr a1, hB.gr a2, a3, a4, by rw [hA.2.1]; exact a5, by rw [hB.2.1]; exact a6, ?_, a8, a9, hW, ⟨t1, t2, by rw [hA.2.1]; exact t3, by rw [hB.2.1]; exact t4, fun c hc => by rw [dA _ _ (by omega)]; exact t5 c hc, fun m hm => by rw [dA _ _ (by omega)]; exact t6 m hm, ⟨fun c hc => by rw [dB _ _ (by omega)]; exact t7 c hc, fun m hm => by rw [dB _ _ (by omega)]; exact t71 m hm, fun e he => by rw [dB _ _ (by omega)]; exact t72 e he, fun e q he hq => by rw [dB _ _ (by omega)]; exact t73 e q he hq⟩, ⟨by rw [dA _ _ (by omega)]; exact t8, fun f hf => ⟨by rw [dA _ _ (by omega)]; exact (t81 f hf).1, fun c m y1 y2 => by rw [dA _ _ (by omega)]; exact (t81 f hf).2 c m y1 y2⟩⟩, ⟨by rw [dB _ _ (by omega)]; exact t9, fun f hf => ⟨by rw [dB _ _ (by omega)]; exact (t91 f hf).1, fun c m y1 y2 => by rw [dB _ _ (by omega)]; exact (t91 f hf).2 c m y1 y2⟩⟩⟩, fun k hk => (a12 k hk).cg (fun x _ => hA.1 _ _ (n1 _)) (fun x _ => dB _ _ (by omega)), ?_, by rw [dA _ _ (by omega)]; exact a14, by rw [dB _ _ (by omega)]; exact a15, h3⟩
  · obtain ⟨l1, l2, l3, l4⟩ := a7
    exact ⟨by rw [hA.2.1]; exact l1, by rw [hA.2.2.2.1]; exact l2, l3, l4⟩
  · rw [hA.1 wo 0 (by unfold WDA WCA; omega)]; exact a13
/-- the loop over the listed commands -/
theorem acs_jo {kq47 : Int32 → Hp → Option (Unit × Hp)} {Pv : Nat → Nat → Int32} {tk g l4 : Int32} {la z K : Nat} {G : Nat → Nat} {B0 : Hp} (hPv : PVN E Pv) (hN : 300 ≤ N) (hE : WE E) (hG : ∀ q x, q < 256 → G q ≤ x → (∀ i, G q < i → i ≤ x → LDR B0 K q i) → x + 1 < 8388608) : ∀ j k fA fB A B Q, k + j = K → j < fA → j < fB → ACI A p wo la z B w u K E Q Pv tk → B.D 612 = B0.D 612 → LKC E Q B u → (∀ q, G q ≤ Q 0 q ∧ ∀ i, G q < i → i < Q 0 q → LDR B0 K q i) → ∃ A2 B2 Q2, B_Ticker_runGroup_99 N 116 g fA (nI k) A = some ((), A2) ∧ B_MRunner_tick_140 N 611 w u ir kq47 fB l4 (nI k) B = kq47 l4 B2 ∧ same (WDA wo) A A2 ∧ same (WDB u) B B2 ∧ ACI A2 p wo la z B2 w u K E Q2 Pv tk ∧ (∀ x, x ≠ 0 → x ≠ 1 → x ≠ 2 → x ≠ 5 → Q2 x = Q x) ∧ Q2 5 0 = Q 5 0 ∧ LKC E Q2 B2 u ∧ (∀ q, G q ≤ Q2 0 q ∧ ∀ i, G q < i → i < Q2 0 q → LDR B0 K q i) := by
  intro j
  induction j with
  | zero =>
    intro k fA fB A B Q hk hA hB hI h612 hlk hq
    obtain ⟨fA, rfl⟩ : ∃ y, fA = y + 1 := ⟨fA - 1, by omega⟩
    obtain ⟨fB, rfl⟩ : ∃ y, fB = y + 1 := ⟨fB - 1, by omega⟩
    refine ⟨A, B, Q, ?_, ?_, same.rf, same.rf, hI, fun _ _ _ _ _ => rfl, rfl, hlk, hq⟩
    · obtain ⟨a1, a2, a3, a4, a5, a6, a7, a8, a9, a10, a11, a12, a13, a14, a15, a16⟩ := hI
      rw [B_Ticker_runGroup_99, ck_t (rS_116 a1), rf_t (rP_116_0 a1), ck_t (rS_117 a1), bnd_t, a14, if_pos (show nI K ≤ nI k from nI_le (by omega) (by omega))]
    · obtain ⟨a1, a2, a3, a4, a5, a6, a7, a8, a9, a10, a11, a12, a13, a14, a15, a16⟩ := hI
      rw [B_MRunner_tick_140, ck_t (rS_611 a2), bnd_t, a15, if_pos (show nI K ≤ nI k from nI_le (by omega) (by omega))]
  | succ j ih =>
    intro k fA fB A B Q hk hA hB hI h612 hlk hq
    obtain ⟨fA, rfl⟩ : ∃ y, fA = y + 1 := ⟨fA - 1, by omega⟩
    obtain ⟨fB, rfl⟩ : ∃ y, fB = y + 1 := ⟨fB - 1, by omega⟩
    have lst : B.D 612 (12 * k) = 223 → liv Q (B.D 612 (12 * k + 1)) → LDR B0 K (lo8 (B.D 612 (12 * k + 1))) (Q 0 (lo8 (B.D 612 (12 * k + 1)))) := fun y1 y2 => ⟨k, by omega, by rw [← h612]; exact y1, by rw [← h612]; exact y2.2⟩
    obtain ⟨v, v', A1, B1, Q1, e1, e2, e3, e4, e5, e6, e7, e8, e10, e9⟩ := ac_all (k := k) hPv hN hE hI (by omega) (fun y1 y2 => hG _ _ lo8_lt (hq _).1 fun i z1 z2 => by
      by_cases z : i = Q 0 (lo8 (B.D 612 (12 * k + 1)))
      · rw [z]; exact lst y1 y2
      · exact (hq _).2 i z1 (by omega))
    have n3 := hI.ne.2.2
    have hI' := hI
    obtain ⟨a1, a2, a3, a4, a5, a6, a7, a8, a9, a10, a11, a12, a13, a14, a15, a16⟩ := hI
    have hwo := lW_le a3
    have hu' := lU_le a4
    have W1 := gr_W (e4.gr a1) wo a3
    have U := gr_U a2 u a4
    have U1 := gr_U (e5.gr a2) u a4
    have hz := (show ACS A la z B wo u k E Q from ⟨a1, a2, a3, a4, a5, a6, a7, by omega, by omega, a10⟩).z
    have w3 : A1.D wo 3 = A.D wo 3 := e4.1 _ _ (by unfold WCA; omega)
    have hsA : same (WDA wo) A (if v = 0 then A1.sD wo 3 (A.D wo 3 + 1) else A1) := by
      have := e4.mono (R := WDA wo) fun a f y => .inl y
      split
      · exact this.sD (.inr ⟨rfl, rfl⟩)
      · exact this
    have hsB : same (WDB u) B (B1.sD u 3 (B.D u 3 + (if v = 0 then 1 else 0))) := (e5.mono (R := WDB u) fun a f y => .inl y).sD (.inr ⟨rfl, rfl⟩)
    have eA : B_Ticker_runGroup_99 N 116 g (fA + 1) (nI k) A = B_Ticker_runGroup_99 N 116 g fA (nI (k + 1)) (if v = 0 then A1.sD wo 3 (A.D wo 3 + 1) else A1) := by
      rw [B_Ticker_runGroup_99, ck_t (rS_116 a1), rf_t (rP_116_0 a1), ck_t (rS_117 a1), bnd_t, a14, if_neg (show ¬ nI K ≤ nI k from nI_ge (by omega) (by omega)), rf_t (rP_116_0 a1), ck_t (rS_117 a1), rf_t a7.1, show nI k * (11 : Int32) = nI (11 * k) from by rw [Nat.mul_comm]; exact nI_mu k 11, bC_t e1]
      by_cases y : v = 0
      · rw [if_pos y, if_pos y, rf_t (show A1.P 116 2 = .ref wo by rw [e4.2.1]; exact a5), ck_t (WS W1), bnd_t, w3, bnd_t]
        unfold B_Ticker_runGroup_141
        rw [nI_1]
      · rw [if_neg y, if_neg y]
        unfold B_Ticker_runGroup_141
        rw [nI_1]
    have eB : B_MRunner_tick_140 N 611 w u ir kq47 (fB + 1) l4 (nI k) B = B_MRunner_tick_140 N 611 w u ir kq47 fB l4 (nI (k + 1)) (B1.sD u 3 (B.D u 3 + (if v = 0 then 1 else 0))) := by
      rw [B_MRunner_tick_140, ck_t (rS_611 a2), bnd_t, a15, if_neg (show ¬ nI K ≤ nI k from nI_ge (by omega) (by omega)), rf_t a6, ck_t (US U), bnd_t, show (12 : Int32) * nI k = nI (12 * k) from nI_mu 12 k, bC_t e2]
      by_cases y : v = 0
      · rw [if_pos (e3.mp y), if_pos y]
        unfold B_MRunner_tick_174
        rw [ck_t (US U1), bnd_t, nI_1]
      · rw [if_neg (fun z => y (e3.mpr z)), if_neg y]
        unfold B_MRunner_tick_174
        rw [ck_t (US U1), bnd_t, nI_1]
    have hI1 : ACI A1 p wo la z B1 w u K E Q1 Pv tk := hI'.fr (e4.mono fun a f y => .inl y) (e5.mono fun a f y => .inl y) e6 (by rw [w3, e5.1 _ _ (by unfold WCB; omega)]; exact a16)
    have hW2 : WRL (if v = 0 then A1.sD wo 3 (A.D wo 3 + 1) else A1) wo (B1.sD u 3 (B.D u 3 + (if v = 0 then 1 else 0))) u E Q1 := by
      have dA : ∀ a f, ¬ (a = wo ∧ f = 3) → (if v = 0 then A1.sD wo 3 (A.D wo 3 + 1) else A1).D a f = A1.D a f := fun a f y => by
        split
        · rw [rdnn y]
        · rfl
      have dB : ∀ a f, ¬ (a = u ∧ f = 3) → (B1.sD u 3 (B.D u 3 + (if v = 0 then 1 else 0))).D a f = B1.D a f := fun a f y => rdnn y
      obtain ⟨w1, w2, w3, w4, w5, w6, w7⟩ := e6
      refine ⟨fun q hq => by rw [dA _ _ (by omega), dA _ _ (by omega)]; exact w1 q hq, fun q hq => by rw [dB _ _ (by omega), dB _ _ (by omega), dB _ _ (by omega)]; exact w2 q hq, fun q c m y1 y2 y3 y4 => by rw [dA _ _ (by omega), dB _ _ (by omega)]; exact w3 q c m y1 y2 y3 y4, ⟨by rw [dA _ _ (by omega)]; exact w4.1, w4.2⟩, ⟨by rw [dA _ _ (by omega)]; exact w5.1, w5.2⟩, ⟨by rw [dA _ _ (by omega)]; exact w6.1, by rw [dB _ _ (by omega)]; exact w6.2.1, w6.2.2.1, fun k hk => ?_⟩, by rw [dA _ _ (by omega)]; exact w7.1, by rw [dB _ _ (by omega)]; exact w7.2.1, w7.2.2.1, fun k hk => by rw [dA _ _ (by omega), dB _ _ (by omega)]; exact w7.2.2.2 k hk⟩
      rw [dA _ _ (by omega), dA _ _ (by omega), dA _ _ (by omega), dB _ _ (by omega), dB _ _ (by omega), dB _ _ (by omega)]
      obtain ⟨m0, m1, m2, m3⟩ := w6.2.2.2 k hk
      exact ⟨m0, m1, m2, fun e q y1 y2 y3 => by rw [dA _ _ (by omega), dB _ _ (by omega)]; exact m3 e q y1 y2 y3⟩
    have h3 : (if v = 0 then A1.sD wo 3 (A.D wo 3 + 1) else A1).D wo 3 = (B1.sD u 3 (B.D u 3 + (if v = 0 then 1 else 0))).D u 3 := by
      rw [rds]
      by_cases y : v = 0
      · rw [if_pos y, if_pos y, rds, a16]
      · rw [if_neg y, if_neg y, w3, a16]
        exact (Int32.add_zero _).symm
    have hlk2 : LKC E Q1 (B1.sD u 3 (B.D u 3 + (if v = 0 then 1 else 0))) u := (e10 hlk).fr (fun q c m y1 y2 y3 y4 y5 => .inl ⟨y2, y3, rdw (by omega)⟩) rfl (fun a f y => rdw (by omega))
    generalize (if v = 0 then A1.sD wo 3 (A.D wo 3 + 1) else A1) = A2 at *
    generalize (B1.sD u 3 (B.D u 3 + (if v = 0 then 1 else 0))) = B2 at *
    have hq1 : ∀ q, G q ≤ Q1 0 q ∧ ∀ i, G q < i → i < Q1 0 q → LDR B0 K q i := fun q => by
      obtain ⟨y1, y2⟩ := hq q
      rcases e9 q with z | ⟨z, z1, z2, z3⟩
      · rw [z]; exact ⟨y1, y2⟩
      · rw [z]
        refine ⟨by omega, fun i x1 x2 => ?_⟩
        by_cases x : i = Q 0 q
        · have := lst z1 z2
          rw [z3] at this
          rw [x]; exact this
        · exact y2 i x1 (by omega)
    obtain ⟨A3, B3, Q3, r1, r2, r3, r4, r5, r6, r7, r9, r8⟩ := ih (k + 1) fA fB A2 B2 Q1 (by omega) (by omega) (by omega) (hI'.fr hsA hsB hW2 h3) (by
      rw [← h612]
      funext f
      exact hsB.1 _ _ (n3 _ _ (by omega))) hlk2 hq1
    exact ⟨A3, B3, Q3, by rw [eA]; exact r1, by rw [eB]; exact r2, hsA.tr r3, hsB.tr r4, r5, fun x y0 y1 y2 y5 => by rw [r6 x y0 y1 y2 y5, e7 x y0 y1 y2 y5], by rw [r7, e8], r9, r8⟩
end Par
