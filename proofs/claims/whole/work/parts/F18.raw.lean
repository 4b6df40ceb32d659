/-! ===== numbers, once more ===== -/
/-- a number, with what is left behind a failure -/
def RAW {α : Type} (A B : Hp) (fA : Option (Ot α × Hp)) (fB : Option (Int32 × Hp)) (Post : α → Hp → Int32 → Hp → Prop) : Prop :=
  (∃ x A' B' W, fA = some (.inr x, A') ∧ fB = some (0, B') ∧ A'.sh[x]? = some (17, 0) ∧ A'.D 131 2 = nI W ∧ B'.D 517 28 = nI W ∧ W < 2 ^ 31 ∧ gwP LDA A A' ∧ A'.sh.length = A.sh.length + 1 ∧ A'.sl = A.sl + 6 ∧ same RDBb B B') ∨
  (∃ v A' y B', fA = some (.inl v, A') ∧ fB = some (y, B') ∧ same RDA A A' ∧ same RDBb B B' ∧ Post v A' y B')
theorem RAW.bd {α γ δ : Type} {um : Nat} {A B : Hp} {fA : Option (Ot α × Hp)} {fB : Option (Int32 × Hp)} {Post : α → Hp → Int32 → Hp → Prop} {K : α → Hp → Option (Ot γ × Hp)} {K' : Int32 → Hp → Option (δ × Hp)} {Post' : γ → Hp → δ → Hp → Prop} (h : RAW A B fA fB Post) (hs : ∀ v A' y B', same RDA A A' → same RDBb B B' → Post v A' y B' → LOut um A' B' (K v A') (K' y B') Post') (hz : ∀ B' W, W < 2 ^ 31 → same RDBb B B' → B'.D 517 28 = nI W → ∃ y B2, K' 0 B' = some (y, B2) ∧ B2.D 517 28 = nI W ∧ same (LDB um) B' B2) : LOut um A B (bT fA K) (bC fB K') Post' := by
  rcases h with ⟨x, A', B', W, e1, e2, e3, e4, e5, e6, e7, e8, e9, e10⟩ | ⟨v, A', y, B', e1, e2, e3, e4, e5⟩
  · obtain ⟨y2, B2, z1, z2, z3⟩ := hz B' W e6 e10 e5
    refine .inl ⟨x, A', y2, B2, W, ?_, ?_, e3, e4, z2, e6, e7, e8, e9, (e10.mono fun a f y => .inl y).tr z3⟩
    · rw [e1]; rfl
    · rw [bC_t e2]; exact z1
  · have e6 := hs v A' y B' e3 e4 e5
    rw [bT_t e1, bC_t e2]
    exact e6.pre (e3.mono fun a f y => .inl y) (e4.mono fun a f y => .inl y)
section Par
variable {N p wo inp cs w u ir M K0 : Nat} {s pl : Int32} {ty mn nu cd : Nat → Int32} {E Q : Nat → Nat → Nat} {V : Nat → Nat → Int32} {nL lc : Nat} {lk : Nat → Nat} {hd : Nat → Int32}
theorem rn_raw {T c k : Nat} {lo hi : Int32} {A B : Hp} (hN : 300 ≤ N) (hGA : Gr A) (hGB : Gr B) (h : RDS T c A B) (hk : k ≤ 4) : RAW A B (F_Store_readNumber N 131 (nI k) lo hi A) (F_M_gets N 517 (nI k) lo hi B) (fun v A' y B' => y = v ∧ ¬ v < lo ∧ ¬ hi < v ∧ ∃ c', RDS T c' A' B') := by
  obtain ⟨t0, t1, t2, t3, t4, t5, t6, t7⟩ := h
  have eA : F_Store_readNumber N 131 (nI k) lo hi A = (if nI k ≤ nI (T - c) then B_Store_readNumber_37 N 131 (nI k) lo hi N 0 0 A else some (.inr A.sh.length, (A.sD 131 2 (nI T)).nx (17, 0) 6)) := by
    unfold F_Store_readNumber
    rw [ck_t (rS_131 hGA), bnd_t, t2, bnd_t, t4, nI_dif t1, bnd_t, bnd_t]
    rfl
  have eB : F_M_gets N 517 (nI k) lo hi B = (if nI (c + k) ≤ nI T then B_M_gets_31 N 517 (nI k) lo hi 0 B else B_M_gets_31 N 517 (nI k) lo hi 0 (B.sD 517 28 (nI T))) := by
    unfold F_M_gets
    rw [ck_t (rS_517 hGB), bnd_t, t6, if_neg (by decide), bnd_t, t5, bnd_t, t3, nI_ad, bnd_t, bnd_t]
  have gf : ∀ W, gwP LDA A ((A.sD 131 2 (nI W)).nx (17, 0) 6) := fun W => ⟨⟨⟨[(17, 0)], rfl⟩, fun a f _ y => ⟨by rw [nx_D]; exact rdnn (fun z => y (.inl ⟨z.1, .inl z.2⟩)), rfl⟩⟩, rfl⟩
  have gx : ∀ W, ((A.sD 131 2 (nI W)).nx (17, 0) 6).sh[A.sh.length]? = some (17, 0) := fun W => by
    show (A.sh ++ [(17, 0)])[A.sh.length]? = some (17, 0)
    rw [List.getElem?_append_right (Nat.le_refl _), Nat.sub_self]
    rfl
  have gl : ∀ W, ((A.sD 131 2 (nI W)).nx (17, 0) 6).sh.length = A.sh.length + 1 := fun W => by
    show (A.sh ++ [(17, 0)]).length = A.sh.length + 1
    rw [List.length_append]
    rfl
  by_cases y : c + k ≤ T
  · rw [if_pos (nI_le (by omega) (by omega))] at eA
    rw [if_pos (nI_le (by omega) (by omega))] at eB
    obtain ⟨n, hn⟩ : ∃ n, N = n + 1 + k := ⟨N - 1 - k, by omega⟩
    have eA2 : B_Store_readNumber_37 N 131 (nI k) lo hi (n + 1 + k) (nI 0) (nI 0) A = _ := rl_A (N := N) (lo := lo) (hi := hi) hGA hk t4 (by omega) k 0 n (nI 0) (by omega)
    have eB2 : B_M_gets_43 N 517 (nI k) lo hi (n + 1 + k) (nI 0) (nI 0) B = _ := rl_B (N := N) (lo := lo) (hi := hi) hGB hk t5 (by omega) k 0 n (nI 0) (by omega)
    rw [← hn] at eA2 eB2
    rw [← gvL_eq k 0 (nI 0) (fun x _ y2 => t7 (c + x) (by omega))] at eB2
    generalize gvL (A.D 132) c k 0 (nI 0) = v at eA2 eB2
    have eA3 : F_Store_readNumber N 131 (nI k) lo hi A = (if v < lo then some (.inr A.sh.length, (A.sD 131 2 (nI c)).nx (17, 0) 6) else if v ≤ hi then some (.inl v, A.sD 131 5 (nI (c + k))) else some (.inr A.sh.length, (A.sD 131 2 (nI c)).nx (17, 0) 6)) := by
      refine eA.trans (eA2.trans ?_)
      rw [B_Store_readNumber_37, if_pos (nI_le (Nat.le_refl _) (by omega))]
      unfold B_Store_readNumber_85
      rw [ck_t (rS_131 hGA), bnd_t, t4, bnd_t, ck_t (rS_131 hGA), bnd_t, nI_ad, bnd_t]
      rfl
    have e43 : B_M_gets_43 N 517 (nI k) lo hi (n + 1) v (nI k) B = (if (if v < lo then (0 : Int32) else if hi < v then 0 else 1) = 0 then some (0, (B.sD 517 28 (nI c)).sD 517 27 (nI (c + k))) else some (v, B.sD 517 27 (nI (c + k)))) := by
      have G1 : Gr (B.sD 517 28 (nI c)) := hGB.sD
      rw [B_M_gets_43, if_pos (nI_le (Nat.le_refl _) (by omega)), bC_t (ev_in (a := lo.toInt64) (b := hi.toInt64) (lo := lo) (hi := hi) rfl rfl), ck_t (rS_517 hGB), bnd_t, t5, bnd_t]
      unfold B_M_gets_100
      rw [ck_t (rS_517 G1), bnd_t, rdf (by decide), t5, nI_ad, bnd_t, bnd_t, rdf (by decide), rds, if_pos (show (0 : Int32) ≤ nI c from nI_le (a := 0) (by omega) (by omega)), ck_t (rS_517 hGB), bnd_t, nI_ad, bnd_t, bnd_t, rdf (by decide), t6, if_neg (show ¬ (0 : Int32) ≤ -1 by decide)]
    have eB3 : F_M_gets N 517 (nI k) lo hi B = (if (if v < lo then (0 : Int32) else if hi < v then 0 else 1) = 0 then some (0, (B.sD 517 28 (nI c)).sD 517 27 (nI (c + k))) else some (v, B.sD 517 27 (nI (c + k)))) := by
      rw [eB]
      unfold B_M_gets_31
      rw [ck_t (rS_517 hGB), bnd_t, t6, if_pos (by decide)]
      exact eB2.trans e43
    have sf : same RDBb B ((B.sD 517 28 (nI c)).sD 517 27 (nI (c + k))) := (same.rf.sD ⟨rfl, .inr rfl⟩).sD ⟨rfl, .inl rfl⟩
    have d28 : ((B.sD 517 28 (nI c)).sD 517 27 (nI (c + k))).D 517 28 = nI c := by rw [rdf (by decide), rds]
    by_cases v1 : v < lo
    · rw [if_pos v1] at eA3
      rw [if_pos v1, if_pos rfl] at eB3
      exact .inl ⟨_, _, _, c, eA3, eB3, gx c, by rw [nx_D, rds], d28, by omega, gf c, gl c, rfl, sf⟩
    rw [if_neg v1] at eA3 eB3
    by_cases v2 : v ≤ hi
    · rw [if_pos v2] at eA3
      rw [if_neg (Int32.not_lt.mpr v2), if_neg (by decide)] at eB3
      have sA : same RDA A (A.sD 131 5 (nI (c + k))) := same.rf.sD ⟨rfl, .inr rfl⟩
      have sB : same RDBb B (B.sD 517 27 (nI (c + k))) := same.rf.sD ⟨rfl, .inl rfl⟩
      refine .inr ⟨v, _, v, _, eA3, eB3, sA, sB, rfl, v1, Int32.not_lt.mpr v2, c + k, t0, y, ?_, ?_, rds, rds, ?_, fun i hi => ?_⟩
      · rw [rdf (by decide)]; exact t2
      · rw [rdf (by decide)]; exact t3
      · rw [rdf (by decide)]; exact t6
      · rw [rdw (by decide), rdw (by decide)]; exact t7 i hi
    · rw [if_neg v2] at eA3
      rw [if_pos (Int32.not_le.mp v2), if_pos rfl] at eB3
      exact .inl ⟨_, _, _, c, eA3, eB3, gx c, by rw [nx_D, rds], d28, by omega, gf c, gl c, rfl, sf⟩
  · rw [if_neg (nI_ge (by omega) (by omega))] at eA
    rw [if_neg (nI_ge (by omega) (by omega))] at eB
    have G1 : Gr (B.sD 517 28 (nI T)) := hGB.sD
    refine .inl ⟨_, _, B.sD 517 28 (nI T), T, eA, ?_, gx T, by rw [nx_D, rds], rds, by omega, gf T, gl T, rfl, same.rf.sD ⟨rfl, .inr rfl⟩⟩
    rw [eB]
    unfold B_M_gets_31
    rw [ck_t (rS_517 G1), bnd_t, rds, if_neg (show ¬ nI T < (0 : Int32) from nI_nlt (b := 0) (by omega) (by omega))]
/-- a member's value, with what is left behind a failure -/
theorem rm_raw {T kd : Nat} {A B : Hp} (hN : 300 ≤ N) (hGA : Gr A) (hGB : Gr B) (h : ∃ c, RDS T c A B) (hk : kd ≤ 4) : RAW A B (F_Store_readMember N 131 (nI kd) A) (F_M_getsOf N 517 (nI kd) B) (fun v A' y B' => y = v ∧ ∃ c', RDS T c' A' B') := by
  obtain ⟨c, h⟩ := h
  have go : ∀ lo hi : Int32, RAW A B (bT (F_Store_readNumber N 131 4 lo hi A) fun v H => some (.inl v, H)) (bC (F_M_gets N 517 4 lo hi B) fun v H => some (v, H)) (fun v A' y B' => y = v ∧ ∃ c', RDS T c' A' B') := fun lo hi => by
    rcases rn_raw (N := N) (k := 4) (lo := lo) (hi := hi) hN hGA hGB h (by omega) with ⟨x, A', B', W, e1, e2, e3⟩ | ⟨v, A', y, B', e1, e2, e3, e4, e5⟩
    · refine .inl ⟨x, A', B', W, ?_, ?_, e3⟩
      · rw [show F_Store_readNumber N 131 4 lo hi A = some (.inr x, A') from e1]; rfl
      · rw [show F_M_gets N 517 4 lo hi B = some (0, B') from e2, bC_v]
    · refine .inr ⟨v, A', y, B', ?_, ?_, e3, e4, e5.1, e5.2.2.2⟩
      · rw [show F_Store_readNumber N 131 4 lo hi A = some (.inl v, A') from e1]; rfl
      · rw [show F_M_gets N 517 4 lo hi B = some (y, B') from e2, bC_v]
  have e1 : (nI kd = (1 : Int32)) = (kd = 1) := propext (nI_eq (b := 1) (by omega) (by decide))
  have e3 : (nI kd = (3 : Int32)) = (kd = 3) := propext (nI_eq (b := 3) (by omega) (by decide))
  have e4 : (nI kd = (4 : Int32)) = (kd = 4) := propext (nI_eq (b := 4) (by omega) (by decide))
  unfold F_Store_readMember F_M_getsOf B_M_getsOf_42
  simp only [e1, e3, e4, ck_t (rS_131 hGA), ck_t (rS_517 hGB)]
  by_cases k1 : kd = 1
  · rw [if_pos k1, if_pos k1]
    exact go _ _
  · rw [if_neg k1, if_neg k1]
    by_cases k3 : kd = 3
    · rw [if_pos k3, if_pos k3]
      exact go _ _
    · rw [if_neg k3, if_neg k3]
      by_cases k4 : kd = 4
      · rw [if_pos k4, if_pos k4]
        exact go _ _
      · rw [if_neg k4, if_neg k4]
        exact go _ _
theorem WRV.fr2 {A B A2 B2 : Hp} {q m0 : Nat} (h : WRV A wo B u E Q q m0) (dA : ∀ a f, (a = wo ∧ (f = 9 ∨ f = 10)) ∨ (wo + 1 ≤ a ∧ a ≤ wo + 3) → A2.D a f = A.D a f) (dB : ∀ a f, u + 1 ≤ a → a ≤ u + 4 → B2.D a f = B.D a f) : WRV A2 wo B2 u E Q q m0 := by
  obtain ⟨w1, w2, w3, w4, w5⟩ := h
  exact ⟨fun x hx => by rw [dA _ _ (by omega), dA _ _ (by omega)]; exact w1 x hx, fun x hx => by rw [dB _ _ (by omega) (by omega), dB _ _ (by omega) (by omega), dB _ _ (by omega) (by omega)]; exact w2 x hx, fun x c m y1 y2 y3 y4 y5 => by rw [dA _ _ (by omega), dB _ _ (by omega) (by omega)]; exact w3 x c m y1 y2 y3 y4 y5, ⟨by rw [dA _ _ (by omega)]; exact w4.1, w4.2⟩, ⟨by rw [dA _ _ (by omega)]; exact w5.1, w5.2⟩⟩
end Par
