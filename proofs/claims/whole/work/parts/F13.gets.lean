/-! ===== numbers are read from the OUT, both sides ===== -/
/-- the bytes o(c + i), o(c + i + 1) .. behind l -/
def gvL (o : Nat → Int32) (c : Nat) : Nat → Nat → Int32 → Int32
  | 0, _, l => l
  | j + 1, i, l => gvL o c j (i + 1) ((l <<< ((8 : Int32) &&& 31)) ||| (o (c + i) &&& 255))
theorem gvL_eq {o o2 : Nat → Int32} {c : Nat} : ∀ j i l, (∀ x, i ≤ x → x < i + j → o (c + x) = o2 (c + x)) → gvL o c j i l = gvL o2 c j i l := by
  intro j
  induction j with
  | zero => intro i l _; rfl
  | succ j ih =>
    intro i l h
    rw [gvL, gvL, h i (Nat.le_refl _) (by omega)]
    exact ih (i + 1) _ (fun x y1 y2 => h x (by omega) (by omega))
/-- both readers at byte c of T -/
def RDS (T c : Nat) (A B : Hp) : Prop := T ≤ 58000 ∧ c ≤ T ∧ A.D 131 1 = nI T ∧ B.D 517 22 = nI T ∧ A.D 131 5 = nI c ∧ B.D 517 27 = nI c ∧ B.D 517 28 = -1 ∧ ∀ i, i < T → A.D 132 i = B.D 622 i
def RDA (a f : Nat) : Prop := a = 131 ∧ (f = 2 ∨ f = 5)
def RDBb (a f : Nat) : Prop := a = 517 ∧ (f = 27 ∨ f = 28)
def LDA (a f : Nat) : Prop := RDA a f ∨ cW 19 a f
def LDB (um a f : Nat) : Prop := RDBb a f ∨ cU um a f
/-- as gw, and no reference has changed -/
def gwP (R : Nat → Nat → Prop) (A A' : Hp) : Prop := gw R A A' ∧ A'.P = A.P
theorem same.gwP {R : Nat → Nat → Prop} {A B : Hp} (h : same R A B) : gwP R A B := ⟨h.gw, h.2.1⟩
theorem gwP.tr {R : Nat → Nat → Prop} {A B C : Hp} (h : gwP R A B) (k : gwP R B C) : gwP R A C := ⟨h.1.tr k.1, by rw [k.2, h.2]⟩
theorem gwP.gr {R : Nat → Nat → Prop} {A B : Hp} (h : gwP R A B) (g : Gr A) : Gr B := by
  obtain ⟨⟨⟨m, h2⟩, -⟩, h3⟩ := h
  obtain ⟨⟨l, e⟩, g2⟩ := g
  exact ⟨⟨l ++ m, by rw [h2, e, List.append_assoc]⟩, fun q hq => by rw [h3]; exact g2 q hq⟩
/-- both fail at the same byte, or both go on -/
def LOut {α β : Type} (um : Nat) (A B : Hp) (fA : Option (Ot α × Hp)) (fB : Option (β × Hp)) (Post : α → Hp → β → Hp → Prop) : Prop :=
  (∃ x A' y B' W, fA = some (.inr x, A') ∧ fB = some (y, B') ∧ A'.sh[x]? = some (17, 0) ∧ A'.D 131 2 = nI W ∧ B'.D 517 28 = nI W ∧ W < 2 ^ 31 ∧ gwP LDA A A' ∧ A'.sh.length = A.sh.length + 1 ∧ A'.sl = A.sl + 6 ∧ same (LDB um) B B') ∨
  (∃ v A' y B', fA = some (.inl v, A') ∧ fB = some (y, B') ∧ same LDA A A' ∧ same (LDB um) B B' ∧ Post v A' y B')
/-- the reference, once wrong, goes through f -/
def ZK {β : Type} (um : Nat) (B0 : Hp) (f : Hp → Option (β × Hp)) : Prop := ∀ B' W, W < 2 ^ 31 → same (LDB um) B0 B' → B'.D 517 28 = nI W → ∃ y B2, f B' = some (y, B2) ∧ B2.D 517 28 = nI W ∧ same (LDB um) B' B2
theorem ZK.mv {β : Type} {um : Nat} {B0 B1 : Hp} {f : Hp → Option (β × Hp)} (h : ZK um B0 f) (hs : same (LDB um) B0 B1) : ZK um B1 f := fun B' W hW h1 h2 => h B' W hW (hs.tr h1) h2
theorem LOut.bind {α β γ δ : Type} {um : Nat} {A B : Hp} {fA : Option (Ot α × Hp)} {fB : Option (β × Hp)} {Post : α → Hp → β → Hp → Prop} {K : α → Hp → Option (Ot γ × Hp)} {K' : β → Hp → Option (δ × Hp)} {Post' : γ → Hp → δ → Hp → Prop} (h : LOut um A B fA fB Post) (hs : ∀ v A' y B', same LDA A A' → same (LDB um) B B' → Post v A' y B' → LOut um A' B' (K v A') (K' y B') Post') (hz : ∀ y, ZK um B (K' y)) : LOut um A B (bT fA K) (bC fB K') Post' := by
  rcases h with ⟨x, A', y, B', W, e1, e2, e3, e4, e5, e6, e7, e8, e9, e10⟩ | ⟨v, A', y, B', e1, e2, e3, e4, e5⟩
  · obtain ⟨y2, B2, z1, z2, z3⟩ := hz y B' W e6 e10 e5
    refine .inl ⟨x, A', y2, B2, W, ?_, ?_, e3, e4, z2, e6, e7, e8, e9, e10.tr z3⟩
    · rw [e1]; rfl
    · rw [bC_t e2]; exact z1
  · have e6 := hs v A' y B' e3 e4 e5
    have eA : bT fA K = K v A' := by rw [e1]; rfl
    have eB : bC fB K' = K' y B' := bC_t e2
    rw [eA, eB]
    rcases e6 with ⟨x, A2, y2, B2, W, f1, f2, f3, f4, f5, f6, f7, f8, f9, f10⟩ | ⟨v2, A2, y2, B2, f1, f2, f3, f4, f5⟩
    · exact .inl ⟨x, A2, y2, B2, W, f1, f2, f3, f4, f5, f6, e3.gwP.tr f7, by rw [f8, e3.2.2.2.1], by rw [f9, e3.2.2.2.2], e4.tr f10⟩
    · exact .inr ⟨v2, A2, y2, B2, f1, f2, e3.tr f3, e4.tr f4, f5⟩
theorem LOut.pre {α β : Type} {um : Nat} {A B A1 B1 : Hp} {fA : Option (Ot α × Hp)} {fB : Option (β × Hp)} {Post : α → Hp → β → Hp → Prop} (h : LOut um A1 B1 fA fB Post) (hA : same LDA A A1) (hB : same (LDB um) B B1) : LOut um A B fA fB Post := by
  rcases h with ⟨x, A2, y2, B2, W, f1, f2, f3, f4, f5, f6, f7, f8, f9, f10⟩ | ⟨v2, A2, y2, B2, f1, f2, f3, f4, f5⟩
  · exact .inl ⟨x, A2, y2, B2, W, f1, f2, f3, f4, f5, f6, hA.gwP.tr f7, by rw [f8, hA.2.2.2.1], by rw [f9, hA.2.2.2.2], hB.tr f10⟩
  · exact .inr ⟨v2, A2, y2, B2, f1, f2, hA.tr f3, hB.tr f4, f5⟩
section Par
variable {N p wo inp cs w u ir M K0 : Nat} {s pl : Int32} {ty mn nu cd : Nat → Int32} {E Q : Nat → Nat → Nat} {V : Nat → Nat → Int32} {nL lc : Nat} {lk : Nat → Nat} {hd : Nat → Int32}
theorem rl_A {k c : Nat} {lo hi : Int32} {A : Hp} (hG : Gr A) (hk : k ≤ 4) (hc : A.D 131 5 = nI c) (h6 : c + k ≤ 60000) : ∀ j i n l, i + j = k → B_Store_readNumber_37 N 131 (nI k) lo hi (n + 1 + j) l (nI i) A = B_Store_readNumber_37 N 131 (nI k) lo hi (n + 1) (gvL (A.D 132) c j i l) (nI k) A := by
  intro j
  induction j with
  | zero =>
    intro i n l hi
    have : i = k := by omega
    rw [this]
    rfl
  | succ j ih =>
    intro i n l hi
    rw [show n + 1 + (j + 1) = n + 1 + j + 1 by omega, B_Store_readNumber_37, if_neg (nI_ge (by omega) (by omega)), ck_t (rS_131 hG), rf_t (rP_131_0 hG), bnd_t, hc, ar_t (rA_131_0 hG), nI_ad, rdI (show c + i < 60000 by omega) (by decide), bnd_t, nI_1, ih (i + 1) n _ (by omega)]
    rfl
theorem rl_B {k c : Nat} {lo hi : Int32} {B : Hp} (hG : Gr B) (hk : k ≤ 4) (hc : B.D 517 27 = nI c) (h6 : c + k ≤ 58000) : ∀ j i n l, i + j = k → B_M_gets_43 N 517 (nI k) lo hi (n + 1 + j) l (nI i) B = B_M_gets_43 N 517 (nI k) lo hi (n + 1) (gvL (B.D 622) c j i l) (nI k) B := by
  intro j
  induction j with
  | zero =>
    intro i n l hi
    have : i = k := by omega
    rw [this]
    rfl
  | succ j ih =>
    intro i n l hi
    rw [show n + 1 + (j + 1) = n + 1 + j + 1 by omega, B_M_gets_43, if_neg (nI_ge (by omega) (by omega)), ck_t (rS_517 hG), rf_t (rP_517_21 hG), bnd_t, hc, ar_t (rA_517_21 hG), nI_ad, rdI (show c + i < 58000 by omega) (by decide), bnd_t, nI_1, ih (i + 1) n _ (by omega)]
    rfl
theorem rn_lo {T c k um : Nat} {lo hi : Int32} {A B : Hp} (hN : 300 ≤ N) (hGA : Gr A) (hGB : Gr B) (h : RDS T c A B) (hk : k ≤ 4) : LOut um A B (F_Store_readNumber N 131 (nI k) lo hi A) (F_M_gets N 517 (nI k) lo hi B) (fun v A' y B' => y = v ∧ ¬ v < lo ∧ ¬ hi < v ∧ same RDA A A' ∧ same RDBb B B' ∧ ∃ c', RDS T c' A' B') := by
  obtain ⟨t0, t1, t2, t3, t4, t5, t6, t7⟩ := h
  have eA : F_Store_readNumber N 131 (nI k) lo hi A = (if nI k ≤ nI (T - c) then B_Store_readNumber_37 N 131 (nI k) lo hi N 0 0 A else some (.inr A.sh.length, (A.sD 131 2 (nI T)).nx (17, 0) 6)) := by
    unfold F_Store_readNumber
    rw [ck_t (rS_131 hGA), bnd_t, t2, bnd_t, t4, nI_dif t1, bnd_t, bnd_t]
    rfl
  have eB : F_M_gets N 517 (nI k) lo hi B = (if nI (c + k) ≤ nI T then B_M_gets_31 N 517 (nI k) lo hi 0 B else B_M_gets_31 N 517 (nI k) lo hi 0 (B.sD 517 28 (nI T))) := by
    unfold F_M_gets
    rw [ck_t (rS_517 hGB), bnd_t, t6, if_neg (by decide), bnd_t, t5, bnd_t, t3, nI_ad, bnd_t, bnd_t]
  have gf : ∀ W, gwP LDA A ((A.sD 131 2 (nI W)).nx (17, 0) 6) := fun W => ⟨⟨⟨[(17, 0)], rfl⟩, fun a f _ y => ⟨by rw [nx_D]; exact rdnn (fun z => y (.inl ⟨z.1, .inl z.2⟩)), rfl⟩⟩, rfl⟩
  have gx : ∀ W, ((A.sD 131 2 (nI W)).nx (17, 0) 6).sh[A.sh.length]? = some (17, 0) := fun W => by
    show (A.sh ++ [(17, 0)])[A.sh.length]? = some (17, 0)
    rw [List.getElem?_append_right (Nat.le_refl _), Nat.sub_self]
    rfl
  have gl : ∀ W, ((A.sD 131 2 (nI W)).nx (17, 0) 6).sh.length = A.sh.length + 1 := fun W => by
    show (A.sh ++ [(17, 0)]).length = A.sh.length + 1
    rw [List.length_append]
    rfl
  by_cases y : c + k ≤ T
  · rw [if_pos (nI_le (by omega) (by omega))] at eA
    rw [if_pos (nI_le (by omega) (by omega))] at eB
    obtain ⟨n, hn⟩ : ∃ n, N = n + 1 + k := ⟨N - 1 - k, by omega⟩
    have eA2 : B_Store_readNumber_37 N 131 (nI k) lo hi (n + 1 + k) (nI 0) (nI 0) A = _ := rl_A (N := N) (lo := lo) (hi := hi) hGA hk t4 (by omega) k 0 n (nI 0) (by omega)
    have eB2 : B_M_gets_43 N 517 (nI k) lo hi (n + 1 + k) (nI 0) (nI 0) B = _ := rl_B (N := N) (lo := lo) (hi := hi) hGB hk t5 (by omega) k 0 n (nI 0) (by omega)
    rw [← hn] at eA2 eB2
    rw [← gvL_eq k 0 (nI 0) (fun x _ y2 => t7 (c + x) (by omega))] at eB2
    generalize gvL (A.D 132) c k 0 (nI 0) = v at eA2 eB2
    have eA3 : F_Store_readNumber N 131 (nI k) lo hi A = (if v < lo then some (.inr A.sh.length, (A.sD 131 2 (nI c)).nx (17, 0) 6) else if v ≤ hi then some (.inl v, A.sD 131 5 (nI (c + k))) else some (.inr A.sh.length, (A.sD 131 2 (nI c)).nx (17, 0) 6)) := by
      refine eA.trans (eA2.trans ?_)
      rw [B_Store_readNumber_37, if_pos (nI_le (Nat.le_refl _) (by omega))]
      unfold B_Store_readNumber_85
      rw [ck_t (rS_131 hGA), bnd_t, t4, bnd_t, ck_t (rS_131 hGA), bnd_t, nI_ad, bnd_t]
      rfl
    have e43 : B_M_gets_43 N 517 (nI k) lo hi (n + 1) v (nI k) B = (if (if v < lo then (0 : Int32) else if hi < v then 0 else 1) = 0 then some (0, (B.sD 517 28 (nI c)).sD 517 27 (nI (c + k))) else some (v, B.sD 517 27 (nI (c + k)))) := by
      have G1 : Gr (B.sD 517 28 (nI c)) := hGB.sD
      rw [B_M_gets_43, if_pos (nI_le (Nat.le_refl _) (by omega)), bC_t (ev_in (a := lo.toInt64) (b := hi.toInt64) (lo := lo) (hi := hi) rfl rfl), ck_t (rS_517 hGB), bnd_t, t5, bnd_t]
      unfold B_M_gets_100
      rw [ck_t (rS_517 G1), bnd_t, rdf (by decide), t5, nI_ad, bnd_t, bnd_t, rdf (by decide), rds, if_pos (show (0 : Int32) ≤ nI c from nI_le (a := 0) (by omega) (by omega)), ck_t (rS_517 hGB), bnd_t, nI_ad, bnd_t, bnd_t, rdf (by decide), t6, if_neg (show ¬ (0 : Int32) ≤ -1 by decide)]
    have eB3 : F_M_gets N 517 (nI k) lo hi B = (if (if v < lo then (0 : Int32) else if hi < v then 0 else 1) = 0 then some (0, (B.sD 517 28 (nI c)).sD 517 27 (nI (c + k))) else some (v, B.sD 517 27 (nI (c + k)))) := by
      rw [eB]
      unfold B_M_gets_31
      rw [ck_t (rS_517 hGB), bnd_t, t6, if_pos (by decide)]
      exact eB2.trans e43
    have sf : same (LDB um) B ((B.sD 517 28 (nI c)).sD 517 27 (nI (c + k))) := (same.rf.sD (.inl ⟨rfl, .inr rfl⟩)).sD (.inl ⟨rfl, .inl rfl⟩)
    have d28 : ((B.sD 517 28 (nI c)).sD 517 27 (nI (c + k))).D 517 28 = nI c := by rw [rdf (by decide), rds]
    by_cases v1 : v < lo
    · rw [if_pos v1] at eA3
      rw [if_pos v1, if_pos rfl] at eB3
      exact .inl ⟨_, _, _, _, c, eA3, eB3, gx c, by rw [nx_D, rds], d28, by omega, gf c, gl c, rfl, sf⟩
    rw [if_neg v1] at eA3 eB3
    by_cases v2 : v ≤ hi
    · rw [if_pos v2] at eA3
      rw [if_neg (Int32.not_lt.mpr v2), if_neg (by decide)] at eB3
      have sA : same RDA A (A.sD 131 5 (nI (c + k))) := same.rf.sD ⟨rfl, .inr rfl⟩
      have sB : same RDBb B (B.sD 517 27 (nI (c + k))) := same.rf.sD ⟨rfl, .inl rfl⟩
      refine .inr ⟨v, _, v, _, eA3, eB3, sA.mono fun a f z => .inl z, sB.mono fun a f z => .inl z, rfl, v1, Int32.not_lt.mpr v2, sA, sB, c + k, t0, y, ?_, ?_, rds, rds, ?_, fun i hi => ?_⟩
      · rw [rdf (by decide)]; exact t2
      · rw [rdf (by decide)]; exact t3
      · rw [rdf (by decide)]; exact t6
      · rw [rdw (by decide), rdw (by decide)]; exact t7 i hi
    · rw [if_neg v2] at eA3
      rw [if_pos (Int32.not_le.mp v2), if_pos rfl] at eB3
      exact .inl ⟨_, _, _, _, c, eA3, eB3, gx c, by rw [nx_D, rds], d28, by omega, gf c, gl c, rfl, sf⟩
  · rw [if_neg (nI_ge (by omega) (by omega))] at eA
    rw [if_neg (nI_ge (by omega) (by omega))] at eB
    have G1 : Gr (B.sD 517 28 (nI T)) := hGB.sD
    refine .inl ⟨_, _, 0, B.sD 517 28 (nI T), T, eA, ?_, gx T, by rw [nx_D, rds], rds, by omega, gf T, gl T, rfl, same.rf.sD (.inl ⟨rfl, .inr rfl⟩)⟩
    rw [eB]
    unfold B_M_gets_31
    rw [ck_t (rS_517 G1), bnd_t, rds, if_neg (show ¬ nI T < (0 : Int32) from nI_nlt (b := 0) (by omega) (by omega))]
/-- once wrong, nothing is read -/
theorem gz {W : Nat} {k lo hi : Int32} {B : Hp} (hG : Gr B) (hW : W < 2 ^ 31) (h : B.D 517 28 = nI W) : F_M_gets N 517 k lo hi B = some (0, B) := by
  unfold F_M_gets
  rw [ck_t (rS_517 hG), bnd_t, h, if_pos (show (0 : Int32) ≤ nI W from nI_le (a := 0) (by omega) (by omega))]
  unfold B_M_gets_31
  rw [ck_t (rS_517 hG), bnd_t, h, if_neg (show ¬ nI W < (0 : Int32) from nI_nlt (b := 0) (by omega) (by omega))]
theorem gzx {W : Nat} {v : Int32} {B : Hp} (hG : Gr B) (hW : W < 2 ^ 31) (h : B.D 517 28 = nI W) : F_M_getsExactly N 517 v B = some ((), B) := by
  unfold F_M_getsExactly
  rw [ck_t (rS_517 hG), bC_t (gz hG hW h)]
theorem gzo {W : Nat} {v : Int32} {B : Hp} (hG : Gr B) (hW : W < 2 ^ 31) (h : B.D 517 28 = nI W) : F_M_getsOf N 517 v B = some (0, B) := by
  unfold F_M_getsOf B_M_getsOf_42
  rw [ck_t (rS_517 hG), bC_t (gz hG hW h), ck_t (rS_517 hG), bC_t (gz hG hW h), ck_t (rS_517 hG), bC_t (gz hG hW h), ck_t (rS_517 hG), bC_t (gz hG hW h)]
  repeat' split
  all_goals rfl
end Par
