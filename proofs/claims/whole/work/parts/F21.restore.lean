/-! ===== the OUT is read, both sides ===== -/
/-- the head, then the places, as one function that may throw -/
def rs0 (N p0 p1 p2 : Nat) (H13 : Hp) : Option (Ot Unit × Hp) :=
  bT (F_Store_readNumber N p0 (1 : Int32) (87 : Int32) (87 : Int32) H13) fun _ H16 =>
  bT (F_Store_readNumber N p0 (1 : Int32) (69 : Int32) (69 : Int32) H16) fun _ H21 =>
  rf (H21.P p1 2) fun a24 =>
  bT (F_Store_readShapes N p0 a24 H21) fun _ H28 =>
  rf (H28.P p1 3) fun a31 =>
  bT (F_Store_readShapes N p0 a31 H28) fun _ H35 =>
  bT (F_Store_readNumber N p0 (4 : Int32) (0 : Int32) (1000000000 : Int32) H35) fun v39 H40 =>
  bnd (H40.sD p2 0 v39) fun H43 =>
  bT (F_Store_readNumber N p0 (4 : Int32) ((-2147483648) : Int32) (2147483647 : Int32) H43) fun v45 H46 =>
  bnd (H46.sD p2 1 v45) fun H49 =>
  bT (F_Store_readNumber N p0 (4 : Int32) (0 : Int32) (1000000000 : Int32) H49) fun v51 H52 =>
  bnd (H52.sD p2 2 v51) fun H55 =>
  bT (F_Store_readNumber N p0 (4 : Int32) (0 : Int32) (1000000000 : Int32) H55) fun v57 H58 =>
  bnd (H58.sD p2 3 v57) fun H61 =>
  rsP N p0 p1 p2 N 0 H61
theorem rsP_eq {N p0 p1 p2 : Nat} : ∀ n l3 H, B_Store_restore_104 N p0 p1 p2 n l3 H = bH (rsP N p0 p1 p2 n l3 H) (fun _ H => some (1, H)) (fun x H => ck (H.sh[x]? = some (17, 0)) <| B_Store_restore_143 N p0 p1 p2 x H) := by
  intro n
  induction n with
  | zero => intro l3 H; rfl
  | succ n ih =>
    intro l3 H
    rw [B_Store_restore_104, rsP]
    by_cases c : (256 : Int32) ≤ l3
    · rw [if_pos c, if_pos c, bH_ck, bH_rf]
      simp only [bH_ck, bH_bT]
    · rw [if_neg c, if_neg c, bH_ck, bH_rf]
      simp only [bH_ck, bH_bT, ih]
theorem rs_eq {N p0 p1 p2 : Nat} {H : Hp} : F_Store_restore N p0 p1 p2 H = (ck (H.sh[p0]? = some (11, 0)) <| bnd (H.sD p0 5 (0 : Int32)) fun H2 => ck (H2.sh[p1]? = some (4, 0)) <| rf (H2.P p1 2) fun a4 => ck (H2.sh[a4]? = some (3, 0)) <| bC (F_Shapes_total N a4 H2) fun v8 H9 => ck (H9.sh[p2]? = some (7, 0)) <| bC (F_World_clear N p2 (0 : Int32) v8 H9) fun _ H13 => bH (rs0 N p0 p1 p2 H13) (fun _ H => some (1, H)) (fun x H => ck (H.sh[x]? = some (17, 0)) <| B_Store_restore_143 N p0 p1 p2 x H)) := by
  unfold F_Store_restore rs0
  simp only [bH_bT, bH_rf, rsP_eq, bnd_t]
/-- the reference, behind all numbers -/
def tl1 (H : Hp) : Option (Unit × Hp) := if (0 : Int32) ≤ H.D 517 28 then some ((), H) else if H.D 517 22 ≤ H.D 517 27 then some ((), H) else some ((), H.sD 517 28 (H.D 517 27))
def Rq8 (N um : Nat) (H : Hp) : Option (Unit × Hp) := bC (F_M_getsPending N 517 um H) fun _ H41 => tl1 H41
def Rq7 (N um : Nat) (H : Hp) : Option (Unit × Hp) := bC (F_M_getsPlaces N 517 um H) fun _ H38 => Rq8 N um H38
def Rq6 (N um : Nat) (H : Hp) : Option (Unit × Hp) := bC (F_M_gets N 517 (4 : Int32) (0 : Int32) (1000000000 : Int32) H) fun v33 H34 => Rq7 N um (H34.sD um 3 v33)
def Rq5 (N um : Nat) (H : Hp) : Option (Unit × Hp) := bC (F_M_gets N 517 (4 : Int32) (0 : Int32) (1000000000 : Int32) H) fun v29 H30 => Rq6 N um (H30.sD um 2 v29)
def Rq4 (N um : Nat) (H : Hp) : Option (Unit × Hp) := bC (F_M_gets N 517 (4 : Int32) ((-2147483648) : Int32) (2147483647 : Int32) H) fun v25 H26 => Rq5 N um (H26.sD um 1 v25)
def Rq3 (N um : Nat) (H : Hp) : Option (Unit × Hp) := bC (F_M_gets N 517 (4 : Int32) (0 : Int32) (1000000000 : Int32) H) fun v21 H22 => Rq4 N um (H22.sD um 0 v21)
def gB (N um : Nat) (H : Hp) : Option (Unit × Hp) := bC (F_M_getsTables N 517 H) fun _ H19 => Rq3 N um H19
/-- what was read is the same world -/
def LPost (E : Nat → Nat → Nat) (um : Nat) (A B : Hp) : Prop := ∃ Q cnt t, WRV A 19 B um E Q 256 0 ∧ (∀ x, x < 256 → Q 0 x ≤ 8000000) ∧ cnt ≤ 256 ∧ (∀ i, i < cnt → PN1 A 19 B um E i) ∧ A.D 19 13 = nI cnt ∧ B.D um 8 = nI cnt ∧ t ≤ 1000000000 ∧ A.D 19 0 = nI t ∧ B.D um 0 = nI t ∧ A.D 19 1 = B.D um 1 ∧ A.D 19 2 = B.D um 2 ∧ A.D 19 3 = B.D um 3 ∧ A.D 19 6 = 0 ∧ A.D 19 15 = 0 ∧ B.D um 13 = -1 ∧ B.D um 16 = 0 ∧ B.D 517 28 = -1
section Par
variable {N p wo inp cs w u ir M K0 : Nat} {s pl : Int32} {ty mn nu cd : Nat → Int32} {E Q : Nat → Nat → Nat} {V : Nat → Nat → Int32} {nL lc : Nat} {lk : Nat → Nat} {hd : Nat → Int32}
theorem zt {um : Nat} {B0 : Hp} : ZK um B0 tl1 := fun H W hW sH h28 => ⟨(), H, by unfold tl1; rw [h28, if_pos (show (0 : Int32) ≤ nI W from nI_le (a := 0) (by omega) (by omega))], h28, same.rf⟩
theorem z8 {um : Nat} {Nm : Nat → Nat → List Nat} {Pv : Nat → Nat → Int32} {A0 B0 : Hp} (hN : 300 ≤ N) (hD : LDT p cs w M ty mn nu cd E Nm Pv um A0 B0) : ZK um B0 (Rq8 N um) := fun H W hW sH h28 => by
  have hum := hD.2.2.2.1
  have hu := lU_le hum
  have hGH := sH.gr hD.2.1
  have U := gr_U hGH um hum
  have s1 : same (LDB um) H (H.sD um 8 0) := same.rf.sD (.inr ⟨by omega, by omega⟩)
  obtain ⟨N1, hN1⟩ : ∃ y, N = y + 1 := ⟨N - 1, by omega⟩
  have zz := z15 (N := N) (nB := N1) (l := 0) (KB := fun _ H41 => tl1 H41) hD zt
  rw [← hN1] at zz
  obtain ⟨y, B2, z1, z2, z3⟩ := zz (H.sD um 8 0) W hW (sH.tr s1) (by rw [rdw (by omega)]; exact h28)
  refine ⟨y, B2, ?_, z2, s1.tr z3⟩
  unfold Rq8 F_M_getsPending
  rw [ck_t (rS_517 hGH), bC_t (gz hGH hW h28), ck_t (US U), bnd_t]
  exact z1
theorem z7 {um : Nat} {Nm : Nat → Nat → List Nat} {Pv : Nat → Nat → Int32} {A0 B0 : Hp} (hE : WE E) (hN : 300 ≤ N) (hD : LDT p cs w M ty mn nu cd E Nm Pv um A0 B0) : ZK um B0 (Rq7 N um) := zq (N := N) (KB := fun _ H38 => Rq8 N um H38) hE hN hD (z8 hN hD) 256 0 N (by omega) (by omega)
theorem zs {um f : Nat} {v : Int32} {B0 : Hp} {R : Hp → Option (Unit × Hp)} (hum : um ∈ lU) (h : ZK um B0 R) : ZK um B0 (fun H => R (H.sD um f v)) := fun H W hW sH h28 => by
  have hu := lU_le hum
  have s1 : same (LDB um) H (H.sD um f v) := same.rf.sD (.inr ⟨by omega, by omega⟩)
  obtain ⟨y, B2, z1, z2, z3⟩ := h (H.sD um f v) W hW (sH.tr s1) (by rw [rdw (by omega)]; exact h28)
  exact ⟨y, B2, z1, z2, s1.tr z3⟩
theorem zg {um f : Nat} {k lo hi : Int32} {B0 : Hp} {R : Hp → Option (Unit × Hp)} (hG : Gr B0) (hum : um ∈ lU) (h : ZK um B0 R) : ZK um B0 (fun H => bC (F_M_gets N 517 k lo hi H) fun v H' => R (H'.sD um f v)) := fun H W hW sH h28 => by
  dsimp only
  rw [bC_t (gz (sH.gr hG) hW h28)]
  exact zs hum h H W hW sH h28
/-- the end: events, then no byte more -/
theorem S8 {T um : Nat} {Nm : Nat → Nat → List Nat} {Pv : Nat → Nat → Int32} {A0 B0 A B : Hp} {nA t : Nat} (hE : WE E) (hN : 300 ≤ N) (hD : LDT p cs w M ty mn nu cd E Nm Pv um A0 B0) (hEv : ∃ x, x ≤ 4 ∧ B0.D (w + 16) 0 = nI x) (sA : same LDA A0 A) (sB : same (LDB um) B0 B) (hR : ∃ x, RDS T x A B) (hV : WRV A 19 B um E Q 256 0) (hg : ∀ x, x < 256 → Q 0 x ≤ 8000000) (ht : t ≤ 1000000000) (h0 : A.D 19 0 = nI t ∧ B.D um 0 = nI t) (h1 : A.D 19 1 = B.D um 1) (h2 : A.D 19 2 = B.D um 2) (h3 : A.D 19 3 = B.D um 3) (hs : A.D 19 6 = 0 ∧ A.D 19 15 = 0 ∧ B.D um 13 = -1 ∧ B.D um 16 = 0) : LOut um A B (rsP N 131 p 19 (nA + 1) (nI 256) A) (Rq8 N um B) (fun _ A' _ B' => LPost E um A' B') := by
  have hum := hD.2.2.2.1
  have hu := lU_le hum
  obtain ⟨hGA, hGB, ⟨-, -, hp, hwT, -⟩, -, b3⟩ := hD.fr hE sA sB
  have P := gr_P hGA hp
  obtain ⟨x0, hR0⟩ := hR
  unfold Rq8 F_M_getsPending
  rw [rsP, if_pos (show (256 : Int32) ≤ nI 256 by decide), ck_t (PrS P), rf_t (PrP_3 P), ck_t (rS_131 hGA)]
  unfold F_Store_readEvents
  rw [ck_t (rS_131 hGA), bT_as, ck_t (rS_517 hGB), bC_as]
  refine (rn_raw (N := N) (k := 2) (lo := 0) (hi := 256) hN hGA hGB hR0 (by omega)).bd (fun v A1 y B1 r1 r2 hp1 => ?_) (fun H WW hW sH h28 => ?_)
  · obtain ⟨rfl, v1, v2, x1, hR1⟩ := hp1
    obtain ⟨cnt, hc, rfl⟩ := nI_small (n := 257) v1 (fun k => v2 (Decidable.byContradiction fun z => i32_nlt.mpr k ((i32_le (c := 256) (by decide)).mp (i32_nlt.mp z)))) (by decide)
    have hGB1 := r2.gr hGB
    have U1 := gr_U hGB1 um hum
    have tB : same (LDB um) B1 (B1.sD um 8 (nI cnt)) := same.rf.sD (.inr ⟨by omega, by omega⟩)
    have gB2 : ∀ a f, ¬ (a = um ∧ f = 8) → (B1.sD um 8 (nI cnt)).D a f = B1.D a f := fun a f z => rdnn z
    have q8 : (B1.sD um 8 (nI cnt)).D um 8 = nI cnt := rds
    rw [ck_t (US U1), bnd_t]
    generalize B1.sD um 8 (nI cnt) = B2 at *
    have fA : ∀ a f, a ≠ 131 → A1.D a f = A.D a f := fun a f z => r1.1 _ _ (by unfold RDA; omega)
    have fB : ∀ a f, a ≠ 517 → ¬ (a = um ∧ f = 8) → B2.D a f = B.D a f := fun a f z1 z2 => by rw [gB2 _ _ z2, r2.1 _ _ (by unfold RDBb; omega)]
    have lA1 : same LDA A A1 := r1.mono fun a f z => .inl z
    have lB1 : same (LDB um) B B1 := r2.mono fun a f z => .inl z
    refine LOut.pre ?_ same.rf tB
    refine pv_out (N := N) (T := T) (KA := fun _ H69 => F_Store_readEnd N 131 H69) (KB := fun _ H41 => tl1 H41) hE hN hD (show cnt ≤ 256 by omega) hEv zt cnt 0 N N A1 B2 (by omega) (by omega) (by omega) (sA.tr lA1) (sB.tr (lB1.tr tB)) ⟨x1, hR1.fr (fun _ _ _ => rfl) (fun a f z => gB2 a f (by omega))⟩ q8 (by rw [fA _ _ (by omega), fB _ _ (by omega) (by omega), h0.1, h0.2]) (fun i hi => by omega) (fun A' B' t1 t2 t3 t4 t5 => ?_)
    have fA' : ∀ a f, a ≠ 131 → a ≠ 23 → ¬ (a = 19 ∧ f = 13) → A'.D a f = A.D a f := fun a f z1 z2 z3 => by rw [t1.1 _ _ (by unfold PVA RDA; omega)]; exact fA a f z1
    have fB' : ∀ a f, a ≠ 517 → ¬ (um + 5 ≤ a ∧ a ≤ um + 8) → ¬ (a = um ∧ f = 8) → B'.D a f = B.D a f := fun a f z1 z2 z3 => by rw [t2.1 _ _ (by unfold PVB RDBb; omega)]; exact fB a f z1 z3
    have b8' : B'.D um 8 = nI cnt := by rw [t2.1 _ _ (by unfold PVB RDBb; omega)]; exact q8
    obtain ⟨c, e0, e1, e2, e3, e4, e5, e6, e7⟩ := t3
    have hGA' := t1.gr (r1.gr hGA)
    have eA : F_Store_readEnd N 131 A' = (if nI T ≤ nI c then some (.inl (), A') else some (.inr A'.sh.length, (A'.sD 131 2 (nI c)).nx (17, 0) 6)) := by
      unfold F_Store_readEnd
      rw [ck_t (rS_131 hGA'), bnd_t, e4, bnd_t, e2, bnd_t, bnd_t]
      rfl
    have eB : tl1 B' = (if nI T ≤ nI c then some ((), B') else some ((), B'.sD 517 28 (nI c))) := by
      unfold tl1
      rw [e6, if_neg (by decide), e3, e5]
    rw [eA, eB]
    by_cases z : T ≤ c
    · rw [if_pos (nI_le z (by omega)), if_pos (nI_le z (by omega))]
      refine .inr ⟨(), A', (), B', rfl, rfl, same.rf, same.rf, Q, cnt, t, hV.fr2 (fun a f y => fA' a f (by omega) (by omega) (by omega)) (fun a f y1 y2 => fB' a f (by omega) (by omega) (by omega)), hg, by omega, t4, t5, b8', ht, ?_, ?_, ?_, ?_, ?_, ?_, ?_, ?_, ?_, e6⟩
      · rw [fA' _ _ (by omega) (by omega) (by omega)]; exact h0.1
      · rw [fB' _ _ (by omega) (by omega) (by omega)]; exact h0.2
      · rw [fA' _ _ (by omega) (by omega) (by omega), fB' _ _ (by omega) (by omega) (by omega)]; exact h1
      · rw [fA' _ _ (by omega) (by omega) (by omega), fB' _ _ (by omega) (by omega) (by omega)]; exact h2
      · rw [fA' _ _ (by omega) (by omega) (by omega), fB' _ _ (by omega) (by omega) (by omega)]; exact h3
      · rw [fA' _ _ (by omega) (by omega) (by omega)]; exact hs.1
      · rw [fA' _ _ (by omega) (by omega) (by omega)]; exact hs.2.1
      · rw [fB' _ _ (by omega) (by omega) (by omega)]; exact hs.2.2.1
      · rw [fB' _ _ (by omega) (by omega) (by omega)]; exact hs.2.2.2
    · rw [if_neg (nI_ge (by omega) (by omega)), if_neg (nI_ge (by omega) (by omega))]
      refine .inl ⟨_, _, (), _, c, rfl, rfl, ?_, by rw [nx_D, rds], rds, by omega, ⟨⟨⟨[(17, 0)], rfl⟩, fun a f _ y => ⟨by rw [nx_D]; exact rdnn (fun z => y (.inl ⟨z.1, .inl z.2⟩)), rfl⟩⟩, rfl⟩, ?_, rfl, same.rf.sD (.inl ⟨rfl, .inr rfl⟩)⟩
      · show (A'.sh ++ [(17, 0)])[A'.sh.length]? = some (17, 0)
        rw [List.getElem?_append_right (Nat.le_refl _), Nat.sub_self]
        rfl
      · show (A'.sh ++ [(17, 0)]).length = A'.sh.length + 1
        rw [List.length_append]
        rfl
  · have hGH := sH.gr hGB
    have U := gr_U hGH um hum
    have s1 : same (LDB um) H (H.sD um 8 0) := same.rf.sD (.inr ⟨by omega, by omega⟩)
    obtain ⟨N1, hN1⟩ : ∃ y, N = y + 1 := ⟨N - 1, by omega⟩
    have zz := z15 (N := N) (nB := N1) (l := 0) (KB := fun _ H41 => tl1 H41) hD zt
    rw [← hN1] at zz
    obtain ⟨y, B2, z1, z2, z3⟩ := zz (H.sD um 8 0) WW hW ((sB.tr (sH.mono fun a f z => .inl z)).tr s1) (by rw [rdw (by omega)]; exact h28)
    refine ⟨y, B2, ?_, z2, s1.tr z3⟩
    rw [ck_t (US U), bnd_t]
    exact z1
end Par
