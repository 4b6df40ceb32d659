/-! ===== commands: both lists ===== -/
def EXK (k a f : Nat) : Prop := (a = 611 ∧ (f = 4 ∨ f = 11)) ∨ (a = 612 ∧ k ≤ f)
section Par
variable {N p wo inp cs w u ir M K0 : Nat} {s pl : Int32} {ty mn nu cd : Nat → Int32} {E Q : Nat → Nat → Nat} {V : Nat → Nat → Int32} {nL lc : Nat} {lk : Nat → Nat} {hd : Nat → Int32}
theorem ev_cmd {B : Hp} {mk : Nat} {t : Int32} (hG : Gr B) (h10 : B.D 611 10 = 0) (h4 : B.D 611 4 = nI (K0 + mk)) (h7 : B.D 611 7 = nI K0) (hK : K0 + 8 ≤ 32768) (hm : mk < 8) : F_MRunner_commanded N 611 t B = some (nI (12 * (K0 + mk)), (B.sD 611 4 (nI (K0 + mk + 1))).sD 612 (12 * (K0 + mk)) t) := by
  have hG1 : Gr (B.sD 611 4 (nI (K0 + mk + 1))) := hG
  unfold F_MRunner_commanded B_MRunner_commanded_27
  rw [ck_t (rS_611 hG), bnd_t, h10, if_pos rfl, bnd_t, h4, bnd_t, h7, nI_dif (by omega), if_neg (fun z => by have := (nI_eq (b := 8) (by omega) (by decide)).mp z; omega), ck_t (rS_611 hG), bnd_t, if_pos (by decide), bnd_t, show (12 : Int32) * nI (K0 + mk) = nI (12 * (K0 + mk)) from nI_mu 12 _, bnd_t, bnd_t, nI_1, bnd_t, rf_t (rP_611_3 hG1), ar_t (rA_611_3 hG1), wrI (by omega) (by decide)]
theorem ev_cm8 {B : Hp} {t : Int32} (hG : Gr B) (h10 : B.D 611 10 = 0) (h4 : B.D 611 4 = nI (K0 + 8)) (h7 : B.D 611 7 = nI K0) : F_MRunner_commanded N 611 t B = some (-1, B.sD 611 10 6) := by
  have hG1 : Gr (B.sD 611 10 6) := hG
  unfold F_MRunner_commanded B_MRunner_commanded_27 F_MRunner_fails
  rw [ck_t (rS_611 hG), bnd_t, h10, if_pos rfl, bnd_t, h4, bnd_t, h7, nI_dif (by omega), show K0 + 8 - K0 = 8 by omega, if_pos (show nI 8 = (8 : Int32) from rfl), ck_t (rS_611 hG), bnd_t, if_pos rfl, bnd_t, bC_v, ck_t (rS_611 hG1), bnd_t, rds, if_neg (by decide)]
theorem ev_cmf {B : Hp} {t : Int32} (hG : Gr B) (h10 : 0 < B.D 611 10) : F_MRunner_commanded N 611 t B = some (-1, B) := by
  unfold F_MRunner_commanded B_MRunner_commanded_27
  rw [ck_t (rS_611 hG), bnd_t, if_neg (fun z => by rw [z] at h10; exact absurd h10 (by decide)), ck_t (rS_611 hG), bnd_t, if_neg (fun z => by rw [Int32.lt_iff_toInt_lt] at h10; rw [Int32.le_iff_toInt_le] at z; omega)]
/-- a command is listed on both sides, or there are too many -/
theorem s_cmf {j j3 b pc2 mk st la z : Nat} {dr : Int32} {A B : Hp} {o : Nat → Int32} {X : Option (Unit × Hp)} (hF : (FIX N p wo w u K0 M E)) (hb : b + 1 ≤ pc2) {h : Nat} (hI : (SIN p wo inp cs w u ir M ty mn nu cd E Q V nL lc hd K0 j b h A la z B mk st dr)) (hC : CMO N s pl A la z (K0 + mk) mk pc2 0 o)
    (hX : mk < 8 → ∃ B3, X = some ((), B3) ∧ same (EXK (12 * (K0 + mk))) B B3 ∧ B3.D 611 4 = nI (K0 + mk + 1) ∧ B3.D 611 11 = nI j3 ∧ crow E (V 0 0) o (fun x => B3.D 612 (12 * (K0 + mk) + x)))
    (hX8 : mk = 8 → ∃ B4, X = some ((), B4) ∧ same (fun a f => a = 611 ∧ (f = 10 ∨ f = 11)) B B4 ∧ B4.D 611 10 = 6) : (SOK N s pl p wo inp cs w u ir M ty mn nu cd E Q V lc hd K0 X j3 b pc2 nL A la z B st) ∨ (SFL N s pl wo (Q 4 0 * Q 5 0) E (V 0 0) lc K0 X b pc2 A la z B st) := by
  obtain ⟨f1, f2, f3, f4, f5, f6, f7, f8⟩ := hF
  obtain ⟨i1, i2, i3, i4, i5⟩ := hI
  obtain ⟨c1, c2, c3, c4, c5, c6, c7, c8, c9, c10, c11, c12⟩ := i5
  have hlen := i1.1.1.1.len
  have hla := c1.2.2.1
  rcases hC with ⟨q, A', la', z', r1, r2, r3, r4, r5, r6, r7, r8⟩ | ⟨q, A', r1, r2, r3, r4, r5⟩
  · obtain ⟨B3, x1, x2, x3, x4, x5⟩ := hX q
    have eA : ∀ f, f = 13 ∨ f = 14 → A'.D 117 f = A.D 117 f := fun f y => r2.2.2.1 117 f (by omega) (by unfold EXC; omega) (by omega)
    have eB : ∀ f, f ≠ 4 → f ≠ 11 → B3.D 611 f = B.D 611 f := fun f y1 y2 => x2.1 611 f (by unfold EXK; omega)
    refine .inl ⟨A', la', z', B3, V, st, mk + 1, dr, ⟨1, by omega, by omega, r1, r2.mono FRA.ec, x2.mono (fun a f y => ?_), fun _ _ _ => rfl⟩, x1, i1.of f1 f4 f5 c1 r2 (fun a f y => by unfold EXC at y; omega), i2.fr f6 f7 x2 (fun a f y => by unfold EXK at y; omega), r3, ⟨x4, by rw [eB 10 (by decide) (by decide)]; exact i4.2.1, by rw [eB 12 (by decide) (by decide)]; exact i4.2.2.1, by rw [eB 9 (by decide) (by decide)]; exact i4.2.2.2⟩, r2.1, r4, r6, r5, by omega, by rw [eA 13 (.inl rfl)]; exact c6, c7, by rw [eA 14 (.inr rfl)]; exact c8, x3, by rw [eB 7 (by decide) (by decide)]; exact c10, by rw [eB 8 (by decide) (by decide)]; exact c11, fun k hk => ?_⟩
    · unfold EXK at y
      rcases y with y | y
      · exact .inl ⟨y.1, by omega⟩
      · exact .inr (.inl y.1)
    · by_cases qk : k = K0 + mk
      · subst qk
        exact x5.cg (fun x hx => r7 x hx) (fun x hx => rfl)
      · exact (c12 k (by omega)).cg (fun x hx => r8 _ (by omega)) (fun x hx => x2.1 612 _ (by unfold EXK; omega))
  · obtain ⟨B4, x1, x2, x3⟩ := hX8 q
    subst q
    refine .inr ⟨1, A', la, z, B4, 6, st, 8, by omega, by omega, by omega, r1, (r2.mono FRA.ec).exS c1, r3, by decide, r4, r5, by omega, x1, x2.mono (fun a f y => .inl ⟨y.1, by have := y.2; omega⟩), x3, (c12.mono (by omega)).cg (fun y _ => r2.1 la y (by unfold EXC; omega)) (fun y _ => x2.1 612 y (by omega))⟩
/-- the reference's command with up to four numbers -/
theorem c149 {B : Hp} {x mk : Nat} {t l2 l3 l4 l5 : Int32} (hG : Gr B) (h11 : B.D 611 11 = nI x) (h10 : B.D 611 10 = 0) (h4 : B.D 611 4 = nI (K0 + mk)) (h7 : B.D 611 7 = nI K0) (hK : K0 + 8 ≤ 32768) :
    (mk < 8 → ∃ B3, B_MRunner_commands_149 N 611 t l2 l3 l4 l5 B = some ((), B3) ∧ same (EXK (12 * (K0 + mk))) B B3 ∧ B3.D 611 4 = nI (K0 + mk + 1) ∧ B3.D 611 11 = nI (x + 1) ∧ B3.D 612 (12 * (K0 + mk)) = t ∧ B3.D 612 (12 * (K0 + mk) + 1) = l2 ∧ B3.D 612 (12 * (K0 + mk) + 2) = l3 ∧ B3.D 612 (12 * (K0 + mk) + 3) = l4 ∧ B3.D 612 (12 * (K0 + mk) + 4) = l5) ∧
    (mk = 8 → ∃ B4, B_MRunner_commands_149 N 611 t l2 l3 l4 l5 B = some ((), B4) ∧ same (fun a f => a = 611 ∧ (f = 10 ∨ f = 11)) B B4 ∧ B4.D 611 10 = 6) := by
  have hG1 : Gr (atB B (x + 1)) := hG
  have k10 : (atB B (x + 1)).D 611 10 = 0 := by rw [show (atB B (x + 1)).D 611 10 = B.D 611 10 from rdf (by decide)]; exact h10
  have k4 : (atB B (x + 1)).D 611 4 = nI (K0 + mk) := by rw [show (atB B (x + 1)).D 611 4 = B.D 611 4 from rdf (by decide)]; exact h4
  have k7 : (atB B (x + 1)).D 611 7 = nI K0 := by rw [show (atB B (x + 1)).D 611 7 = B.D 611 7 from rdf (by decide)]; exact h7
  have base : B_MRunner_commands_149 N 611 t l2 l3 l4 l5 B = bC (F_MRunner_commanded N 611 t (atB B (x + 1))) fun v28 H29 => if (0 : Int32) ≤ v28 then
      rf (H29.P 611 3) fun a31 => ar H29 100 a31 fun n33 => ck (inb (v28 + (1 : Int32)) n33) <| bnd (H29.sD a31 ((v28 + (1 : Int32))).toNatClampNeg l2) fun H36 =>
      rf (H36.P 611 3) fun a37 => ar H36 100 a37 fun n39 => ck (inb (v28 + (2 : Int32)) n39) <| bnd (H36.sD a37 ((v28 + (2 : Int32))).toNatClampNeg l3) fun H42 =>
      rf (H42.P 611 3) fun a43 => ar H42 100 a43 fun n45 => ck (inb (v28 + (3 : Int32)) n45) <| bnd (H42.sD a43 ((v28 + (3 : Int32))).toNatClampNeg l4) fun H48 =>
      rf (H48.P 611 3) fun a49 => ar H48 100 a49 fun n51 => ck (inb (v28 + (4 : Int32)) n51) <| bnd (H48.sD a49 ((v28 + (4 : Int32))).toNatClampNeg l5) fun H54 => some ((), H54)
      else some ((), H29) := by
    unfold B_MRunner_commands_149
    rw [ck_t (rS_611 hG), bnd_t, h11, nI_1, bnd_t]
    rfl
  constructor
  · intro q
    rw [bC_t (ev_cmd hG1 k10 k4 k7 hK q)] at base
    generalize hH : ((atB B (x + 1)).sD 611 4 (nI (K0 + mk + 1))).sD 612 (12 * (K0 + mk)) t = H at base
    have hGH : Gr H := by rw [← hH]; exact hG
    have hsH : same (EXK (12 * (K0 + mk))) B H := by
      rw [← hH]
      exact same.sD (same.sD (same.sD same.rf (.inl ⟨rfl, by omega⟩)) (.inl ⟨rfl, by omega⟩)) (.inr ⟨rfl, by omega⟩)
    have h4H : H.D 611 4 = nI (K0 + mk + 1) := by rw [← hH, rdw (by decide), rds]
    have h11H : H.D 611 11 = nI (x + 1) := by rw [← hH, rdw (by decide), rdf (by decide)]; exact rds
    have h0H : H.D 612 (12 * (K0 + mk)) = t := by rw [← hH, rds]
    generalize hk : 12 * (K0 + mk) = k at *
    have g1 : Gr (H.sD 612 (k + 1) l2) := hGH
    have g2 : Gr ((H.sD 612 (k + 1) l2).sD 612 (k + 2) l3) := hGH
    have g3 : Gr (((H.sD 612 (k + 1) l2).sD 612 (k + 2) l3).sD 612 (k + 3) l4) := hGH
    rw [if_pos (show (0 : Int32) ≤ nI k from nI_le (a := 0) (by omega) (by omega)), rf_t (rP_611_3 hGH), ar_t (rA_611_3 hGH), nI_1, wrI (by omega) (by decide), rf_t (rP_611_3 g1), ar_t (rA_611_3 g1), show nI k + (2 : Int32) = nI (k + 2) from nI_ad k 2, wrI (by omega) (by decide), rf_t (rP_611_3 g2), ar_t (rA_611_3 g2), show nI k + (3 : Int32) = nI (k + 3) from nI_ad k 3, wrI (by omega) (by decide), rf_t (rP_611_3 g3), ar_t (rA_611_3 g3), show nI k + (4 : Int32) = nI (k + 4) from nI_ad k 4, wrI (by omega) (by decide)] at base
    refine ⟨_, base, same.sD (same.sD (same.sD (same.sD hsH (.inr ⟨rfl, by omega⟩)) (.inr ⟨rfl, by omega⟩)) (.inr ⟨rfl, by omega⟩)) (.inr ⟨rfl, by omega⟩), ?_, ?_, ?_, ?_, ?_, ?_, ?_⟩
    · rw [rdw (by decide), rdw (by decide), rdw (by decide), rdw (by decide)]; exact h4H
    · rw [rdw (by decide), rdw (by decide), rdw (by decide), rdw (by decide)]; exact h11H
    · rw [rdf (by omega), rdf (by omega), rdf (by omega), rdf (by omega)]; exact h0H
    · rw [rdf (by omega), rdf (by omega), rdf (by omega), rds]
    · rw [rdf (by omega), rdf (by omega), rds]
    · rw [rdf (by omega), rds]
    · rw [rds]
  · intro q
    subst q
    rw [bC_t (ev_cm8 hG1 k10 k4 k7), if_neg (by decide)] at base
    exact ⟨_, base, same.sD (same.sD same.rf ⟨rfl, by omega⟩) ⟨rfl, by omega⟩, rds⟩
theorem c149f {B : Hp} {t l2 l3 l4 l5 v : Int32} (hG : Gr B) (h11 : B.D 611 11 = v) (h10 : 0 < B.D 611 10) : B_MRunner_commands_149 N 611 t l2 l3 l4 l5 B = some ((), B.sD 611 11 (v + 1)) := by
  have hG1 : Gr (B.sD 611 11 (v + 1)) := hG
  unfold B_MRunner_commands_149
  rw [ck_t (rS_611 hG), bnd_t, h11, bnd_t, bC_t (ev_cmf hG1 (by rw [rdf (by decide)]; exact h10)), if_neg (by decide)]
end Par
