/-! ===== the class's list of commands ===== -/
/-- the list of commands: its address, its size -/
def LST (A : Hp) (la z : Nat) : Prop := A.P 117 0 = .ref la ∧ A.sh[la]? = some (100, z) ∧ (la = 118 ∨ 626 ≤ la) ∧ ∃ t, t ≤ 9 ∧ z = 704 * 2 ^ t
/-- R and the list change; the list may move and grow -/
def exS (R : Nat → Nat → Prop) (A : Hp) (la z : Nat) (A' : Hp) (la' z' : Nat) : Prop :=
  LST A' la' z' ∧ (∃ l, A'.sh = A.sh ++ l) ∧ (∀ a f, a < A.sh.length → ¬ R a f → a ≠ la → A'.D a f = A.D a f) ∧ (∀ a f, a < A.sh.length → ¬ (a = 117 ∧ f = 0) → A'.P a f = A.P a f) ∧ (∀ a f, a < A.sh.length → A'.L a f = A.L a f) ∧ (la' = la ∨ A.sh.length ≤ la') ∧ z ≤ z' ∧ A'.sl + 2 * z ≤ A.sl + 2 * z' ∧ 704 * A'.sh.length + z ≤ 704 * A.sh.length + z'
theorem sP_Pq {H : Hp} {a f : Nat} {v : Value} {x y : Nat} : (H.sP a f v).P x y = up2 H.P a f v x y := rfl
theorem sP_Dq {H : Hp} {a f : Nat} {v : Value} {x y : Nat} : (H.sP a f v).D x y = H.D x y := rfl
theorem sP_Lq {H : Hp} {a f : Nat} {v : Value} {x y : Nat} : (H.sP a f v).L x y = H.L x y := rfl
theorem nw_Dq {H : Hp} {s : Nat × Nat} {k x y : Nat} : (H.nw s k).D x y = if x = H.sh.length then 0 else H.D x y := rfl
theorem nw_Pq {H : Hp} {s : Nat × Nat} {k x y : Nat} : (H.nw s k).P x y = if x = H.sh.length then .null else H.P x y := rfl
theorem nw_Lq {H : Hp} {s : Nat × Nat} {k x y : Nat} : (H.nw s k).L x y = if x = H.sh.length then 0 else H.L x y := rfl
theorem cpy_Dq {H : Hp} {a b s d n x y : Nat} : (H.cpy a b s d n).D x y = if x = b then va_cpy (H.D a) (H.D b) s d n y else H.D x y := by
  rw [cpy_D]
  show (if x = b then va_cpy (H.D a) (H.D b) s d n else H.D x) y = _
  split <;> rfl
theorem exS.rf {R : Nat → Nat → Prop} {A : Hp} {la z : Nat} (h : LST A la z) : exS R A la z A la z := ⟨h, ⟨[], by simp⟩, fun _ _ _ _ _ => rfl, fun _ _ _ _ => rfl, fun _ _ _ => rfl, .inl rfl, Nat.le_refl _, Nat.le_refl _, Nat.le_refl _⟩
theorem exS.tr {R : Nat → Nat → Prop} {A B C : Hp} {la za lb zb lc zc : Nat} (h : exS R A la za B lb zb) (k : exS R B lb zb C lc zc) : exS R A la za C lc zc := by
  obtain ⟨h1, ⟨l, h2⟩, h3, h4, h5, h6, h7, h8, h9⟩ := h
  obtain ⟨k1, ⟨m, k2⟩, k3, k4, k5, k6, k7, k8, k9⟩ := k
  have hlen : B.sh.length = A.sh.length + l.length := by rw [h2, List.length_append]
  refine ⟨k1, ⟨l ++ m, by rw [k2, h2, List.append_assoc]⟩, fun a f a1 a2 a3 => ?_, fun a f a1 a2 => by rw [k4 a f (by omega) a2, h4 a f a1 a2], fun a f a1 => by rw [k5 a f (by omega), h5 a f a1], by omega, by omega, by omega, by omega⟩
  rw [k3 a f (by omega) a2 (by omega), h3 a f a1 a2 a3]
theorem exS.mono {R S : Nat → Nat → Prop} {A B : Hp} {la za lb zb : Nat} (h : exS R A la za B lb zb) (hs : ∀ a f, R a f → S a f) : exS S A la za B lb zb :=
  ⟨h.1, h.2.1, fun a f a1 a2 a3 => h.2.2.1 a f a1 (fun z => a2 (hs a f z)) a3, h.2.2.2⟩
theorem same.exS {R : Nat → Nat → Prop} {A B : Hp} {la z : Nat} (h : same R A B) (hl : LST A la z) : exS R A la z B la z := by
  obtain ⟨h1, h2, h3, h4, h5⟩ := h
  obtain ⟨k1, k2, k3, k4⟩ := hl
  exact ⟨⟨by rw [h2]; exact k1, by rw [h4]; exact k2, k3, k4⟩, ⟨[], by rw [h4]; simp⟩, fun a f _ a2 _ => h1 a f a2, fun a f _ _ => by rw [h2], fun a f _ => by rw [h3], .inl rfl, Nat.le_refl _, by omega, by rw [h4]; omega⟩
theorem rf0_l : rf0.all (fun q => ! (q.1 == 117 && q.2.1 == 0)) = true := by decide +kernel
theorem exS.gr {R : Nat → Nat → Prop} {A B : Hp} {la za lb zb : Nat} (h : exS R A la za B lb zb) (g : Gr A) : Gr B := by
  obtain ⟨h1, ⟨m, h2⟩, h3, h4, -⟩ := h
  obtain ⟨⟨l, e⟩, g2⟩ := g
  refine ⟨⟨l ++ m, by rw [h2, e, List.append_assoc]⟩, fun q hq => ?_⟩
  have k3 := List.all_eq_true.mp rf0_fin q hq
  have k4 := List.all_eq_true.mp rf0_l q hq
  have hb : q.1 < A.sh.length := by
    cases hs : sh0[q.1]? with
    | none => rw [hs] at k3; cases k3
    | some s =>
      have := (List.getElem?_eq_some_iff.mp hs).1
      rw [e, List.length_append]
      omega
  rw [h4 q.1 q.2.1 hb (fun z => by simp [z.1, z.2] at k4)]
  exact g2 q hq
theorem exS.get {R : Nat → Nat → Prop} {A B : Hp} {la za lb zb a : Nat} {s : Nat × Nat} (h : exS R A la za B lb zb) (hs : A.sh[a]? = some s) : B.sh[a]? = some s := by
  obtain ⟨-, ⟨m, h2⟩, -⟩ := h
  rw [h2, List.getElem?_append_left (List.getElem?_eq_some_iff.mp hs).1]
  exact hs
section Par
variable {N : Nat}
theorem c0 : ((0 : Int32)).toNatClampNeg = 0 := rfl
theorem c11 : ((11 : Int32)).toNatClampNeg = 11 := rfl
theorem cN {n : Nat} (h : n < 2 ^ 31) : (nI n).toNatClampNeg = n := by
  show (Int32.ofNat n).toNatClampNeg = n
  rw [Int32.toNatClampNeg_ofNat_of_lt h]
/-- the order is put behind the list -/
theorem ev_put {A : Hp} {la z K mk : Nat} (hG : Gr A) (hL : LST A la z) (h1 : A.D 117 1 = nI K) (hK : 11 * (K + 1) ≤ z) (h15 : A.D 117 15 = nI mk) : ∃ A', B_Row_listCommand_54 N 117 (nI (11 * K)) A = some ((), A') ∧ exS (fun a f => a = 117 ∧ (f = 1 ∨ f = 15)) A la z A' la z ∧ A'.D 117 1 = nI (K + 1) ∧ A'.D 117 15 = nI (mk + 1) ∧ (∀ x, x < 11 → A'.D la (11 * K + x) = A.D 123 x) ∧ (∀ y, y < 11 * K → A'.D la y = A.D la y) := by
  obtain ⟨l1, l2, l3, t, l4, l5⟩ := hL
  have hz : z < 2 ^ 31 := by
    have : 2 ^ t ≤ 2 ^ 9 := Nat.pow_le_pow_right (by decide) l4
    omega
  have hla : la ≠ 117 := by omega
  have hl3 : la ≠ 123 := by omega
  refine ⟨((A.cpy 123 la 0 (11 * K) 11).sD 117 1 (nI (K + 1))).sD 117 15 (nI (mk + 1)), ?_, ?_, ?_, ?_, ?_, ?_⟩
  · unfold B_Row_listCommand_54
    have e1 : (A.cpy 123 la 0 (11 * K) 11).D 117 1 = nI K := by rw [cpy_D]; simp only [if_neg (fun z => hla z.symm : ¬ 117 = la)]; exact h1
    have e15 : ((A.cpy 123 la 0 (11 * K) 11).sD 117 1 (nI (K + 1))).D 117 15 = nI mk := by rw [rdf (by decide), cpy_D]; simp only [if_neg (fun z => hla z.symm : ¬ 117 = la)]; exact h15
    rw [ck_t (rS_117 hG), rf_t (rP_117_10 hG), rf_t l1, ar_t (rA_117_10 hG), ar_t l2, ck_t (by decide), ck_t (show ¬ nI (11 * K) < (0 : Int32) from nI_nlt (b := 0) (by omega) (by omega)), ck_t (by decide), c0, c11, cN (by omega), ck_t (by omega), ck_t (by omega), bnd_t, bnd_t, e1, nI_1, bnd_t, bnd_t, e15, nI_1, bnd_t]
  · refine ⟨⟨l1, l2, l3, t, l4, l5⟩, ⟨[], by simp; rfl⟩, fun a f a1 a2 a3 => ?_, fun a f _ _ => rfl, fun a f _ => rfl, .inl rfl, Nat.le_refl _, Nat.le_refl _, Nat.le_refl _⟩
    by_cases q : a = 117
    · subst q
      rw [rdf (fun z => a2 ⟨rfl, .inr z⟩), rdf (fun z => a2 ⟨rfl, .inl z⟩), cpy_D]
      simp only [if_neg a3]
    · rw [rdw q, rdw q, cpy_D]
      simp only [if_neg a3]
  · rw [rdf (by decide), rds]
  · rw [rds]
  · intro x hx
    rw [rdw hla, rdw hla, cpy_D]
    simp only [if_pos trivial]
    unfold va_cpy
    rw [if_pos (by omega), show 0 + (11 * K + x - 11 * K) = x by omega]
  · intro y hy
    rw [rdw hla, rdw hla, cpy_D]
    simp only [if_pos trivial]
    unfold va_cpy
    rw [if_neg (by omega)]
theorem ev_list {A : Hp} {la z K mk : Nat} (hG : Gr A) (hL : LST A la z) (h1 : A.D 117 1 = nI K) (hK : 11 * K ≤ z) (hK2 : K < 32768) (h15 : A.D 117 15 = nI mk) (hmk : mk < 8) : ∃ A' la' z', F_Row_listCommand N 117 A = some ((), A') ∧ exS (fun a f => a = 117 ∧ (f = 1 ∨ f = 15)) A la z A' la' z' ∧ A'.D 117 1 = nI (K + 1) ∧ A'.D 117 15 = nI (mk + 1) ∧ 11 * (K + 1) ≤ z' ∧ (∀ x, x < 11 → A'.D la' (11 * K + x) = A.D 123 x) ∧ (∀ y, y < 11 * K → A'.D la' y = A.D la y) := by
  have hL' := hL
  obtain ⟨l1, l2, l3, t, l4, l5⟩ := hL'
  have hz0 : 1 ≤ 2 ^ t := Nat.one_le_two_pow
  have hz : z ≤ 704 * 512 := by
    have : 2 ^ t ≤ 2 ^ 9 := Nat.pow_le_pow_right (by decide) l4
    omega
  have hx : F_Row_listCommand N 117 A = (if nI (11 * K) + 11 ≤ nI z then B_Row_listCommand_54 N 117 (nI (11 * K)) A else bC (F_Arr_copyOf N la ((2 : Int32) * nI z) A) fun v56 H57 => on v56 fun a58 => bnd (H57.sP 117 0 (.ref a58)) fun H59 => B_Row_listCommand_54 N 117 (nI (11 * K)) H59) := by
    unfold F_Row_listCommand
    rw [ck_t (rS_117 hG), bnd_t, h15, if_pos (show nI mk < (8 : Int32) from nI_lt (b := 8) hmk (by decide)), bnd_t, h1, show nI K * (11 : Int32) = nI (11 * K) from by rw [Nat.mul_comm]; exact nI_mu K 11, bnd_t, rf_t l1, ar_t l2, rf_t l1, rf_t l1, ar_t l2]
    rfl
  rw [hx, show nI (11 * K) + (11 : Int32) = nI (11 * K + 11) from nI_ad _ 11]
  by_cases q : 11 * K + 11 ≤ z
  · rw [if_pos (nI_le q (by omega))]
    obtain ⟨A', a1, a2, a3, a4, a5, a6⟩ := ev_put (N := N) hG hL h1 (by omega) h15
    exact ⟨A', la, z, a1, a2, a3, a4, by omega, a5, a6⟩
  · rw [if_neg (nI_ge (by omega) (by omega))]
    have ht : t < 9 := by
      refine Decidable.byContradiction fun y => ?_
      have : t = 9 := by omega
      subst this
      omega
    have hp2 : 2 ^ (t + 1) = 2 * 2 ^ t := by rw [Nat.pow_succ, Nat.mul_comm]
    have e2 : (2 : Int32) * nI z = nI (2 * z) := nI_mu 2 z
    have hlen := hG.len
    have hlt : la < A.sh.length := (List.getElem?_eq_some_iff.mp l2).1
    have ec : F_Arr_copyOf N la ((2 : Int32) * nI z) A = some (some A.sh.length, (A.nw (100, 2 * z) (2 * z)).cpy la A.sh.length 0 0 z) := by
      have hn : (A.nw (100, 2 * z) (2 * z)).sh[A.sh.length]? = some (100, 2 * z) := by
        show (A.sh ++ [(100, 2 * z)])[A.sh.length]? = _
        simp
      unfold F_Arr_copyOf
      rw [ar_t l2, e2, if_neg (fun y => by have := (nI_eq (a := 2 * z) (b := z) (by omega) (by omega)).mp y; omega), ck_t (show ¬ nI (2 * z) < (0 : Int32) from nI_nlt (b := 0) (by omega) (by omega)), cN (by omega), ck_t (by omega), bnd_t, bnd_t]
      unfold F_Math_min
      rw [show Int32.ofNat z = nI z from rfl, if_neg (show ¬ nI (2 * z) < nI z from nI_nlt (by omega) (by omega)), bC_v, ar_t hn, ck_t (by decide), ck_t (by decide), ck_t (show ¬ nI z < (0 : Int32) from nI_nlt (b := 0) (by omega) (by omega)), c0, cN (by omega), ck_t (by omega), ck_t (by omega), bnd_t]
    rw [bC_t ec]
    have hG2 : Gr (((A.nw (100, 2 * z) (2 * z)).cpy la A.sh.length 0 0 z).sP 117 0 (.ref A.sh.length)) ∧ exS (fun a f => a = 117 ∧ (f = 1 ∨ f = 15)) A la z (((A.nw (100, 2 * z) (2 * z)).cpy la A.sh.length 0 0 z).sP 117 0 (.ref A.sh.length)) A.sh.length (2 * z) := by
      have k : exS (fun a f => a = 117 ∧ (f = 1 ∨ f = 15)) A la z (((A.nw (100, 2 * z) (2 * z)).cpy la A.sh.length 0 0 z).sP 117 0 (.ref A.sh.length)) A.sh.length (2 * z) := by
        refine ⟨⟨?_, ?_, .inr hlen, t + 1, by omega, by omega⟩, ⟨[(100, 2 * z)], rfl⟩, fun a f a1 a2 a3 => ?_, fun a f a1 a2 => ?_, fun a f a1 => ?_, .inr (Nat.le_refl _), by omega, ?_, ?_⟩
        · rw [sP_Pq, up2_eq]
        · show (A.sh ++ [(100, 2 * z)])[A.sh.length]? = _
          simp
        · rw [sP_Dq, cpy_Dq, if_neg (by omega), nw_Dq, if_neg (by omega)]
        · rw [sP_Pq, up2_ne (fun y => a2 y), cpy_P, nw_Pq, if_neg (by omega)]
        · show (A.nw (100, 2 * z) (2 * z)).L a f = _
          rw [nw_Lq, if_neg (by omega)]
        · show A.sl + 2 * z + 2 * z ≤ _
          omega
        · show 704 * (A.sh ++ [(100, 2 * z)]).length + z ≤ _
          rw [List.length_append]
          simp
          omega
      exact ⟨k.gr hG, k⟩
    obtain ⟨hG2, hx2⟩ := hG2
    generalize e3 : ((A.nw (100, 2 * z) (2 * z)).cpy la A.sh.length 0 0 z).sP 117 0 (.ref A.sh.length) = A2 at hG2 hx2
    have d1 : ∀ f, A2.D 117 f = A.D 117 f := fun f => by
      rw [← e3, sP_Dq, cpy_Dq, if_neg (by omega), nw_Dq, if_neg (by omega)]
    have d2 : ∀ f, A2.D 123 f = A.D 123 f := fun f => by
      rw [← e3, sP_Dq, cpy_Dq, if_neg (by omega), nw_Dq, if_neg (by omega)]
    have d3 : ∀ y, y < z → A2.D A.sh.length y = A.D la y := fun y hy => by
      rw [← e3, sP_Dq, cpy_Dq, if_pos rfl]
      unfold va_cpy
      rw [if_pos (by omega), show 0 + (y - 0) = y by omega, nw_Dq, if_neg (by omega)]
    obtain ⟨A', a1, a2, a3, a4, a5, a6⟩ := ev_put (N := N) (K := K) (mk := mk) hG2 hx2.1 (by rw [d1]; exact h1) (by omega) (by rw [d1]; exact h15)
    refine ⟨A', A.sh.length, 2 * z, (show _ = _ from by rw [← a1, ← e3]; rfl), hx2.tr a2, a3, a4, by omega, fun x hx => by rw [a5 x hx, d2], fun y hy => by rw [a6 y hy, d3 y (by omega)]⟩
end Par
