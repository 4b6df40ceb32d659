/-! ===== the call load ===== -/
theorem bC_tl1 {β : Type} {H : Hp} {K : Unit → Hp → Option β} : bC (tl1 H) K = if (0 : Int32) ≤ H.D 517 28 then K () H else if H.D 517 22 ≤ H.D 517 27 then K () H else K () (H.sD 517 28 (H.D 517 27)) := by
  unfold tl1
  split
  · rfl
  · split <;> rfl
theorem ml_eq {N : Nat} {H : Hp} : F_M_load N 517 H = (ck (H.sh[517]? = some (12, 0)) <| bnd (H.sD 517 0 (0 : Int32)) fun H2 => bC (F_M_isQuiet N 517 H2) fun v4 H5 => if v4 = (0 : Int32) then some ((-1000000), H5) else bnd ((H5.D 517 5)) fun x7 => if x7 = (0 : Int32) then some ((-2000000), H5) else bnd (H5.sD 517 27 (0 : Int32)) fun H9 => bnd (H9.sD 517 28 ((-1) : Int32)) fun H10 => rf (H10.P 517 10) fun a11 => ck (H10.sh[a11]? = some (13, 0)) <| bC (F_MWorld_begin N a11 H10) fun _ H16 => bC (gB N a11 H16) fun _ H => B_M_load_137 N 517 a11 H) := by
  unfold F_M_load gB Rq3 Rq4 Rq5 Rq6 Rq7 Rq8
  simp only [bC_as, bC_tl1, bnd_t]
/-- 1 for what is among the first values of F -/
def amS (F : Nat → Nat) : Nat → Nat → Nat
  | 0, _ => 0
  | n + 1, y => if F n = y then 1 else amS F n y
theorem amS_in {F : Nat → Nat} {k : Nat} : ∀ n, k < n → amS F n (F k) = 1 := by
  intro n
  induction n with
  | zero => intro h; omega
  | succ n ih =>
    intro h
    rw [amS]
    by_cases y : k = n
    · rw [y, if_pos rfl]
    · split
      · rfl
      · exact ih (by omega)
theorem amS_bn {F : Nat → Nat} : ∀ n y, amS F n y = 1 → ∃ k, k < n ∧ F k = y := by
  intro n
  induction n with
  | zero => intro y h; exact absurd h (show ¬ (0 : Nat) = 1 by decide)
  | succ n ih =>
    intro y h
    rw [amS] at h
    by_cases z : F n = y
    · exact ⟨n, by omega, z⟩
    · rw [if_neg z] at h
      obtain ⟨k, k1, k2⟩ := ih y h
      exact ⟨k, by omega, k2⟩
/-- what a world holds -/
def hdF (B : Hp) (u : Nat) : Nat → Nat := fun k => if k < 12288 then ixv (B.D (u + 4) k) else ixv (B.D (u + 8) (k - 12288))
def hdS (B : Hp) (u : Nat) : Nat → Nat := amS (hdF B u) 13312
theorem hdS_b {B : Hp} {u : Nat} : BNS (hdS B u) 13312 := ⟨hdF B u, fun y h => amS_bn 13312 y h⟩
theorem hdS_4 {B : Hp} {u k : Nat} (h : k < 12288) : hdS B u (ixv (B.D (u + 4) k)) = 1 := by
  have := amS_in (F := hdF B u) (k := k) 13312 (by omega)
  rw [show hdF B u k = ixv (B.D (u + 4) k) from if_pos h] at this
  exact this
theorem hdS_8 {B : Hp} {u k : Nat} (h : k < 1024) : hdS B u (ixv (B.D (u + 8) k)) = 1 := by
  have := amS_in (F := hdF B u) (k := 12288 + k) 13312 (by omega)
  rw [show hdF B u (12288 + k) = ixv (B.D (u + 8) (12288 + k - 12288)) from if_neg (by omega), Nat.add_sub_cancel_left] at this
  exact this
def nQ (p la a f : Nat) : Prop := (a = 11 ∧ f = 1) ∨ (12 ≤ a ∧ a ≤ 17) ∨ (125 ≤ a ∧ a ≤ 127) ∨ (p ≤ a ∧ a ≤ p + 191) ∨ (626 ≤ a ∧ a ≠ la) ∨ (a = 117 ∧ f = 0)
def LOA (a f : Nat) : Prop := LDA a f ∨ cW 12 a f ∨ (a = 11 ∧ f = 1) ∨ a = 125 ∨ a = 127
def LOB (us um a f : Nat) : Prop := (a = 517 ∧ (f = 0 ∨ f = 9 ∨ f = 10)) ∨ LDB um a f ∨ cU us a f ∨ a = 617 ∨ a = 619
section Par
variable {N p wo inp cs w u ir M K0 : Nat} {s pl : Int32} {ty mn nu cd : Nat → Int32} {E Q : Nat → Nat → Nat} {V : Nat → Nat → Int32} {nL lc : Nat} {lk : Nat → Nat} {hd : Nat → Int32}
theorem pli_q {RA RB : Nat → Nat → Prop} {S : Nat → Nat} {b t0 la z us un c n : Nat} {Nm : Nat → Nat → List Nat} {Pv : Nat → Nat → Int32} {A B A' B' : Hp} (h : PLI N p cs w M ty mn nu cd E Nm Pv S b t0 A la z B us un c n) (hq : n = c) (hE : WE E) (hGA' : Gr A') (hGB' : Gr B') (hA : gw RA A A') (hB : gw RB B B') (cA : ∀ a f, RA a f → ¬ nQ p la a f) (cB : ∀ a f, RB a f → ¬ nB w us un a f) : PLI N p cs w M ty mn nu cd E Nm Pv S b t0 A' la z B' us un c n := by
  obtain ⟨⟨hGA, hGB, hT, hL⟩, ⟨hus, hun, hne, b8, b9, b3⟩, ⟨n0, n1, n2, n3, n4, n5, n6⟩, ⟨Qn, x1, x2, x3⟩, ⟨Qs, y1, y2, y3⟩, -, -, hCm⟩ := h
  have hu1 := lU_le hus
  have hu2 := lU_le hun
  have hlen := hGA.len
  have hlenB := hGB.len
  have dA : ∀ a f, a < 626 → nQ p la a f → A'.D a f = A.D a f := fun a f y1 y2 => (hA.2 a f (by omega) (fun y => cA a f y y2)).1
  have dB : ∀ a f, a < 626 → nB w us un a f → B'.D a f = B.D a f := fun a f y1 y2 => (hB.2 a f (by omega) (fun y => cB a f y y2)).1
  have pB : ∀ f, f = 3 ∨ f = 8 ∨ f = 9 → B'.P 517 f = B.P 517 f := fun f y => (hB.2 517 f (by omega) (fun z => cB _ _ z (.inr (.inr (.inr (.inr ⟨rfl, y⟩)))))).2
  have ew : wt n c = 12 := if_pos hq.symm
  have uB : ∀ a f, us ≤ a → a ≤ us + 9 → B'.D a f = B.D a f := fun a f y1 y2 => dB a f (by omega) (.inr (.inl ⟨y1, y2⟩))
  have vB : ∀ a f, un ≤ a → a ≤ un + 9 → B'.D a f = B.D a f := fun a f y1 y2 => dB a f (by omega) (.inr (.inr (.inl ⟨y1, y2⟩)))
  have iB : ∀ a f, 616 ≤ a → a ≤ 619 → B'.D a f = B.D a f := fun a f y1 y2 => dB a f (by omega) (.inr (.inr (.inr (.inl ⟨y1, y2⟩))))
  have a12 : ∀ a f, 12 ≤ a → a ≤ 17 → A'.D a f = A.D a f := fun a f y1 y2 => dA a f (by omega) (.inr (.inl (by omega)))
  have eA : ∀ a f, 125 ≤ a → a ≤ 127 → A'.D a f = A.D a f := fun a f y1 y2 => dA a f (by omega) (.inr (.inr (.inl ⟨y1, y2⟩)))
  rw [ew] at y1
  refine ⟨⟨hGA', hGB', hT.gw hE hGA hGB hL.2.1 hA hB (fun a f y => ⟨fun z => cA a f y (.inr (.inr (.inr (.inl z)))), fun z => cA a f y (.inr (.inr (.inr (.inr (.inl z)))))⟩) (fun a f y z => cB a f y (.inl z)), hL.gw hA hlen (fun y => cA _ _ y (.inr (.inr (.inr (.inr (.inr ⟨rfl, rfl⟩))))))⟩, ⟨hus, hun, hne, by rw [pB 8 (by omega)]; exact b8, by rw [pB 9 (by omega)]; exact b9, by rw [pB 3 (by omega)]; exact b3⟩, ⟨n0, n1, n2, n3, by rw [dA _ _ (by omega) (.inl ⟨rfl, rfl⟩)]; exact n4, by rw [uB _ _ (by omega) (by omega)]; exact n5, by rw [a12 _ _ (by omega) (by omega)]; exact n6⟩, ⟨Qn, x1.fr (fun a f z1 z2 => a12 a f (by omega) (by omega)) vB, x2.fr vB, x3⟩, ⟨Qs, by rw [ew]; exact y1.fr (fun a f z1 z2 => a12 a f (by omega) (by omega)) uB, y2.fr uB, y3⟩, fun t z1 z2 => by omega, fun t z1 z2 => by omega, fun x hx => ?_, fun x hx => ?_⟩
  · rw [eA _ _ (by omega) (by omega), eA _ _ (by omega) (by omega), iB _ _ (by omega) (by omega), iB _ _ (by omega) (by omega)]
    exact hCm.1 x hx
  · rw [eA _ _ (by omega) (by omega), iB _ _ (by omega) (by omega)]
    exact hCm.2 x hx
/-- a world that was read is a pair of worlds -/
theorem LPost.wp {um : Nat} {A B : Hp} (h : LPost E um A B) (hE : WE E) : ∃ Q t, WPR A 19 B um E Q ∧ RVB (hdS B um) E Q B um ∧ GNV (hdS B um) 8000000 Q ∧ t ≤ 1000000000 ∧ A.D 19 0 = nI t ∧ B.D 517 28 = -1 := by
  obtain ⟨Q, cnt, t, ⟨v1, v2, v3, v4, v5⟩, hg, hc, hp, a13, b8, ht, a0, b0, h1, h2, h3, a6, a15, b13, b16, b28⟩ := h
  have o5 : ∀ x y, ¬ (x = 5 ∧ (y = 2 ∨ y = 3)) → (if x = 5 ∧ y = 2 then cnt else if x = 5 ∧ y = 3 then 0 else Q x y) = Q x y := fun x y z => by rw [if_neg (by omega), if_neg (by omega)]
  have q2 : (fun x y => if x = 5 ∧ y = 2 then cnt else if x = 5 ∧ y = 3 then 0 else Q x y) 5 2 = cnt := if_pos ⟨rfl, rfl⟩
  have q3 : (fun x y => if x = 5 ∧ y = 2 then cnt else if x = 5 ∧ y = 3 then 0 else Q x y) 5 3 = 0 := by
    show (if 5 = 5 ∧ 3 = 2 then cnt else if 5 = 5 ∧ 3 = 3 then 0 else Q 5 3) = 0
    rw [if_neg (by omega), if_pos ⟨rfl, rfl⟩]
  have oo : ∀ x y, ¬ (x = 5 ∧ (y = 2 ∨ y = 3)) → (fun x y => if x = 5 ∧ y = 2 then cnt else if x = 5 ∧ y = 3 then 0 else Q x y) x y = Q x y := o5
  generalize (fun x y => if x = 5 ∧ y = 2 then cnt else if x = 5 ∧ y = 3 then 0 else Q x y) = Q' at *
  have e0 : ∀ y, Q' 0 y = Q 0 y := fun y => oo _ _ (by omega)
  have e1 : ∀ y, Q' 1 y = Q 1 y := fun y => oo _ _ (by omega)
  have e2 : ∀ y, Q' 2 y = Q 2 y := fun y => oo _ _ (by omega)
  have e50 : Q' 5 0 = Q 5 0 := oo _ _ (by omega)
  have e51 : Q' 5 1 = Q 5 1 := oo _ _ (by omega)
  refine ⟨Q', t, ⟨⟨fun q hq => by rw [e0, e1, e2]; exact v1 q hq, fun q hq => by rw [e0, e1, e2]; exact v2 q hq, fun q c m y1 y2 y3 y4 => ?_, by rw [e50]; exact v4, ⟨by rw [e51]; exact v5.1, by rw [e51]; exact v5.2.1, fun q y1 y2 => by rw [e51] at y1; rw [e1]; exact v5.2.2 q y1 y2⟩, ⟨by rw [q2]; exact a13, by rw [q2]; exact b8, by rw [q2]; exact hc, fun k hk => ?_⟩, by rw [q3]; exact a15, by rw [q3]; exact b16, by rw [q3]; decide, fun k hk => by rw [q3] at hk; omega⟩, by rw [a0, b0], h1, h3, h2, .inl ⟨a6, by rw [b13]; decide⟩⟩, ⟨fun q c m y1 y2 y3 y4 y5 => ?_, fun k hk e q y1 y2 y3 y4 => ?_, fun k hk => ?_⟩, fun q hq => ?_, ht, a0, b28⟩
  · rw [e1] at y2
    rw [e2] at y3
    rw [e50]
    exact v3 q c m y1 y2 y3 y4 (fun z => by omega)
  · rw [q2] at hk
    obtain ⟨p1, p2, p3, p4, -⟩ := hp k hk
    exact ⟨p1, p2, p3, p4⟩
  · have := (mOf_lt hE y4).2.1
    exact .inr (.inl (hdS_4 (by omega)))
  · rw [q2] at hk
    have := (hE.2.2.2.2.2.2.2.1 e y2).1
    exact .inr (.inl (hdS_8 (by omega)))
  · rw [q2] at hk
    exact (hp k hk).2.2.2.2
  · rw [e0]
    have := hg q hq
    omega
end Par
