/-! ===== between groups ===== -/
/-- the values that both worlds hold, as the reference holds them -/
def vOf (B : Hp) (u ir : Nat) : Nat → Nat → Int32 := fun x y => if x = 0 then B.D u 0 else if x = 1 then B.D u 1 else if x = 7 then B.D ir y else if x = 20 then B.D (u + 5) y else if x = 21 then B.D (u + 6) y else if x = 22 then B.D (u + 7) y else if x < 356 then B.D (u + 4) (48 * (x - 100) + y) else B.D (u + 8) (4 * (x - 400) + y)
theorem vOf_q {B : Hp} {u ir q m : Nat} (h : q < 256) : vOf B u ir (100 + q) m = B.D (u + 4) (48 * q + m) := by
  unfold vOf
  rw [if_neg (by omega), if_neg (by omega), if_neg (by omega), if_neg (by omega), if_neg (by omega), if_neg (by omega), if_pos (by omega), show 100 + q - 100 = q by omega]
theorem vOf_k {B : Hp} {u ir k q : Nat} : vOf B u ir (400 + k) q = B.D (u + 8) (4 * k + q) := by
  unfold vOf
  rw [if_neg (by omega), if_neg (by omega), if_neg (by omega), if_neg (by omega), if_neg (by omega), if_neg (by omega), if_neg (by omega), show 400 + k - 400 = k by omega]
/-- both sides between groups -/
def TKI (p wo inp cs w u ir M : Nat) (ty mn nu cd : Nat → Int32) (E Q : Nat → Nat → Nat) (Pv : Nat → Nat → Int32) (A : Hp) (la z : Nat) (B : Hp) : Prop :=
  VS0 A p wo inp cs ∧ RB B w u ir M ty mn nu ∧ WRL A wo B u E Q ∧ ATX A p B w E Pv ∧ TXA A p E ∧ TSA A p E ∧ TSB B w E ∧ LST A la z ∧ A.P 116 2 = .ref wo ∧ (∀ x, x < cs → A.D (p + 191) x = cd x) ∧ (∀ x, x < 4 → A.D inp x = B.D ir x) ∧ A.D wo 0 = B.D u 0 ∧ A.D wo 1 = B.D u 1 ∧ A.D wo 3 = B.D u 3 ∧ FLR A wo B u
section Par
variable {N p wo inp cs w u ir M K0 : Nat} {s pl : Int32} {ty mn nu cd : Nat → Int32} {E Q : Nat → Nat → Nat} {V : Nat → Nat → Int32} {nL lc : Nat} {lk : Nat → Nat} {hd : Nat → Int32}
theorem TKI.gs {A B : Hp} {Pv : Nat → Nat → Int32} {la z : Nat} (h : TKI p wo inp cs w u ir M ty mn nu cd E Q Pv A la z B) (h1 : A.D 117 1 = 0) (h4 : B.D 611 4 = 0) (hK : LKG (SVx E) E Q (vOf B u ir)) : GS p wo inp cs w u ir M ty mn nu cd E Q (vOf B u ir) A la z B 0 := by
  obtain ⟨a1, a2, ⟨w1, w2, w3, w4, w5, w6, w7⟩, ⟨t1, t2, t3, t4, t5, t6, t7, t8, t9⟩, a5, a6, a7, a8, a9, a10, a11, a12, a13, a14, a15⟩ := h
  have hp : p ≠ 117 := by omega
  have mon : ∀ k, k < Q 5 2 → B.D (u + 5) k = vOf B u ir 20 k ∧ B.D (u + 6) k = vOf B u ir 21 k ∧ B.D (u + 7) k = vOf B u ir 22 k := fun k _ => ⟨rfl, rfl, rfl⟩
  refine ⟨⟨⟨a1, hp, w1, ⟨a12, a13⟩, a11, ⟨w4.1, w4.2.1⟩, fun q c m y1 y2 y3 y4 => by rw [vOf_q y1]; exact w3 q c m y1 y2 y3 y4, a10, ⟨w5, ⟨w6.1, w6.2.2.1⟩, w4.2.2, fun k hk => ?_⟩, a5⟩, ⟨a2, w2, ⟨rfl, rfl⟩, fun x _ => rfl, fun q c m y1 _ _ _ => by rw [vOf_q y1], ⟨w6.2.1, fun k _ => ⟨rfl, rfl, rfl, fun e q _ _ _ => by rw [vOf_k]⟩⟩, t7⟩, a8, h1, by omega, h4, fun k hk => by omega, a15, hK⟩, a6, a7, t3, a9⟩
  obtain ⟨m0, m1, m2, m3⟩ := w6.2.2.2 k hk
  exact ⟨m0, m1, m2, fun e q y1 y2 y3 => by rw [vOf_k]; exact m3 e q y1 y2 y3⟩
end Par
