/-! ===== a row's counters and commands; the two answers to a statement ===== -/
/-- a command, as the class and as the reference keep it -/
def crowg (S : Int32 → Prop) (E : Nat → Nat → Nat) (tk : Int32) (f g : Nat → Int32) : Prop :=
  (f 0 = 20 ∧ g 0 = 222 ∧ ∃ fb n : Nat, fb < E 15 0 ∧ n ≤ 4 ∧ f 1 = nI fb ∧ g 1 = nI fb ∧ f 2 = nI n ∧ g 2 = nI n ∧ ∀ i, i < n → ∃ m c : Nat, mOf E c m ∧ E 16 fb / 2 ^ c % 2 = 1 ∧ f (3 + i) = nI m ∧ (g 3 >>> (nI (8 * i) &&& 31)) &&& 255 = nI m ∧ f (7 + i) = g (4 + i) ∧ (E 6 m = 4 → S (g (4 + i)))) ∨
  (f 0 = 21 ∧ g 0 = 223 ∧ f 1 = g 1 ∧ S (g 1)) ∨
  (∃ c : Nat, c < E 4 0 ∧ ((f 0 = 22 ∧ g 0 = 224) ∨ (f 0 = 23 ∧ g 0 = 225)) ∧ f 1 = g 1 ∧ f 2 = nI c ∧ g 2 = nI c) ∨
  (∃ c m : Nat, mOf E c m ∧ f 0 = 24 ∧ g 0 = 226 ∧ f 1 = g 1 ∧ f 2 = nI c ∧ g 2 = nI c ∧ f 3 = nI m ∧ g 3 = nI m ∧ f 4 = g 4 ∧ (E 6 m = 4 → S (g 4))) ∨
  (∃ e t : Nat, e < E 9 0 ∧ 1 ≤ t ∧ t ≤ 16 ∧ f 0 = 25 ∧ g 0 = 227 ∧ f 1 = nI e ∧ g 1 = nI e ∧ f 2 = nI t ∧ f 3 = g 2 ∧ g 3 = tk + nI t ∧ ∀ i, i < E 10 e → i < 4 → f (4 + i) = g (4 + i) ∧ (E 12 (4 * e + i) = 4 → S (g (4 + i)))) ∨
  (f 0 = 26 ∧ g 0 = 229 ∧ f 1 = g 1)
/-- over the whole text's record -/
def crowx (E : Nat → Nat → Nat) (tk : Int32) (f g : Nat → Int32) : Prop := crowg (SVx E) E tk f g
theorem crowg.cg {S : Int32 → Prop} {E : Nat → Nat → Nat} {tk : Int32} {f g f' g' : Nat → Int32} (h : crowg S E tk f g) (hf : ∀ x, x < 11 → f' x = f x) (hg : ∀ x, x < 12 → g' x = g x) : crowg S E tk f' g' := by
  unfold crowg at h ⊢
  rcases h with ⟨a1, a2, fb, n, a3, a4, a5, a6, a7, a8, a9⟩ | ⟨a1, a2, a3, a4⟩ | ⟨c, a1, a2, a3, a4, a5⟩ | ⟨c, m, a1, a2, a3, a4, a5, a6, a7, a8, a9, a10⟩ | ⟨e, t, a1, a2, a3, a4, a5, a6, a7, a8, a9, a10, a11⟩ | ⟨a1, a2, a3⟩
  · refine .inl ⟨by rw [hf 0 (by decide)]; exact a1, by rw [hg 0 (by decide)]; exact a2, fb, n, a3, a4, by rw [hf 1 (by decide)]; exact a5, by rw [hg 1 (by decide)]; exact a6, by rw [hf 2 (by decide)]; exact a7, by rw [hg 2 (by decide)]; exact a8, fun i hi => ?_⟩
    obtain ⟨m, c, b1, b2, b3, b4, b5, b6⟩ := a9 i hi
    exact ⟨m, c, b1, b2, by rw [hf _ (by omega)]; exact b3, by rw [hg 3 (by decide)]; exact b4, by rw [hf _ (by omega), hg _ (by omega)]; exact b5, by rw [hg _ (by omega)]; exact b6⟩
  · exact .inr (.inl ⟨by rw [hf 0 (by decide)]; exact a1, by rw [hg 0 (by decide)]; exact a2, by rw [hf 1 (by decide), hg 1 (by decide)]; exact a3, by rw [hg 1 (by decide)]; exact a4⟩)
  · refine .inr (.inr (.inl ⟨c, a1, ?_, by rw [hf 1 (by decide), hg 1 (by decide)]; exact a3, by rw [hf 2 (by decide)]; exact a4, by rw [hg 2 (by decide)]; exact a5⟩))
    rw [hf 0 (by decide), hg 0 (by decide)]
    exact a2
  · exact .inr (.inr (.inr (.inl ⟨c, m, a1, by rw [hf 0 (by decide)]; exact a2, by rw [hg 0 (by decide)]; exact a3, by rw [hf 1 (by decide), hg 1 (by decide)]; exact a4, by rw [hf 2 (by decide)]; exact a5, by rw [hg 2 (by decide)]; exact a6, by rw [hf 3 (by decide)]; exact a7, by rw [hg 3 (by decide)]; exact a8, by rw [hf 4 (by decide), hg 4 (by decide)]; exact a9, by rw [hg 4 (by decide)]; exact a10⟩)))
  · exact .inr (.inr (.inr (.inr (.inl ⟨e, t, a1, a2, a3, by rw [hf 0 (by decide)]; exact a4, by rw [hg 0 (by decide)]; exact a5, by rw [hf 1 (by decide)]; exact a6, by rw [hg 1 (by decide)]; exact a7, by rw [hf 2 (by decide)]; exact a8, by rw [hf 3 (by decide), hg 2 (by decide)]; exact a9, by rw [hg 3 (by decide)]; exact a10, fun i hi h4 => by rw [hf _ (by omega), hg _ (by omega)]; exact a11 i hi h4⟩))))
  · exact .inr (.inr (.inr (.inr (.inr ⟨by rw [hf 0 (by decide)]; exact a1, by rw [hg 0 (by decide)]; exact a2, by rw [hf 1 (by decide), hg 1 (by decide)]; exact a3⟩))))
theorem crowx.cg {E : Nat → Nat → Nat} {tk : Int32} {f g f' g' : Nat → Int32} (h : crowx E tk f g) (hf : ∀ x, x < 11 → f' x = f x) (hg : ∀ x, x < 12 → g' x = g x) : crowx E tk f' g' := crowg.cg h hf hg
theorem mOf.ext {Es E : Nat → Nat → Nat} {c m : Nat} (h : ExtE Es E) (k : mOf Es c m) : mOf E c m := by
  obtain ⟨k1, k2, k3⟩ := k
  have := h.1
  exact ⟨by omega, by rw [h.2.1 c (by omega)]; exact k2, by rw [h.2.1 (c + 1) (by omega)]; exact k3⟩
theorem crowg.ext {S : Int32 → Prop} {Es E : Nat → Nat → Nat} {tk : Int32} {f g : Nat → Int32} (hE : WE Es) (hX : ExtE Es E) (h : crowg S Es tk f g) : crowg S E tk f g := by
  obtain ⟨x1, x2, x3, x4, x5, x6, x7, x8, x9, x10, x11, x12⟩ := hX
  unfold crowg at h ⊢
  rcases h with ⟨a1, a2, fb, n, a3, a4, a5, a6, a7, a8, a9⟩ | h | ⟨c, a1, a2⟩ | ⟨c, m, a1, a2, a3, a4, a5, a6, a7, a8, a9, a10⟩ | ⟨e, t, a1, a2, a3, a4, a5, a6, a7, a8, a9, a10, a11⟩ | h
  · refine .inl ⟨a1, a2, fb, n, by omega, a4, a5, a6, a7, a8, fun i hi => ?_⟩
    obtain ⟨m, c, b1, b2, b3, b4, b5, b6⟩ := a9 i hi
    exact ⟨m, c, b1.ext ⟨x1, x2, x3, x4, x5, x6, x7, x8, x9, x10, x11, x12⟩, by rw [x9 fb a3]; exact b2, b3, b4, b5, by rw [x3 m (mOf_lt hE b1).1]; exact b6⟩
  · exact .inr (.inl h)
  · exact .inr (.inr (.inl ⟨c, by omega, a2⟩))
  · exact .inr (.inr (.inr (.inl ⟨c, m, a1.ext ⟨x1, x2, x3, x4, x5, x6, x7, x8, x9, x10, x11, x12⟩, a2, a3, a4, a5, a6, a7, a8, a9, by rw [x3 m (mOf_lt hE a1).1]; exact a10⟩)))
  · exact .inr (.inr (.inr (.inr (.inl ⟨e, t, by omega, a2, a3, a4, a5, a6, a7, a8, a9, a10, fun i hi h4 => by rw [x6 e a1] at hi; rw [x7 e i a1 hi]; exact a11 i hi h4⟩))))
  · exact .inr (.inr (.inr (.inr (.inr h))))
/-- the whole text's record, kept behind a system's own -/
def hiE (E : Nat → Nat → Nat) : Nat → Nat → Nat := fun x y => E (1000 + x) y
/-- a command, over the whole text's record -/
def crow (E : Nat → Nat → Nat) (tk : Int32) (f g : Nat → Int32) : Prop := crowx (hiE E) tk f g
theorem crow.cg {E : Nat → Nat → Nat} {tk : Int32} {f g f' g' : Nat → Int32} (h : crow E tk f g) (hf : ∀ x, x < 11 → f' x = f x) (hg : ∀ x, x < 12 → g' x = g x) : crow E tk f' g' := crowx.cg h hf hg
theorem crow.mk {E : Nat → Nat → Nat} {tk : Int32} {f g : Nat → Int32} (hE : WE E) (hX : ExtE E (hiE E)) (h : crowg (SV E) E tk f g) : crow E tk f g := crowg.ext hE hX h
def CMR (A : Hp) (la : Nat) (B : Hp) (E : Nat → Nat → Nat) (tk : Int32) (K : Nat) : Prop := ∀ k, k < K → crow E tk (fun x => A.D la (11 * k + x)) (fun x => B.D 612 (12 * k + x))
/-- counters: K0 commands before the row, mk of it, st steps, dr draws -/
def CN (A B : Hp) (E : Nat → Nat → Nat) (tk : Int32) (la z K0 mk st : Nat) (dr : Int32) : Prop :=
  LST A la z ∧ A.D 117 1 = nI (K0 + mk) ∧ 11 * (K0 + mk) ≤ z ∧ A.D 117 15 = nI mk ∧ mk ≤ 8 ∧ A.D 117 13 = nI st ∧ st ≤ 120 ∧ A.D 117 14 = dr ∧ B.D 611 4 = nI (K0 + mk) ∧ B.D 611 7 = nI K0 ∧ B.D 611 8 = nI st ∧ CMR A la B E tk (K0 + mk)
/-- what a statement may change: class -/
def FRA (wo base : Nat) (E : Nat → Nat → Nat) (lc a f : Nat) : Prop := (a = 117 ∧ (f = 1 ∨ f = 6 ∨ f = 12 ∨ f = 13 ∨ f = 14 ∨ f = 15 ∨ f = 16)) ∨ a = 119 ∨ a = 120 ∨ (a = 121 ∧ lc ≤ f) ∨ (a = 122 ∧ lc ≤ f) ∨ a = 123 ∨ (a = wo + 3 ∧ ∃ m, Wr E m ∧ f = base + m)
/-- what a statement may change: reference -/
def FRB (E : Nat → Nat → Nat) (a f : Nat) : Prop := (a = 611 ∧ (f = 4 ∨ f = 8 ∨ f = 9 ∨ f = 10 ∨ f = 11 ∨ f = 12)) ∨ a = 612 ∨ (a = 613 ∧ Wr E f) ∨ a = 614
theorem FRA.up {wo base lc l2 : Nat} {E : Nat → Nat → Nat} (h : lc ≤ l2) : ∀ a f, FRA wo base E l2 a f → FRA wo base E lc a f := fun a f k => by
  unfold FRA at k ⊢
  rcases k with k | k | k | k | k | k | k
  · exact .inl k
  · exact .inr (.inl k)
  · exact .inr (.inr (.inl k))
  · exact .inr (.inr (.inr (.inl ⟨k.1, by omega⟩)))
  · exact .inr (.inr (.inr (.inr (.inl ⟨k.1, by omega⟩))))
  · exact .inr (.inr (.inr (.inr (.inr (.inl k)))))
  · exact .inr (.inr (.inr (.inr (.inr (.inr k)))))
theorem FRA.ea {wo base lc h : Nat} {E : Nat → Nat → Nat} : ∀ a f, EXA h a f → FRA wo base E lc a f := fun a f k => by
  unfold EXA at k
  unfold FRA
  rcases k with ⟨k1, k2⟩ | ⟨k1, k2⟩
  · exact .inl ⟨k1, by omega⟩
  · exact .inr (.inl k1)
theorem FRA.ec {wo base lc : Nat} {E : Nat → Nat → Nat} : ∀ a f, EXC a f → FRA wo base E lc a f := fun a f k => by
  unfold EXC at k
  unfold FRA
  rcases k with ⟨k1, k2⟩ | k1
  · exact .inl ⟨k1, by omega⟩
  · exact .inr (.inr (.inr (.inr (.inr (.inl k1)))))
theorem FRB.eb {E : Nat → Nat → Nat} : ∀ a f, EXB a f → FRB E a f := fun a f k => .inl ⟨k.1, by have := k.2; omega⟩
section Par
variable {N p wo inp cs w u ir M : Nat} {s pl : Int32} {ty mn nu cd : Nat → Int32} {E Q : Nat → Nat → Nat} {V : Nat → Nat → Int32} {nL lc : Nat} {lk : Nat → Nat} {hd : Nat → Int32}
theorem CMR.mono {A B : Hp} {la K K2 : Nat} {tk : Int32} (h : CMR A la B E tk K) (hk : K2 ≤ K) : CMR A la B E tk K2 := fun k y => h k (by omega)
theorem CMR.cg {A B A2 B2 : Hp} {la la2 K : Nat} {tk : Int32} (h : CMR A la B E tk K) (hA : ∀ y, y < 11 * K → A2.D la2 y = A.D la y) (hB : ∀ y, y < 12 * K → B2.D 612 y = B.D 612 y) : CMR A2 la2 B2 E tk K := fun k hk => (h k hk).cg (fun x hx => hA _ (by omega)) (fun x hx => hB _ (by omega))
/-- before a statement -/
def SIN (p wo inp cs w u ir M : Nat) (ty mn nu cd : Nat → Int32) (E Q : Nat → Nat → Nat) (V : Nat → Nat → Int32) (nL lc : Nat) (hd : Nat → Int32) (K0 i a h : Nat) (A : Hp) (la z : Nat) (B : Hp) (mk st : Nat) (dr : Int32) : Prop :=
  SA A p wo inp cs cd E Q V nL lc hd ∧ SB B w u ir M ty mn nu E Q V nL lc hd ∧ CS A a h ∧ BS B i 0 dr ∧ CN A B E (V 0 0) la z K0 mk st dr
/-- n turns lead to a1, st1 steps; what may change -/
def PRE (N : Nat) (s pl : Int32) (wo base : Nat) (E : Nat → Nat → Nat) (lc : Nat) (V V1 : Nat → Nat → Int32) (a a1 : Nat) (A : Hp) (la z : Nat) (A1 : Hp) (la1 z1 : Nat) (B B1 : Hp) (st st1 : Nat) : Prop :=
  ∃ n, n + a ≤ a1 + 12000 * (st1 - st) ∧ st ≤ st1 ∧ VR N s pl n A A1 ∧ exS (FRA wo base E lc) A la z A1 la1 z1 ∧ same (FRB E) B B1 ∧ ∀ x, x ≠ 5 → x ≠ 6 → V1 x = V x
/-- the statement is done on both sides -/
def SOK (N : Nat) (s pl : Int32) (p wo inp cs w u ir M : Nat) (ty mn nu cd : Nat → Int32) (E Q : Nat → Nat → Nat) (V : Nat → Nat → Int32) (lc : Nat) (hd : Nat → Int32) (K0 : Nat) (X : Option (Unit × Hp)) (j a b n2 : Nat) (A : Hp) (la z : Nat) (B : Hp) (st : Nat) : Prop :=
  ∃ A2 la2 z2 B2 V2 st2 mk2 dr2, PRE N s pl wo (Q 4 0 * Q 5 0) E lc V V2 a b A la z A2 la2 z2 B B2 st st2 ∧ X = some ((), B2) ∧ SIN p wo inp cs w u ir M ty mn nu cd E Q V2 n2 lc hd K0 j b 0 A2 la2 z2 B2 mk2 st2 dr2
/-- it fails on both sides -/
def SFL (N : Nat) (s pl : Int32) (wo base : Nat) (E : Nat → Nat → Nat) (tk : Int32) (lc : Nat) (K0 : Nat) (X : Option (Unit × Hp)) (a b : Nat) (A : Hp) (la z : Nat) (B : Hp) (st : Nat) : Prop :=
  ∃ n A2 la2 z2 B2 y st2 mk2, n + a ≤ b + 12000 * (st2 - st) ∧ st ≤ st2 ∧ st2 ≤ 121 ∧ VR N s pl n A A2 ∧ exS (FRA wo base E lc) A la z A2 la2 z2 ∧ A2.D 117 16 = y ∧ 0 < y ∧ A2.D 117 1 = nI (K0 + mk2) ∧ A2.D 117 15 = nI mk2 ∧ mk2 ≤ 8 ∧ X = some ((), B2) ∧ same (FRB E) B B2 ∧ B2.D 611 10 = y ∧ CMR A2 la2 B2 E tk K0
theorem PRE.tr {base la z la1 z1 la2 z2 st st1 st2 a a1 a2 : Nat} {V1 V2 : Nat → Nat → Int32} {A A1 A2 B B1 B2 : Hp} (h : PRE N s pl wo base E lc V V1 a a1 A la z A1 la1 z1 B B1 st st1) (k : PRE N s pl wo base E lc V1 V2 a1 a2 A1 la1 z1 A2 la2 z2 B1 B2 st1 st2) : PRE N s pl wo base E lc V V2 a a2 A la z A2 la2 z2 B B2 st st2 := by
  obtain ⟨n, h1, h2, h3, h4, h5, h6⟩ := h
  obtain ⟨m, k1, k2, k3, k4, k5, k6⟩ := k
  exact ⟨n + m, by omega, by omega, h3.tr k3, h4.tr k4, h5.tr k5, fun x y1 y2 => by rw [k6 x y1 y2, h6 x y1 y2]⟩
theorem PRE.up {base la z la1 z1 st st1 a a1 l2 : Nat} {V1 : Nat → Nat → Int32} {A A1 B B1 : Hp} (h : PRE N s pl wo base E l2 V V1 a a1 A la z A1 la1 z1 B B1 st st1) (hl : lc ≤ l2) : PRE N s pl wo base E lc V V1 a a1 A la z A1 la1 z1 B B1 st st1 := by
  obtain ⟨n, h1, h2, h3, h4, h5, h6⟩ := h
  exact ⟨n, h1, h2, h3, h4.mono (FRA.up hl), h5, h6⟩
theorem SOK.pre {K0 la z la1 z1 st st1 a a1 b j n2 : Nat} {V1 : Nat → Nat → Int32} {A A1 B B1 : Hp} {X : Option (Unit × Hp)} (h : PRE N s pl wo (Q 4 0 * Q 5 0) E lc V V1 a a1 A la z A1 la1 z1 B B1 st st1) (k : SOK N s pl p wo inp cs w u ir M ty mn nu cd E Q V1 lc hd K0 X j a1 b n2 A1 la1 z1 B1 st1) : SOK N s pl p wo inp cs w u ir M ty mn nu cd E Q V lc hd K0 X j a b n2 A la z B st := by
  obtain ⟨A2, la2, z2, B2, V2, st2, mk2, dr2, k1, k2, k3⟩ := k
  exact ⟨A2, la2, z2, B2, V2, st2, mk2, dr2, h.tr k1, k2, k3⟩
theorem SFL.pre {base K0 la z la1 z1 st st1 a a1 b : Nat} {tk : Int32} {V1 : Nat → Nat → Int32} {A A1 B B1 : Hp} {X : Option (Unit × Hp)} (h : PRE N s pl wo base E lc V V1 a a1 A la z A1 la1 z1 B B1 st st1) (k : SFL N s pl wo base E tk lc K0 X a1 b A1 la1 z1 B1 st1) : SFL N s pl wo base E tk lc K0 X a b A la z B st := by
  obtain ⟨n, h1, h2, h3, h4, h5, h6⟩ := h
  obtain ⟨m, A2, la2, z2, B2, y, st2, mk2, k1, k2, k3, k4, k5, k6, k7, k8, k9, k10, k11, k12, k13, k14⟩ := k
  exact ⟨n + m, A2, la2, z2, B2, y, st2, mk2, by omega, by omega, k3, h3.tr k4, h4.tr k5, k6, k7, k8, k9, k10, k11, h5.tr k12, k13, k14⟩
theorem SFL.up {base l2 K0 la z st a b : Nat} {tk : Int32} {A B : Hp} {X : Option (Unit × Hp)} (k : SFL N s pl wo base E tk l2 K0 X a b A la z B st) (hl : lc ≤ l2) : SFL N s pl wo base E tk lc K0 X a b A la z B st := by
  obtain ⟨m, A2, la2, z2, B2, y, st2, mk2, k1, k2, k3, k4, k5, k6, k7, k8, k9, k10, k11, k12, k13, k14⟩ := k
  exact ⟨m, A2, la2, z2, B2, y, st2, mk2, k1, k2, k3, k4, k5.mono (FRA.up hl), k6, k7, k8, k9, k10, k11, k12, k13, k14⟩
/-- behind a failure the reference only moves its place -/
theorem SFL.then {base K0 la z st a b b2 : Nat} {tk : Int32} {A B : Hp} {X Y : Option (Unit × Hp)} (k : SFL N s pl wo base E tk lc K0 X a b A la z B st) (hb : b ≤ b2) (hY : ∀ B2, X = some ((), B2) → 0 < B2.D 611 10 → same (FRB E) B B2 → ∃ B3, Y = some ((), B3) ∧ same (fun a f => a = 611 ∧ f = 11 ∨ a = 615) B2 B3 ∧ same (FRB E) B B3) : SFL N s pl wo base E tk lc K0 Y a b2 A la z B st := by
  obtain ⟨m, A2, la2, z2, B2, y, st2, mk2, k1, k2, k3, k4, k5, k6, k7, k8, k9, k10, k11, k12, k13, k14⟩ := k
  obtain ⟨B3, e1, e2, e3⟩ := hY B2 k11 (by rw [k13]; exact k7) k12
  exact ⟨m, A2, la2, z2, B3, y, st2, mk2, by omega, k2, k3, k4, k5, k6, k7, k8, k9, k10, e1, e3, by rw [e2.1 611 10 (by omega)]; exact k13, k14.cg (fun _ _ => rfl) (fun y _ => e2.1 612 y (by omega))⟩
/-- the row's fixed matter -/
def FIX (N p wo w u K0 M : Nat) (E : Nat → Nat → Nat) : Prop := WE E ∧ M + 2 ≤ N ∧ 300 ≤ N ∧ (p = 133 ∨ p = 325) ∧ wo ∈ lW ∧ w ∈ lT ∧ u ∈ lU ∧ K0 + 8 ≤ 32768 ∧ ExtE E (hiE E)
/-- counters over an expression -/
theorem CN.ex {A A2 B B2 : Hp} {la z K0 mk st h : Nat} {tk dr dr2 : Int32} (k : CN A B E tk la z K0 mk st dr) (hA : same (EXA h) A A2) (hB : same EXB B B2) (h14 : A2.D 117 14 = dr2) : CN A2 B2 E tk la z K0 mk st dr2 := by
  obtain ⟨h1, h2, h3, h4, h5, h6, h7, h8, h9, h10, h11, h12⟩ := k
  have hla := h1.2.2.1
  have fA : ∀ f, f = 1 ∨ f = 13 ∨ f = 15 → A2.D 117 f = A.D 117 f := fun f y => hA.1 117 f (by unfold EXA; omega)
  have fB : ∀ f, f = 4 ∨ f = 7 ∨ f = 8 → B2.D 611 f = B.D 611 f := fun f y => hB.1 611 f (fun y2 => by have := y2.2; omega)
  refine ⟨⟨by rw [hA.2.1]; exact h1.1, by rw [hA.2.2.2.1]; exact h1.2.1, h1.2.2⟩, by rw [fA 1 (by omega)]; exact h2, h3, by rw [fA 15 (by omega)]; exact h4, h5, by rw [fA 13 (by omega)]; exact h6, h7, h14, by rw [fB 4 (by omega)]; exact h9, by rw [fB 7 (by omega)]; exact h10, by rw [fB 8 (by omega)]; exact h11, h12.cg (fun y _ => hA.1 la y (by unfold EXA; omega)) (fun y _ => hB.1 612 y (fun y2 => absurd y2.1 (by decide)))⟩
/-- a value -/
theorem s_val {K0 i j a b k dp h mk st la z : Nat} {dr : Int32} {A B : Hp} (hF : FIX N p wo w u K0 M E) (hD : DE ty mn nu cd E nL lc lk hd 0 dp i j a b k) (hI : SIN p wo inp cs w u ir M ty mn nu cd E Q V nL lc hd K0 i a h A la z B mk st dr) (hh : h ≤ 90) (hj : j < M) (hb : b ≤ cs) :
    (∃ n A2 B2 v dr2, n + a ≤ b ∧ VR N s pl n A A2 ∧ same (EXA h) A A2 ∧ A2.D 119 h = v ∧ (X_RunE N 50).1 611 B = some (v, B2) ∧ same EXB B B2 ∧ SIN p wo inp cs w u ir M ty mn nu cd E Q V nL lc hd K0 j b (h + 1) A2 la z B2 mk st dr2) ∨
    (∃ n A2 B2 v y j', n + a ≤ b ∧ VR N s pl n A A2 ∧ VF A A2 y ∧ 0 < y ∧ (X_RunE N 50).1 611 B = some (v, B2) ∧ same EXB B B2 ∧ B2.D 611 10 = y ∧ B2.D 611 11 = nI j' ∧ j' ≤ j ∧ RB B2 w u ir M ty mn nu) := by
  obtain ⟨f1, f2, f3, f4, f5, f6, f7, f8⟩ := hF
  obtain ⟨i1, i2, i3, i4, i5⟩ := hI
  obtain ⟨⟨p1, p2, go⟩, -⟩ := jnt0 (N := N) (s := s) (pl := pl) (p := p) (wo := wo) (inp := inp) (cs := cs) (w := w) (u := u) (ir := ir) (M := M) (Q := Q) (V := V) f1 f2 (by omega) hD
  have r0 : rz 0 = 3 := rfl
  rcases go 49 A B h dr i1.1 i2.1 i3 i5.2.2.2.2.2.2.2.1 i4 (by omega) (by omega) hj hb with g | g
  · obtain ⟨n, A2, B2, v, dr2, g1, g2, g3, g4, g5, g6, g7, g8, g9⟩ := g.out (by decide)
    refine .inl ⟨n, A2, B2, v, dr2, by omega, g2, g3, g5, g7, g8, ?_, ?_, g4, g9, i5.ex g3 g8 g6⟩
    · exact i1.of f1 f4 f5 i5.1 (g3.exS i5.1) (fun a f y => by unfold EXA at y; omega)
    · exact i2.fr f6 f7 g8 (fun a f y => by unfold EXB at y; omega)
  · obtain ⟨n, A2, B2, v, y, j', g1, g2, g3, g4, g5, g6, g7, g8, g9⟩ := g
    exact .inr ⟨n, A2, B2, v, y, j', by omega, g2, g3, g4, g5, g6, g7, g8, g9, i2.1.1.ex g6⟩
/-- a value fails: so does the statement -/
theorem SFL.ex {base K0 a b n mk st la z : Nat} {dr y tk : Int32} {X : Option (Unit × Hp)} {A A2 B B2 B3 : Hp} (hc : CN A B E tk la z K0 mk st dr) (h1 : n + a ≤ b) (h2 : VR N s pl n A A2) (h3 : VF A A2 y) (h4 : 0 < y) (hB : same EXB B B2) (hX : X = some ((), B3)) (hB3 : same (FRB E) B2 B3) (h612 : ∀ x, B3.D 612 x = B2.D 612 x) (h10 : B3.D 611 10 = y) : SFL N s pl wo base E tk lc K0 X a b A la z B st := by
  obtain ⟨c1, c2, c3, c4, c5, c6, c7, c8, c9, c10, c11, c12⟩ := hc
  have hla := c1.2.2.1
  refine ⟨n, A2, la, z, B3, y, st, mk, by omega, by omega, by omega, h2, (h3.1.mono FRA.ea).exS c1, h3.2, h4, ?_, ?_, c5, hX, (hB.mono FRB.eb).tr hB3, h10, ?_⟩
  · rw [h3.1.1 117 1 (by unfold EXA; omega)]; exact c2
  · rw [h3.1.1 117 15 (by unfold EXA; omega)]; exact c4
  · exact (c12.mono (by omega)).cg (fun y _ => h3.1.1 la y (by unfold EXA; omega)) (fun y _ => by rw [h612, hB.1 612 y (fun y2 => absurd y2.1 (by decide))])
end Par
