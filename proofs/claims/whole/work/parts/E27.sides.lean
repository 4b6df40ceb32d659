/-! ===== what both present to a statement ===== -/
theorem lW_le {wo : Nat} (h : wo ∈ lW) : 12 ≤ wo ∧ wo ≤ 109 := by
  unfold lW at h
  simp only [List.mem_cons, List.not_mem_nil, or_false] at h
  omega
theorem lT_le {w : Nat} (h : w ∈ lT) : w = 519 ∨ w = 550 := by
  unfold lT at h
  simp only [List.mem_cons, List.not_mem_nil, or_false] at h
  omega
theorem lU_le {u : Nat} (h : u ∈ lU) : 581 ≤ u ∧ u ≤ 601 := by
  unfold lU at h
  simp only [List.mem_cons, List.not_mem_nil, or_false] at h
  omega
def WXA (A : Hp) (wo : Nat) (E Q : Nat → Nat → Nat) (V : Nat → Nat → Int32) : Prop :=
  (A.D wo 9 = nI (Q 5 1) ∧ Q 5 1 ≤ 256 ∧ ∀ q, Q 5 1 ≤ q → q < 256 → Q 1 q ≠ 1) ∧ (A.D wo 13 = nI (Q 5 2) ∧ Q 5 2 ≤ 256) ∧
  (∀ c m, mOf E c m → m < Q 5 0) ∧ ∀ k, k < Q 5 2 → A.D (wo + 4) (7 * k) = V 20 k ∧ A.D (wo + 4) (7 * k + 1) = V 21 k ∧ A.D (wo + 4) (7 * k + 2) = V 22 k ∧ ∀ e q, V 20 k = nI e → e < E 9 0 → q < E 10 e → A.D (wo + 4) (7 * k + 3 + q) = V (400 + k) q
def WXB (B : Hp) (u : Nat) (E Q : Nat → Nat → Nat) (V : Nat → Nat → Int32) : Prop :=
  B.D u 8 = nI (Q 5 2) ∧ ∀ k, k < Q 5 2 → B.D (u + 5) k = V 20 k ∧ B.D (u + 6) k = V 21 k ∧ B.D (u + 7) k = V 22 k ∧ ∀ e q, V 20 k = nI e → e < E 9 0 → q < E 10 e → B.D (u + 8) (4 * k + q) = V (400 + k) q
def TXA (A : Hp) (p : Nat) (E : Nat → Nat → Nat) : Prop := (∀ c, c ≤ E 4 0 → A.D (p + 137) c = nI (E 5 c)) ∧ (∃ C, A.D (p + 138) 3 = nI C ∧ E 9 0 ≤ C ∧ C ≤ 8) ∧ ∀ e, e ≤ E 9 0 → A.D (p + 181) e = nI (E 11 e)
def TXB (B : Hp) (w : Nat) (E : Nat → Nat → Nat) : Prop := (∀ c, c ≤ E 4 0 → B.D (w + 12) c = nI (E 5 c)) ∧ (∀ m, m < E 5 (E 4 0) → B.D (w + 13) m = nI (E 6 m)) ∧ (∀ e, e < E 9 0 → B.D (w + 16) e = nI (E 10 e)) ∧ ∀ e q, e < E 9 0 → q < E 10 e → B.D (w + 17) (4 * e + q) = nI (E 12 (4 * e + q))
/-- the numbers of entities that are known: row 2000 of the whole text's record, row 3000 of a system's -/
def ixv (v : Int32) : Nat := v.toUInt32.toNat
def SVx (E : Nat → Nat → Nat) (v : Int32) : Prop := E 2000 (ixv v) = 1
def SV (E : Nat → Nat → Nat) (v : Int32) : Prop := E 3000 (ixv v) = 1
/-- what a row reads of kind 4 is known; rows 100.. of hd hold the locals' kinds -/
def LKV (E Q : Nat → Nat → Nat) (V : Nat → Nat → Int32) (nL lc : Nat) (hd : Nat → Int32) : Prop :=
  (SV E (-1) ∧ SV E (V 9 0) ∧ (∀ q, q < 256 → Q 1 q = 1 → SV E (nI (256 * Q 0 q + q))) ∧
  (∀ q c m, q < 256 → Q 1 q = 1 → Q 2 q / 2 ^ c % 2 = 1 → mOf E c m → E 21 (E 17 0 - 1) / 2 ^ c % 2 = 1 → E 6 m = 4 → SV E (V (100 + q) m)) ∧
  (∀ k, k < Q 5 2 → ∀ e q, V 20 k = nI e → e < E 9 0 → q < E 10 e → E 12 (4 * e + q) = 4 → SV E (V (400 + k) q))) ∧
  (∀ c m, mOf E c m → E 18 (E 17 0 - 1) / 2 ^ c % 2 = 1 → E 6 m = 4 → SV E (V 5 m)) ∧
  (∀ n, n < nL → hd (100 + n) = 1004 → SV E (V 6 n)) ∧
  (∀ e l q, inn hd lc e l → e < E 9 0 → q < E 10 e → E 12 (4 * e + q) = 4 → SV E (V (400 + Q 3 l) q))
def kk (k : Nat) : Int32 := if k = 4 then 1004 else 1000
theorem kk_4 {k : Nat} (h : kk k = 1004) : k = 4 := by
  unfold kk at h
  split at h
  · assumption
  · exact absurd h (by decide)
theorem LKV.vv {E Q : Nat → Nat → Nat} {V V2 : Nat → Nat → Int32} {nL n2 lc : Nat} {hd : Nat → Int32} (h : LKV E Q V nL lc hd) (hV : ∀ x, x ≠ 5 → x ≠ 6 → V2 x = V x) (k5 : ∀ c m, mOf E c m → E 18 (E 17 0 - 1) / 2 ^ c % 2 = 1 → E 6 m = 4 → SV E (V2 5 m)) (k6 : ∀ n, n < n2 → hd (100 + n) = 1004 → SV E (V2 6 n)) : LKV E Q V2 n2 lc hd := by
  obtain ⟨⟨h1, h2, h3, h4, h5⟩, h6, h7, h8⟩ := h
  refine ⟨⟨h1, by rw [hV 9 (by decide) (by decide)]; exact h2, h3, fun q c m y1 y2 y3 y4 y5 y6 => by rw [hV (100 + q) (by omega) (by omega)]; exact h4 q c m y1 y2 y3 y4 y5 y6, fun k hk e q y1 y2 y3 y4 => ?_⟩, k5, k6, fun e l q y1 y2 y3 y4 => by rw [hV (400 + Q 3 l) (by omega) (by omega)]; exact h8 e l q y1 y2 y3 y4⟩
  rw [hV 20 (by decide) (by decide)] at y1
  rw [hV (400 + k) (by omega) (by omega)]
  exact h5 k hk e q y1 y2 y3 y4
/-- fewer locals -/
theorem LKV.nn {E Q : Nat → Nat → Nat} {V : Nat → Nat → Int32} {nL n2 lc : Nat} {hd : Nat → Int32} (h : LKV E Q V nL lc hd) (hn : n2 ≤ nL) : LKV E Q V n2 lc hd :=
  h.vv (fun _ _ _ => rfl) h.2.1 (fun n y => h.2.2.1 n (by omega))
/-- other loops -/
theorem LKV.hq {E Q Q2 : Nat → Nat → Nat} {V : Nat → Nat → Int32} {nL lc l2 : Nat} {hd hd2 : Nat → Int32} (h : LKV E Q V nL lc hd) (hQ : ∀ x, x ≠ 3 → Q2 x = Q x) (k6 : ∀ n, n < nL → hd2 (100 + n) = 1004 → hd (100 + n) = 1004) (k3 : ∀ e l q, inn hd2 l2 e l → e < E 9 0 → q < E 10 e → E 12 (4 * e + q) = 4 → SV E (V (400 + Q2 3 l) q)) : LKV E Q2 V nL l2 hd2 := by
  unfold LKV at h ⊢
  rw [hQ 0 (by decide), hQ 1 (by decide), hQ 2 (by decide), hQ 5 (by decide)]
  exact ⟨h.1, h.2.1, fun n y z => h.2.2.1 n y (k6 n y z), k3⟩
/-- the class's side -/
def SA (A : Hp) (p wo inp cs : Nat) (cd : Nat → Int32) (E Q : Nat → Nat → Nat) (V : Nat → Nat → Int32) (nL lc : Nat) (hd : Nat → Int32) : Prop := STA A p wo inp cs cd E Q V nL lc hd ∧ WXA A wo E Q V ∧ TXA A p E ∧ LKV E Q V nL lc hd
/-- the reference's side -/
def SB (B : Hp) (w u ir M : Nat) (ty mn nu : Nat → Int32) (E Q : Nat → Nat → Nat) (V : Nat → Nat → Int32) (nL lc : Nat) (hd : Nat → Int32) : Prop := STB B w u ir M ty mn nu E Q V nL lc hd ∧ WXB B u E Q V ∧ TXB B w E
/-- the members that the row's system writes -/
def Wr (E : Nat → Nat → Nat) (m : Nat) : Prop := ∃ c, mOf E c m ∧ E 20 (E 17 0 - 1) / 2 ^ c % 2 = 1
/-- what must stay on the class's side -/
def KPA (p wo inp nL lc a f : Nat) : Prop := (a = p ∧ f = 17) ∨ a = p + 137 ∨ a = p + 138 ∨ a = p + 181 ∨ a = p + 191 ∨ a = wo ∨ a = wo + 1 ∨ a = wo + 2 ∨ a = wo + 3 ∨ a = wo + 4 ∨ a = inp ∨ (a = 117 ∧ (f = 17 ∨ f = 18)) ∨ (a = 120 ∧ f < nL) ∨ (a = 121 ∧ f < lc)
def KPB (w u ir nL a f : Nat) : Prop := (w ≤ a ∧ a ≤ w + 30) ∨ (u ≤ a ∧ a ≤ u + 9) ∨ a = ir ∨ (a = 611 ∧ (f = 5 ∨ f = 6)) ∨ a = 613 ∨ (a = 614 ∧ f < nL) ∨ a = 615
section Par
variable {N p wo inp cs w u ir M : Nat} {ty mn nu cd : Nat → Int32} {E Q : Nat → Nat → Nat} {V : Nat → Nat → Int32} {nL lc : Nat} {hd : Nat → Int32}
theorem gr_P {A : Hp} (h : Gr A) (hp : p = 133 ∨ p = 325) : isP A p := by
  rcases hp with rfl | rfl
  · exact gr_P133 h
  · exact gr_P325 h
/-- the class's side over any change that leaves what must stay -/
theorem VS0.fr {A A2 : Hp} (h : VS0 A p wo inp cs) (hp : p = 133 ∨ p = 325) (hw : wo ∈ lW) (hG : Gr A2) (hP : ∀ f, 2 ≤ f → f ≤ 4 → A2.P 117 f = A.P 117 f) (hi : ∀ s, A.sh[inp]? = some s → A2.sh[inp]? = some s) (h17 : A2.D p 17 = A.D p 17) : VS0 A2 p wo inp cs :=
  ⟨hG, gr_P hG hp, gr_W hG wo hw, by rw [hP 2 (by decide) (by decide)]; exact h.2.2.2.1, by rw [hP 3 (by decide) (by decide)]; exact h.2.2.2.2.1, by rw [hP 4 (by decide) (by decide)]; exact h.2.2.2.2.2.1, hi _ h.2.2.2.2.2.2.1, by rw [h17]; exact h.2.2.2.2.2.2.2.1, h.2.2.2.2.2.2.2.2⟩
theorem SA.fr2 {A A2 : Hp} {V2 : Nat → Nat → Int32} {n2 : Nat} (h : SA A p wo inp cs cd E Q V nL lc hd) (hv : VS0 A2 p wo inp cs) (hD : ∀ a f, KPA p wo inp 0 lc a f → a ≠ wo + 3 → A2.D a f = A.D a f) (hV : ∀ x, x ≠ 5 → x ≠ 6 → V2 x = V x) (k5 : ∀ c m, mOf E c m → E 18 (E 17 0 - 1) / 2 ^ c % 2 = 1 → A2.D (wo + 3) (Q 4 0 * Q 5 0 + m) = V2 5 m) (k8 : ∀ q c m, q < 256 → Q 1 q = 1 → Q 2 q / 2 ^ c % 2 = 1 → mOf E c m → E 21 (E 17 0 - 1) / 2 ^ c % 2 = 1 → A2.D (wo + 3) (q * Q 5 0 + m) = V (100 + q) m) (k6 : ∀ n, n < n2 → A2.D 120 n = V2 6 n) (kL : LKV E Q V2 n2 lc hd) : SA A2 p wo inp cs cd E Q V2 n2 lc hd := by
  obtain ⟨⟨h1, h2, h3, ⟨h4, h5, h6, h7, h8, h9⟩, h10, ⟨h11, h12⟩, h13, h14, h15, h16, h17⟩, ⟨⟨a1, a2, a3⟩, ⟨a4, a5⟩, a7, a6⟩, ⟨b1, b2, b3⟩, -⟩ := h
  have f : ∀ a x, (a = p + 137 ∨ a = p + 138 ∨ a = p + 181 ∨ a = p + 191 ∨ a = wo ∨ a = wo + 1 ∨ a = wo + 2 ∨ a = wo + 4 ∨ a = inp) → a ≠ wo + 3 → A2.D a x = A.D a x := fun a x z => hD a x (by unfold KPA; omega)
  have hG := h1.1
  have np : ∀ a, a = p + 137 ∨ a = p + 138 ∨ a = p + 181 ∨ a = p + 191 ∨ a = inp → a ≠ wo + 3 := fun a z y => by
    have k3 := WA_11 h1.2.2.1
    rcases z with z | z | z | z | z
    · have k4 := PcA_2 h1.2.1
      rw [← z, y, k3] at k4
      exact absurd (congrArg Prod.snd (Option.some.inj k4)) (by decide)
    · have k4 := PrA_3 h1.2.1
      rw [← z, y, k3] at k4
      exact absurd (congrArg Prod.fst (Option.some.inj k4)) (by decide)
    · have k4 := PeA_2 h1.2.1
      rw [← z, y, k3] at k4
      exact absurd (congrArg Prod.snd (Option.some.inj k4)) (by decide)
    · have k4 := PrA_16 h1.2.1
      rw [← z, y, k3] at k4
      exact absurd (congrArg Prod.snd (Option.some.inj k4)) (by decide)
    · have k4 := h1.2.2.2.2.2.2.1
      rw [← z, y, k3] at k4
      exact absurd (congrArg Prod.snd (Option.some.inj k4)) (by decide)
  have f7 : ∀ x, x = 17 ∨ x = 18 → A2.D 117 x = A.D 117 x := fun x z => hD 117 x (by unfold KPA; omega) (fun y => h1.w.2.2.2.1 y.symm)
  have v : ∀ x, x ≠ 5 → x ≠ 6 → V2 x = V x := hV
  refine ⟨⟨hv, h2, fun q hq => by rw [f _ _ (by omega) (by omega), f _ _ (by omega) (by omega)]; exact h3 q hq, ⟨by rw [f7 18 (by omega)]; exact h4, h5, by rw [f _ _ (by omega) (by omega), v 9 (by decide) (by decide)]; exact h6, by rw [f7 17 (by omega), v 2 (by decide) (by decide)]; exact h7, by rw [f _ _ (by omega) (by omega), v 0 (by decide) (by decide)]; exact h8, by rw [f _ _ (by omega) (by omega), v 1 (by decide) (by decide)]; exact h9⟩, fun x k => by rw [f _ _ (by omega) (np _ (by omega)), v 7 (by decide) (by decide)]; exact h10 x k, ⟨by rw [f _ _ (by omega) (by omega)]; exact h11, h12⟩, k5, fun q c m y1 y2 y3 y4 y5 => by rw [v (100 + q) (by omega) (by omega)]; exact k8 q c m y1 y2 y3 y4 y5, k6, fun e l y1 y2 => ?_, fun x k => by rw [f _ _ (by omega) (np _ (by omega))]; exact h17 x k⟩, ⟨⟨by rw [f _ _ (by omega) (by omega)]; exact a1, a2, a3⟩, ⟨by rw [f _ _ (by omega) (by omega)]; exact a4, a5⟩, a7, fun k hk => ?_⟩, ⟨fun c k => by rw [f _ _ (by omega) (np _ (by omega))]; exact b1 c k, (by obtain ⟨C, x1, x2, x3⟩ := b2; exact ⟨C, by rw [f _ _ (by omega) (np _ (by omega))]; exact x1, x2, x3⟩), fun e k => by rw [f _ _ (by omega) (np _ (by omega))]; exact b3 e k⟩, kL⟩
  · obtain ⟨m0, m1, m2, m3⟩ := h16 e l y1 y2
    have := y1.1
    have n121 : (121 : Nat) ≠ wo + 3 := fun y => by
      have k3 := WA_11 h1.2.2.1
      rw [← y, rA_117_8 hG] at k3
      exact absurd (congrArg Prod.snd (Option.some.inj k3)) (by decide)
    exact ⟨m0, by rw [hD 121 l (by unfold KPA; omega) n121]; exact m1, m2, fun q k => by rw [f _ _ (by omega) (by omega), v (400 + Q 3 l) (by omega) (by omega)]; exact m3 q k⟩
  · obtain ⟨m0, m1, m2, m3⟩ := a6 k hk
    rw [v 20 (by decide) (by decide), v 21 (by decide) (by decide), v 22 (by decide) (by decide), v (400 + k) (by omega) (by omega)]
    exact ⟨by rw [f _ _ (by omega) (by omega)]; exact m0, by rw [f _ _ (by omega) (by omega)]; exact m1, by rw [f _ _ (by omega) (by omega)]; exact m2, fun e q y1 y2 y3 => by rw [f _ _ (by omega) (by omega)]; exact m3 e q y1 y2 y3⟩
theorem SA.fr {A A2 : Hp} (h : SA A p wo inp cs cd E Q V nL lc hd) (hE : WE E) (hv : VS0 A2 p wo inp cs) (hD : ∀ a f, KPA p wo inp nL lc a f → A2.D a f = A.D a f) : SA A2 p wo inp cs cd E Q V nL lc hd :=
  h.fr2 hv (fun a f y _ => hD a f (by unfold KPA at y ⊢; omega)) (fun _ _ _ => rfl) (fun c m y1 y2 => by rw [hD _ _ (by unfold KPA; omega)]; exact h.1.2.2.2.2.2.2.1 c m y1 y2) (fun q c m y1 y2 y3 y4 y5 => by rw [hD _ _ (by unfold KPA; omega)]; exact h.1.2.2.2.2.2.2.2.1 q c m y1 y2 y3 y4 y5) (fun n y => by rw [hD _ _ (by unfold KPA; omega)]; exact h.1.2.2.2.2.2.2.2.2.1 n y) h.2.2.2
/-- other values, other locals -/
theorem SA.vv {A : Hp} {V2 : Nat → Nat → Int32} {n2 : Nat} (h : SA A p wo inp cs cd E Q V nL lc hd) (hV : ∀ x, x ≠ 5 → x ≠ 6 → V2 x = V x) (k5 : ∀ c m, mOf E c m → E 18 (E 17 0 - 1) / 2 ^ c % 2 = 1 → A.D (wo + 3) (Q 4 0 * Q 5 0 + m) = V2 5 m) (k6 : ∀ n, n < n2 → A.D 120 n = V2 6 n) (kL : LKV E Q V2 n2 lc hd) : SA A p wo inp cs cd E Q V2 n2 lc hd :=
  h.fr2 h.1.1 (fun _ _ _ _ => rfl) hV k5 h.1.2.2.2.2.2.2.2.1 k6 kL
/-- other loops -/
theorem SA.hq {A : Hp} {Q2 : Nat → Nat → Nat} {l2 : Nat} {hd2 : Nat → Int32} (h : SA A p wo inp cs cd E Q V nL lc hd) (hQ : ∀ x, x ≠ 3 → Q2 x = Q x) (k3 : ∀ e l, inn hd2 l2 e l → e < E 9 0 → l < 21 ∧ A.D 121 l = nI (Q2 3 l) ∧ Q2 3 l < 256 ∧ ∀ q, q < E 10 e → A.D (wo + 4) (7 * Q2 3 l + 3 + q) = V (400 + Q2 3 l) q) (kL : LKV E Q2 V nL l2 hd2) : SA A p wo inp cs cd E Q2 V nL l2 hd2 := by
  unfold SA STA WXA PPL at h ⊢
  rw [hQ 0 (by decide), hQ 1 (by decide), hQ 2 (by decide), hQ 4 (by decide), hQ 5 (by decide)]
  obtain ⟨⟨h1, h2, h3, h4, h10, h11, h13, h14, h15, h16, h17⟩, hr, hr2, -⟩ := h
  exact ⟨⟨h1, h2, h3, h4, h10, h11, h13, h14, h15, k3, h17⟩, hr, hr2, kL⟩
theorem SB.vv {B : Hp} {V2 : Nat → Nat → Int32} {n2 : Nat} (h : SB B w u ir M ty mn nu E Q V nL lc hd) (hn : n2 ≤ 12) (hV : ∀ x, x ≠ 5 → x ≠ 6 → V2 x = V x) (k5 : ∀ c m, mOf E c m → E 18 (E 17 0 - 1) / 2 ^ c % 2 = 1 → B.D 613 m = V2 5 m) (k6 : ∀ n, n < n2 → B.D 614 n = V2 6 n) : SB B w u ir M ty mn nu E Q V2 n2 lc hd := by
  obtain ⟨⟨h1, h2, h3, ⟨h4, h5, h6, h7⟩, h8, h9, h10, h11, h12⟩, ⟨a1, a2⟩, b⟩ := h
  refine ⟨⟨h1, h2, hn, ⟨by rw [hV 9 (by decide) (by decide)]; exact h4, by rw [hV 2 (by decide) (by decide)]; exact h5, by rw [hV 0 (by decide) (by decide)]; exact h6, by rw [hV 1 (by decide) (by decide)]; exact h7⟩, fun x k => by rw [hV 7 (by decide) (by decide)]; exact h8 x k, k5, fun q c m y1 y2 y3 y4 y5 => by rw [hV (100 + q) (by omega) (by omega)]; exact h10 q c m y1 y2 y3 y4 y5, k6, fun e l y1 y2 => ?_⟩, ⟨a1, fun k hk => ?_⟩, b⟩
  · obtain ⟨m1, m2, m3⟩ := h12 e l y1 y2
    exact ⟨m1, m2, fun q k => by rw [hV (400 + Q 3 l) (by omega) (by omega)]; exact m3 q k⟩
  · rw [hV 20 (by decide) (by decide), hV 21 (by decide) (by decide), hV 22 (by decide) (by decide), hV (400 + k) (by omega) (by omega)]
    exact a2 k hk
theorem SB.hq {B : Hp} {Q2 : Nat → Nat → Nat} {l2 : Nat} {hd2 : Nat → Int32} (h : SB B w u ir M ty mn nu E Q V nL lc hd) (hQ : ∀ x, x ≠ 3 → Q2 x = Q x) (k3 : ∀ e l, inn hd2 l2 e l → e < E 9 0 → B.D 615 e = nI (Q2 3 l) ∧ Q2 3 l < 256 ∧ ∀ q, q < E 10 e → B.D (u + 8) (4 * Q2 3 l + q) = V (400 + Q2 3 l) q) : SB B w u ir M ty mn nu E Q2 V nL l2 hd2 := by
  unfold SB STB WXB PPB at h ⊢
  rw [hQ 0 (by decide), hQ 1 (by decide), hQ 2 (by decide), hQ 5 (by decide)]
  obtain ⟨⟨h1, h2, h3, h4, h8, h9, h10, h11, h12⟩, hr⟩ := h
  exact ⟨⟨h1, h2, h3, h4, h8, h9, h10, h11, k3⟩, hr⟩
/-- nothing that must stay is in the frames -/
theorem SA.of {A A2 : Hp} {R : Nat → Nat → Prop} {la z la2 z2 : Nat} (h : SA A p wo inp cs cd E Q V nL lc hd) (hE : WE E) (hp : p = 133 ∨ p = 325) (hw : wo ∈ lW) (hL : LST A la z) (hs : exS R A la z A2 la2 z2) (hR : ∀ a f, R a f → a = 117 ∧ f ≠ 17 ∧ f ≠ 18 ∨ a = 119 ∨ (a = 120 ∧ nL ≤ f) ∨ (a = 121 ∧ lc ≤ f) ∨ a = 122 ∨ a = 123) : SA A2 p wo inp cs cd E Q V nL lc hd := by
  have hG := h.1.1.1
  have hlen := hG.len
  have hwo := lW_le hw
  have hi : A.sh[inp]? = some (100, 4) := h.1.1.2.2.2.2.2.2.1
  have hil : inp < A.sh.length := (List.getElem?_eq_some_iff.mp hi).1
  have i7 : inp ≠ 117 ∧ inp ≠ 119 ∧ inp ≠ 120 ∧ inp ≠ 121 ∧ inp ≠ 122 ∧ inp ≠ 123 ∧ inp ≠ la := by
    refine ⟨h.1.1.i.1, h.1.1.i.2, fun y => ?_, fun y => ?_, fun y => ?_, fun y => ?_, fun y => ?_⟩
    · rw [y, rA_117_7 hG] at hi; exact absurd (congrArg Prod.snd (Option.some.inj hi)) (by decide)
    · rw [y, rA_117_8 hG] at hi; exact absurd (congrArg Prod.snd (Option.some.inj hi)) (by decide)
    · rw [y, rA_117_9 hG] at hi; exact absurd (congrArg Prod.snd (Option.some.inj hi)) (by decide)
    · rw [y, rA_117_10 hG] at hi; exact absurd (congrArg Prod.snd (Option.some.inj hi)) (by decide)
    · rw [y, hL.2.1] at hi
      obtain ⟨t, -, ht⟩ := hL.2.2.2
      have h4 : z = 4 := congrArg Prod.snd (Option.some.inj hi)
      have := Nat.one_le_two_pow (n := t)
      omega
  have hla := hL.2.2.1
  have hD : ∀ a f, KPA p wo inp nL lc a f → A2.D a f = A.D a f := fun a f k => by
    unfold KPA at k
    refine hs.2.2.1 a f (by omega) (fun y => ?_) (by omega)
    have := hR a f y
    omega
  exact h.fr hE (h.1.1.fr hp hw (hs.gr hG) (fun f f1 f2 => hs.2.2.2.1 117 f (by omega) (by omega)) (fun s y => hs.get y) (hD p 17 (by unfold KPA; omega))) hD
theorem SB.fr {B B2 : Hp} {R : Nat → Nat → Prop} (h : SB B w u ir M ty mn nu E Q V nL lc hd) (hw : w ∈ lT) (hu : u ∈ lU) (hs : same R B B2) (hR : ∀ a f, R a f → a = 611 ∧ f ≠ 5 ∧ f ≠ 6 ∨ a = 612 ∨ (a = 614 ∧ nL ≤ f)) : SB B2 w u ir M ty mn nu E Q V nL lc hd := by
  have hw' := lT_le hw
  have hu' := lU_le hu
  obtain ⟨⟨h1, h2, h3, ⟨h4, h5, h6, h7⟩, h8, h9, h10, h11, h12⟩, ⟨a1, a2⟩, b1, b2, b3, b4⟩ := h
  have hG := h1.1
  have hi : B.sh[ir]? = some (100, 4) := h1.2.2.2.2.2.2.1
  have i6 : ir ≠ 611 ∧ ir ≠ 612 ∧ ir ≠ 614 := by
    refine ⟨fun y => ?_, fun y => ?_, fun y => ?_⟩
    · rw [y, rS_611 hG] at hi; exact absurd (congrArg Prod.fst (Option.some.inj hi)) (by decide)
    · rw [y, rA_611_3 hG] at hi; exact absurd (congrArg Prod.snd (Option.some.inj hi)) (by decide)
    · rw [y, rA_611_14 hG] at hi; exact absurd (congrArg Prod.snd (Option.some.inj hi)) (by decide)
  have f : ∀ a x, (w ≤ a ∧ a ≤ w + 30) ∨ (u ≤ a ∧ a ≤ u + 9) ∨ a = ir ∨ (a = 611 ∧ (x = 5 ∨ x = 6)) ∨ a = 613 ∨ (a = 614 ∧ x < nL) ∨ a = 615 → B2.D a x = B.D a x := fun a x k => hs.1 a x (fun y => by have := hR a x y; omega)
  refine ⟨⟨h1.sm hs (fun i => ⟨fun y => by have := hR _ _ y; omega, fun y => by have := hR _ _ y; omega, fun y => by have := hR _ _ y; omega⟩), fun q hq => by rw [f _ _ (by omega), f _ _ (by omega), f _ _ (by omega)]; exact h2 q hq, h3, ⟨by rw [f _ _ (by omega)]; exact h4, by rw [f _ _ (by omega)]; exact h5, by rw [f _ _ (by omega)]; exact h6, by rw [f _ _ (by omega)]; exact h7⟩, fun x k => by rw [f _ _ (by omega)]; exact h8 x k, fun c m k1 k2 => by rw [f _ _ (by omega)]; exact h9 c m k1 k2, fun q c m k1 k2 k3 k4 k5 => by rw [f _ _ (by omega)]; exact h10 q c m k1 k2 k3 k4 k5, fun n k => by rw [f _ _ (by omega)]; exact h11 n k, fun e l k1 k2 => ?_⟩, ⟨by rw [f _ _ (by omega)]; exact a1, fun k hk => ?_⟩, fun c k => by rw [f _ _ (by omega)]; exact b1 c k, fun m k => by rw [f _ _ (by omega)]; exact b2 m k, fun e k => by rw [f _ _ (by omega)]; exact b3 e k, fun e q k1 k2 => by rw [f _ _ (by omega)]; exact b4 e q k1 k2⟩
  · obtain ⟨m1, m2, m3⟩ := h12 e l k1 k2
    exact ⟨by rw [f _ _ (by omega)]; exact m1, m2, fun q k => by rw [f _ _ (by omega)]; exact m3 q k⟩
  · obtain ⟨m0, m1, m2, m3⟩ := a2 k hk
    exact ⟨by rw [f _ _ (by omega)]; exact m0, by rw [f _ _ (by omega)]; exact m1, by rw [f _ _ (by omega)]; exact m2, fun e q y1 y2 y3 => by rw [f _ _ (by omega)]; exact m3 e q y1 y2 y3⟩
end Par
