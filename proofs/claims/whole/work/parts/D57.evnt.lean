/-! ===== events: the record on both sides ===== -/
section Par
variable {N p w T : Nat} {L : List (Nat × Nat × Int32 × Bool × Nat)} {g : Nat → Nat} {E : Nat → Nat → Nat} {Nm : Nat → Nat → List Nat} {Pv : Nat → Nat → Int32} {nL lc dp : Nat} {ln : Nat → List Nat} {lk lf : Nat → Nat} {hd : Nat → Int32}
def eeE (E : Nat → Nat → Nat) : Nat → Nat → Nat := upE (upE (upE (upE (upE (upE E 0 0 (E 0 0 + 1)) 2 (E 0 0) 1) 3 (E 0 0) (E 9 0)) 9 0 (E 9 0 + 1)) 10 (E 9 0) 0) 11 (E 9 0 + 1) (E 11 (E 9 0))
def eeN (Nm : Nat → Nat → List Nat) (E : Nat → Nat → Nat) (nm : List Nat) : Nat → Nat → List Nat := upN (upN Nm 1 (E 0 0) nm) 14 (E 9 0) nm
theorem W3.at {E : Nat → Nat → Nat} (h : W3 E) : ∀ e, e ≤ E 9 0 → E 11 e ≤ 4 * e := by
  intro e he
  obtain ⟨a1, a2, a3, a4⟩ := h
  cases e with
  | zero => omega
  | succ e => have := a3 e (by omega); omega
theorem eeE_W (h : WU p E) (hc : E 9 0 < 8) : WU p (eeE E) := by
  obtain ⟨hE, hp, hs, hf⟩ := h
  have h2 := hE.w2
  have h4 := hE.w4
  have h5 := hE.w5
  have h3 := hE.w3
  obtain ⟨a1, a2, a3, a4⟩ := hE.w3
  have e11 : ∀ c, eeE E 11 c = if c = E 9 0 + 1 then E 11 (E 9 0) else E 11 c := fun c => rfl
  have e10 : ∀ c, eeE E 10 c = if c = E 9 0 then 0 else E 10 c := fun c => rfl
  have e9 : eeE E 9 0 = E 9 0 + 1 := rfl
  have h56 : E 0 0 < 56 := by have := h2.1; have := h4.1; have := h5.1; omega
  refine ⟨WE.mk h2 ⟨?_, ?_, ?_, ?_⟩ h4 h5 (hE.w1.tell (E' := eeE E) (so := 1) (n := E 9 0) h56 rfl (fun k => rfl) (fun k => rfl) (Nat.le_refl _) (by rw [e9]; omega) (Nat.le_refl _) (Nat.le_refl _) (by omega) (by omega) (fun z => absurd z (by omega)) (fun _ => by rw [e9]; omega) (fun z => absurd z (by omega)) (fun z => absurd z (by omega))), hp, ?_, hf⟩
  · rw [e9]; omega
  · rw [e11, if_neg (by omega)]; exact a2
  · intro c hcc
    rw [e9] at hcc
    rw [e11, e11, e10, if_neg (show ¬ c = E 9 0 + 1 by omega)]
    by_cases z : c = E 9 0
    · have := h3.at (E 9 0) (Nat.le_refl _)
      rw [if_pos z, if_pos (by omega), z]; omega
    · rw [if_neg z, if_neg (by omega)]; exact a3 c (by omega)
  · intro c q hcc hq
    rw [e9] at hcc
    rw [e10] at hq
    by_cases z : c = E 9 0
    · rw [if_pos z] at hq; omega
    · rw [if_neg z] at hq; exact a4 c q (by omega) hq
  · show E 0 0 + 1 = E 4 0 + (E 9 0 + 1) + E 15 0 + E 17 0
    omega
def evA (A : Hp) (p K c s f : Nat) : Hp := ((ntA ((ntA A (p + 2 + K) s (nI 1) (nI c) 0).sD p 1 (nI (K + 1))) (p + 140 + c) s 0 (nI c) 0).sD (p + 181) (c + 1) (nI f)).sD (p + 138) 3 (nI (c + 1))
theorem evA_ex {A : Hp} {p K c s f : Nat} : exA (fun a y => decide (a = p + 2 + K ∨ (a = p ∧ y = 1) ∨ a = p + 140 + c ∨ (a = p + 181 ∧ y = c + 1) ∨ (a = p + 138 ∧ y = 3))) 0 A (evA A p K c s f) := ((((ntA_ex (fun y => decide_eq_true (by omega))).sD (decide_eq_true (by omega))).tr (ntA_ex (fun y => decide_eq_true (by omega)))).sD (decide_eq_true (by omega))).sD (decide_eq_true (by omega))
theorem UA.evnt {A : Hp} {i cs s : Nat} {nm : List Nat} (h : (UA p T L g E Nm Pv i cs A)) (hC : WU p E) (hc : E 9 0 < 8) (s1 : strA A s nm) (s2 : 626 ≤ s) (s3 : ∀ b, A.P s 0 = .ref b → 626 ≤ b) : (UA p T L g (eeE E) (eeN Nm E nm) Pv i cs (evA A p (E 0 0) (E 9 0) s (E 11 (E 9 0)))) := by
  have hle := h.1.1.1.len
  obtain ⟨h1, ⟨a1, a2, a3, a4, a5, a6⟩, h3, h4, h5⟩ := h
  obtain ⟨hE, hp, hsum, hf⟩ := hC
  have w3 := hE.w3
  have h56 : E 0 0 < 56 := by have := hE.w2.1; have := hE.w4.1; have := hE.w5.1; omega
  have hx := evA_ex (A := A) (p := p) (K := E 0 0) (c := E 9 0) (s := s) (f := E 11 (E 9 0))
  have hxS : exA (SX p) 0 A (evA A p (E 0 0) (E 9 0) s (E 11 (E 9 0))) := hx.mono (fun a f z => decide_eq_false (fun q => by have := of_decide_eq_false z; omega)) (Nat.le_refl _)
  have lt : ∀ a y, decide (a = p + 2 + E 0 0 ∨ (a = p ∧ y = 1) ∨ a = p + 140 + E 9 0 ∨ (a = p + 181 ∧ y = E 9 0 + 1) ∨ (a = p + 138 ∧ y = 3)) = true → a < 626 := fun a y z => by
    have := of_decide_eq_true z
    omega
  have d : ∀ a y, a < 626 → ¬ (a = p + 2 + E 0 0 ∨ (a = p ∧ y = 1) ∨ a = p + 140 + E 9 0 ∨ (a = p + 181 ∧ y = E 9 0 + 1) ∨ (a = p + 138 ∧ y = 3)) → (evA A p (E 0 0) (E 9 0) s (E 11 (E 9 0))).D a y = A.D a y := fun a y h6 z => (hx.2.2.2 a y (by omega) (decide_eq_false z)).1
  have nm' : ∀ a n, a < 626 → ¬ (a = p + 2 + E 0 0 ∨ (a = p ∧ 0 = 1) ∨ a = p + 140 + E 9 0 ∨ (a = p + 181 ∧ 0 = E 9 0 + 1) ∨ (a = p + 138 ∧ 0 = 3)) → nmd A a n → nmd (evA A p (E 0 0) (E 9 0) s (E 11 (E 9 0))) a n := fun a n h6 z q => hx.nmd lt (decide_eq_false z) (by omega) q
  have e11 : ∀ c, eeE E 11 c = if c = E 9 0 + 1 then E 11 (E 9 0) else E 11 c := fun c => rfl
  have e10 : ∀ c, eeE E 10 c = if c = E 9 0 then 0 else E 10 c := fun c => rfl
  have t1 : EA1 ((ntA A (p + 2 + E 0 0) s (nI 1) (nI (E 9 0)) 0).sD p 1 (nI (E 0 0 + 1))) p (eeE E) (eeN Nm E nm) := EA1.tell (show EA1 A p E Nm from a1) hp h56 s1 s2 s3 rfl (fun k => rfl) (fun k => rfl) (fun k => rfl) rfl
  obtain ⟨u1, u2⟩ := ntA_str (x := p + 2 + E 0 0) (t := s) (so := nI 1) (m := nI (E 9 0)) (k := 0) s1 s2 s3 (by omega)
  refine ⟨h1.ex hxS (SX_ok hp) (decide_eq_false (by omega)) (decide_eq_false (by omega)) (decide_eq_false (by omega)) (decide_eq_false (by omega)), ⟨?_, ?_, ⟨?_, ?_, ?_, ?_⟩, ?_, ?_, ?_⟩, ?_, ?_, ?_⟩
  · refine EA1.fr t1 (fun a f z1 z2 => ?_) (fun a n z1 z2 z3 => ?_)
    · have z2' : a < p + 2 + (E 0 0 + 1) := z2
      unfold evA; rw [rdw (by omega), rdw (by omega), ntA_Do (by omega)]
    · have z2' : a < p + 2 + (E 0 0 + 1) := z2
      unfold evA
      exact ((ntA_nmo z3 (by omega) (by omega)).sD (by omega)).sD (by omega)
  · exact EA2.fr (E := E) (Nm := Nm) a2 hE (fun a f z => d a f (by omega) (by omega)) (fun a n z1 z2 z3 => nm' a n (by omega) (by omega) z3)
  · exact rds
  · intro c hc'
    have hc' : c ≤ E 9 0 + 1 := hc'
    rw [e11]
    unfold evA
    rw [rdw (by omega)]
    by_cases z : c = E 9 0 + 1
    · rw [if_pos z, z, rds]
    · rw [if_neg z, rdf z, ntA_Do (by omega), rdw (by omega), ntA_Do (by omega)]
      exact a3.2.1 c (by omega)
  · intro c q hc' hq
    have hc' : c < E 9 0 + 1 := hc'
    rw [e10] at hq
    by_cases z : c = E 9 0
    · rw [if_pos z] at hq; omega
    · rw [if_neg z] at hq
      have := (w3.2.2.1 c (by omega)).2.2
      rw [e11, if_neg (by omega)]
      obtain ⟨b1, b2⟩ := a3.2.2.1 c q (by omega) hq
      exact ⟨nm' _ _ (by omega) (by omega) b1, by rw [d _ _ (by omega) (by omega)]; exact b2⟩
  · intro c hc'
    have hc' : c < E 9 0 + 1 := hc'
    have e8 : eeN Nm E nm 14 c = if c = E 9 0 then nm else Nm 14 c := rfl
    rw [e8]
    by_cases z : c = E 9 0
    · rw [if_pos z, z]
      unfold evA
      exact ((ntA_nm (u1.sD s2 u2 (by omega)) s2 u2 (by omega)).sD (by omega)).sD (by omega)
    · rw [if_neg z]
      exact nm' _ _ (by omega) (by omega) (a3.2.2.2 c (by omega))
  · exact EA4.fr (E := E) (Pv := Pv) a4 (fun a f z => d a f (by omega) (by omega))
  · exact EA5.fr (E := E) a5 (fun a f z => d a f (by omega) (by omega))
  · rw [d _ _ (by omega) (by omega)]; exact a6
  · show (evA A p (E 0 0) (E 9 0) s (E 11 (E 9 0))).D p 1 = nI (E 0 0 + 1)
    unfold evA
    rw [rdw (by omega), rdw (by omega), ntA_Do (by omega), rds]
  · rw [d _ _ (by omega) (by omega)]; exact h4
  · rw [(hx.2.2.2 8 2 (by omega) (decide_eq_false (by omega))).2]; exact h5
def evB (B : Hp) (w i K c : Nat) : Hp := (((tdB B w i K 1 c).sD (w + 15) c (nI i)).sD (w + 16) c 0).sD w 21 (nI (c + 1))
theorem UB.evnt {B : Hp} {i : Nat} (h : (UB w T L g E Nm Pv i B)) (hi : i + 1 < L.length) : (UB w T L g (eeE E) (eeN Nm E (nmT g L i)) Pv (i + 1) (evB B w i (E 0 0) (E 9 0))) := by
  obtain ⟨h1, ⟨b1, b2, b3, b4, b5⟩, h3⟩ := h
  have hs : same (fun a f => (a = w ∧ (f = 11 ∨ f = 12 ∨ f = 21)) ∨ ((a = w + 8 ∨ a = w + 9 ∨ a = w + 10) ∧ f = E 0 0) ∨ (a = w + 15 ∧ f = E 9 0) ∨ (a = w + 16 ∧ f = E 9 0)) B (evB B w i (E 0 0) (E 9 0)) := (((tdB_s.mono (fun a f z => by omega)).sD (by omega)).sD (by omega)).sD (by omega)
  have hl : ltr w B (evB B w i (E 0 0) (E 9 0)) := by refine ⟨?_, ?_, ?_⟩ <;> (funext f; exact hs.1 _ _ (by omega))
  have e11 : ∀ c, eeE E 11 c = if c = E 9 0 + 1 then E 11 (E 9 0) else E 11 c := fun c => rfl
  have e10 : ∀ c, eeE E 10 c = if c = E 9 0 then 0 else E 10 c := fun c => rfl
  have t1 : EB1 (tdB B w i (E 0 0) 1 (E 9 0)) w (eeE E) (eeN Nm E (nmT g L i)) := EB1.tell (show EB1 B w E Nm from b1) h1 (by omega) rfl (fun k => rfl) (fun k => rfl) (fun k => rfl)
  refine ⟨((((tdB_LB h1 hi).sD (by omega)).sD (by omega)).sD (by omega)), ⟨?_, ?_, ⟨?_, ?_, ?_, ?_⟩, ?_, ?_⟩, ?_, h3.2⟩
  · refine EB1.fr t1 ⟨?_, ?_, ?_⟩ (fun a f z => ?_)
    · unfold evB; funext f; rw [rdw (by omega), rdw (by omega), rdw (by omega)]
    · unfold evB; funext f; rw [rdw (by omega), rdw (by omega), rdw (by omega)]
    · unfold evB; funext f; rw [rdw (by omega), rdw (by omega), rdw (by omega)]
    · unfold evB
      by_cases z2 : a = w
      · subst z2; rw [rdf (by omega), rdw (by omega), rdw (by omega)]
      · rw [rdw (by omega), rdw (by omega), rdw (by omega)]
  · exact EB2.fr (E := E) (Nm := Nm) b2 hl (fun a f z => hs.1 _ _ (by omega))
  · exact rds
  · intro c hc'
    have hc' : c < E 9 0 + 1 := hc'
    rw [e10]
    by_cases z : c = E 9 0
    · rw [if_pos z, z]; unfold evB; rw [rdw (by omega), rds]; rfl
    · rw [if_neg z, hs.1 _ _ (by omega)]; exact b3.2.1 c (by omega)
  · intro c q hc' hq
    have hc' : c < E 9 0 + 1 := hc'
    rw [e10] at hq
    by_cases z : c = E 9 0
    · rw [if_pos z] at hq; omega
    · rw [if_neg z] at hq
      obtain ⟨⟨u, u1, u2⟩, a2⟩ := b3.2.2.1 c q (by omega) hq
      exact ⟨⟨u, by rw [hs.1 _ _ (by omega)]; exact u1, u2.ex hl.1 hl.2.1 hl.2.2⟩, by rw [hs.1 _ _ (by omega)]; exact a2⟩
  · intro c hc'
    have hc' : c < E 9 0 + 1 := hc'
    have e8 : eeN Nm E (nmT g L i) 14 c = if c = E 9 0 then nmT g L i else Nm 14 c := rfl
    rw [e8]
    by_cases z : c = E 9 0
    · rw [if_pos z, z]
      exact ⟨i, by unfold evB; rw [rdw (by omega), rdw (by omega), rds], (h1.tn (by omega)).ex hl.1 hl.2.1 hl.2.2⟩
    · rw [if_neg z]
      obtain ⟨u, u1, u2⟩ := b3.2.2.2 c (by omega)
      exact ⟨u, by rw [hs.1 _ _ (by omega)]; exact u1, u2.ex hl.1 hl.2.1 hl.2.2⟩
  · exact EB4.fr (E := E) (Pv := Pv) b4 (fun a f z => hs.1 a f (by omega))
  · exact EB5.fr (E := E) b5 (fun a f z => hs.1 a f (by omega))
  · rw [hs.1 _ _ (by omega)]; exact h3.1
/-! a member of the latest event -/
def enE (E : Nat → Nat → Nat) (e kd : Nat) : Nat → Nat → Nat := upE (upE (upE E 10 e (E 10 e + 1)) 11 (e + 1) (E 11 e + E 10 e + 1)) 12 (4 * e + E 10 e) kd
def enN (Nm : Nat → Nat → List Nat) (E : Nat → Nat → Nat) (e : Nat) (nm : List Nat) : Nat → Nat → List Nat := upN Nm 13 (4 * e + E 10 e) nm
theorem enE_W {kd e : Nat} (h : WU p E) (hc : E 9 0 = e + 1) (h4 : E 10 e < 4) (hk : kd ≤ 4) : WU p (enE E e kd) := by
  obtain ⟨hE, hp, hs, hf⟩ := h
  have w3 := hE.w3
  have hat := w3.at e (by omega)
  obtain ⟨a1, a2, a3, a4⟩ := w3
  have e10 : ∀ x, enE E e kd 10 x = if x = e then E 10 e + 1 else E 10 x := fun x => rfl
  have e11 : ∀ x, enE E e kd 11 x = if x = e + 1 then E 11 e + E 10 e + 1 else E 11 x := fun x => rfl
  have e12 : ∀ m, enE E e kd 12 m = if m = 4 * e + E 10 e then kd else E 12 m := fun m => rfl
  have e9 : enE E e kd 9 0 = E 9 0 := rfl
  refine ⟨WE.mk hE.w2 ⟨a1, ?_, ?_, ?_⟩ hE.w4 hE.w5 hE.w1, hp, hs, hf⟩
  · rw [e11, if_neg (by omega)]; exact a2
  · intro x hx
    rw [e9] at hx
    rw [e11, e11, e10, if_neg (show ¬ x = e + 1 by omega)]
    by_cases z : x = e
    · rw [if_pos z, if_pos (by omega), z]; omega
    · rw [if_neg z, if_neg (by omega)]; exact a3 x hx
  · intro x q hx hq
    rw [e9] at hx
    rw [e10] at hq
    rw [e12]
    by_cases z : x = e
    · rw [if_pos z] at hq
      rw [z]
      by_cases y : q = E 10 e
      · rw [if_pos (by omega)]; exact hk
      · rw [if_neg (by omega)]; exact a4 e q (by omega) (by omega)
    · rw [if_neg z] at hq
      have := (a3 x hx).1
      rw [if_neg (by omega)]; exact a4 x q hx hq
def enA (A : Hp) (p m q s d kd : Nat) : Hp := (ntA A (p + 149 + m) s 4 (nI d) (nI kd)).sD (p + 181) q (nI (m + 1))
theorem UA.emb {A : Hp} {i cs s kd e d : Nat} {nm : List Nat} (h : (UA p T L g E Nm Pv i cs A)) (hC : WU p E) (hc : E 9 0 = e + 1) (h4 : E 10 e < 4) (s1 : strA A s nm) (s2 : 626 ≤ s) (s3 : ∀ b, A.P s 0 = .ref b → 626 ≤ b) : (UA p T L g (enE E e kd) (enN Nm E e nm) Pv i cs (enA A p (E 11 e + E 10 e) (e + 1) s d kd)) := by
  have hle := h.1.1.1.len
  obtain ⟨h1, ⟨a1, a2, a3, a4, a5, a6⟩, h3, h4', h5⟩ := h
  obtain ⟨hE, hp, hsum, hf⟩ := hC
  have w3 := hE.w3
  have hat := w3.at e (by omega)
  have he8 : E 9 0 ≤ 8 := w3.1
  have hx : exA (fun a y => decide (a = p + 149 + (E 11 e + E 10 e) ∨ (a = p + 181 ∧ y = e + 1))) 0 A (enA A p (E 11 e + E 10 e) (e + 1) s d kd) := (ntA_ex (fun y => decide_eq_true (by omega))).sD (decide_eq_true (by omega))
  have hxS : exA (SX p) 0 A (enA A p (E 11 e + E 10 e) (e + 1) s d kd) := hx.mono (fun a f z => decide_eq_false (fun q => by have := of_decide_eq_false z; omega)) (Nat.le_refl _)
  have lt : ∀ a y, decide (a = p + 149 + (E 11 e + E 10 e) ∨ (a = p + 181 ∧ y = e + 1)) = true → a < 626 := fun a y z => by
    have := of_decide_eq_true z
    omega
  have d' : ∀ a y, a < 626 → ¬ (a = p + 149 + (E 11 e + E 10 e) ∨ (a = p + 181 ∧ y = e + 1)) → (enA A p (E 11 e + E 10 e) (e + 1) s d kd).D a y = A.D a y := fun a y h6 z => (hx.2.2.2 a y (by omega) (decide_eq_false z)).1
  have nm' : ∀ a n, a < 626 → ¬ (a = p + 149 + (E 11 e + E 10 e) ∨ (a = p + 181 ∧ 0 = e + 1)) → nmd A a n → nmd (enA A p (E 11 e + E 10 e) (e + 1) s d kd) a n := fun a n h6 z q => hx.nmd lt (decide_eq_false z) (by omega) q
  have e10 : ∀ x, enE E e kd 10 x = if x = e then E 10 e + 1 else E 10 x := fun x => rfl
  have e11 : ∀ x, enE E e kd 11 x = if x = e + 1 then E 11 e + E 10 e + 1 else E 11 x := fun x => rfl
  have e12 : ∀ m, enE E e kd 12 m = if m = 4 * e + E 10 e then kd else E 12 m := fun m => rfl
  have w56 : E 0 0 ≤ 56 := hE.w1.1
  have w48 : E 5 (E 4 0) ≤ 48 := hE.w2.2.2.2.1
  refine ⟨h1.ex hxS (SX_ok hp) (decide_eq_false (by omega)) (decide_eq_false (by omega)) (decide_eq_false (by omega)) (decide_eq_false (by omega)), ⟨?_, ?_, ⟨?_, ?_, ?_, ?_⟩, ?_, ?_, ?_⟩, ?_, ?_, ?_⟩
  · exact EA1.fr (E := E) (Nm := Nm) a1 (fun a f z1 z2 => d' a f (by omega) (by omega)) (fun a n z1 z2 z3 => nm' a n (by omega) (by omega) z3)
  · exact EA2.fr (E := E) (Nm := Nm) a2 hE (fun a f z => d' a f (by omega) (by omega)) (fun a n z1 z2 z3 => nm' a n (by omega) (by omega) z3)
  · rw [d' _ _ (by omega) (by omega)]; exact a3.1
  · intro x hx'
    have hx' : x ≤ E 9 0 := hx'
    rw [e11]
    by_cases z : x = e + 1
    · rw [if_pos z, z]; exact rds
    · rw [if_neg z, d' _ _ (by omega) (by omega)]; exact a3.2.1 x hx'
  · intro x q hx' hq
    have hx' : x < E 9 0 := hx'
    rw [e10] at hq
    have hx4 := (w3.2.2.1 x hx')
    have e13 : ∀ m, enN Nm E e nm 13 m = if m = 4 * e + E 10 e then nm else Nm 13 m := fun m => rfl
    rw [e11, e12, e13, if_neg (show ¬ x = e + 1 by omega)]
    by_cases z : x = e
    · rw [if_pos z] at hq
      rw [z]
      by_cases y : q = E 10 e
      · rw [if_pos (by omega), if_pos (by omega), y]
        unfold enA
        exact ⟨(ntA_nm s1 s2 s3 (by omega)).sD (by omega), by rw [rdw (by omega)]; exact ntA_D.2.2⟩
      · rw [if_neg (by omega), if_neg (by omega)]
        obtain ⟨b1, b2⟩ := a3.2.2.1 e q (by omega) (by omega)
        exact ⟨nm' _ _ (by omega) (by omega) b1, by rw [d' _ _ (by omega) (by omega)]; exact b2⟩
    · rw [if_neg z] at hq
      rw [if_neg (by omega), if_neg (by omega)]
      have hb : E 11 (x + 1) ≤ E 11 e := by
        have mono : ∀ k a, a + k ≤ E 9 0 → E 11 a ≤ E 11 (a + k) := by
          intro k
          induction k with
          | zero => intro a _; exact Nat.le_refl _
          | succ k ih =>
            intro a hak
            have := ih a (by omega)
            have := (w3.2.2.1 (a + k) (by omega)).2.1
            show E 11 a ≤ E 11 (a + k + 1)
            omega
        have := mono (e - (x + 1)) (x + 1) (by omega)
        rw [show x + 1 + (e - (x + 1)) = e by omega] at this
        exact this
      obtain ⟨b1, b2⟩ := a3.2.2.1 x q hx' hq
      exact ⟨nm' _ _ (by omega) (by omega) b1, by rw [d' _ _ (by omega) (by omega)]; exact b2⟩
  · intro x hx'
    have hx' : x < E 9 0 := hx'
    exact nm' _ _ (by omega) (by omega) (a3.2.2.2 x hx')
  · exact EA4.fr (E := E) (Pv := Pv) a4 (fun a f z => d' a f (by omega) (by omega))
  · exact EA5.fr (E := E) a5 (fun a f z => d' a f (by omega) (by omega))
  · rw [d' _ _ (by omega) (by omega)]; exact a6
  · rw [d' _ _ (by omega) (by omega)]; exact h3
  · rw [d' _ _ (by omega) (by omega)]; exact h4'
  · rw [(hx.2.2.2 8 2 (by omega) (decide_eq_false (by omega))).2]; exact h5
def enB (B : Hp) (w e q t kd : Nat) : Hp := ((B.sD (w + 17) (4 * e + q) (nI kd)).sD (w + 18) (4 * e + q) (nI t)).sD (w + 16) e (nI (q + 1))
theorem UB.emb {B : Hp} {i t kd e : Nat} (h : (UB w T L g E Nm Pv i B)) (hC : WU p E) (hc : E 9 0 = e + 1) (h4 : E 10 e < 4) (ht : t < L.length) : (UB w T L g (enE E e kd) (enN Nm E e (nmT g L t)) Pv i (enB B w e (E 10 e) t kd)) := by
  obtain ⟨h1, ⟨b1, b2, b3, b4, b5⟩, h3⟩ := h
  have hs : same (fun a f => (a = w + 17 ∧ f = 4 * e + E 10 e) ∨ (a = w + 18 ∧ f = 4 * e + E 10 e) ∨ (a = w + 16 ∧ f = e)) B (enB B w e (E 10 e) t kd) := ((same.rf.sD (by omega)).sD (by omega)).sD (by omega)
  have hl : ltr w B (enB B w e (E 10 e) t kd) := by refine ⟨?_, ?_, ?_⟩ <;> (funext f; exact hs.1 _ _ (by omega))
  have w3 := hC.1.w3
  have e10 : ∀ x, enE E e kd 10 x = if x = e then E 10 e + 1 else E 10 x := fun x => rfl
  have e12 : ∀ m, enE E e kd 12 m = if m = 4 * e + E 10 e then kd else E 12 m := fun m => rfl
  refine ⟨(((h1.sD (by omega)).sD (by omega)).sD (by omega)), ⟨?_, ?_, ⟨?_, ?_, ?_, ?_⟩, ?_, ?_⟩, ?_, h3.2⟩
  · exact EB1.fr (E := E) (Nm := Nm) b1 hl (fun a f z => hs.1 a f (by omega))
  · exact EB2.fr (E := E) (Nm := Nm) b2 hl (fun a f z => hs.1 a f (by omega))
  · rw [hs.1 _ _ (by omega)]; exact b3.1
  · intro x hx'
    have hx' : x < E 9 0 := hx'
    rw [e10]
    by_cases z : x = e
    · rw [if_pos z, z]; exact rds
    · rw [if_neg z, hs.1 _ _ (by omega)]; exact b3.2.1 x hx'
  · intro x q hx' hq
    have hx' : x < E 9 0 := hx'
    rw [e10] at hq
    have hx4 := (w3.2.2.1 x hx').1
    have e13 : ∀ m, enN Nm E e (nmT g L t) 13 m = if m = 4 * e + E 10 e then nmT g L t else Nm 13 m := fun m => rfl
    rw [e12, e13]
    by_cases y : x = e ∧ q = E 10 e
    · obtain ⟨y1, y2⟩ := y
      rw [y1, y2, if_pos rfl, if_pos rfl]
      exact ⟨⟨t, by unfold enB; rw [rdw (by omega), rds], (h1.tn ht).ex hl.1 hl.2.1 hl.2.2⟩, by unfold enB; rw [rdw (by omega), rdw (by omega), rds]⟩
    · have hq' : q < E 10 x := by
        by_cases z : x = e
        · rw [if_pos z] at hq; rw [z]; omega
        · rw [if_neg z] at hq; exact hq
      rw [if_neg (by omega), if_neg (by omega)]
      obtain ⟨⟨u, u1, u2⟩, u3⟩ := b3.2.2.1 x q hx' hq'
      exact ⟨⟨u, by rw [hs.1 _ _ (by omega)]; exact u1, u2.ex hl.1 hl.2.1 hl.2.2⟩, by rw [hs.1 _ _ (by omega)]; exact u3⟩
  · intro x hx'
    obtain ⟨u, u1, u2⟩ := b3.2.2.2 x hx'
    exact ⟨u, by rw [hs.1 _ _ (by omega)]; exact u1, u2.ex hl.1 hl.2.1 hl.2.2⟩
  · exact EB4.fr (E := E) (Pv := Pv) b4 (fun a f z => hs.1 a f (by omega))
  · exact EB5.fr (E := E) b5 (fun a f z => hs.1 a f (by omega))
  · rw [hs.1 _ _ (by omega)]; exact h3.1
end Par
