/-! ===== components: the record on both sides ===== -/
section Par
variable {N p w T : Nat} {L : List (Nat × Nat × Int32 × Bool × Nat)} {g : Nat → Nat} {E : Nat → Nat → Nat} {Nm : Nat → Nat → List Nat} {Pv : Nat → Nat → Int32} {nL lc dp : Nat} {ln : Nat → List Nat} {lk lf : Nat → Nat} {hd : Nat → Int32}
def coA (A : Hp) (p K c s f : Nat) : Hp := ((ntA ((ntA A (p + 2 + K) s (nI 0) (nI c) 0).sD p 1 (nI (K + 1))) (p + 72 + c) s 0 (nI c) 0).sD (p + 137) (c + 1) (nI f)).sD (p + 70) 3 (nI (c + 1))
theorem coA_ex {A : Hp} {p K c s f : Nat} : exA (fun a y => decide (a = p + 2 + K ∨ (a = p ∧ y = 1) ∨ a = p + 72 + c ∨ (a = p + 137 ∧ y = c + 1) ∨ (a = p + 70 ∧ y = 3))) 0 A (coA A p K c s f) := ((((ntA_ex (fun y => decide_eq_true (by omega))).sD (decide_eq_true (by omega))).tr (ntA_ex (fun y => decide_eq_true (by omega)))).sD (decide_eq_true (by omega))).sD (decide_eq_true (by omega))
theorem UA.comp {A : Hp} {i cs s : Nat} {nm : List Nat} (h : (UA p T L g E Nm Pv i cs A)) (hC : WU p E) (hc : E 4 0 < 16) (s1 : strA A s nm) (s2 : 626 ≤ s) (s3 : ∀ b, A.P s 0 = .ref b → 626 ≤ b) : (UA p T L g (ecE E) (ecN Nm E nm) Pv i cs (coA A p (E 0 0) (E 4 0) s (E 5 (E 4 0)))) := by
  have hle := h.1.1.1.len
  obtain ⟨h1, ⟨a1, a2, a3, a4, a5, a6⟩, h3, h4, h5⟩ := h
  obtain ⟨hE, hp, hsum, hf⟩ := hC
  have w2 := hE.w2
  have h56 : E 0 0 < 56 := by have := hE.w3.1; have := hE.w4.1; have := hE.w5.1; omega
  have hx := coA_ex (A := A) (p := p) (K := E 0 0) (c := E 4 0) (s := s) (f := E 5 (E 4 0))
  have hxS : exA (SX p) 0 A (coA A p (E 0 0) (E 4 0) s (E 5 (E 4 0))) := hx.mono (fun a f z => decide_eq_false (fun q => by have := of_decide_eq_false z; omega)) (Nat.le_refl _)
  have lt : ∀ a y, decide (a = p + 2 + E 0 0 ∨ (a = p ∧ y = 1) ∨ a = p + 72 + E 4 0 ∨ (a = p + 137 ∧ y = E 4 0 + 1) ∨ (a = p + 70 ∧ y = 3)) = true → a < 626 := fun a y z => by
    have := of_decide_eq_true z
    omega
  have d : ∀ a y, a < 626 → ¬ (a = p + 2 + E 0 0 ∨ (a = p ∧ y = 1) ∨ a = p + 72 + E 4 0 ∨ (a = p + 137 ∧ y = E 4 0 + 1) ∨ (a = p + 70 ∧ y = 3)) → (coA A p (E 0 0) (E 4 0) s (E 5 (E 4 0))).D a y = A.D a y := fun a y h6 z => (hx.2.2.2 a y (by omega) (decide_eq_false z)).1
  have nm' : ∀ a n, a < 626 → ¬ (a = p + 2 + E 0 0 ∨ (a = p ∧ 0 = 1) ∨ a = p + 72 + E 4 0 ∨ (a = p + 137 ∧ 0 = E 4 0 + 1) ∨ (a = p + 70 ∧ 0 = 3)) → nmd A a n → nmd (coA A p (E 0 0) (E 4 0) s (E 5 (E 4 0))) a n := fun a n h6 z q => hx.nmd lt (decide_eq_false z) (by omega) q
  have e5 : ∀ c, ecE E 5 c = if c = E 4 0 + 1 then E 5 (E 4 0) else E 5 c := fun c => rfl
  have t1 : EA1 ((ntA A (p + 2 + E 0 0) s (nI 0) (nI (E 4 0)) 0).sD p 1 (nI (E 0 0 + 1))) p (ecE E) (ecN Nm E nm) := EA1.tell (show EA1 A p E Nm from a1) hp h56 s1 s2 s3 rfl (fun k => rfl) (fun k => rfl) (fun k => rfl) rfl
  obtain ⟨u1, u2⟩ := ntA_str (x := p + 2 + E 0 0) (t := s) (so := nI 0) (m := nI (E 4 0)) (k := 0) s1 s2 s3 (by omega)
  refine ⟨h1.ex hxS (SX_ok hp) (decide_eq_false (by omega)) (decide_eq_false (by omega)) (decide_eq_false (by omega)) (decide_eq_false (by omega)), ⟨?_, ⟨?_, ?_, ?_, ?_⟩, ?_, ?_, ?_, ?_⟩, ?_, ?_, ?_⟩
  · refine EA1.fr t1 (fun a f z1 z2 => ?_) (fun a n z1 z2 z3 => ?_)
    · have z2' : a < p + 2 + (E 0 0 + 1) := z2
      unfold coA; rw [rdw (by omega), rdw (by omega), ntA_Do (by omega)]
    · have z2' : a < p + 2 + (E 0 0 + 1) := z2
      unfold coA
      exact ((ntA_nmo z3 (by omega) (by omega)).sD (by omega)).sD (by omega)
  · exact rds
  · intro c hc'
    have hc' : c ≤ E 4 0 + 1 := hc'
    rw [e5]
    unfold coA
    rw [rdw (by omega)]
    by_cases z : c = E 4 0 + 1
    · rw [if_pos z, z, rds]
    · rw [if_neg z, rdf z, ntA_Do (by omega), rdw (by omega), ntA_Do (by omega)]
      exact a2.2.1 c (by omega)
  · intro m hm
    have hm' : m < E 5 (E 4 0) := by
      have : m < ecE E 5 (E 4 0 + 1) := hm
      rw [e5, if_pos rfl] at this
      exact this
    have := w2.2.2.2.1
    obtain ⟨b1, b2⟩ := a2.2.2.1 m hm'
    exact ⟨nm' _ _ (by omega) (by omega) b1, by rw [d _ _ (by omega) (by omega)]; exact b2⟩
  · intro c hc'
    have hc' : c < E 4 0 + 1 := hc'
    have e8 : ecN Nm E nm 8 c = if c = E 4 0 then nm else Nm 8 c := rfl
    rw [e8]
    by_cases z : c = E 4 0
    · rw [if_pos z, z]
      unfold coA
      exact ((ntA_nm (u1.sD s2 u2 (by omega)) s2 u2 (by omega)).sD (by omega)).sD (by omega)
    · rw [if_neg z]
      exact nm' _ _ (by omega) (by omega) (a2.2.2.2 c (by omega))
  · exact EA3.fr (E := E) (Nm := Nm) a3 hE (fun a f z => d a f (by omega) (by omega)) (fun a n z1 z2 z3 => nm' a n (by omega) (by omega) z3)
  · have t4 := EA4.fr (show EA4 A p E Pv from a4) (fun a f z => d a f (by omega) (by omega))
    refine ⟨t4.1, fun f hf => ⟨(t4.2 f hf).1, fun c m hm hb => (t4.2 f hf).2 c m ?_ hb⟩⟩
    obtain ⟨m1, m2, m3⟩ := hm
    have m1 : c < E 4 0 + 1 := m1
    rw [e5] at m2 m3
    rw [if_neg (by omega)] at m2
    by_cases z : c = E 4 0
    · rw [if_pos (by omega)] at m3; rw [z] at m2; omega
    · rw [if_neg (by omega)] at m3
      exact ⟨by omega, m2, m3⟩
  · exact EA5.fr (E := E) a5 (fun a f z => d a f (by omega) (by omega))
  · rw [d _ _ (by omega) (by omega)]; exact a6
  · show (coA A p (E 0 0) (E 4 0) s (E 5 (E 4 0))).D p 1 = nI (E 0 0 + 1)
    unfold coA
    rw [rdw (by omega), rdw (by omega), ntA_Do (by omega), rds]
  · rw [d _ _ (by omega) (by omega)]; exact h4
  · rw [(hx.2.2.2 8 2 (by omega) (decide_eq_false (by omega))).2]; exact h5
def coB (B : Hp) (w i K c f : Nat) : Hp := (((tdB B w i K 0 c).sD (w + 11) c (nI i)).sD (w + 12) (c + 1) (nI f)).sD w 16 (nI (c + 1))
theorem mOf_ec {c m : Nat} (hm : mOf (ecE E) c m) : mOf E c m := by
  have e5 : ∀ c, ecE E 5 c = if c = E 4 0 + 1 then E 5 (E 4 0) else E 5 c := fun c => rfl
  obtain ⟨m1, m2, m3⟩ := hm
  have m1 : c < E 4 0 + 1 := m1
  rw [e5] at m2 m3
  rw [if_neg (by omega)] at m2
  by_cases z : c = E 4 0
  · rw [if_pos (by omega)] at m3; rw [z] at m2; omega
  · rw [if_neg (by omega)] at m3
    exact ⟨by omega, m2, m3⟩
theorem UB.comp {B : Hp} {i : Nat} (h : (UB w T L g E Nm Pv i B)) (hC : WU p E) (hi : i + 1 < L.length) : (UB w T L g (ecE E) (ecN Nm E (nmT g L i)) Pv (i + 1) (coB B w i (E 0 0) (E 4 0) (E 5 (E 4 0)))) := by
  obtain ⟨h1, ⟨b1, b2, b3, b4, b5⟩, h3⟩ := h
  have hs : same (fun a f => (a = w ∧ (f = 11 ∨ f = 12 ∨ f = 16)) ∨ ((a = w + 8 ∨ a = w + 9 ∨ a = w + 10) ∧ f = E 0 0) ∨ (a = w + 11 ∧ f = E 4 0) ∨ (a = w + 12 ∧ f = E 4 0 + 1)) B (coB B w i (E 0 0) (E 4 0) (E 5 (E 4 0))) := (((tdB_s.mono (fun a f z => by omega)).sD (by omega)).sD (by omega)).sD (by omega)
  have hl : ltr w B (coB B w i (E 0 0) (E 4 0) (E 5 (E 4 0))) := by refine ⟨?_, ?_, ?_⟩ <;> (funext f; exact hs.1 _ _ (by omega))
  have e5 : ∀ c, ecE E 5 c = if c = E 4 0 + 1 then E 5 (E 4 0) else E 5 c := fun c => rfl
  have t1 : EB1 (tdB B w i (E 0 0) 0 (E 4 0)) w (ecE E) (ecN Nm E (nmT g L i)) := EB1.tell (show EB1 B w E Nm from b1) h1 (by omega) rfl (fun k => rfl) (fun k => rfl) (fun k => rfl)
  refine ⟨((((tdB_LB h1 hi).sD (by omega)).sD (by omega)).sD (by omega)), ⟨?_, ⟨?_, ?_, ?_, ?_⟩, ?_, ?_, ?_⟩, ?_, fun f c m hf hm hb => h3.2 f c m hf (mOf_ec hm) hb⟩
  · refine EB1.fr t1 ⟨?_, ?_, ?_⟩ (fun a f z => ?_)
    · unfold coB; funext f; rw [rdw (by omega), rdw (by omega), rdw (by omega)]
    · unfold coB; funext f; rw [rdw (by omega), rdw (by omega), rdw (by omega)]
    · unfold coB; funext f; rw [rdw (by omega), rdw (by omega), rdw (by omega)]
    · unfold coB
      by_cases z2 : a = w
      · subst z2; rw [rdf (by omega), rdw (by omega), rdw (by omega)]
      · rw [rdw (by omega), rdw (by omega), rdw (by omega)]
  · exact rds
  · intro c hc'
    have hc' : c ≤ E 4 0 + 1 := hc'
    rw [e5]
    by_cases z : c = E 4 0 + 1
    · rw [if_pos z, z]; unfold coB; rw [rdw (by omega), rds]
    · rw [if_neg z, hs.1 _ _ (by omega)]; exact b2.2.1 c (by omega)
  · intro m hm
    have hm' : m < E 5 (E 4 0) := by
      have : m < ecE E 5 (E 4 0 + 1) := hm
      rw [e5, if_pos rfl] at this
      exact this
    obtain ⟨⟨u, u1, u2⟩, a2⟩ := b2.2.2.1 m hm'
    exact ⟨⟨u, by rw [hs.1 _ _ (by omega)]; exact u1, u2.ex hl.1 hl.2.1 hl.2.2⟩, by rw [hs.1 _ _ (by omega)]; exact a2⟩
  · intro c hc'
    have hc' : c < E 4 0 + 1 := hc'
    have e8 : ecN Nm E (nmT g L i) 8 c = if c = E 4 0 then nmT g L i else Nm 8 c := rfl
    rw [e8]
    by_cases z : c = E 4 0
    · rw [if_pos z, z]
      exact ⟨i, by unfold coB; rw [rdw (by omega), rdw (by omega), rds], (h1.tn (by omega)).ex hl.1 hl.2.1 hl.2.2⟩
    · rw [if_neg z]
      obtain ⟨u, u1, u2⟩ := b2.2.2.2 c (by omega)
      exact ⟨u, by rw [hs.1 _ _ (by omega)]; exact u1, u2.ex hl.1 hl.2.1 hl.2.2⟩
  · exact EB3.fr (E := E) (Nm := Nm) b3 hl (fun a f z => hs.1 _ _ (by omega))
  · have t4 := EB4.fr (show EB4 B w E Pv from b4) (fun a f z => hs.1 a f (by omega))
    refine ⟨t4.1, fun f hf => ⟨(t4.2 f hf).1, fun c m hm hb => (t4.2 f hf).2 c m ?_ hb⟩⟩
    obtain ⟨m1, m2, m3⟩ := hm
    have m1 : c < E 4 0 + 1 := m1
    rw [e5] at m2 m3
    rw [if_neg (by omega)] at m2
    by_cases z : c = E 4 0
    · rw [if_pos (by omega)] at m3; rw [z] at m2; omega
    · rw [if_neg (by omega)] at m3
      exact ⟨by omega, m2, m3⟩
  · exact EB5.fr (E := E) b5 (fun a f z => hs.1 a f (by omega))
  · rw [hs.1 _ _ (by omega)]; exact h3.1
/-! a member of the latest component -/
def emE (E : Nat → Nat → Nat) (kd : Nat) : Nat → Nat → Nat := upE (upE E 5 (E 4 0) (E 5 (E 4 0) + 1)) 6 (E 5 (E 4 0)) kd
def emN (Nm : Nat → Nat → List Nat) (E : Nat → Nat → Nat) (nm : List Nat) : Nat → Nat → List Nat := upN Nm 7 (E 5 (E 4 0)) nm
theorem emE_W {kd c : Nat} (h : WU p E) (hc : E 4 0 = c + 1) (h48 : E 5 (E 4 0) < 48) (h8 : E 5 (c + 1) < E 5 c + 8) (hk : kd ≤ 4) : WU p (emE E kd) := by
  obtain ⟨hE, hp, hs, hf⟩ := h
  obtain ⟨a1, a2, a3, a4, a5⟩ := hE.w2
  have e5 : ∀ x, emE E kd 5 x = if x = E 4 0 then E 5 (E 4 0) + 1 else E 5 x := fun x => rfl
  have e6 : ∀ m, emE E kd 6 m = if m = E 5 (E 4 0) then kd else E 6 m := fun m => rfl
  have e4 : emE E kd 4 0 = E 4 0 := rfl
  refine ⟨WE.mk ⟨a1, ?_, ?_, ?_, ?_⟩ hE.w3 hE.w4 hE.w5 hE.w1, hp, hs, hf⟩
  · rw [e5, if_neg (by omega)]; exact a2
  · intro x hx
    have hx : x < E 4 0 := hx
    have := a3 x hx
    rw [e4, e5, e5, e5, if_pos rfl, if_neg (show ¬ x = E 4 0 by omega)]
    by_cases z : x + 1 = E 4 0
    · have zc : x = c := by omega
      rw [if_pos z]
      rw [hc, zc] at this ⊢
      omega
    · rw [if_neg z]; omega
  · rw [e4, e5, if_pos rfl]; omega
  · intro m hm
    rw [e4, e5, if_pos rfl] at hm
    rw [e6]
    by_cases z : m = E 5 (E 4 0)
    · rw [if_pos z]; exact hk
    · rw [if_neg z]; exact a5 m (by omega)
def meA (A : Hp) (p m q s d kd : Nat) : Hp := (ntA A (p + 89 + m) s 4 (nI d) (nI kd)).sD (p + 137) q (nI (m + 1))
theorem UA.memb {A : Hp} {i cs s kd c d : Nat} {nm : List Nat} (h : (UA p T L g E Nm Pv i cs A)) (hC : WU p E) (hc : E 4 0 = c + 1) (hF : ∀ f, f < E 15 0 → E 16 f < 2 ^ c) (h48 : E 5 (E 4 0) < 48) (s1 : strA A s nm) (s2 : 626 ≤ s) (s3 : ∀ b, A.P s 0 = .ref b → 626 ≤ b) : (UA p T L g (emE E kd) (emN Nm E nm) Pv i cs (meA A p (E 5 (E 4 0)) (E 4 0) s d kd)) := by
  have hle := h.1.1.1.len
  obtain ⟨h1, ⟨a1, a2, a3, a4, a5, a6⟩, h3, h4, h5⟩ := h
  obtain ⟨hE, hp, hsum, hf⟩ := hC
  have w2 := hE.w2
  have hx : exA (fun a y => decide (a = p + 89 + E 5 (E 4 0) ∨ (a = p + 137 ∧ y = E 4 0))) 0 A (meA A p (E 5 (E 4 0)) (E 4 0) s d kd) := (ntA_ex (fun y => decide_eq_true (by omega))).sD (decide_eq_true (by omega))
  have hxS : exA (SX p) 0 A (meA A p (E 5 (E 4 0)) (E 4 0) s d kd) := hx.mono (fun a f z => decide_eq_false (fun q => by have := of_decide_eq_false z; omega)) (Nat.le_refl _)
  have lt : ∀ a y, decide (a = p + 89 + E 5 (E 4 0) ∨ (a = p + 137 ∧ y = E 4 0)) = true → a < 626 := fun a y z => by
    have := of_decide_eq_true z
    omega
  have d' : ∀ a y, a < 626 → ¬ (a = p + 89 + E 5 (E 4 0) ∨ (a = p + 137 ∧ y = E 4 0)) → (meA A p (E 5 (E 4 0)) (E 4 0) s d kd).D a y = A.D a y := fun a y h6 z => (hx.2.2.2 a y (by omega) (decide_eq_false z)).1
  have nm' : ∀ a n, a < 626 → ¬ (a = p + 89 + E 5 (E 4 0) ∨ (a = p + 137 ∧ 0 = E 4 0)) → nmd A a n → nmd (meA A p (E 5 (E 4 0)) (E 4 0) s d kd) a n := fun a n h6 z q => hx.nmd lt (decide_eq_false z) (by omega) q
  have e5 : ∀ x, emE E kd 5 x = if x = E 4 0 then E 5 (E 4 0) + 1 else E 5 x := fun x => rfl
  have e6 : ∀ m, emE E kd 6 m = if m = E 5 (E 4 0) then kd else E 6 m := fun m => rfl
  have e4 : emE E kd 4 0 = E 4 0 := rfl
  have w56 : E 0 0 ≤ 56 := hE.w1.1
  refine ⟨h1.ex hxS (SX_ok hp) (decide_eq_false (by omega)) (decide_eq_false (by omega)) (decide_eq_false (by omega)) (decide_eq_false (by omega)), ⟨?_, ⟨?_, ?_, ?_, ?_⟩, ?_, ?_, ?_, ?_⟩, ?_, ?_, ?_⟩
  · exact EA1.fr (E := E) (Nm := Nm) a1 (fun a f z1 z2 => d' a f (by omega) (by omega)) (fun a n z1 z2 z3 => nm' a n (by omega) (by omega) z3)
  · rw [d' _ _ (by omega) (by omega)]; exact a2.1
  · intro x hx'
    have hx' : x ≤ E 4 0 := hx'
    rw [e5]
    by_cases z : x = E 4 0
    · rw [if_pos z, z]; exact rds
    · rw [if_neg z, d' _ _ (by omega) (by omega)]; exact a2.2.1 x hx'
  · intro m hm
    rw [e4, e5, if_pos rfl] at hm
    rw [e6]
    have e7 : emN Nm E nm 7 m = if m = E 5 (E 4 0) then nm else Nm 7 m := rfl
    rw [e7]
    by_cases z : m = E 5 (E 4 0)
    · rw [if_pos z, if_pos z, z]
      unfold meA
      exact ⟨(ntA_nm s1 s2 s3 (by omega)).sD (by omega), by rw [rdw (by omega)]; exact ntA_D.2.2⟩
    · rw [if_neg z, if_neg z]
      obtain ⟨b1, b2⟩ := a2.2.2.1 m (by omega)
      exact ⟨nm' _ _ (by omega) (by omega) b1, by rw [d' _ _ (by omega) (by omega)]; exact b2⟩
  · intro x hx'
    have hx' : x < E 4 0 := hx'
    have := w2.1
    exact nm' _ _ (by omega) (by omega) (a2.2.2.2 x hx')
  · exact EA3.fr (E := E) (Nm := Nm) a3 hE (fun a f z => d' a f (by omega) (by omega)) (fun a n z1 z2 z3 => nm' a n (by omega) (by omega) z3)
  · have t4 := EA4.fr (show EA4 A p E Pv from a4) (fun a f z => d' a f (by omega) (by omega))
    refine ⟨t4.1, fun f hf => ⟨(t4.2 f hf).1, fun x m hm hb => (t4.2 f hf).2 x m ?_ hb⟩⟩
    obtain ⟨m1, m2, m3⟩ := hm
    have m1 : x < E 4 0 := m1
    rw [e5] at m2 m3
    rw [if_neg (by omega)] at m2
    by_cases z : x = c
    · have hb' : E 16 f / 2 ^ x % 2 = 1 := hb
      rw [z, Nat.div_eq_of_lt (hF f hf)] at hb'
      exact absurd hb' (by decide)
    · rw [if_neg (by omega)] at m3
      exact ⟨m1, m2, m3⟩
  · exact EA5.fr (E := E) a5 (fun a f z => d' a f (by omega) (by omega))
  · rw [d' _ _ (by omega) (by omega)]; exact a6
  · rw [d' _ _ (by omega) (by omega)]; exact h3
  · rw [d' _ _ (by omega) (by omega)]; exact h4
  · rw [(hx.2.2.2 8 2 (by omega) (decide_eq_false (by omega))).2]; exact h5
def meB (B : Hp) (w m q t kd : Nat) : Hp := ((B.sD (w + 13) m (nI kd)).sD (w + 14) m (nI t)).sD (w + 12) q (nI (m + 1))
theorem UB.memb {B : Hp} {i t kd c : Nat} (h : (UB w T L g E Nm Pv i B)) (hC : WU p E) (hc : E 4 0 = c + 1) (hF : ∀ f, f < E 15 0 → E 16 f < 2 ^ c) (ht : t < L.length) : (UB w T L g (emE E kd) (emN Nm E (nmT g L t)) Pv i (meB B w (E 5 (E 4 0)) (E 4 0) t kd)) := by
  obtain ⟨h1, ⟨b1, b2, b3, b4, b5⟩, h3⟩ := h
  have hs : same (fun a f => (a = w + 13 ∧ f = E 5 (E 4 0)) ∨ (a = w + 14 ∧ f = E 5 (E 4 0)) ∨ (a = w + 12 ∧ f = E 4 0)) B (meB B w (E 5 (E 4 0)) (E 4 0) t kd) := ((same.rf.sD (by omega)).sD (by omega)).sD (by omega)
  have hl : ltr w B (meB B w (E 5 (E 4 0)) (E 4 0) t kd) := by refine ⟨?_, ?_, ?_⟩ <;> (funext f; exact hs.1 _ _ (by omega))
  have e5 : ∀ x, emE E kd 5 x = if x = E 4 0 then E 5 (E 4 0) + 1 else E 5 x := fun x => rfl
  have e6 : ∀ m, emE E kd 6 m = if m = E 5 (E 4 0) then kd else E 6 m := fun m => rfl
  have e4 : emE E kd 4 0 = E 4 0 := rfl
  refine ⟨(((h1.sD (by omega)).sD (by omega)).sD (by omega)), ⟨?_, ⟨?_, ?_, ?_, ?_⟩, ?_, ?_, ?_⟩, ?_, ?_⟩
  · exact EB1.fr (E := E) (Nm := Nm) b1 hl (fun a f z => hs.1 a f (by omega))
  · rw [hs.1 _ _ (by omega)]; exact b2.1
  · intro x hx'
    have hx' : x ≤ E 4 0 := hx'
    rw [e5]
    by_cases z : x = E 4 0
    · rw [if_pos z, z]; exact rds
    · rw [if_neg z, hs.1 _ _ (by omega)]; exact b2.2.1 x hx'
  · intro m hm
    rw [e4, e5, if_pos rfl] at hm
    rw [e6]
    have e7 : emN Nm E (nmT g L t) 7 m = if m = E 5 (E 4 0) then nmT g L t else Nm 7 m := rfl
    rw [e7]
    by_cases z : m = E 5 (E 4 0)
    · rw [if_pos z, if_pos z, z]
      exact ⟨⟨t, by unfold meB; rw [rdw (by omega), rds], (h1.tn ht).ex hl.1 hl.2.1 hl.2.2⟩, by unfold meB; rw [rdw (by omega), rdw (by omega), rds]⟩
    · rw [if_neg z, if_neg z]
      obtain ⟨⟨u, u1, u2⟩, u3⟩ := b2.2.2.1 m (by omega)
      exact ⟨⟨u, by rw [hs.1 _ _ (by omega)]; exact u1, u2.ex hl.1 hl.2.1 hl.2.2⟩, by rw [hs.1 _ _ (by omega)]; exact u3⟩
  · intro x hx'
    obtain ⟨u, u1, u2⟩ := b2.2.2.2 x hx'
    exact ⟨u, by rw [hs.1 _ _ (by omega)]; exact u1, u2.ex hl.1 hl.2.1 hl.2.2⟩
  · exact EB3.fr (E := E) (Nm := Nm) b3 hl (fun a f z => hs.1 _ _ (by omega))
  · have t4 := EB4.fr (show EB4 B w E Pv from b4) (fun a f z => hs.1 a f (by omega))
    refine ⟨t4.1, fun f hf => ⟨(t4.2 f hf).1, fun x m hm hb => (t4.2 f hf).2 x m ?_ hb⟩⟩
    obtain ⟨m1, m2, m3⟩ := hm
    have m1 : x < E 4 0 := m1
    rw [e5] at m2 m3
    rw [if_neg (by omega)] at m2
    by_cases z : x = c
    · have hb' : E 16 f / 2 ^ x % 2 = 1 := hb
      rw [z, Nat.div_eq_of_lt (hF f hf)] at hb'
      exact absurd hb' (by decide)
    · rw [if_neg (by omega)] at m3
      exact ⟨m1, m2, m3⟩
  · exact EB5.fr (E := E) b5 (fun a f z => hs.1 a f (by omega))
  · rw [hs.1 _ _ (by omega)]; exact h3.1
  · intro f x m hf hm hb
    obtain ⟨m1, m2, m3⟩ := hm
    have m1 : x < E 4 0 := m1
    have w2 := hC.1.w2
    rw [e5] at m2 m3
    rw [if_neg (by omega)] at m2
    by_cases z : x = c
    · have hb' : E 16 f / 2 ^ x % 2 = 1 := hb
      rw [z, Nat.div_eq_of_lt (hF f hf)] at hb'
      exact absurd hb' (by decide)
    · rw [if_neg (by omega)] at m3
      have := (w2.2.2.1 x m1).2.2
      rw [e6, if_neg (by omega)]
      exact h3.2 f x m hf ⟨m1, m2, m3⟩ hb
end Par
