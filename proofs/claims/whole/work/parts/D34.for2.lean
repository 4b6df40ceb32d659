/-! ===== for, its loop ===== -/
section Par
variable {N p w T : Nat} {L : List (Nat × Nat × Int32 × Bool × Nat)} {g : Nat → Nat} {E : Nat → Nat → Nat} {Nm : Nat → Nat → List Nat} {Pv : Nat → Nat → Int32} {nL lc dp : Nat} {ln : Nat → List Nat} {lk lf : Nat → Nat} {hd : Nat → Int32}
def forK (N : Nat) (p0 : Nat) (v122 : Unit) (H123 : Hp) : Option (Ot Unit × Hp) :=
    rf (H123.P p0 1) fun a125 =>
    ck (H123.sh[a125]? = some (4, 0)) <|
    bC (F_Program_forget N a125 (1 : Int32) H123) fun v129 H130 =>
    bnd ((H130.D p0 3)) fun x131 =>
    bnd (H130.sD p0 3 (x131 - (1 : Int32))) fun H132 =>
    some (.inl (), H132)
def forC (A : Hp) (p cs lc c nL x : Nat) (op : Int32) : Int32 := if x = cs + 6 then 0 else if x = cs + 5 then nI nL else if x = cs + 4 then nI c else if x = cs + 3 then nI lc else if x = cs + 2 then op else if x = cs + 1 then nI lc else if x = cs then 6 else A.D (p + 191) x
theorem ev_for {A : Hp} {m cs c s : Nat} {op : Int32} {o : Orc_BodyS} (ha : (JA p T L g E Nm Pv nL lc dp ln lk lf hd m cs A)) (hC : (CX p E Nm nL lc dp ln lk lf hd)) (hcs : cs + 7 < 12000) : ∃ A7, (JA p T L g E Nm Pv nL lc dp ln lk lf hd m (cs + 7) A7) ∧ exA (SBo p (E 0 0)) 0 A A7 ∧ (∀ x, A7.D (p + 191) x = forC A p cs lc c nL x op) ∧ B_Body_readFor_103 N o 9 s (nI c) op A = bC (F_Body_tellLocal N 9 s (6 : Int32) (4 : Int32) A7) fun v119 H120 => bT (F_Body_turns N o 9 (nI (cs + 2)) (nI (cs + 6)) (-1) H120) (forK N 9) := by
  have hp := hC.2.1
  have hG := ha.1.1.1
  have hA1 := ha.add (v := 6) hC
  have hA2 := hA1.add (v := nI lc) hC
  have hA3 := hA2.add (v := op) hC
  have hA4 := hA3.add (v := nI lc) hC
  have hA5 := hA4.add (v := nI c) hC
  have hA6 := hA5.add (v := nI nL) hC
  have hA7 := hA6.add (v := 0) hC
  refine ⟨_, hA7, (((((add_ex.tr add_ex).tr add_ex).tr add_ex).tr add_ex).tr add_ex).tr add_ex, fun x => ?_, ?_⟩
  · simp only [code_add]
    rfl
  · unfold B_Body_readFor_103
    rw [ck_t (rS_9 hG), rf_t ha.2.2.1, ck_t (PrS (ha.pP hC)), bC_t (ev_add ha (ha.pP hC) (by omega)), rf_t hA1.2.2.1, bnd_t, hA1.2.2.2.2.2.1, ck_t (PrS (hA1.pP hC)), bC_t (ev_add hA1 (hA1.pP hC) (by omega)), rf_t hA2.2.2.1, ck_t (PrS (hA2.pP hC)), bnd_t, hA2.2.2.2.2.2.2.2.2.1, rf_t hA2.2.2.1, ck_t (PrS (hA2.pP hC)), bC_t (ev_add hA2 (hA2.pP hC) (by omega)), rf_t hA3.2.2.1, bnd_t, hA3.2.2.2.2.2.1, ck_t (PrS (hA3.pP hC)), bC_t (ev_add hA3 (hA3.pP hC) (by omega)), rf_t hA4.2.2.1, ck_t (PrS (hA4.pP hC)), bC_t (ev_add hA4 (hA4.pP hC) (by omega)), rf_t hA5.2.2.1, bnd_t, hA5.2.2.2.2.1, ck_t (PrS (hA5.pP hC)), bC_t (ev_add hA5 (hA5.pP hC) (by omega)), rf_t hA6.2.2.1, ck_t (PrS (hA6.pP hC)), bC_t (ev_add hA6 (hA6.pP hC) (by omega))]
    rfl
theorem jo_for2 {A B : Hp} {m u cs c s : Nat} {op : Int32} {nm : List Nat} {o : Orc_BodyS} {o' : Orc_TextS} (hZ : ZS w o') (hZn : ZN w T L g o') (ih : dp < 20 → IHB o o' p w T L g E Nm Pv (dp + 1)) (ha : (JA p T L g E Nm Pv nL lc dp ln lk lf hd m cs A)) (hb : (JB w T L g E Nm Pv nL lc dp ln lk lf hd m B)) (hC : (CX p E Nm nL lc dp ln lk lf hd)) (hcs : cs + 14 ≤ 2 * tkp L m) (hum : u < m) (htn : tokN B w u nm) (h12 : nL < 12) (hnm : ∀ x, x < E 0 0 → Nm 1 x ≠ nm) (hs1 : strA A s nm) (hs2 : 626 ≤ s) (hs3 : ∀ b, A.P s 0 = .ref b → 626 ≤ b) :
    (Out (SBo p (E 0 0)) (SRo w) w L m A B (B_Body_readFor_103 N o 9 s (nI c) op A) (B_MText_goes_165 N o' w (nI u) B) (fun j _ A' _ B' => dp < 20 ∧ ∃ cc, (JA p T L g E Nm Pv nL lc dp ln lk lf hd j (cc + 2) A') ∧ (JB w T L g E Nm Pv nL lc dp ln lk lf hd j B') ∧ m < j ∧ cs + 8 ≤ cc ∧ cc + 2 * tkp L m ≤ cs + 4 + 2 * tkp L j ∧ cfr p cs A A' ∧ A'.D (p + 191) cs = 6 ∧ A'.D (p + 191) (cs + 1) = nI lc ∧ A'.D (p + 191) (cs + 2) = op ∧ A'.D (p + 191) (cs + 3) = nI lc ∧ A'.D (p + 191) (cs + 4) = nI c ∧ A'.D (p + 191) (cs + 5) = nI nL ∧ A'.D (p + 191) (cs + 6) = nI (cc + 2) ∧ A'.D (p + 191) (cs + 7) = 1 ∧ A'.D (p + 191) cc = 2 ∧ A'.D (p + 191) (cc + 1) = nI (cs + 2) ∧ B'.D (w + 7) u = nI nL ∧ (∀ t, t < m → t ≠ u → B'.D (w + 7) t = B.D (w + 7) t) ∧ (∀ t, t < m → B'.D (w + 5) t = B.D (w + 5) t) ∧ ∀ cd mn nu, Agr p w (cs + 8) cc m j A' B' cd mn nu → DS (tyF L) mn nu cd E 2 (nL + 1) (lc + 1) (up1 lk nL 4) (uph hd lc (-1)) (dp + 1) m j (cs + 8) cc (nL + 1) (up1 lk nL 4))) := by
  have hp := hC.2.1
  have hm := hb.1.2.2.2.2.1
  have hpj := pos_j hb.1
  have hG := ha.1.1.1
  have h56 : E 0 0 ≤ 56 := hC.1.2.2.2.2.2.2.2.2.2.2.2.2.2.1
  have h61 : L.length ≤ 6001 := by have := hb.1.2.2.2.2.2.2.1; have := hb.1.2.2.2.2.2.2.2.1; omega
  obtain ⟨A7, hA7, hx7, hc7, e7⟩ := ev_for (N := N) (c := c) (s := s) (op := op) (o := o) ha hC (by omega)
  obtain ⟨t1, t2⟩ := hx7.str (SBo_lt (by omega)) hs1 hs2 hs3
  have hC8 := hC.tell (k := 4) (f := 1) (nm := nm) h12 (by omega) (by omega) hnm
  have hA8 := hA7.tell (k := 4) (f := 1) hC h12 t1 hs2 t2
  have hB8 := hb.tell (k := 4) (f := 1) htn
  unfold B_MText_goes_165
  rw [e7, bC_t (show F_Body_tellLocal N 9 s (6 : Int32) (4 : Int32) _ = _ from ev_tellLocal (f := 1) (k := 4) hA7 hC h12), ck_t (TS hb.1.1.1), bnd_t (e := B.D w 37), hb.2.2.1, bC_t (show F_MText_tells N w (nI u) (4 : Int32) (1 : Int32) B = _ from ev_tells (k := 4) (f := 1) hb h12 (by omega) (by decide))]
  refine Out.pre (Out.bind (jo_turns (a0 := cs + 2) (x := cs + 6) hZ hZn ih hA8 hB8.lup hC8 (Or.inl rfl) (by omega) (by omega)) ?_ ?_) (hx7.tr ((tl_ex (by omega) (by omega)).mono SJ_SBo (Nat.le_refl _))) tlB_sm (Nat.le_refl _) hm (by omega)
  rotate_left
  · intro y B' k p0 hz
    exact ⟨(), B'.sD w 37 (nI nL), by rw [bnd_t], hz.sD (by omega), same.rf.sD (by unfold SRo; omega)⟩
  intro j v A9 y B9 hij9 hxa9 hsb9 hQ
  obtain ⟨hdp, cc, hA9, hB9, h7, hd3, hd4, hf, c1, c2, c3, c4, hmf9, hds9⟩ := hQ
  have hj := hB9.1.2.2.2.2.1
  have hB10 := hB9.ldn
  have hP9 := hA9.pP hC8
  have heq : ∀ x, x < nL → upn ln nL nm x = ln x ∧ up1 lk nL 4 x = lk x ∧ up1 lf nL 1 x = lf x := fun x hx => ⟨upn_o (by omega), up1_o (by omega), up1_o (by omega)⟩
  have ef : F_Program_forget N p (1 : Int32) A9 = some ((), A9.sD p 1 (nI (E 0 0 + nL))) := by
    have := ev_forget (N := N) (nL := nL) hA9 hP9 hC.1 (by omega) (by omega)
    rw [show nL + 1 - nL = 1 by omega] at this
    exact this
  unfold forK
  rw [rf_t hA9.2.2.1, ck_t (PrS hP9), bC_t ef, bnd_t, rdw (by omega), hA9.2.2.2.2.1, nI_m, bnd_t, bnd_t]
  have tc : ∀ x, (tlA A7 p (p + 2 + (E 0 0 + nL)) s nL (E 0 0 + nL + 1) (nI (5 + 1)) (nI 4)).D (p + 191) x = forC A p cs lc c nL x op := by
    intro x
    unfold tlA
    rw [rdw (by omega), rdw (by omega), rdw (by omega), rdw (by omega), rdw (by omega), sP_D, hc7]
  have cf : ∀ x, x < cs + 7 → x ≠ cs + 6 → ((A9.sD p 1 (nI (E 0 0 + nL))).sD 9 3 (nI nL)).D (p + 191) x = forC A p cs lc c nL x op := by
    intro x hx hne
    rw [rdw (by omega), rdw (by omega), hf x hx hne, tc]
  unfold forC at cf
  have cg : ∀ x, ((A9.sD p 1 (nI (E 0 0 + nL))).sD 9 3 (nI nL)).D (p + 191) x = A9.D (p + 191) x := fun x => by rw [rdw (by omega), rdw (by omega)]
  refine Or.inr ⟨_, _, _, _, j, rfl, rfl, Nat.le_refl _, hj, ((exA.rf.sD (decide_eq_true (by omega))).sD (decide_eq_true (by omega))).mono (fun _ _ h => h) (by omega), same.rf.sD (by unfold SRo; omega), hdp, cc, hA9.fgt hC.1 hp (by omega) (by omega) heq, hB10.fgt (by omega) heq, h7, by omega, by omega, fun x hx => ?_, ?_, ?_, ?_, ?_, ?_, ?_, ?_, ?_, ?_, ?_, ?_, fun t ht hne => ?_, fun t ht => ?_, fun cd mn nu hag => hds9 cd mn nu ⟨fun x a b => ?_, fun t a b => ?_⟩⟩
  · rw [cf x (by omega) (by omega), if_neg (by omega), if_neg (by omega), if_neg (by omega), if_neg (by omega), if_neg (by omega), if_neg (by omega), if_neg (by omega)]
  · rw [cf _ (by omega) (by omega), if_neg (by omega), if_neg (by omega), if_neg (by omega), if_neg (by omega), if_neg (by omega), if_neg (by omega), if_pos rfl]
  · rw [cf _ (by omega) (by omega), if_neg (by omega), if_neg (by omega), if_neg (by omega), if_neg (by omega), if_neg (by omega), if_pos rfl]
  · rw [cf _ (by omega) (by omega), if_neg (by omega), if_neg (by omega), if_neg (by omega), if_neg (by omega), if_pos rfl]
  · rw [cf _ (by omega) (by omega), if_neg (by omega), if_neg (by omega), if_neg (by omega), if_pos rfl]
  · rw [cf _ (by omega) (by omega), if_neg (by omega), if_neg (by omega), if_pos rfl]
  · rw [cf _ (by omega) (by omega), if_neg (by omega), if_pos rfl]
  · rw [cg]; exact c1
  · rw [cg]; exact c2
  · rw [cg]; exact c3
  · rw [cg]; exact c4
  · rw [rdw (by omega), (hmf9 u hum).1, tlB_m.1, if_pos rfl]
  · rw [rdw (by omega), (hmf9 t ht).1, tlB_m.1, if_neg hne]
  · rw [rdw (by omega), (hmf9 t ht).2, tlB_m.2]
  · rw [hag.1 x a b, cg]
  · obtain ⟨v1, v2⟩ := hag.2 t a b
    rw [rdw (by omega)] at v1 v2
    exact ⟨v1, v2⟩
end Par
