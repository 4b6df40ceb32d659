/-! ===== a text is read into the spare one, both sides ===== -/
theorem okSRA : okS (SRA 133) = true ∧ okS (SRA 325) = true := by decide +kernel
theorem SRA_gr {p k : Nat} {A A' : Hp} (hp : p = 133 ∨ p = 325) (h : exA (SRA p) k A A') (hG : Gr A) : Gr A' := by
  rcases hp with rfl | rfl
  · exact h.gr hG okSRA.1
  · exact h.gr hG okSRA.2
theorem SRA_le {p a f : Nat} (h : SRA p a f = true) : (1 ≤ a ∧ a ≤ 10 ∧ a ≠ 7 ∧ a ≠ 2) ∨ (p ≤ a ∧ a ≤ p + 191) := by
  unfold SRA SD1 SD at h
  rw [Bool.or_eq_true, Bool.or_eq_true, decide_eq_true_iff, decide_eq_true_iff, decide_eq_true_iff] at h
  omega
def RDB (w a f : Nat) : Prop := SRB w a f ∨ (a = 517 ∧ (f = 2 ∨ f = 6 ∨ f = 7))
theorem RDB_le {w a f : Nat} (h : RDB w a f) : (w ≤ a ∧ a ≤ w + 30) ∨ (a = 517 ∧ (f = 2 ∨ f = 6 ∨ f = 7)) := by
  unfold RDB SRB SRd scaS at h
  omega
section Par
variable {N p wo inp cs w u ir M K0 : Nat} {s pl : Int32} {ty mn nu cd : Nat → Int32} {E Q : Nat → Nat → Nat} {V : Nat → Nat → Int32} {nL lc : Nat} {lk : Nat → Nat} {hd : Nat → Int32}
theorem rd_jo {A B : Hp} (hp : p = 133 ∨ p = 325) (hw : w ∈ lT) (hGA : Gr A) (hGB : Gr B) (hR : RTP A B) (hSt : StA A) (b4 : B.P 517 4 = .ref w) (h37 : B.D w 37 = 0) (hN : 7000 ≤ N) : ∃ T, T ≤ 6000 ∧ A.D 1 1 = nI T ∧
    ((∃ A' B' k p0, 0 < k ∧ k < 100 ∧ F_Reader_readAll N 8 p A = some (0, A') ∧ F_M_reads N 517 B = some (0, B') ∧ A'.D 1 4 = nI k ∧ A'.D 1 5 = nI p0 ∧ B'.D 517 6 = nI k ∧ B'.D 517 7 = nI p0 ∧ exA (SRA p) (2 * (T + 2)) A A' ∧ same (RDB w) B B' ∧ A'.D 1 1 = 0 ∧ B'.D 517 2 = 0 ∧ B'.D w 37 = 0) ∨
    ∃ (A' B' : Hp) (cs M : Nat) (ty mn nu cd : Nat → Int32) (E : Nat → Nat → Nat) (Nm : Nat → Nat → List Nat) (Pv : Nat → Nat → Int32), F_Reader_readAll N 8 p A = some (1, A') ∧ F_M_reads N 517 B = some (1, B') ∧ A'.D 1 4 = 0 ∧ B'.D 517 6 = -1 ∧ B'.D 517 7 = -1 ∧ TXF A' p B' w cs M ty mn nu cd E Nm Pv ∧ (TXQ M cs ty mn nu cd E Pv ∧ NMQ E Nm) ∧ exA (SRA p) (2 * (T + 2)) A A' ∧ same (RDB w) B B' ∧ A'.D 1 1 = 0 ∧ B'.D 517 2 = 0 ∧ B'.D w 37 = 0) := by
  obtain ⟨T, g, hTA, hTM, b2⟩ := hR.ta hGA hGB
  have hw' := lT_le hw
  have T0 := gr_T hGB w hw
  refine ⟨T, hTA.2.2.1, hTA.2.1, ?_⟩
  have hd : ∀ B1, F_MText_reads N w 518 (nI T) B = some ((), B1) → same (SRB w) B B1 → F_M_reads N 517 B = (if B1.D w 9 = 0 then B_M_reads_42 N 517 517 (-1) (B1.sD 517 2 0) else B_M_reads_42 N 517 517 (B1.D w 9) (B1.sD 517 2 0)) := fun B1 k1 k2 => by
    have G1 := k2.gr hGB
    have G2 : Gr (B1.sD 517 2 0) := G1.sD
    have T2 := gr_T G2 w hw
    have b42 : (B1.sD 517 2 0).P 517 4 = .ref w := by rw [show (B1.sD 517 2 0).P = B1.P from rfl, k2.2.1]; exact b4
    unfold F_M_reads
    rw [ck_t (rS_517 hGB), rf_t b4, rf_t (rP_517_1 hGB), bnd_t, b2, ck_t (TS T0), bC_t k1, bnd_t, rf_t b42, ck_t (TS T2), bnd_t, rdw (by omega), rf_t b42, ck_t (TS T2), bnd_t, rdw (by omega)]
  have tl : ∀ B1 x y, same (SRB w) B B1 → B1.D w 9 = x → (if x = (0 : Int32) then (-1 : Int32) else B1.D w 10) = y → B_M_reads_42 N 517 517 (if x = 0 then -1 else x) (B1.sD 517 2 0) = some (if x = 0 then 1 else 0, ((B1.sD 517 2 0).sD 517 6 (if x = 0 then -1 else x)).sD 517 7 y) := fun B1 x y k2 k9 ky => by
    have G1 := k2.gr hGB
    generalize hv : (if x = 0 then (-1 : Int32) else x) = v
    have G2 : Gr (B1.sD 517 2 0) := G1.sD
    have G3 : Gr ((B1.sD 517 2 0).sD 517 6 v) := G2.sD
    have G4 : Gr (((B1.sD 517 2 0).sD 517 6 v).sD 517 7 y) := G3.sD
    have b43 : ((B1.sD 517 2 0).sD 517 6 v).P 517 4 = .ref w := by rw [show ((B1.sD 517 2 0).sD 517 6 v).P = B1.P from rfl, k2.2.1]; exact b4
    have b44 : (((B1.sD 517 2 0).sD 517 6 v).sD 517 7 y).P 517 4 = .ref w := b43
    have d3 : ∀ f, ((B1.sD 517 2 0).sD 517 6 v).D w f = B1.D w f := fun f => by rw [rdw (by omega), rdw (by omega)]
    have d4 : ∀ f, (((B1.sD 517 2 0).sD 517 6 v).sD 517 7 y).D w f = B1.D w f := fun f => by rw [rdw (by omega)]; exact d3 f
    have T3 := gr_T G3 w hw
    have T4 := gr_T G4 w hw
    have e67 : B_M_reads_67 N 517 517 y ((B1.sD 517 2 0).sD 517 6 v) = some (if x = 0 then 1 else 0, ((B1.sD 517 2 0).sD 517 6 v).sD 517 7 y) := by
      unfold B_M_reads_67
      rw [ck_t (rS_517 G3), bnd_t, ck_t (rS_517 G4), rf_t b44, ck_t (TS T4), bnd_t, d4, k9]
      split <;> rfl
    unfold B_M_reads_42
    rw [ck_t (rS_517 G2), bnd_t, ck_t (rS_517 G3), rf_t b43, ck_t (TS T3), bnd_t, d3, k9, rf_t b43, ck_t (TS T3), bnd_t, d3]
    by_cases c : x = 0
    · rw [if_pos c] at ky
      rw [if_pos c, ky, e67]
    · rw [if_neg c] at ky
      rw [if_neg c, ky, e67]
  have fr : ∀ (B1 : Hp) (v y : Int32), same (SRB w) B B1 → same (RDB w) B (((B1.sD 517 2 0).sD 517 6 v).sD 517 7 y) := fun B1 v y k2 => (((k2.mono fun a f z => .inl z).sD (.inr ⟨rfl, .inl rfl⟩)).sD (.inr ⟨rfl, .inr (.inl rfl)⟩)).sD (.inr ⟨rfl, .inr (.inr rfl)⟩)
  rcases jo_readAll (N := N) hp hTA hSt hTM T0 (by omega) (by omega) h37 hN with ⟨A', B1, k, p0, k1, k2, k3, k4, ⟨z1, z2, z3, z4, z5, z6⟩, k6, k7, k8, k9⟩ | ⟨A', B1, k1, k2, k3, k4, k5, k6, k7⟩
  · left
    have nz : ¬ nI k = (0 : Int32) := fun y => by have := (nI_eq (b := 0) (by omega) (by decide)).mp y; omega
    have e1 := tl B1 (nI k) (nI p0) k7 z2 (by rw [if_neg nz]; exact z3)
    rw [if_neg nz, if_neg nz] at e1
    refine ⟨A', ((B1.sD 517 2 0).sD 517 6 (nI k)).sD 517 7 (nI p0), k, p0, z4, z5, k1, ?_, k3, k4, ?_, rds, k6, fr B1 _ _ k7, k8, ?_, ?_⟩
    · rw [hd B1 k2 k7, z2, if_neg nz]
      exact e1
    · rw [rdf (by decide), rds]
    · rw [rdf (by decide), rdf (by decide), rds]
    · rw [rdw (by omega), rdw (by omega), rdw (by omega)]
      exact k9
  · right
    have hG' := SRA_gr hp k3 hGA
    have hLx := lexL_ok (g := g) (T := T) hTA.2.2.1 hTA.2.2.2.2.2
    have h9 : B1.D w 9 = 0 ∧ B1.D w 37 = 0 := by
      obtain ⟨E, Nm, Pv, cs, h1, h2, h3, h4, h5, h6, h7, h8, h9, h10, -⟩ := k7
      exact ⟨h9, h10⟩
    obtain ⟨E, Nm, Pv, cs, x1, x2, -, -, xN⟩ := k7.txf hw (by have := hLx.2.1; have := hLx.2.2.1; omega) hLx.1
    have e1 := tl B1 0 (-1) k4 h9.1 (by rw [if_pos rfl])
    rw [if_pos rfl, if_pos rfl] at e1
    have sx : same (fun a _ => a = 517 ∧ True) B1 (((B1.sD 517 2 0).sD 517 6 (-1)).sD 517 7 (-1)) := ((same.rf.sD ⟨rfl, trivial⟩).sD ⟨rfl, trivial⟩).sD ⟨rfl, trivial⟩
    refine ⟨A', ((B1.sD 517 2 0).sD 517 6 (-1)).sD 517 7 (-1), cs, (lexL g T).length, _, _, _, _, E, Nm, Pv, k1, ?_, k6, ?_, rds, x1.gw x2.1 hG' (k4.gr hGB) (hG'.s (a := 118) rfl) gw.rf sx.gw (fun a f z => z) (fun a f z y => by omega), ⟨x2, xN⟩, k3, fr B1 _ _ k4, k5, ?_, ?_⟩
    · rw [hd B1 k2 k4, h9.1, if_pos rfl]
      exact e1
    · rw [rdf (by decide), rds]
    · rw [rdf (by decide), rdf (by decide), rds]
    · rw [rdw (by omega), rdw (by omega), rdw (by omega)]
      exact h9.2
end Par
