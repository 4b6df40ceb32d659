/-! ===== the calls failure, group ===== -/
section Par
variable {N p wo inp cs w u ir M K0 : Nat} {s pl : Int32} {ty mn nu cd : Nat → Int32} {E Q : Nat → Nat → Nat} {V : Nat → Nat → Int32} {nL lc : Nat} {lk : Nat → Nat} {hd : Nat → Int32}
theorem PLI.th {S : Nat → Nat} {b t0 la z us un c n : Nat} {x : Int32} {Nm : Nat → Nat → List Nat} {Pv : Nat → Nat → Int32} {A B : Hp} (h : PLI N p cs w M ty mn nu cd E Nm Pv S b t0 A la z B us un c n) (hE : WE E) : PLI N p cs w M ty mn nu cd E Nm Pv S b t0 A la z (B.sD 517 0 x) us un c n := h.fr hE same.rf (same.rf.sD (.inl rfl))
theorem failure_jo {S : Nat → Nat} {b t0 la z us un c n : Nat} {q : Int32} {Nm : Nat → Nat → List Nat} {Pv : Nat → Nat → Int32} {A B : Hp} (h : PLI N p cs w M ty mn nu cd E Nm Pv S b t0 A la z B us un c n) (hE : WE E) : ∃ r, F_W_failure N 0 q A = some (r, A) ∧ F_M_failure N 517 q B = some (r, B.sD 517 0 0) := by
  have hGA := h.1.1
  have hGB := h.1.2.1
  have hun := h.2.1.2.1
  have hu2 := lU_le hun
  have b9 := h.2.1.2.2.2.2.1
  obtain ⟨Qn, x1, -⟩ := h.2.2.2.1
  have hF := x1.2.2.2.2
  have hGB1 : Gr (B.sD 517 0 0) := hGB.sD
  have b91 : (B.sD 517 0 0).P 517 9 = .ref un := b9
  have d : ∀ f, (B.sD 517 0 0).D un f = B.D un f := fun f => rdw (by omega)
  have U := gr_U hGB1 un hun
  have eA : F_W_failure N 0 q A = (if A.D 12 6 = 0 then some ((-1), A) else if q = 0 then some (A.D 12 4, A) else if q = 1 then some (A.D 12 5, A) else if q = 2 then some (A.D 12 6, A) else some ((-1), A)) := by
    unfold F_W_failure
    rw [ck_t (rS_0 hGA), rf_t (rP_0_2 hGA), ck_t (rS_11 hGA), rf_t (rP_11_0 hGA), ck_t (rA_11_0 hGA), bnd_t, bnd_t, bnd_t, bnd_t]
  have eB : F_M_failure N 517 q B = (if (0 : Int32) ≤ B.D un 13 then (if q = 0 then some (B.D un 13, B.sD 517 0 0) else if q = 1 then some (B.D un 14, B.sD 517 0 0) else if q = 2 then some (B.D un 15, B.sD 517 0 0) else some ((-1), B.sD 517 0 0)) else some ((-1), B.sD 517 0 0)) := by
    unfold F_M_failure
    rw [ck_t (rS_517 hGB), bnd_t, rf_t b91, ck_t (US U), bnd_t, d, rf_t b91, ck_t (US U), bnd_t, d, rf_t b91, ck_t (US U), bnd_t, d, rf_t b91, ck_t (US U), bnd_t, d]
  rw [eA, eB]
  rcases hF.2 with ⟨k1, k2⟩ | ⟨k1, k2, k3, k4, k5⟩
  · rw [if_pos k1, if_neg (fun y => i32_nlt.mpr y k2)]
    exact ⟨-1, rfl, rfl⟩
  · rw [if_neg k1, if_pos (i32_nlt.mp k2), k3, k4, k5]
    by_cases q0 : q = 0
    · rw [if_pos q0, if_pos q0]
      exact ⟨_, rfl, rfl⟩
    · rw [if_neg q0, if_neg q0]
      by_cases q1 : q = 1
      · rw [if_pos q1, if_pos q1]
        exact ⟨_, rfl, rfl⟩
      · rw [if_neg q1, if_neg q1]
        by_cases q2 : q = 2
        · rw [if_pos q2, if_pos q2]
          exact ⟨_, rfl, rfl⟩
        · rw [if_neg q2, if_neg q2]
          exact ⟨_, rfl, rfl⟩
end Par
