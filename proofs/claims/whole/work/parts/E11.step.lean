/-! ===== the reference's runner: one step of each kind ===== -/
def atB (B : Hp) (i : Nat) : Hp := B.sD 611 11 (nI i)
theorem bC_eta {α : Type} {m : Option (α × Hp)} : (bC m fun v H => some (v, H)) = m := by
  cases m with
  | none => rfl
  | some q => rfl
theorem atB_s {B : Hp} {i : Nat} : same EXB B (atB B i) := same.sD same.rf ⟨rfl, by omega⟩
theorem atB_S {B : Hp} {i j : Nat} {z d : Int32} (h : BS B i z d) : BS (atB B j) j z d := by
  unfold BS atB at *
  rw [rds, rdf (by decide), rdf (by decide), rdf (by decide)]
  exact ⟨rfl, h.2⟩
section Par
variable {N w u ir M d : Nat} {ty mn nu : Nat → Int32}
theorem r_un {B : Hp} {i : Nat} {z dr : Int32} (h : RB B w u ir M ty mn nu) (hs : BS B i z dr) (hi : i < M) (h1 : ¬ ty i = 45) (h2 : ¬ ty i = 33) : RL N (d + 1) 5 B = F_MRunner_primary N (X_RunE N d) 611 B := by
  show F_MRunner_unary N (X_RunE N d) 611 B = _
  unfold F_MRunner_unary
  rw [ck_t (rS_611 h.1), bC_t (ev_ris h hs.1 hs.2.1 hi), if_neg h1, if_pos rfl, bC_t (ev_ris h hs.1 hs.2.1 hi), if_neg h2, if_pos rfl, bC_eta]
/-- what a primary does with its first token t -/
def prm (N d : Nat) (x4 t : Int32) (H6 : Hp) : Option (Int32 × Hp) :=
    if t = 1 then F_MRunner_named N 611 x4 H6
    else if t = 40 then bC ((X_RunE N d).1 611 H6) fun v42 H43 => some (v42, H43.sD 611 11 (H43.D 611 11 + (1 : Int32)))
    else if t = 240 then bC ((X_RunE N d).1 611 (H6.sD 611 11 (H6.D 611 11 + (1 : Int32)))) fun v60 H61 =>
      rf (H61.P 611 0) fun a62 =>
      ck (H61.sh[a62]? = some (14, 0)) <|
      rf (H61.P a62 8) fun a65 =>
      ar H61 100 a65 fun n68 =>
      ck (inb (H61.D 611 11 + (1 : Int32)) n68) <|
      bnd ((H61.D a65 ((H61.D 611 11 + (1 : Int32))).toNatClampNeg)) fun x71 =>
      bnd (H61.sD 611 11 (H61.D 611 11 + (3 : Int32))) fun H73 =>
      rf (H73.P 611 1) fun a74 =>
      ck (H73.sh[a74]? = some (13, 0)) <|
      bC (F_MWorld_has N a74 v60 x71 H73) fun v78 H79 =>
      if v78 = (0 : Int32) then some (0, H79) else some (1, H79)
    else bC ((X_RunE N d).1 611 (H6.sD 611 11 (H6.D 611 11 + (1 : Int32)))) fun v84 H85 =>
      bnd (H85.sD 611 11 (H85.D 611 11 + (1 : Int32))) fun H87 =>
      if (0 : Int32) < H87.D 611 10 then some (0, H87)
      else if H87.D 611 12 ≤ (0 : Int32) then
        rf (H87.P 611 0) fun a92 =>
        ck (H87.sh[a92]? = some (14, 0)) <|
        rf (H87.P a92 3) fun a95 =>
        ar H87 100 a95 fun n97 =>
        ck (inb x4 n97) <|
        bnd ((H87.D a95 (x4).toNatClampNeg)) fun x100 =>
        bC (F_MRunner_called N 611 x100 v84 H87) fun v102 H103 => some (v102, H103)
      else some (0, H87)
theorem r_pr {B : Hp} {i : Nat} {z dr : Int32} (h : RB B w u ir M ty mn nu) (hs : BS B i z dr) (hi : i < M) : F_MRunner_primary N (X_RunE N d) 611 B = (if ty i = 2 ∨ ty i = 3 then some (nu i, atB B (i + 1)) else if ty i = 231 then some (1, atB B (i + 1)) else if ty i = 232 then some (0, atB B (i + 1)) else if ty i = 233 then some (-1, atB B (i + 1)) else if ty i = 234 then some (B.D 611 6, atB B (i + 1)) else if ty i = 235 then some (B.D u 0, atB B (i + 1)) else prm N d (nI i) (ty i) (atB B (i + 1))) := by
  obtain ⟨t0, t1, t2, t3, t4, t5, t6⟩ := h.T
  obtain ⟨g1, g2, g3⟩ := h.2.2.2.2.2.2.2.2 i hi
  have hM := h.2.2.2.2.2.2.2.1
  have w6 := h.wn
  have u6 : u ≠ 611 := fun q => by
    have k := US h.2.2.1
    rw [q, rS_611 h.1] at k
    exact absurd (congrArg Prod.fst (Option.some.inj k)) (by decide)
  have hG6 : Gr (atB B (i + 1)) := h.1
  unfold F_MRunner_primary
  rw [ck_t (rS_611 h.1), bnd_t, hs.2.1, if_pos (show (0 : Int32) ≤ 0 by decide), bnd_t, bnd_t, hs.1, nI_1, bnd_t, show B.sD 611 11 (nI (i + 1)) = atB B (i + 1) from rfl, rf_t (show (atB B (i + 1)).P 611 0 = .ref w from h.2.2.2.1), ck_t (show (atB B (i + 1)).sh[w]? = _ from t0), rf_t (show (atB B (i + 1)).P w 3 = .ref (w + 2) from t1), ar_t (show (atB B (i + 1)).sh[w + 2]? = _ from t2), rdI (show i < 6002 by omega) (by decide), show (atB B (i + 1)).D (w + 2) i = ty i from by unfold atB; rw [rdw w6.1]; exact g1]
  generalize hty : ty i = t
  by_cases q1 : t = 1
  · rw [if_pos q1, bC_eta, if_neg (by rw [q1]; decide), if_neg (by rw [q1]; decide), if_neg (by rw [q1]; decide), if_neg (by rw [q1]; decide), if_neg (by rw [q1]; decide), if_neg (by rw [q1]; decide)]
    unfold prm
    rw [if_pos q1]
  rw [if_neg q1]
  have num : (rf ((atB B (i + 1)).P 611 0) fun a21 => ck ((atB B (i + 1)).sh[a21]? = some (14, 0)) <| rf ((atB B (i + 1)).P a21 6) fun a24 => ar (atB B (i + 1)) 100 a24 fun n26 => ck (inb (nI i) n26) <| bnd ((atB B (i + 1)).D a24 (nI i).toNatClampNeg) fun x29 => some (x29, atB B (i + 1))) = some (nu i, atB B (i + 1)) := by
    rw [rf_t (show (atB B (i + 1)).P 611 0 = .ref w from h.2.2.2.1), ck_t (show (atB B (i + 1)).sh[w]? = _ from t0), rf_t (show (atB B (i + 1)).P w 6 = .ref (w + 5) from t3), ar_t (show (atB B (i + 1)).sh[w + 5]? = _ from t4), rdI (show i < 6002 by omega) (by decide), show (atB B (i + 1)).D (w + 5) i = nu i from by unfold atB; rw [rdw w6.2.2]; exact g3]
  rw [num]
  by_cases q2 : t = 2
  · rw [if_pos q2, if_pos (.inl q2)]
  rw [if_neg q2]
  by_cases q3 : t = 3
  · rw [if_pos q3, if_pos (.inr q3)]
  rw [if_neg q3, if_neg (show ¬ (t = 2 ∨ t = 3) from fun y => y.elim q2 q3)]
  by_cases q4 : t = 40
  · rw [if_pos q4, if_neg (by rw [q4]; decide), if_neg (by rw [q4]; decide), if_neg (by rw [q4]; decide), if_neg (by rw [q4]; decide), if_neg (by rw [q4]; decide)]
    unfold prm
    rw [if_neg q1, if_pos q4]
    rfl
  rw [if_neg q4]
  by_cases q5 : t = 231
  · rw [if_pos q5, if_pos q5]
  rw [if_neg q5, if_neg q5]
  by_cases q6 : t = 232
  · rw [if_pos q6, if_pos q6]
  rw [if_neg q6, if_neg q6]
  by_cases q7 : t = 233
  · rw [if_pos q7, if_pos q7]
  rw [if_neg q7, if_neg q7]
  by_cases q8 : t = 234
  · rw [if_pos q8, if_pos q8, bnd_t, show (atB B (i + 1)).D 611 6 = B.D 611 6 from rdf (by decide)]
  rw [if_neg q8, if_neg q8]
  by_cases q9 : t = 235
  · rw [if_pos q9, if_pos q9, rf_t (show (atB B (i + 1)).P 611 1 = .ref u from h.2.2.2.2.1), ck_t (show (atB B (i + 1)).sh[u]? = _ from US h.2.2.1), bnd_t, show (atB B (i + 1)).D u 0 = B.D u 0 from rdw u6]
  rw [if_neg q9, if_neg q9]
  unfold prm
  rw [if_neg q1, if_neg q4]
  by_cases q10 : t = 240
  · rw [if_pos q10, if_pos q10]
    rfl
  rw [if_neg q10, if_neg q10]
  rfl
end Par
