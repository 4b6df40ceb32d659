theorem lg_lt {a b : Int64} : lg_cmp a b < 0 ↔ a < b := by
  unfold lg_cmp
  by_cases h1 : a > b
  · rw [if_pos h1]; exact ⟨fun z => absurd z (by decide), fun z => absurd (Int64.lt_trans h1 z) Int64.lt_irrefl⟩
  · rw [if_neg h1]
    by_cases h2 : a = b
    · rw [if_pos h2]; subst h2; exact ⟨fun z => absurd z (by decide), fun z => absurd z Int64.lt_irrefl⟩
    · rw [if_neg h2]
      refine ⟨fun _ => ?_, fun _ => by decide⟩
      have h3 : a.toInt ≠ b.toInt := fun z => h2 (Int64.toInt_inj.mp z)
      have h4 : ¬ b.toInt < a.toInt := fun z => h1 (Int64.lt_iff_toInt_lt.mpr z)
      exact Int64.lt_iff_toInt_lt.mpr (by omega)
theorem lg_pos {a b : Int64} : 0 < lg_cmp a b ↔ b < a := by
  unfold lg_cmp
  by_cases h1 : a > b
  · rw [if_pos h1]; exact ⟨fun _ => h1, fun _ => by decide⟩
  · rw [if_neg h1]
    by_cases h2 : a = b
    · rw [if_pos h2]; subst h2; exact ⟨fun z => absurd z (by decide), fun z => absurd z Int64.lt_irrefl⟩
    · rw [if_neg h2]
      exact ⟨fun z => absurd z (by decide), fun z => absurd z h1⟩
theorem lt64 {a b : Int32} : a.toInt64 < b.toInt64 ↔ a < b := by
  rw [Int64.lt_iff_toInt_lt, Int32.lt_iff_toInt_lt, Int32.toInt_toInt64, Int32.toInt_toInt64]
theorem ev_in {N : Nat} {v lo hi : Int32} {a b : Int64} {H : Hp} (ha : a = lo.toInt64) (hb : b = hi.toInt64) : F_M_in N v.toInt64 a b H = some (if v < lo then 0 else if hi < v then 0 else 1, H) := by
  subst ha hb
  unfold F_M_in
  by_cases h1 : v < lo
  · rw [if_pos (lg_lt.mpr (lt64.mpr h1)), if_pos h1]
  · rw [if_neg (fun z => h1 (lt64.mp (lg_lt.mp z))), if_neg h1]
    by_cases h2 : hi < v
    · rw [if_pos (lg_pos.mpr (lt64.mpr h2)), if_pos h2]
    · rw [if_neg (fun z => h2 (lt64.mp (lg_pos.mp z))), if_neg h2]
/-- nothing but the ints at S has changed -/
def same (S : Nat → Nat → Prop) (H K : Hp) : Prop := (∀ a f, ¬ S a f → K.D a f = H.D a f) ∧ K.P = H.P ∧ K.L = H.L ∧ K.sh = H.sh ∧ K.sl = H.sl
theorem same.rf {S : Nat → Nat → Prop} {H : Hp} : same S H H := ⟨fun _ _ _ => rfl, rfl, rfl, rfl, rfl⟩
theorem same.sD {S : Nat → Nat → Prop} {H K : Hp} {a f : Nat} {v : Int32} (h : same S H K) (hs : S a f) : same S H (K.sD a f v) := by
  obtain ⟨h1, h2, h3, h4, h5⟩ := h
  refine ⟨fun x y hxy => ?_, h2, h3, h4, h5⟩
  rw [sD_D]
  unfold up2
  split
  · next e =>
    split
    · next e2 => subst e e2; exact absurd hs hxy
    · exact h1 x y hxy
  · exact h1 x y hxy
/-- both answer v; the heap behind both -/
def agree (fw : Option (Int32 × Hp)) (fm : Hp → Option (Int32 × Hp)) (S : Nat → Nat → Prop) (H : Hp) (Po : Hp → Prop) : Prop := ∃ v H1 H2, fw = some (v, H1) ∧ fm H1 = some (v, H2) ∧ same S H H2 ∧ Po H2
/-- the tape: lengths and bytes -/
def rTape (D : Nat → Nat → Int32) : Prop := ∃ T, T ≤ 6000 ∧ D 1 1 = nI T ∧ D 517 2 = nI T ∧ ∀ i, i < T → D 2 i = D 518 i
/-- the OUT -/
def rOut (D : Nat → Nat → Int32) : Prop := ∃ T, T ≤ 58000 ∧ D 131 1 = nI T ∧ D 517 22 = nI T ∧ ∀ i, i < T → D 132 i = D 622 i
/-- the fault that reading met -/
def rFault (D : Nat → Nat → Int32) : Prop := (D 1 4 = 0 ∧ D 517 6 = -1 ∧ D 517 7 = -1) ∨ (¬ D 1 4 = 0 ∧ D 517 6 = D 1 4 ∧ D 517 7 = D 1 5)
/-- an int between 0 and the length n is a number up to n -/
theorem to_nI {v : Int32} {n : Nat} (hn : n < 2 ^ 31) (h0 : ¬ v < 0) (h1 : v ≤ nI n) : ∃ k, k ≤ n ∧ v = nI k := by
  refine ⟨v.toNatClampNeg, ?_, ?_⟩
  · have e := ab_nn h0
    have e2 : (nI n).toInt = (n : Int) := by
      have := ab_nn (z := nI n) (nI_pos hn)
      rw [nI_clamp hn] at this
      exact this
    rw [Int32.le_iff_toInt_le] at h1
    omega
  · apply Int32.toInt_inj.mp
    have e := ab_nn h0
    have hlt : v.toNatClampNeg < 2 ^ 31 := by
      have := Int32.toInt_lt v
      omega
    have e2 := ab_nn (z := nI v.toNatClampNeg) (nI_pos hlt)
    rw [nI_clamp hlt] at e2
    omega
theorem up2_ne {α : Type} {D : Nat → Nat → α} {a f x y : Nat} {v : α} (h : ¬ (x = a ∧ y = f)) : up2 D a f v x y = D x y := by
  unfold up2
  split
  · split
    · next e1 e2 => exact absurd ⟨e1, e2⟩ h
    · rfl
  · rfl
theorem up2_eq {α : Type} {D : Nat → Nat → α} {a f : Nat} {v : α} : up2 D a f v a f = v := by simp [up2]
theorem end_ok {N : Nat} {n : Int32} {H : Hp} (hG : Gr H) (ht : rTape H.D) : agree (F_W_end N 0 n H) (F_M_end N 517 n) (fun a f => (a = 1 ∧ f = 1) ∨ (a = 517 ∧ (f = 0 ∨ f = 2))) H (fun K => rTape K.D) := by
  obtain ⟨T, hT, h1, h2, h3⟩ := ht
  have hW : F_W_end N 0 n H = some (if n < 0 then (0, H) else if n ≤ nI T then (1, H.sD 1 1 n) else (0, H)) := by
    simp only [F_W_end, ck_t (rS_0 hG), rf_t (rP_0_0 hG), ck_t (rS_1 hG), bnd_t, h1]
    split
    · rfl
    · split <;> rfl
  have hM : ∀ K : Hp, Gr K → K.D 517 2 = nI T → F_M_end N 517 n K = some (if n < 0 then (0, K.sD 517 0 0) else if nI T < n then (0, K.sD 517 0 0) else (1, (K.sD 517 0 0).sD 517 2 n)) := by
    intro K hK hk
    have e : (K.sD 517 0 0).D 517 2 = nI T := by rw [sD_D, up2_ne (by omega)]; exact hk
    simp only [F_M_end, ck_t (rS_517 hK), bnd_t, e]
    rw [bC_t (ev_in (a := 0) (lo := 0) (hi := nI T) (by decide) rfl)]
    by_cases q1 : n < 0
    · simp [q1]
    · by_cases q2 : nI T < n <;> simp [q1, q2]
  by_cases q1 : n < 0
  · refine ⟨0, H, H.sD 517 0 0, by rw [hW, if_pos q1], by rw [hM H hG h2, if_pos q1], same.rf.sD (by omega), T, hT, ?_, ?_, ?_⟩
    · rw [sD_D, up2_ne (by omega)]; exact h1
    · rw [sD_D, up2_ne (by omega)]; exact h2
    · intro i hi; rw [sD_D, up2_ne (by omega), up2_ne (by omega)]; exact h3 i hi
  · by_cases q2 : n ≤ nI T
    · obtain ⟨k, hk, rfl⟩ := to_nI (by omega) q1 q2
      have q3 : ¬ nI T < nI k := Int32.not_lt.mpr q2
      have g2 : Gr (H.sD 1 1 (nI k)) := ⟨hG.1, hG.2⟩
      refine ⟨1, H.sD 1 1 (nI k), ((H.sD 1 1 (nI k)).sD 517 0 0).sD 517 2 (nI k), by rw [hW, if_neg q1, if_pos q2], by rw [hM _ g2 (by rw [sD_D, up2_ne (by omega)]; exact h2), if_neg q1, if_neg q3], ((same.rf.sD (by omega)).sD (by omega)).sD (by omega), k, by omega, ?_, ?_, ?_⟩
      · simp [sD_D, up2]
      · simp [sD_D, up2]
      · intro i hi
        simp only [sD_D]
        rw [up2_ne (by omega), up2_ne (by omega), up2_ne (by omega), up2_ne (by omega), up2_ne (by omega), up2_ne (by omega)]
        exact h3 i (by omega)
    · have q3 : nI T < n := Int32.not_le.mp q2
      refine ⟨0, H, H.sD 517 0 0, by rw [hW, if_neg q1, if_neg q2], by rw [hM H hG h2, if_neg q1, if_pos q3], same.rf.sD (by omega), T, hT, ?_, ?_, ?_⟩
      · rw [sD_D, up2_ne (by omega)]; exact h1
      · rw [sD_D, up2_ne (by omega)]; exact h2
      · intro i hi; rw [sD_D, up2_ne (by omega), up2_ne (by omega)]; exact h3 i hi
theorem fault_ok {N : Nat} {n : Int32} {H : Hp} (hG : Gr H) (hf : rFault H.D) : agree (F_W_fault N 0 n H) (F_M_fault N 517 n) (fun a f => a = 517 ∧ f = 0) H (fun K => rFault K.D) := by
  have e6 : (H.sD 517 0 0).D 517 6 = H.D 517 6 := by rw [sD_D, up2_ne (by omega)]
  have e7 : (H.sD 517 0 0).D 517 7 = H.D 517 7 := by rw [sD_D, up2_ne (by omega)]
  have e4 : (H.sD 517 0 0).D 1 4 = H.D 1 4 := by rw [sD_D, up2_ne (by omega)]
  have e5 : (H.sD 517 0 0).D 1 5 = H.D 1 5 := by rw [sD_D, up2_ne (by omega)]
  have hM : F_M_fault N 517 n H = some (if n = 0 then H.D 517 7 else if n = 1 then H.D 517 6 else -1, H.sD 517 0 0) := by
    simp only [F_M_fault, ck_t (rS_517 hG), bnd_t, e6, e7]
    by_cases q1 : n = 0
    · simp [q1]
    · by_cases q2 : n = 1 <;> simp [q1, q2]
  have hW : F_W_fault N 0 n H = some (if H.D 1 4 = 0 then -1 else if n = 0 then H.D 1 5 else if n = 1 then H.D 1 4 else -1, H) := by
    simp only [F_W_fault, ck_t (rS_0 hG), rf_t (rP_0_0 hG), ck_t (rS_1 hG), bnd_t]
    by_cases q0 : H.D 1 4 = 0
    · simp [q0]
    · by_cases q1 : n = 0
      · simp [q0, q1]
      · by_cases q2 : n = 1 <;> simp [q0, q1, q2]
  have hp : rFault (H.sD 517 0 0).D := by unfold rFault; rw [e4, e5, e6, e7]; exact hf
  refine ⟨_, H, H.sD 517 0 0, hW, ?_, same.rf.sD ⟨rfl, rfl⟩, hp⟩
  rw [hM]
  rcases hf with ⟨h1, h2, h3⟩ | ⟨h1, h2, h3⟩
  · simp [h1, h2, h3]
  · simp [h1, h2, h3]
theorem cut_ok {N : Nat} {n : Int32} {H : Hp} (hG : Gr H) (ht : rOut H.D) : agree (F_W_cut N 0 n H) (F_M_cut N 517 n) (fun a f => (a = 131 ∧ f = 1) ∨ (a = 517 ∧ (f = 0 ∨ f = 22))) H (fun K => rOut K.D) := by
  obtain ⟨T, hT, h1, h2, h3⟩ := ht
  have hW : F_W_cut N 0 n H = some (if n < 0 then (0, H) else if n ≤ nI T then (1, H.sD 131 1 n) else (0, H)) := by
    simp only [F_W_cut, ck_t (rS_0 hG), rf_t (rP_0_3 hG), ck_t (rS_131 hG), bnd_t, h1]
    split
    · rfl
    · split <;> rfl
  have hM : ∀ K : Hp, Gr K → K.D 517 22 = nI T → F_M_cut N 517 n K = some (if n < 0 then (0, K.sD 517 0 0) else if nI T < n then (0, K.sD 517 0 0) else (1, (K.sD 517 0 0).sD 517 22 n)) := by
    intro K hK hk
    have e : (K.sD 517 0 0).D 517 22 = nI T := by rw [sD_D, up2_ne (by omega)]; exact hk
    simp only [F_M_cut, ck_t (rS_517 hK), bnd_t, e]
    rw [bC_t (ev_in (a := 0) (lo := 0) (hi := nI T) (by decide) rfl)]
    by_cases q1 : n < 0
    · simp [q1]
    · by_cases q2 : nI T < n <;> simp [q1, q2]
  by_cases q1 : n < 0
  · refine ⟨0, H, H.sD 517 0 0, by rw [hW, if_pos q1], by rw [hM H hG h2, if_pos q1], same.rf.sD (by omega), T, hT, ?_, ?_, ?_⟩
    · rw [sD_D, up2_ne (by omega)]; exact h1
    · rw [sD_D, up2_ne (by omega)]; exact h2
    · intro i hi; rw [sD_D, up2_ne (by omega), up2_ne (by omega)]; exact h3 i hi
  · by_cases q2 : n ≤ nI T
    · obtain ⟨k, hk, rfl⟩ := to_nI (by omega) q1 q2
      have q3 : ¬ nI T < nI k := Int32.not_lt.mpr q2
      have g2 : Gr (H.sD 131 1 (nI k)) := ⟨hG.1, hG.2⟩
      refine ⟨1, H.sD 131 1 (nI k), ((H.sD 131 1 (nI k)).sD 517 0 0).sD 517 22 (nI k), by rw [hW, if_neg q1, if_pos q2], by rw [hM _ g2 (by rw [sD_D, up2_ne (by omega)]; exact h2), if_neg q1, if_neg q3], ((same.rf.sD (by omega)).sD (by omega)).sD (by omega), k, by omega, ?_, ?_, ?_⟩
      · simp [sD_D, up2]
      · simp [sD_D, up2]
      · intro i hi
        simp only [sD_D]
        rw [up2_ne (by omega), up2_ne (by omega), up2_ne (by omega), up2_ne (by omega), up2_ne (by omega), up2_ne (by omega)]
        exact h3 i (by omega)
    · have q3 : nI T < n := Int32.not_le.mp q2
      refine ⟨0, H, H.sD 517 0 0, by rw [hW, if_neg q1, if_neg q2], by rw [hM H hG h2, if_neg q1, if_pos q3], same.rf.sD (by omega), T, hT, ?_, ?_, ?_⟩
      · rw [sD_D, up2_ne (by omega)]; exact h1
      · rw [sD_D, up2_ne (by omega)]; exact h2
      · intro i hi; rw [sD_D, up2_ne (by omega), up2_ne (by omega)]; exact h3 i hi
theorem nI_m1 {n : Nat} (hn : n < 2 ^ 31) (v : Int32) (h0 : ¬ v < 0) : nI n - 1 < v ↔ nI n ≤ v := by
  rcases Nat.eq_zero_or_pos n with z | z
  · subst z
    constructor
    · intro _
      have e : nI 0 = 0 := by decide
      rw [e]
      exact Int32.not_lt.mp h0
    · intro _
      refine Int32.lt_of_lt_of_le (b := 0) (by decide) (Int32.not_lt.mp h0)
  · have e : nI n - 1 = nI (n - 1) := by
      have : nI (n - 1) + 1 = nI n := by rw [nI_1, show n - 1 + 1 = n by omega]
      rw [← this]
      exact Int32.add_sub_cancel _ _
    rw [e]
    have q1 : (nI (n - 1)).toInt = ((n - 1 : Nat) : Int) := by
      have := ab_nn (z := nI (n - 1)) (nI_pos (by omega))
      rw [nI_clamp (by omega)] at this
      exact this
    have q2 : (nI n).toInt = (n : Int) := by
      have := ab_nn (z := nI n) (nI_pos hn)
      rw [nI_clamp hn] at this
      exact this
    rw [Int32.lt_iff_toInt_lt, Int32.le_iff_toInt_le]
    omega
theorem inb_of {v : Int32} {n m : Nat} (hm : n ≤ m) (hn : n < 2 ^ 31) (h0 : ¬ v < 0) (h1 : v < nI n) : inb v m ∧ v.toNatClampNeg < n := by
  have e := ab_nn h0
  have q2 : (nI n).toInt = (n : Int) := by
    have := ab_nn (z := nI n) (nI_pos hn)
    rw [nI_clamp hn] at this
    exact this
  have q3 : v.toNatClampNeg < n := by
    rw [Int32.lt_iff_toInt_lt] at h1
    omega
  refine ⟨fun h => ?_, q3⟩
  rcases h with h | h
  · exact h0 h
  · omega
theorem byteOut_ok {N : Nat} {n : Int32} {H : Hp} (hG : Gr H) (ht : rOut H.D) : agree (F_W_byteOut N 0 n H) (F_M_byteOut N 517 n) (fun a f => a = 517 ∧ f = 0) H (fun K => rOut K.D) := by
  have ht0 := ht
  obtain ⟨T, hT, h1, h2, h3⟩ := ht
  have g2 : Gr (H.sD 517 0 0) := ⟨hG.1, hG.2⟩
  have e : (H.sD 517 0 0).D 517 22 = nI T := by rw [sD_D, up2_ne (by omega)]; exact h2
  have e3 : ∀ i, (H.sD 517 0 0).D 622 i = H.D 622 i := fun i => by rw [sD_D, up2_ne (by omega)]
  have hp : rOut (H.sD 517 0 0).D := ⟨T, hT, by rw [sD_D, up2_ne (by omega)]; exact h1, e, fun i hi => by rw [e3, sD_D, up2_ne (by omega)]; exact h3 i hi⟩
  have hs : same (fun a f => a = 517 ∧ f = 0) H (H.sD 517 0 0) := same.rf.sD ⟨rfl, rfl⟩
  by_cases q1 : n < 0
  · refine ⟨-1, H, H.sD 517 0 0, by simp only [F_W_byteOut]; rw [if_pos q1], ?_, hs, hp⟩
    simp only [F_M_byteOut, ck_t (rS_517 hG), bnd_t, e]
    rw [bC_t (ev_in (a := 0) (lo := 0) (hi := nI T - 1) (by decide) rfl)]
    simp [q1]
  · by_cases q2 : n < nI T
    · obtain ⟨b1, b2⟩ := inb_of (m := 60000) (by omega) (by omega) q1 q2
      obtain ⟨b3, -⟩ := inb_of (m := 58000) (by omega) (by omega) q1 q2
      have q3 : ¬ nI T - 1 < n := fun z => absurd ((nI_m1 (by omega) n q1).mp z) (Int32.not_le.mpr q2)
      refine ⟨H.D 132 n.toNatClampNeg &&& 255, H, H.sD 517 0 0, ?_, ?_, hs, hp⟩
      · simp only [F_W_byteOut, ck_t (rS_0 hG), rf_t (rP_0_3 hG), ck_t (rS_131 hG), bnd_t, h1, rf_t (rP_131_0 hG), ar_t (rA_131_0 hG), ck_t b1]
        rw [if_neg q1, if_pos q2]
      · simp only [F_M_byteOut, ck_t (rS_517 hG), bnd_t, e]
        rw [bC_t (ev_in (a := 0) (lo := 0) (hi := nI T - 1) (by decide) rfl)]
        simp only [rf_t (rP_517_21 g2), ar_t (rA_517_21 g2), ck_t b3, e3, h3 _ b2]
        simp [q1, q3]
    · have q3 : nI T - 1 < n := (nI_m1 (by omega) n q1).mpr (Int32.not_lt.mp q2)
      refine ⟨-1, H, H.sD 517 0 0, ?_, ?_, hs, hp⟩
      · simp only [F_W_byteOut, ck_t (rS_0 hG), rf_t (rP_0_3 hG), ck_t (rS_131 hG), bnd_t, h1]
        rw [if_neg q1, if_neg q2]
      · simp only [F_M_byteOut, ck_t (rS_517 hG), bnd_t, e]
        rw [bC_t (ev_in (a := 0) (lo := 0) (hi := nI T - 1) (by decide) rfl)]
        simp [q1, q3]
theorem bend_ok {N : Nat} {n m : Int32} {H : Hp} (hG : Gr H) (ht : rOut H.D) : agree (F_W_bend N 0 n m H) (F_M_bend N 517 n m) (fun a f => (a = 517 ∧ f = 0) ∨ a = 132 ∨ a = 622) H (fun K => rOut K.D) := by
  obtain ⟨T, hT, h1, h2, h3⟩ := ht
  have e : ∀ K : Hp, K.D 517 22 = nI T → (K.sD 517 0 0).D 517 22 = nI T := fun K hk => by rw [sD_D, up2_ne (by omega)]; exact hk
  have hp0 : rOut (H.sD 517 0 0).D := ⟨T, hT, by rw [sD_D, up2_ne (by omega)]; exact h1, e H h2, fun i hi => by rw [sD_D, up2_ne (by omega), up2_ne (by omega)]; exact h3 i hi⟩
  have hs0 : same (fun a f => (a = 517 ∧ f = 0) ∨ a = 132 ∨ a = 622) H (H.sD 517 0 0) := same.rf.sD (by omega)
  by_cases q1 : n < 0
  · refine ⟨0, H, H.sD 517 0 0, by simp only [F_W_bend]; rw [if_pos q1], ?_, hs0, hp0⟩
    simp only [F_M_bend, ck_t (rS_517 hG), bnd_t, e H h2]
    rw [bC_t (ev_in (a := 0) (lo := 0) (hi := nI T - 1) (by decide) rfl)]
    simp [q1]
  · by_cases q2 : n < nI T
    · obtain ⟨b1, b2⟩ := inb_of (m := 60000) (by omega) (by omega) q1 q2
      obtain ⟨b3, -⟩ := inb_of (m := 58000) (by omega) (by omega) q1 q2
      have q3 : ¬ nI T - 1 < n := fun z => absurd ((nI_m1 (by omega) n q1).mp z) (Int32.not_le.mpr q2)
      obtain ⟨w, hw⟩ : ∃ w, w = vp_nar .byte ((H.D 132 n.toNatClampNeg ^^^ m.toInt8.toInt32).toInt8.toInt32) := ⟨_, rfl⟩
      have g1 : Gr (H.sD 132 n.toNatClampNeg w) := ⟨hG.1, hG.2⟩
      have g2 : Gr ((H.sD 132 n.toNatClampNeg w).sD 517 0 0) := ⟨hG.1, hG.2⟩
      have k2 : (H.sD 132 n.toNatClampNeg w).D 517 22 = nI T := by rw [sD_D, up2_ne (by omega)]; exact h2
      have k3 : ((H.sD 132 n.toNatClampNeg w).sD 517 0 0).D 622 n.toNatClampNeg = H.D 132 n.toNatClampNeg := by rw [sD_D, up2_ne (by omega), sD_D, up2_ne (by omega)]; exact (h3 _ b2).symm
      refine ⟨1, H.sD 132 n.toNatClampNeg w, ((H.sD 132 n.toNatClampNeg w).sD 517 0 0).sD 622 n.toNatClampNeg w, ?_, ?_, ((same.rf.sD (by omega)).sD (by omega)).sD (by omega), T, hT, ?_, ?_, ?_⟩
      · simp only [F_W_bend, ck_t (rS_0 hG), rf_t (rP_0_3 hG), ck_t (rS_131 hG), bnd_t, h1, rf_t (rP_131_0 hG), ar_t (rA_131_0 hG), ck_t b1]
        rw [if_neg q1, if_pos q2, ← hw]
      · simp only [F_M_bend, ck_t (rS_517 g1), bnd_t, e _ k2]
        rw [bC_t (ev_in (a := 0) (lo := 0) (hi := nI T - 1) (by decide) rfl)]
        simp only [rf_t (rP_517_21 g2), ar_t (rA_517_21 g2), ck_t b3, k3, ← hw]
        simp [q1, q3]
      · rw [sD_D, up2_ne (by omega), sD_D, up2_ne (by omega), sD_D, up2_ne (by omega)]; exact h1
      · rw [sD_D, up2_ne (by omega), sD_D, up2_ne (by omega)]; exact k2
      · intro i hi
        by_cases hi2 : i = n.toNatClampNeg
        · subst hi2
          simp [sD_D, up2]
        · simp only [sD_D]
          rw [up2_ne (by omega), up2_ne (by omega), up2_ne (by omega), up2_ne (by omega), up2_ne (by omega), up2_ne (by omega)]
          exact h3 i hi
    · have q3 : nI T - 1 < n := (nI_m1 (by omega) n q1).mpr (Int32.not_lt.mp q2)
      refine ⟨0, H, H.sD 517 0 0, ?_, ?_, hs0, hp0⟩
      · simp only [F_W_bend, ck_t (rS_0 hG), rf_t (rP_0_3 hG), ck_t (rS_131 hG), bnd_t, h1]
        rw [if_neg q1, if_neg q2]
      · simp only [F_M_bend, ck_t (rS_517 hG), bnd_t, e H h2]
        rw [bC_t (ev_in (a := 0) (lo := 0) (hi := nI T - 1) (by decide) rfl)]
        simp [q1, q3]
