/-! ===== all declarations ===== -/
theorem bH_rf {α β : Type} {v : Value} {f : Nat → Option (Ot α × Hp)} {K : α → Hp → Option β} {G : Nat → Hp → Option β} : bH (rf v f) K G = rf v (fun a => bH (f a) K G) := by
  unfold rf
  cases v <;> rfl
theorem bH_ck {α β : Type} {c : Prop} [Decidable c] {m : Option (Ot α × Hp)} {K : α → Hp → Option β} {G : Nat → Hp → Option β} : bH (ck c m) K G = ck c (bH m K G) := by
  unfold ck
  split <;> rfl
theorem bH_bC {α β γ : Type} {m : Option (γ × Hp)} {f : γ → Hp → Option (Ot α × Hp)} {K : α → Hp → Option β} {G : Nat → Hp → Option β} : bH (bC m f) K G = bC m (fun v H => bH (f v H) K G) := by
  cases m with
  | none => rfl
  | some q => rfl
theorem bH_bT {α β γ : Type} {m : Option (Ot γ × Hp)} {f : γ → Hp → Option (Ot α × Hp)} {K : α → Hp → Option β} {G : Nat → Hp → Option β} : bH (bT m f) K G = bH m (fun v H => bH (f v H) K G) G := by
  cases m with
  | none => rfl
  | some q =>
    obtain ⟨v, H⟩ := q
    cases v <;> rfl
theorem bH_v {α β : Type} {v : α} {H : Hp} {K : α → Hp → Option β} {G : Nat → Hp → Option β} : bH (some (.inl v, H)) K G = K v H := rfl
def SD1 (p a f : Nat) : Bool := SD p a f || decide (a = 1 ∧ f = 1)
theorem SD_SD1 {p : Nat} : ∀ a f, SD1 p a f = false → SD p a f = false := fun a f h => by
  unfold SD1 at h
  cases z : SD p a f
  · rfl
  · rw [z] at h; exact absurd h (by simp)
/-- the systems that were read -/
def SYA (p w : Nat) (L : List (Nat × Nat × Int32 × Bool × Nat)) (E : Nat → Nat → Nat) (i cs : Nat) (A B : Hp) : Prop := ∀ s, s < E 17 0 → ∃ (Es : Nat → Nat → Nat) (e ce : Nat) (lk : Nat → Nat) (hd : Nat → Int32), ExtE Es E ∧ WU p Es ∧ (Es 17 0 = s + 1 ∧ (∀ c, E 21 s / 2 ^ c % 2 = 1 → ¬ E 20 s / 2 ^ c % 2 = 1) ∧ ∀ c, E 20 s / 2 ^ c % 2 = 1 → E 18 s / 2 ^ c % 2 = 1) ∧ E 24 s < e ∧ e ≤ i ∧ E 23 s ≤ ce ∧ ce < cs ∧ A.D (p + 191) ce = 0 ∧ ∀ cd mn nu, Agr p w (E 23 s) ce (E 24 s) e A B cd mn nu → DS (tyF L) mn nu cd Es 2 0 0 lk hd 0 (E 24 s) e (E 23 s) ce 0 lk
theorem SYA.step {p w : Nat} {L : List (Nat × Nat × Int32 × Bool × Nat)} {E E' : Nat → Nat → Nat} {i j cs cs' : Nat} {A B A' B' : Hp} (h : SYA p w L E i cs A B) (hX : ExtE E E') (hC' : WU p E') (hij : i ≤ j) (hcs : cs ≤ cs') (hcf : cfr p cs A A') (hmf : mfr w i B B') (hf : SYf p w L E E' i j cs cs' A' B') : SYA p w L E' j cs' A' B' := by
  have old : ∀ s, s < E 17 0 → ∃ (Es : Nat → Nat → Nat) (e ce : Nat) (lk : Nat → Nat) (hd : Nat → Int32), ExtE Es E' ∧ WU p Es ∧ (Es 17 0 = s + 1 ∧ (∀ c, E' 21 s / 2 ^ c % 2 = 1 → ¬ E' 20 s / 2 ^ c % 2 = 1) ∧ ∀ c, E' 20 s / 2 ^ c % 2 = 1 → E' 18 s / 2 ^ c % 2 = 1) ∧ E' 24 s < e ∧ e ≤ j ∧ E' 23 s ≤ ce ∧ ce < cs' ∧ A'.D (p + 191) ce = 0 ∧ ∀ cd mn nu, Agr p w (E' 23 s) ce (E' 24 s) e A' B' cd mn nu → DS (tyF L) mn nu cd Es 2 0 0 lk hd 0 (E' 24 s) e (E' 23 s) ce 0 lk := by
    intro s hs
    obtain ⟨Es, e, ce, lk, hd, h1, h2, h3, h4, h5, h6, h7, h8, h9⟩ := h s hs
    obtain ⟨x1, x2, x3, x4, x5, x6, x7, x8⟩ := hX.2.2.2.2.2.2.2.2.2.2.1 s hs
    refine ⟨Es, e, ce, lk, hd, h1.tr hX, h2, by rw [x4, x3, x1]; exact h3, by rw [x7]; exact h4, by omega, by rw [x6]; exact h6, by omega, by rw [hcf ce h7]; exact h8, fun cd mn nu hag => ?_⟩
    rw [x6, x7] at hag ⊢
    exact h9 cd mn nu ⟨fun x a b => by rw [hag.1 x a b, hcf x (by omega)], fun t a b => by rw [(hag.2 t a b).1, (hag.2 t a b).2]; exact hmf t (by omega)⟩
  intro s hs
  rcases hf with ⟨f1, f2⟩ | ⟨f1, f2, f3, e, ce, lk, hd, g1, g2, g3, g4, g5, g6, g7⟩
  · exact old s (by omega)
  · by_cases z : s = E 17 0
    · subst z
      rw [← f3] at g7 g5
      exact ⟨E', e, ce, lk, hd, ExtE.rf, hC', ⟨f1, f2.2⟩, g2, g3, g5, by omega, g6, g7⟩
    · exact old s (by omega)
section Par
variable {N p w T : Nat} {L : List (Nat × Nat × Int32 × Bool × Nat)} {g : Nat → Nat} {E : Nat → Nat → Nat} {Nm : Nat → Nat → List Nat} {Pv : Nat → Nat → Int32} {nL lc dp : Nat} {ln : Nat → List Nat} {lk lf : Nat → Nat} {hd : Nat → Int32}
/-- a text was read -/
def RDok (p w T : Nat) (L : List (Nat × Nat × Int32 × Bool × Nat)) (g : Nat → Nat) (A B : Hp) : Prop := ∃ E Nm Pv cs, ENA A p E Nm Pv ∧ ENB B w E Nm Pv ∧ TB B w T g ∧ MB B w L ∧ Lx L T g ∧ (A.D p 1 = nI (E 0 0) ∧ A.D 1 4 = 0) ∧ A.D p 17 = nI cs ∧ cs ≤ 12000 ∧ B.D w 9 = 0 ∧ B.D w 37 = 0 ∧ GP E Pv ∧ WU p E ∧ (GRP E ∧ NMQ E Nm) ∧ SYA p w L E (L.length - 1) cs A B ∧ ∀ s, s < E 17 0 → B.D (w + 27) s = nI (E 25 s)
def RD (p w T : Nat) (L : List (Nat × Nat × Int32 × Bool × Nat)) (g : Nat → Nat) (i : Nat) (A B : Hp) (fA : Option (Int32 × Hp)) (fB : Option (Unit × Hp)) : Prop :=
  (∃ A' B' k p0, fA = some (0, A') ∧ fB = some ((), B') ∧ A'.D 1 4 = nI k ∧ A'.D 1 5 = nI p0 ∧ Zf B' w k p0 ∧ exA (SD1 p) (2 * (L.length - i) + 2) A A' ∧ same (SRd w) B B' ∧ A'.D 1 1 = 0) ∨
  ∃ A' B', fA = some (1, A') ∧ fB = some ((), B') ∧ exA (SD1 p) (2 * (L.length - i)) A A' ∧ same (SRd w) B B' ∧ A'.D 1 1 = 0 ∧ RDok p w T L g A' B'
theorem Out.rd {A B : Hp} {i : Nat} {fA : Option (Ot Unit × Hp)} {fB : Option (Unit × Hp)} {KA : Hp → Option (Int32 × Hp)} {KB : Hp → Option (Unit × Hp)} {Post : Nat → Unit → Hp → Unit → Hp → Prop} (hG : Gr A) (hp : p = 133 ∨ p = 325) (h : (Out (SD p) (SRd w) w L i A B fA fB Post))
    (hs : ∀ j A' B', i ≤ j → j < L.length → Post j () A' () B' → RD p w T L g j A' B' (KA A') (KB B')) (hz : ∀ B' k p0, Zf B' w k p0 → KB B' = some ((), B')) :
    RD p w T L g i A B (bH fA (fun _ H => KA H) (fun x H => ck (H.sh[x]? = some (17, 0)) <| B_Reader_readAll_155 N 8 p x H)) (bC fB (fun _ H => KB H)) := by
  rcases h with ⟨x, A', y, B', k, p0, e1, e2, ⟨e3, e3'⟩, e4, e5, e6, e7⟩ | ⟨v, A', y, B', j, e1, e2, e3, e4, e5, e6, e7⟩
  · have hG' : Gr A' := e6.gr hG (by
      rcases hp with rfl | rfl
      · decide +kernel
      · decide +kernel)
    refine Or.inl ⟨A'.sD 1 1 0, B', k, p0, ?_, by rw [e2]; exact hz B' k p0 e5, by rw [rdf (by decide)]; exact e3', by rw [rdf (by decide)]; exact e4, e5, (e6.mono SD_SD1 (Nat.le_refl _)).sD (by unfold SD1; rw [decide_eq_true ⟨rfl, rfl⟩, Bool.or_true]), e7, rds⟩
    rw [e1]
    show (ck (A'.sh[x]? = some (17, 0)) <| B_Reader_readAll_155 N 8 p x A') = _
    unfold B_Reader_readAll_155
    rw [ck_t e3, ck_t (rS_8 hG'), rf_t (rP_8_0 hG'), ck_t (rS_1 hG'), bnd_t]
  · have hp' := hs j A' B' e3 e4 e7
    rw [e1, e2, bH_v, bC_v]
    rcases hp' with ⟨A2, B2, k, p0, f1, f2, f3, f4, f5, f6, f7, f8⟩ | ⟨A2, B2, f1, f2, f3, f4, f5, f6⟩
    · exact Or.inl ⟨A2, B2, k, p0, f1, f2, f3, f4, f5, ((e5.mono SD_SD1 (Nat.le_refl _)).tr f6).mono (fun _ _ h => h) (by omega), e6.tr f7, f8⟩
    · exact Or.inr ⟨A2, B2, f1, f2, ((e5.mono SD_SD1 (Nat.le_refl _)).tr f3).mono (fun _ _ h => h) (by omega), e6.tr f4, f5, f6⟩
theorem jo_decls {q2 : Nat} {q3 : Int32} (hN : 7000 ≤ N) :
    ∀ M (E : Nat → Nat → Nat) (Nm : Nat → Nat → List Nat) (Pv : Nat → Nat → Int32) i cs A B fu fu' tn, L.length - i ≤ M → M < fu → M + 1 < fu' → tn ≤ i → (UA p T L g E Nm Pv i cs A) → (UB w T L g E Nm Pv i B) → WU p E → (GRP E ∧ NMQ E Nm) → cs ≤ 2 * tkp L i → SYA p w L E i cs A B →
      RD p w T L g i A B (B_Reader_readAll_23 N 8 p fu 1 (nI tn) A) (B_MText_reads_53 N w q2 q3 fu' B) := by
  intro M
  induction M with
  | zero => intro E Nm Pv i cs A B fu fu' tn hm _ _ _ ha; exact absurd ha.1.2.2.2.2.2.2.1 (by omega)
  | succ M ihm =>
    intro E Nm Pv i cs A B fu fu' tn hm hfu hfu' htn ha hb hC hGN hcs hS
    have hGr := hGN.1
    have hG := ha.1.1.1
    have hi := ha.1.2.2.2.2.2.2.1
    have hp := hC.2.1
    have hT := hb.1.1.1
    have hLx := hb.1.2.2.2.2.2
    have h61 : L.length ≤ 6001 := by have := hLx.2.1; have := hLx.2.2.1; omega
    have h81 := (hb.1.2.2.2.2.2.2.2.2.2.1 i hi).2.1
    have h60 : tkp L i ≤ 6000 := by have := (hb.1.2.2.2.2.2.2.2.2.2.1 i hi).1; have := hLx.2.2.1; omega
    obtain ⟨fu, rfl⟩ : ∃ z, fu = z + 1 := ⟨fu - 1, by omega⟩
    obtain ⟨fu', rfl⟩ : ∃ z, fu' = z + 2 := ⟨fu' - 2, by omega⟩
    have q : ∀ c : Nat, c < 100 → (nI (tkk L i) = nI c) = (tkk L i = c) := fun c hc => propext (nI_eq (by omega) (by omega))
    have ckd : ∀ k : Fin 81, (nI (tyK k.val) = (0 : Int32) ↔ k.val = 0) ∧ (nI (tyK k.val) - (200 : Int32) = 0 ↔ k.val = 40) ∧ (nI (tyK k.val) - (200 : Int32) = 1 ↔ k.val = 41) ∧ (nI (tyK k.val) - (200 : Int32) = 2 ↔ k.val = 42) ∧ (nI (tyK k.val) - (200 : Int32) = 3 ↔ k.val = 43) := by decide +kernel
    obtain ⟨k0, k40, k41, k42, k43⟩ := ckd ⟨tkk L i, by omega⟩
    simp only at k0 k40 k41 k42 k43
    have hz : ∀ B' k p0, Zf B' w k p0 → B_MText_reads_142 N w q2 q3 (fun H => B_MText_reads_53 N w q2 q3 (fu' + 1) H) B' = some ((), B') := by
      intro B' k p0 h
      unfold B_MText_reads_142
      show B_MText_reads_53 N w q2 q3 (fu' + 1) B' = _
      rw [B_MText_reads_53, ck_t (TS h.1), bnd_t, if_neg h.n0]
      unfold B_MText_reads_145
      rw [ck_t (TS h.1), bnd_t, if_neg h.n0]
    have hs : ∀ j A' B', i ≤ j → j < L.length → PU p w T L g E Nm Pv i cs A B j A' B' → RD p w T L g j A' B' (B_Reader_readAll_146 N 8 p (fun l2 l3 H => B_Reader_readAll_23 N 8 p fu l2 l3 H) 1 (nI tn) A') (B_MText_reads_142 N w q2 q3 (fun H => B_MText_reads_53 N w q2 q3 (fu' + 1) H) B') := by
      intro j A' B' hij hj hP
      obtain ⟨E', Nm', Pv', cs', p1, p2, p3, p4, p5, p6, p7, p8, p9, p10, p12, p11⟩ := hP
      have hGr' : GRP E' := by
        rcases p11 with ⟨f1, f2⟩ | ⟨f1, f2, -⟩
        · refine hGr.same f1 f2 (fun x hx => ?_)
          obtain ⟨x1, x2, x3, x4, x5, x6, x7, x8⟩ := p4.2.2.2.2.2.2.2.2.2.2.1 x hx
          exact ⟨x1, x3, x4, x5, x8⟩
        · exact f2.1
      unfold B_Reader_readAll_146 B_MText_reads_142
      show RD p w T L g j A' B' (B_Reader_readAll_23 N 8 p fu 1 (nI tn + 1) A') (B_MText_reads_53 N w q2 q3 (fu' + 1) B')
      rw [nI_1]
      exact ihm E' Nm' Pv' j cs' A' B' fu (fu' + 1) (tn + 1) (by omega) (by omega) (by omega) (by omega) p1 p2 p3 ⟨hGr', p12 hGN.2⟩ (by omega) (hS.step p4 p3 hij p7 p9 p10 p11)
    rw [B_Reader_readAll_23, if_neg (show ¬ (6000 : Int32) < nI tn from nI_nlt (a := 6000) (by omega) (by decide)), ck_t (rS_8 hG), rf_t (rP_8_0 hG), ck_t (rS_1 hG), bnd_t, ha.1.2.2.2.2.1, B_MText_reads_53, ck_t (TS hT), bnd_t, hb.1.2.2.2.1, if_pos (show (0 : Int32) = 0 from rfl), rf_t (TP_3 hT), bnd_t, hb.1.2.2.1, ar_t (TA_3 hT), rdI (show i < 6002 by omega) (by decide), (hb.1.2.1 i hi).1]
    by_cases z0 : tkk L i = 0
    · rw [if_pos (show nI (tkk L i) = (0 : Int32) by rw [z0]; rfl), if_pos (k0.mpr z0)]
      unfold B_Reader_readAll_152 B_MText_reads_145
      obtain ⟨w5a, w5b⟩ := hC.1.w5
      obtain ⟨B', e1, e2, e3⟩ := ev_groups (N := N) (w := w) (E := E) hN w5a (fun x hx => by obtain ⟨a, b, c, d, e⟩ := w5b x hx; exact ⟨a, c, d, e⟩) (E 17 0) 0 N B (by omega) (by omega) hT hb.2.1.2.2.2.2.1 (fun x hx => by obtain ⟨a, b, c, d, e, f⟩ := hb.2.1.2.2.2.2.2 x hx; exact ⟨a, b, d, e⟩)
      have e1' : F_MText_groupsThem N w B = some ((), B') := e1
      rw [ck_t (rS_8 hG), rf_t (rP_8_0 hG), ck_t (rS_1 hG), bnd_t, ck_t (show (1 : Int32) &&& 1 = 1 by decide), ck_t (TS hT), bnd_t, hb.1.2.2.2.1, if_pos (show (0 : Int32) = 0 from rfl), bC_t e1']
      have hlt : ltr w B B' := by refine ⟨?_, ?_, ?_⟩ <;> (funext f; exact e2.1 _ _ (by omega))
      refine Or.inr ⟨A.sD 1 1 0, B', rfl, rfl, (exA.rf.sD (by unfold SD1; rw [decide_eq_true ⟨rfl, rfl⟩, Bool.or_true])).mono (fun _ _ h => h) (by omega), e2.mono (fun a f z => by unfold SRd; omega), rds, E, Nm, Pv, cs, ?_, ?_, ?_, fun j hj => ?_, hLx, ?_, ?_, by omega, ?_, ?_, hb.2.2.2, hC, ⟨hGr, hGN.2⟩, fun s hs' => ?_, fun s hs' => ?_⟩
      · exact ha.2.1.frp hC.1 (fun a f h => rdw (by omega)) (fun a n h q => q.sD (by omega))
      · obtain ⟨b1, b2, b3, b4, b5⟩ := hb.2.1
        exact ⟨EB1.fr (E := E) (Nm := Nm) b1 hlt (fun a f z => e2.1 _ _ (by omega)), EB2.fr (E := E) (Nm := Nm) b2 hlt (fun a f z => e2.1 _ _ (by omega)), EB3.fr (E := E) (Nm := Nm) b3 hlt (fun a f z => e2.1 _ _ (by omega)), EB4.fr (E := E) (Pv := Pv) b4 (fun a f z => e2.1 _ _ (by omega)), EB5.fr (E := E) b5 (fun a f z => e2.1 _ _ (by omega))⟩
      · obtain ⟨v1, v2, v3, v4, v5, v6⟩ := hb.1.1
        exact ⟨same_isT e2 v1, by rw [e2.1 _ _ (by omega)]; exact v2, v3, fun x hx => by rw [e2.1 _ _ (by omega)]; exact v4 x hx, v5, v6⟩
      · rw [e2.1 _ _ (by omega), e2.1 _ _ (by omega), e2.1 _ _ (by omega), e2.1 _ _ (by omega), e2.1 _ _ (by omega)]
        exact hb.1.2.1 j hj
      · exact ⟨by rw [rdw (by omega)]; exact ha.2.2.1, by rw [rdf (by decide)]; exact ha.1.2.2.1.2⟩
      · rw [rdw (by omega)]; exact ha.2.2.2.1
      · rw [e2.1 _ _ (by omega)]; exact hb.1.2.2.2.1
      · rw [e2.1 _ _ (by omega)]; exact hb.2.2.1
      · obtain ⟨Es, e, ce, lk, hd, h1, h2, h3, h4, h5, h6, h7, h8, h9⟩ := hS s hs'
        refine ⟨Es, e, ce, lk, hd, h1, h2, h3, h4, by omega, h6, h7, by rw [rdw (by omega)]; exact h8, fun cd mn nu hag => h9 cd mn nu ⟨fun x a b => by rw [hag.1 x a b, rdw (by omega)], fun t a b => ?_⟩⟩
        rw [(hag.2 t a b).1, (hag.2 t a b).2, e2.1 _ _ (by omega), e2.1 _ _ (by omega)]
        exact ⟨rfl, rfl⟩
      · rw [e3 s (by omega) hs', hGr.1 s hs']
    · rw [if_neg (show ¬ nI (tkk L i) = (0 : Int32) from fun z => z0 ((nI_eq (b := 0) (by omega) (by decide)).mp z)), if_neg (fun z => z0 (k0.mp z)), rf_t (rP_8_0 hG), ck_t (rS_1 hG), bnd_t, ha.1.2.2.2.2.1, rf_t (TP_3 hT), bnd_t, ar_t (TA_3 hT), rdI (show i < 6002 by omega) (by decide), (hb.1.2.1 i hi).1, bnd_t]
      by_cases z40 : tkk L i = 40
      · rw [if_pos (show nI (tkk L i) = 40 by rw [z40]; rfl), if_pos (k40.mpr z40)]
        exact Out.rd hG hp (jo_component ha hb hC hN z40) hs hz
      rw [if_neg (show ¬ nI (tkk L i) = 40 from fun z => z40 ((nI_eq (b := 40) (by omega) (by decide)).mp z)), if_neg (fun z => z40 (k40.mp z))]
      by_cases z41 : tkk L i = 41
      · rw [if_pos (show nI (tkk L i) = 41 by rw [z41]; rfl), if_pos (k41.mpr z41)]
        exact Out.rd hG hp (jo_event ha hb hC hN z41) hs hz
      rw [if_neg (show ¬ nI (tkk L i) = 41 from fun z => z41 ((nI_eq (b := 41) (by omega) (by decide)).mp z)), if_neg (fun z => z41 (k41.mp z))]
      by_cases z42 : tkk L i = 42
      · rw [if_pos (show nI (tkk L i) = 42 by rw [z42]; rfl), if_pos (k42.mpr z42)]
        exact Out.rd hG hp (jo_prefab ha hb hC hN z42) hs hz
      rw [if_neg (show ¬ nI (tkk L i) = 42 from fun z => z42 ((nI_eq (b := 42) (by omega) (by decide)).mp z)), if_neg (fun z => z42 (k42.mp z))]
      by_cases z43 : tkk L i = 43
      · rw [if_pos (show nI (tkk L i) = 43 by rw [z43]; rfl), if_pos (k43.mpr z43)]
        have := Out.rd (N := N) hG hp (jo_system ha hb hC hGr hN z43 hcs) hs hz
        unfold sysA syK at this
        simp only [bH_bT, bH_rf, bH_ck, bH_bC, bH_v] at this
        exact this
      rw [if_neg (show ¬ nI (tkk L i) = 43 from fun z => z43 ((nI_eq (b := 43) (by omega) (by decide)).mp z)), if_neg (fun z => z43 (k43.mp z))]
      have z1 : Zf (failB B w 1 (tkp L i)) w 1 (tkp L i) := hb.1.fail (by decide) (by decide)
      rw [rf_t (rP_8_0 hG), rf_t (rP_8_0 hG), ck_t (rS_1 hG), bnd_t, ha.1.2.2.2.2.2.1, ck_t (rS_1 hG), ev_refuse hG, bnd_t, show F_MText_fails N w (1 : Int32) (nI i) B = _ from ev_fails (k := 1) hb.1 hi]
      exact Out.rd (Post := fun _ _ _ _ _ => False) (KA := fun H => B_Reader_readAll_146 N 8 p (fun l2 l3 H => B_Reader_readAll_23 N 8 p fu l2 l3 H) 1 (nI tn) H) (KB := fun H => B_MText_reads_142 N w q2 q3 (fun H => B_MText_reads_53 N w q2 q3 (fu' + 1) H) H) hG hp (Out.noD (k := 1) hb.1 (by decide) (by decide) hi z1 SRd_fail) (fun _ _ _ _ _ h => h.elim) hz
end Par
