/-! ===== a system's head: the lists ===== -/
section Par
variable {N p w T : Nat} {L : List (Nat × Nat × Int32 × Bool × Nat)} {g : Nat → Nat} {E : Nat → Nat → Nat} {Nm : Nat → Nat → List Nat} {Pv : Nat → Nat → Int32} {nL lc dp : Nat} {ln : Nat → List Nat} {lk lf : Nat → Nat} {hd : Nat → Int32}
theorem ev_nb0 {A : Hp} {i so told may wd n : Nat} (ha : HA p T L g E Nm i A) (hN : N = n + 1) (hn : i + 1 < L.length) (hk : tkk L i = wd) (hwd : wd < 100) : F_Reader_namesBehind N 8 (nI wd) (nI so) (nI told) (nI may) A = nbA N (nI wd) (nI so) (nI told) (nI may) (fun l5 l6 H => B_Reader_namesBehind_19 N 8 (nI wd) (nI so) (nI told) (nI may) n l5 l6 H) (nI 0) (nI (pcn 16 0)) (advA A L i) := by
  have hG := ha.1.1.1
  unfold F_Reader_namesBehind
  rw [ck_t (rS_8 hG), rf_t (rP_8_0 hG), ck_t (rS_1 hG), bnd_t, ha.1.2.2.2.2.1, if_pos (show nI (tkk L i) = nI wd by rw [hk])]
  have : B_Reader_namesBehind_19 N 8 (nI wd) (nI so) (nI told) (nI may) (n + 1) 0 0 A = nbA N (nI wd) (nI so) (nI told) (nI may) (fun l5 l6 H => B_Reader_namesBehind_19 N 8 (nI wd) (nI so) (nI told) (nI may) n l5 l6 H) (nI 0) (nI (pcn 16 0)) (advA A L i) := by
    rw [B_Reader_namesBehind_19, if_neg (show ¬ (16 : Int32) < 0 by decide), ck_t (rS_8 hG), rf_t (rP_8_0 hG), ck_t (rS_1 hG), bC_t (ev_advance ha.1 hn)]
    rfl
  rw [← hN] at this
  exact this
theorem ev_nbN {A : Hp} {i so told may wd : Nat} (ha : HA p T L g E Nm i A) (hk : ¬ tkk L i = wd) (hwd : wd < 100) : F_Reader_namesBehind N 8 (nI wd) (nI so) (nI told) (nI may) A = some (.inl (nI 0), A) := by
  have hG := ha.1.1.1
  have hi := ha.1.2.2.2.2.2.2.1
  have h81 := (ha.1.2.2.2.2.2.2.2.2.2.2.2.1 i hi).2.1
  unfold F_Reader_namesBehind
  rw [ck_t (rS_8 hG), rf_t (rP_8_0 hG), ck_t (rS_1 hG), bnd_t, ha.1.2.2.2.2.1, if_neg (show ¬ nI (tkk L i) = nI wd from fun z => hk ((nI_eq (by omega) (by omega)).mp z))]
  rfl
/-- a list of components that may stand here -/
theorem jo_opt {γ δ : Type} {A B : Hp} {i wd told may : Nat} {KA : Int32 → Hp → Option (Ot γ × Hp)} {KB : Int32 → Hp → Option (δ × Hp)} {X : Hp → Option (δ × Hp)} {Post : Nat → γ → Hp → δ → Hp → Prop} (ha : HA p T L g E Nm i A) (hb : HB w T L g E Nm i B) (hp : p = 133 ∨ p = 325) (hW : W1 E) (hN : 7000 ≤ N) (hwd : kvd wd = true) (h2 : 2 ≤ wd) (h100 : wd < 100) (ht : told < 65536) (hm : may < 65536)
    (hX : X (B.sD w 11 (nI (i + 1))) = bC (F_MText_names N w (nI told) (nI may) (B.sD w 11 (nI (i + 1)))) KB)
    (hs : ∀ j m A' B', m < 65536 → HA p T L g E Nm j A' → HB w T L g E Nm j B' → i ≤ j → j < L.length → (∃ kx, exA SL kx A A') → same (fun a f => (a = w ∧ f = 11) ∨ (a = w + 7 ∧ i ≤ f)) B B' → (∀ c, m / 2 ^ c % 2 = 1 → may / 2 ^ c % 2 = 1) → (Out (SD p) (SRd w) w L j A' B' (KA (nI m) A') (KB (nI m) B') Post))
    (hz : ∀ y B' k p0, Zf B' w k p0 → ∃ y2 B2, KB y B' = some (y2, B2) ∧ Zf B2 w k p0 ∧ same (SRd w) B' B2) :
    (Out (SD p) (SRd w) w L i A B (bT (F_Reader_namesBehind N 8 (nI wd) (nI 0) (nI told) (nI may) A) KA) (bC (F_MText_accepts N w (nI (tyK wd)) B) fun v H => if v = 0 then KB 0 H else X H) Post) := by
  have hi := ha.1.2.2.2.2.2.2.1
  rw [ev_accepts hb.1 hwd]
  by_cases z : tkk L i = wd
  · have hn := hb.1.gt (show 2 ≤ tkk L i by omega)
    obtain ⟨n, hNn⟩ : ∃ n, N = n + 1 := ⟨N - 1, by omega⟩
    have hA1 := ha.sl (adv_ex (i := i) (L := L)) hp hW (adv_LA ha.1 hn)
    have hs1 : same (fun a f => (a = w ∧ f = 11) ∨ (a = w + 7 ∧ i ≤ f)) B (B.sD w 11 (nI (i + 1))) := same.rf.sD (by omega)
    have hB1 : HB w T L g E Nm (i + 1) (B.sD w 11 (nI (i + 1))) := hb.at (hb.1.nx hn) (hs1.mono (fun a f z => by omega))
    rw [ev_nb0 ha hNn hn z h100, if_pos z, bC_v, if_neg (show ¬ (1 : Int32) = 0 by decide), hX]
    unfold F_MText_names
    refine Out.pre (Out.bind (show _ from jo_hnames (p1 := nI wd) hp hW hN ht hm 17 0 (i + 1) _ _ n N (by decide) (by decide) (by omega) (by omega) hA1 hB1) ?_ hz) (adv_ex.mono SL_SD (Nat.le_refl _)) (same.rf.sD (by unfold SRd; omega)) (show i ≤ i + 1 by omega) hn (by omega)
    rintro j v A' y B' q1 q2 q3 ⟨m', r1, rfl, rfl, r4, r5, r6, ⟨kx, r7⟩, r8, r9⟩
    exact hs j m' A' B' r1 r4 r5 (by omega) r4.1.2.2.2.2.2.2.1 ⟨_, adv_ex.tr r7⟩ (hs1.tr (r8.mono (fun a f z => by omega))) (fun c hc => (r9 c hc).elim (fun z => by rw [Nat.zero_div] at z; exact absurd z (by decide)) id)
  · rw [ev_nbN ha z h100, if_neg z, bC_v, if_pos (show (0 : Int32) = 0 from rfl), bT_v]
    exact hs i 0 A B (by decide) ha hb (Nat.le_refl _) hi ⟨0, exA.rf⟩ same.rf (fun c hc => by rw [Nat.zero_div] at hc; exact absurd hc (by decide))
/-- systems that may stand here -/
theorem jo_optS {γ δ : Type} {A B : Hp} {i : Nat} {KA : Int32 → Hp → Option (Ot γ × Hp)} {KB : Int32 → Hp → Option (δ × Hp)} {Post : Nat → γ → Hp → δ → Hp → Prop} (ha : HA p T L g E Nm i A) (hb : HB w T L g E Nm i B) (hp : p = 133 ∨ p = 325) (hW : W1 E) (hN : 7000 ≤ N)
    (hs : ∀ j m A' B', m < 65536 → HA p T L g E Nm j A' → HB w T L g E Nm j B' → i ≤ j → j < L.length → (∃ kx, exA SL kx A A') → same (fun a f => (a = w ∧ f = 11) ∨ (a = w + 7 ∧ i ≤ f)) B B' → (Out (SD p) (SRd w) w L j A' B' (KA (nI m) A') (KB (nI m) B') Post))
    (hz : ∀ y B' k p0, Zf B' w k p0 → ∃ y2 B2, KB y B' = some (y2, B2) ∧ Zf B2 w k p0 ∧ same (SRd w) B' B2) :
    (Out (SD p) (SRd w) w L i A B (bT (F_Reader_namesBehind N 8 (44 : Int32) (3 : Int32) (0 : Int32) (65535 : Int32) A) KA) (bC (F_MText_accepts N w (204 : Int32) B) fun v H => if v = 0 then KB 0 H else bC (F_MText_systemNames N w H) fun y H => KB y H) Post) := by
  have hi := ha.1.2.2.2.2.2.2.1
  rw [show (204 : Int32) = nI (tyK 44) from rfl, ev_accepts hb.1 (by decide)]
  by_cases z : tkk L i = 44
  · have hn := hb.1.gt (show 2 ≤ tkk L i by omega)
    obtain ⟨n, hNn⟩ : ∃ n, N = n + 1 := ⟨N - 1, by omega⟩
    have hA1 := ha.sl (adv_ex (i := i) (L := L)) hp hW (adv_LA ha.1 hn)
    have hs1 : same (fun a f => (a = w ∧ f = 11) ∨ (a = w + 7 ∧ i ≤ f)) B (B.sD w 11 (nI (i + 1))) := same.rf.sD (by omega)
    have hB1 : HB w T L g E Nm (i + 1) (B.sD w 11 (nI (i + 1))) := hb.at (hb.1.nx hn) (hs1.mono (fun a f z => by omega))
    rw [show F_Reader_namesBehind N 8 (44 : Int32) (3 : Int32) (0 : Int32) (65535 : Int32) A = _ from ev_nb0 (wd := 44) (so := 3) (told := 0) (may := 65535) ha hNn hn z (by decide), if_pos z, bC_v, if_neg (show ¬ (1 : Int32) = 0 by decide)]
    unfold F_MText_systemNames
    refine Out.pre (Out.bind (show _ from jo_hsys (p1 := nI 44) hp hW hN 17 0 (i + 1) _ _ n N (by decide) (by decide) (by omega) (by omega) hA1 hB1) ?_ hz) (adv_ex.mono SL_SD (Nat.le_refl _)) (same.rf.sD (by unfold SRd; omega)) (show i ≤ i + 1 by omega) hn (by omega)
    rintro j v A' y B' q1 q2 q3 ⟨m', r1, rfl, rfl, r4, r5, r6, ⟨kx, r7⟩, r8⟩
    exact hs j m' A' B' r1 r4 r5 (by omega) r4.1.2.2.2.2.2.2.1 ⟨_, adv_ex.tr r7⟩ (hs1.tr (r8.mono (fun a f z => by omega)))
  · rw [show F_Reader_namesBehind N 8 (44 : Int32) (3 : Int32) (0 : Int32) (65535 : Int32) A = _ from ev_nbN (wd := 44) (so := 3) (told := 0) (may := 65535) ha z (by decide), if_neg z, bC_v, if_pos (show (0 : Int32) = 0 from rfl), bT_v]
    exact hs i 0 A B (by decide) ha hb (Nat.le_refl _) hi ⟨0, exA.rf⟩ same.rf
/-- behind a fault the reference's head changes nothing that counts -/
theorem fz_198 {B : Hp} {k p0 s : Nat} {v : Int32} (hN : 7000 ≤ N) (hs : s < 16) (h : Zf B w k p0) : ∃ B2, B_MText_system_198 N w (nI s) (w + 24) (nI s) v B = some ((), B2) ∧ Zf B2 w k p0 ∧ same (SRd w) B B2 := by
  have h1 : Zf (B.sD (w + 24) s v) w k p0 := h.sD (by omega)
  have h2 : Zf ((B.sD (w + 24) s v).sD (w + 26) s ((B.sD (w + 24) s v).D w 11)) w k p0 := h1.sD (by omega)
  obtain ⟨B2, e1, e2, e3⟩ : ∃ B', X_TextS N 24 w ((B.sD (w + 24) s v).sD (w + 26) s ((B.sD (w + 24) s v).D w 11)) = some ((), B') ∧ Zf B' w k p0 ∧ same (SRo w) ((B.sD (w + 24) s v).sD (w + 26) s ((B.sD (w + 24) s v).D w 11)) B' := ZS_st (N := N) (o' := X_TextS N 23) (by omega) _ k p0 h2
  refine ⟨B2, ?_, e2, ((same.rf.sD (by unfold SRd; omega)).sD (by unfold SRd; omega)).tr (SRo_37 e3 (st_37 (N := N) (o := X_TextS N 23) e1))⟩
  unfold B_MText_system_198
  rw [ar_t (TA_33 h.1), wrI (show s < 16 from hs) (by decide), ck_t (TS h1.1), rf_t (TP_35 h1.1), bnd_t, ar_t (TA_35 h1.1), wrI (show s < 16 from hs) (by decide), e1, bC_v]
theorem fz_163 {B : Hp} {k p0 s : Nat} {v a : Int32} (hN : 7000 ≤ N) (hs : s < 16) (h : Zf B w k p0) : ∃ B2, B_MText_system_163 N w (nI s) a (w + 23) (nI s) v B = some ((), B2) ∧ Zf B2 w k p0 ∧ same (SRd w) B B2 := by
  have h1 : Zf (B.sD (w + 23) s v) w k p0 := h.sD (by omega)
  obtain ⟨B2, e1, e2, e3⟩ := fz_198 (N := N) (v := 0) hN hs h1
  refine ⟨B2, ?_, e2, (same.rf.sD (by unfold SRd; omega)).tr e3⟩
  unfold B_MText_system_163
  rw [ar_t (TA_32 h.1), wrI (show s < 16 from hs) (by decide), ck_t (TS h1.1), rf_t (TP_33 h1.1), bC_t (fz_accepts h1), if_pos rfl, e1]
theorem fz_132 {B : Hp} {k p0 s : Nat} {v a : Int32} (hN : 7000 ≤ N) (hs : s < 16) (h : Zf B w k p0) : ∃ B2, B_MText_system_132 N w (nI s) a (w + 22) (nI s) v B = some ((), B2) ∧ Zf B2 w k p0 ∧ same (SRd w) B B2 := by
  have h1 : Zf (B.sD (w + 22) s v) w k p0 := h.sD (by omega)
  obtain ⟨B2, e1, e2, e3⟩ := fz_163 (N := N) (v := 0) (a := a) hN hs h1
  refine ⟨B2, ?_, e2, (same.rf.sD (by unfold SRd; omega)).tr e3⟩
  unfold B_MText_system_132
  rw [ar_t (TA_31 h.1), wrI (show s < 16 from hs) (by decide), ck_t (TS h1.1), rf_t (TP_32 h1.1), bC_t (fz_accepts h1), if_pos rfl, e1]
/-- ... behind each's names -/
def syE (N w : Nat) (l1 l3 : Int32) (v34 : Int32) (H35 : Hp) : Option (Unit × Hp) :=
    ar H35 100 (w + 21) fun n36 =>
    ck (inb l1 n36) <|
    bnd (H35.sD (w + 21) (l1).toNatClampNeg v34) fun H39 =>
    rf (H39.P w 31) fun a40 =>
    bC (F_MText_accepts N w (206 : Int32) H39) fun v43 H44 =>
    if v43 = (0 : Int32) then
    B_MText_system_132 N w l1 l3 a40 l1 0 H44
    else
    rf (H44.P w 30) fun a156 =>
    ar H44 100 a156 fun n158 =>
    ck (inb l1 n158) <|
    bnd ((H44.D a156 (l1).toNatClampNeg)) fun x161 =>
    bC (F_MText_names N w x161 l3 H44) fun v163 H164 =>
    B_MText_system_132 N w l1 l3 a40 l1 v163 H164
theorem fz_syE {B : Hp} {k p0 s : Nat} {v a : Int32} (hN : 7000 ≤ N) (hs : s < 16) (h : Zf B w k p0) : ∃ B2, syE N w (nI s) a v B = some ((), B2) ∧ Zf B2 w k p0 ∧ same (SRd w) B B2 := by
  have h1 : Zf (B.sD (w + 21) s v) w k p0 := h.sD (by omega)
  obtain ⟨B2, e1, e2, e3⟩ := fz_132 (N := N) (v := 0) (a := a) hN hs h1
  refine ⟨B2, ?_, e2, (same.rf.sD (by unfold SRd; omega)).tr e3⟩
  unfold syE
  rw [ar_t (TA_30 h.1), wrI (show s < 16 from hs) (by decide), rf_t (TP_31 h1.1), bC_t (fz_accepts h1), if_pos rfl, e1]
theorem fz_sy82 {B : Hp} {k p0 s : Nat} {v a : Int32} (hN : 7000 ≤ N) (hs : s < 16) (h : Zf B w k p0) : ∃ B2, B_MText_system_82 N w (nI s) a (w + 25) (nI s) v B = some ((), B2) ∧ Zf B2 w k p0 ∧ same (SRd w) B B2 := by
  have h1 : Zf (B.sD (w + 25) s v) w k p0 := h.sD (by omega)
  obtain ⟨B2, e1, e2, e3⟩ := fz_syE (N := N) (v := 0) (a := a) hN hs h1
  refine ⟨B2, ?_, e2, (same.rf.sD (by unfold SRd; omega)).tr e3⟩
  unfold B_MText_system_82
  rw [ar_t (TA_34 h.1), wrI (show s < 16 from hs) (by decide), ck_t (TS h1.1), bC_t (fz_takes h1), rf_t (TP_30 h1.1), bC_t (fz_names h1 (by omega))]
  exact e1
end Par
