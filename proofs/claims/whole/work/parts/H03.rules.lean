/-! ===== further rules; get and shown on one heap ===== -/
section Par
variable {p : Program} {l : Launch} {e : Env} {s : State} {m : MethodId} {args : Array Value} {below : List Frame} {meth : Method} {c : Code} {G : ab_G} {sL : Nat} {sxs : Nat → Int32} {y z : ab_Y} {R R1 : Room} {Po : Outcome → List ab_E → Prop} {mc ms cells slots pc : Nat} {lv : List (Option Value)} {st : List Value} {h : List ab_E}
theorem pw_i2l (hX : ab_X y p l s m args meth c) {x : Int32} (hd : decode y.2.1 pc = .ok (.i2l, 1)) (k : pw_V p l e s m args below meth c G y R Po mc ms cells slots (pc + 1) lv (.long (x.toInt64) :: st) h) : pw_V p l e s m args below meth c G y R Po mc ms cells slots pc lv (.int x :: st) h := pw_lift hX (fun _ _ _ _ _ _ _ _ _ _ _ _ _ _ hx hb k => lv_i2l hx hb hd rfl k) k
theorem pw_lcmp (hX : ab_X y p l s m args meth c) {x z : Int64} (hd : decode y.2.1 pc = .ok (.lcmp, 1)) (k : pw_V p l e s m args below meth c G y R Po mc ms cells slots (pc + 1) lv (.int (lg_cmp x z) :: st) h) : pw_V p l e s m args below meth c G y R Po mc ms cells slots pc lv (.long z :: .long x :: st) h := pw_lift hX (fun _ _ _ _ _ _ _ _ _ _ _ _ _ _ hx hb k => W.lcmp hx hb hd k) k
theorem pw_lald (hX : ab_X y p l s m args meth c) {a n : Nat} {f : Nat → Int64} {i : Int32} (hd : decode y.2.1 pc = .ok (.laload, 1)) (ht : FieldType.long ∈ ab_tyl) (ha : h[a]? = some (.inl (.long, n, .inr (.inl f)))) (hin : vp_in i n) (k : pw_V p l e s m args below meth c G y R Po mc ms cells slots (pc + 1) lv (.long (f i.toNatClampNeg) :: st) h) : pw_V p l e s m args below meth c G y R Po mc ms cells slots pc lv (.int i :: .ref a :: st) h := by
  intro H locs ls hI hl
  obtain ⟨t0, ht0⟩ := ab_ty_get (G := G) ht
  exact va_lald hX.1 hX.2.1 hI.2.2.1 hI.2.2.2.1 a t0 (ab_w_get ha) ht0 hin hd (k H locs ls hI hl)
end Par
/-- the same but for the longs -/
def eqL (K A : Hp) : Prop := K.D = A.D ∧ K.P = A.P ∧ K.sh = A.sh ∧ K.sl = A.sl
theorem eqL.gw {R : Nat → Nat → Prop} {H K A : Hp} (h : eqL K A) (g : gw R H A) : gw R H K := by
  obtain ⟨h1, h2, h3, h4⟩ := h
  refine ⟨by rw [h3]; exact g.1, fun a f y1 y2 => ?_⟩
  rw [h1, h2]
  exact g.2 a f y1 y2
theorem eqL.gr {K A : Hp} (h : eqL K A) (g : Gr A) : Gr K := by
  obtain ⟨h1, h2, h3, h4⟩ := h
  unfold Gr at g ⊢
  rw [h2, h3]
  exact g
def OG2 (N s0 k : Nat) (FW : Hp → Option (Ot Int32 × Hp)) (FM : Hp → Option (Int32 × Hp)) : Prop := ∀ H, RR N s0 k H H → ∃ A2, (∃ r, FW H = some (.inl r, A2) ∧ ∀ K, eqL K A2 → ∃ B2, FM K = some (r, B2) ∧ B2.D 517 0 = 0 ∧ RR N s0 (k + 1) B2 B2 ∧ B2.sh = K.sh ∧ B2.sl = K.sl ∧ B2.L = K.L) ∨ (FW H = some (.inr H.sh.length, A2) ∧ A2.sh[H.sh.length]? = some (18, 0) ∧ ∃ B2, FM A2 = some (0, B2) ∧ B2.D 517 0 = 1 ∧ RR N s0 (k + 1) B2 B2 ∧ B2.sh = A2.sh ∧ B2.sl = A2.sl)
theorem JG.two {N s0 k : Nat} {FW : Hp → Option (Ot Int32 × Hp)} {FM : Hp → Option (Int32 × Hp)} (h : JG N s0 k FW FM) : OG2 N s0 k FW FM := by
  intro H hr
  obtain ⟨A2, B0, h3, h4, -, -, -, -, h1⟩ := h H H hr
  have gA2 := h3.gr.1
  refine ⟨A2, ?_⟩
  rcases h1 with ⟨r, h1, -⟩ | ⟨h1, -⟩
  · refine .inl ⟨r, h1, fun K hK => ?_⟩
    obtain ⟨A2', B2, k3, -, k5, k6, k7, k8, k1⟩ := h H K (hr.mvB (hK.gr gA2) (hK.gw h4))
    rcases k1 with ⟨r', k1, k2, k9⟩ | ⟨k1, -⟩
    · rw [h1] at k1
      obtain ⟨e1, e2⟩ := Prod.mk.inj (Option.some.inj k1)
      cases e1
      subst e2
      refine ⟨B2, k2, k9, k3.mvA k3.gr.2 ?_ (by rw [k6]; exact hK.2.2.1) (by rw [k7]; exact hK.2.2.2), k6, k7, k8⟩
      obtain ⟨h1, h2, h3, h4⟩ := hK
      refine ⟨by rw [← h3]; exact k5.1, fun a f y1 y2 => ?_⟩
      rw [← h1, ← h2]
      exact k5.2 a f (by rw [h3]; exact y1) y2
    · rw [h1] at k1
      obtain ⟨e1, e2⟩ := Prod.mk.inj (Option.some.inj k1)
      cases e1
  · obtain ⟨A2', B2, k3, -, k5, k6, k7, k8, k1⟩ := h H A2 (hr.mvB gA2 h4)
    rcases k1 with ⟨r', k1, -⟩ | ⟨k1, k2, k9, k10⟩
    · rw [h1] at k1
      obtain ⟨e1, e2⟩ := Prod.mk.inj (Option.some.inj k1)
      cases e1
    · rw [h1] at k1
      obtain ⟨e1, e2⟩ := Prod.mk.inj (Option.some.inj k1)
      subst e2
      exact .inr ⟨h1, k10, B2, k2, k9, k3.mvA k3.gr.2 k5 k6 k7, k6, k7⟩
/-- the room that k calls take -/
theorem RR.room {N s0 k : Nat} {A B : Hp} (h : RR N s0 k A B) : A.sh.length ≤ 1162 + 170 * k ∧ A.sl ≤ s0 + 720896 + 1800 * k := by
  obtain ⟨p, p2, cs, w, w2, M, ty, mn, nu, cd, E, Nm, Pv, S, nb, b, t0, la, z, us, un, um, c, n, kT, U, F, h1, h2, h3, h4, h5, T, m1, m2, m3, m4⟩ := h
  obtain ⟨t, t1, t2⟩ := h1.1.2.2.2.2.2.2
  have : 2 ^ t ≤ 2 ^ 9 := Nat.pow_le_pow_right (by decide) t1
  have : z ≤ 360448 := by omega
  omega
theorem F_lawget {N : Nat} {x1 x2 x3 : Int32} {H A2 : Hp} (hG : Gr H) {r : Int32} (e : F_W_get N 0 x1 x2 x3 H = some (.inl r, A2)) (hm : A2.sh[625]? = some (104, 1)) : F_Law_get N 0 x1 x2 x3 625 H = some (0, A2.sL 625 0 r.toInt64) := by
  unfold F_Law_get
  rw [ck_t (rS_0 hG), e]
  show (ar A2 104 625 fun n7 => ck (inb (0 : Int32) n7) <| bnd (A2.sL 625 ((0 : Int32)).toNatClampNeg ((r : Int32).toInt64)) fun H10 => some (0, H10)) = _
  rw [ar_t hm, ck_t (by decide), bnd_t]
  rfl
theorem F_lawgetx {N : Nat} {x1 x2 x3 : Int32} {H A2 : Hp} (hG : Gr H) {x : Nat} (e : F_W_get N 0 x1 x2 x3 H = some (.inr x, A2)) (hm : A2.sh[x]? = some (18, 0)) : F_Law_get N 0 x1 x2 x3 625 H = some (1, A2) := by
  unfold F_Law_get
  rw [ck_t (rS_0 hG), e]
  show (ck (A2.sh[x]? = some (18, 0)) <| B_Law_get_15 N 0 x1 x2 x3 625 x A2) = _
  rw [ck_t hm]
  rfl
theorem F_lawshown {N : Nat} {x1 : Int32} {H A2 : Hp} (hG : Gr H) {r : Int32} (e : F_W_shown N 0 x1 H = some (.inl r, A2)) (hm : A2.sh[625]? = some (104, 1)) : F_Law_shown N 0 x1 625 H = some (0, A2.sL 625 0 r.toInt64) := by
  unfold F_Law_shown
  rw [ck_t (rS_0 hG), e]
  show (ar A2 104 625 fun n7 => ck (inb (0 : Int32) n7) <| bnd (A2.sL 625 ((0 : Int32)).toNatClampNeg ((r : Int32).toInt64)) fun H10 => some (0, H10)) = _
  rw [ar_t hm, ck_t (by decide), bnd_t]
  rfl
theorem F_lawshownx {N : Nat} {x1 : Int32} {H A2 : Hp} (hG : Gr H) {x : Nat} (e : F_W_shown N 0 x1 H = some (.inr x, A2)) (hm : A2.sh[x]? = some (18, 0)) : F_Law_shown N 0 x1 625 H = some (1, A2) := by
  unfold F_Law_shown
  rw [ck_t (rS_0 hG), e]
  show (ck (A2.sh[x]? = some (18, 0)) <| B_Law_shown_12 N 0 x1 625 x A2) = _
  rw [ck_t hm]
  rfl
