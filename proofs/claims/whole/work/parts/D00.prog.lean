/-! ===== a program's objects ===== -/
def isP (H : Hp) (p : Nat) : Prop := (H.sh[p]? = some (4, 0)) ∧ (H.P p 0 = .ref (p + 1)) ∧ (H.sh[p + 1]? = some (106, 68)) ∧ (∀ k, k < 68 → H.P (p + 1) k = .ref (p + 2 + k) ∧ H.sh[p + 2 + k]? = some (2, 0)) ∧ (H.P p 2 = .ref (p + 70)) ∧ (H.sh[p + 70]? = some (3, 0)) ∧ (H.P (p + 70) 0 = .ref (p + 71)) ∧ (H.sh[p + 71]? = some (106, 16)) ∧ (∀ k, k < 16 → H.P (p + 71) k = .ref (p + 72 + k) ∧ H.sh[p + 72 + k]? = some (2, 0)) ∧ (H.P (p + 70) 1 = .ref (p + 88)) ∧ (H.sh[p + 88]? = some (106, 48)) ∧ (∀ k, k < 48 → H.P (p + 88) k = .ref (p + 89 + k) ∧ H.sh[p + 89 + k]? = some (2, 0)) ∧ (H.P (p + 70) 2 = .ref (p + 137)) ∧ (H.sh[p + 137]? = some (100, 17)) ∧ (H.P p 3 = .ref (p + 138)) ∧ (H.sh[p + 138]? = some (3, 0)) ∧ (H.P (p + 138) 0 = .ref (p + 139)) ∧ (H.sh[p + 139]? = some (106, 8)) ∧ (∀ k, k < 8 → H.P (p + 139) k = .ref (p + 140 + k) ∧ H.sh[p + 140 + k]? = some (2, 0)) ∧ (H.P (p + 138) 1 = .ref (p + 148)) ∧ (H.sh[p + 148]? = some (106, 32)) ∧ (∀ k, k < 32 → H.P (p + 148) k = .ref (p + 149 + k) ∧ H.sh[p + 149 + k]? = some (2, 0)) ∧ (H.P (p + 138) 2 = .ref (p + 181)) ∧ (H.sh[p + 181]? = some (100, 9)) ∧ (H.P p 5 = .ref (p + 182)) ∧ (H.sh[p + 182]? = some (100, 16)) ∧ (H.P p 6 = .ref (p + 183)) ∧ (H.sh[p + 183]? = some (100, 768)) ∧ (H.P p 8 = .ref (p + 184)) ∧ (H.sh[p + 184]? = some (100, 16)) ∧ (H.P p 9 = .ref (p + 185)) ∧ (H.sh[p + 185]? = some (100, 16)) ∧ (H.P p 10 = .ref (p + 186)) ∧ (H.sh[p + 186]? = some (100, 16)) ∧ (H.P p 11 = .ref (p + 187)) ∧ (H.sh[p + 187]? = some (100, 16)) ∧ (H.P p 12 = .ref (p + 188)) ∧ (H.sh[p + 188]? = some (100, 16)) ∧ (H.P p 13 = .ref (p + 189)) ∧ (H.sh[p + 189]? = some (100, 16)) ∧ (H.P p 14 = .ref (p + 190)) ∧ (H.sh[p + 190]? = some (100, 16)) ∧ (H.P p 16 = .ref (p + 191)) ∧ (H.sh[p + 191]? = some (100, 12000))
theorem PrS {H : Hp} {p : Nat} (h : isP H p) : H.sh[p]? = some (4, 0) := h.1
theorem PrP_0 {H : Hp} {p : Nat} (h : isP H p) : H.P p 0 = .ref (p + 1) := h.2.1
theorem PrA_0 {H : Hp} {p : Nat} (h : isP H p) : H.sh[p + 1]? = some (106, 68) := h.2.2.1
theorem PrK {H : Hp} {p : Nat} (h : isP H p) : ∀ k, k < 68 → H.P (p + 1) k = .ref (p + 2 + k) ∧ H.sh[p + 2 + k]? = some (2, 0) := h.2.2.2.1
theorem PrP_2 {H : Hp} {p : Nat} (h : isP H p) : H.P p 2 = .ref (p + 70) := h.2.2.2.2.1
theorem PrA_2 {H : Hp} {p : Nat} (h : isP H p) : H.sh[p + 70]? = some (3, 0) := h.2.2.2.2.2.1
theorem PcP_0 {H : Hp} {p : Nat} (h : isP H p) : H.P (p + 70) 0 = .ref (p + 71) := h.2.2.2.2.2.2.1
theorem PcA_0 {H : Hp} {p : Nat} (h : isP H p) : H.sh[p + 71]? = some (106, 16) := h.2.2.2.2.2.2.2.1
theorem PcH {H : Hp} {p : Nat} (h : isP H p) : ∀ k, k < 16 → H.P (p + 71) k = .ref (p + 72 + k) ∧ H.sh[p + 72 + k]? = some (2, 0) := h.2.2.2.2.2.2.2.2.1
theorem PcP_1 {H : Hp} {p : Nat} (h : isP H p) : H.P (p + 70) 1 = .ref (p + 88) := h.2.2.2.2.2.2.2.2.2.1
theorem PcA_1 {H : Hp} {p : Nat} (h : isP H p) : H.sh[p + 88]? = some (106, 48) := h.2.2.2.2.2.2.2.2.2.2.1
theorem PcM {H : Hp} {p : Nat} (h : isP H p) : ∀ k, k < 48 → H.P (p + 88) k = .ref (p + 89 + k) ∧ H.sh[p + 89 + k]? = some (2, 0) := h.2.2.2.2.2.2.2.2.2.2.2.1
theorem PcP_2 {H : Hp} {p : Nat} (h : isP H p) : H.P (p + 70) 2 = .ref (p + 137) := h.2.2.2.2.2.2.2.2.2.2.2.2.1
theorem PcA_2 {H : Hp} {p : Nat} (h : isP H p) : H.sh[p + 137]? = some (100, 17) := h.2.2.2.2.2.2.2.2.2.2.2.2.2.1
theorem PrP_3 {H : Hp} {p : Nat} (h : isP H p) : H.P p 3 = .ref (p + 138) := h.2.2.2.2.2.2.2.2.2.2.2.2.2.2.1
theorem PrA_3 {H : Hp} {p : Nat} (h : isP H p) : H.sh[p + 138]? = some (3, 0) := h.2.2.2.2.2.2.2.2.2.2.2.2.2.2.2.1
theorem PeP_0 {H : Hp} {p : Nat} (h : isP H p) : H.P (p + 138) 0 = .ref (p + 139) := h.2.2.2.2.2.2.2.2.2.2.2.2.2.2.2.2.1
theorem PeA_0 {H : Hp} {p : Nat} (h : isP H p) : H.sh[p + 139]? = some (106, 8) := h.2.2.2.2.2.2.2.2.2.2.2.2.2.2.2.2.2.1
theorem PeH {H : Hp} {p : Nat} (h : isP H p) : ∀ k, k < 8 → H.P (p + 139) k = .ref (p + 140 + k) ∧ H.sh[p + 140 + k]? = some (2, 0) := h.2.2.2.2.2.2.2.2.2.2.2.2.2.2.2.2.2.2.1
theorem PeP_1 {H : Hp} {p : Nat} (h : isP H p) : H.P (p + 138) 1 = .ref (p + 148) := h.2.2.2.2.2.2.2.2.2.2.2.2.2.2.2.2.2.2.2.1
theorem PeA_1 {H : Hp} {p : Nat} (h : isP H p) : H.sh[p + 148]? = some (106, 32) := h.2.2.2.2.2.2.2.2.2.2.2.2.2.2.2.2.2.2.2.2.1
theorem PeM {H : Hp} {p : Nat} (h : isP H p) : ∀ k, k < 32 → H.P (p + 148) k = .ref (p + 149 + k) ∧ H.sh[p + 149 + k]? = some (2, 0) := h.2.2.2.2.2.2.2.2.2.2.2.2.2.2.2.2.2.2.2.2.2.1
theorem PeP_2 {H : Hp} {p : Nat} (h : isP H p) : H.P (p + 138) 2 = .ref (p + 181) := h.2.2.2.2.2.2.2.2.2.2.2.2.2.2.2.2.2.2.2.2.2.2.1
theorem PeA_2 {H : Hp} {p : Nat} (h : isP H p) : H.sh[p + 181]? = some (100, 9) := h.2.2.2.2.2.2.2.2.2.2.2.2.2.2.2.2.2.2.2.2.2.2.2.1
theorem PrP_5 {H : Hp} {p : Nat} (h : isP H p) : H.P p 5 = .ref (p + 182) := h.2.2.2.2.2.2.2.2.2.2.2.2.2.2.2.2.2.2.2.2.2.2.2.2.1
theorem PrA_5 {H : Hp} {p : Nat} (h : isP H p) : H.sh[p + 182]? = some (100, 16) := h.2.2.2.2.2.2.2.2.2.2.2.2.2.2.2.2.2.2.2.2.2.2.2.2.2.1
theorem PrP_6 {H : Hp} {p : Nat} (h : isP H p) : H.P p 6 = .ref (p + 183) := h.2.2.2.2.2.2.2.2.2.2.2.2.2.2.2.2.2.2.2.2.2.2.2.2.2.2.1
theorem PrA_6 {H : Hp} {p : Nat} (h : isP H p) : H.sh[p + 183]? = some (100, 768) := h.2.2.2.2.2.2.2.2.2.2.2.2.2.2.2.2.2.2.2.2.2.2.2.2.2.2.2.1
theorem PrP_8 {H : Hp} {p : Nat} (h : isP H p) : H.P p 8 = .ref (p + 184) := h.2.2.2.2.2.2.2.2.2.2.2.2.2.2.2.2.2.2.2.2.2.2.2.2.2.2.2.2.1
theorem PrA_8 {H : Hp} {p : Nat} (h : isP H p) : H.sh[p + 184]? = some (100, 16) := h.2.2.2.2.2.2.2.2.2.2.2.2.2.2.2.2.2.2.2.2.2.2.2.2.2.2.2.2.2.1
theorem PrP_9 {H : Hp} {p : Nat} (h : isP H p) : H.P p 9 = .ref (p + 185) := h.2.2.2.2.2.2.2.2.2.2.2.2.2.2.2.2.2.2.2.2.2.2.2.2.2.2.2.2.2.2.1
theorem PrA_9 {H : Hp} {p : Nat} (h : isP H p) : H.sh[p + 185]? = some (100, 16) := h.2.2.2.2.2.2.2.2.2.2.2.2.2.2.2.2.2.2.2.2.2.2.2.2.2.2.2.2.2.2.2.1
theorem PrP_10 {H : Hp} {p : Nat} (h : isP H p) : H.P p 10 = .ref (p + 186) := h.2.2.2.2.2.2.2.2.2.2.2.2.2.2.2.2.2.2.2.2.2.2.2.2.2.2.2.2.2.2.2.2.1
theorem PrA_10 {H : Hp} {p : Nat} (h : isP H p) : H.sh[p + 186]? = some (100, 16) := h.2.2.2.2.2.2.2.2.2.2.2.2.2.2.2.2.2.2.2.2.2.2.2.2.2.2.2.2.2.2.2.2.2.1
theorem PrP_11 {H : Hp} {p : Nat} (h : isP H p) : H.P p 11 = .ref (p + 187) := h.2.2.2.2.2.2.2.2.2.2.2.2.2.2.2.2.2.2.2.2.2.2.2.2.2.2.2.2.2.2.2.2.2.2.1
theorem PrA_11 {H : Hp} {p : Nat} (h : isP H p) : H.sh[p + 187]? = some (100, 16) := h.2.2.2.2.2.2.2.2.2.2.2.2.2.2.2.2.2.2.2.2.2.2.2.2.2.2.2.2.2.2.2.2.2.2.2.1
theorem PrP_12 {H : Hp} {p : Nat} (h : isP H p) : H.P p 12 = .ref (p + 188) := h.2.2.2.2.2.2.2.2.2.2.2.2.2.2.2.2.2.2.2.2.2.2.2.2.2.2.2.2.2.2.2.2.2.2.2.2.1
theorem PrA_12 {H : Hp} {p : Nat} (h : isP H p) : H.sh[p + 188]? = some (100, 16) := h.2.2.2.2.2.2.2.2.2.2.2.2.2.2.2.2.2.2.2.2.2.2.2.2.2.2.2.2.2.2.2.2.2.2.2.2.2.1
theorem PrP_13 {H : Hp} {p : Nat} (h : isP H p) : H.P p 13 = .ref (p + 189) := h.2.2.2.2.2.2.2.2.2.2.2.2.2.2.2.2.2.2.2.2.2.2.2.2.2.2.2.2.2.2.2.2.2.2.2.2.2.2.1
theorem PrA_13 {H : Hp} {p : Nat} (h : isP H p) : H.sh[p + 189]? = some (100, 16) := h.2.2.2.2.2.2.2.2.2.2.2.2.2.2.2.2.2.2.2.2.2.2.2.2.2.2.2.2.2.2.2.2.2.2.2.2.2.2.2.1
theorem PrP_14 {H : Hp} {p : Nat} (h : isP H p) : H.P p 14 = .ref (p + 190) := h.2.2.2.2.2.2.2.2.2.2.2.2.2.2.2.2.2.2.2.2.2.2.2.2.2.2.2.2.2.2.2.2.2.2.2.2.2.2.2.2.1
theorem PrA_14 {H : Hp} {p : Nat} (h : isP H p) : H.sh[p + 190]? = some (100, 16) := h.2.2.2.2.2.2.2.2.2.2.2.2.2.2.2.2.2.2.2.2.2.2.2.2.2.2.2.2.2.2.2.2.2.2.2.2.2.2.2.2.2.1
theorem PrP_16 {H : Hp} {p : Nat} (h : isP H p) : H.P p 16 = .ref (p + 191) := h.2.2.2.2.2.2.2.2.2.2.2.2.2.2.2.2.2.2.2.2.2.2.2.2.2.2.2.2.2.2.2.2.2.2.2.2.2.2.2.2.2.2.1
theorem PrA_16 {H : Hp} {p : Nat} (h : isP H p) : H.sh[p + 191]? = some (100, 12000) := h.2.2.2.2.2.2.2.2.2.2.2.2.2.2.2.2.2.2.2.2.2.2.2.2.2.2.2.2.2.2.2.2.2.2.2.2.2.2.2.2.2.2.2
theorem Gr.m {H : Hp} (h : Gr H) {q : Nat × Nat × Nat} (hq : q ∈ rf0) : H.P q.1 q.2.1 = .ref q.2.2 := h.2 q hq
set_option maxRecDepth 20000 in
theorem prK133 : ∀ k : Fin 68, ((134, k.val, 135 + k.val) ∈ rf0) ∧ sh0[135 + k.val]? = some (2, 0) := by decide +kernel
set_option maxRecDepth 20000 in
theorem prH133 : ∀ k : Fin 16, ((204, k.val, 205 + k.val) ∈ rf0) ∧ sh0[205 + k.val]? = some (2, 0) := by decide +kernel
set_option maxRecDepth 20000 in
theorem prM133 : ∀ k : Fin 48, ((221, k.val, 222 + k.val) ∈ rf0) ∧ sh0[222 + k.val]? = some (2, 0) := by decide +kernel
set_option maxRecDepth 20000 in
theorem prh133 : ∀ k : Fin 8, ((272, k.val, 273 + k.val) ∈ rf0) ∧ sh0[273 + k.val]? = some (2, 0) := by decide +kernel
set_option maxRecDepth 20000 in
theorem prm133 : ∀ k : Fin 32, ((281, k.val, 282 + k.val) ∈ rf0) ∧ sh0[282 + k.val]? = some (2, 0) := by decide +kernel
set_option maxRecDepth 20000 in
theorem prK325 : ∀ k : Fin 68, ((326, k.val, 327 + k.val) ∈ rf0) ∧ sh0[327 + k.val]? = some (2, 0) := by decide +kernel
set_option maxRecDepth 20000 in
theorem prH325 : ∀ k : Fin 16, ((396, k.val, 397 + k.val) ∈ rf0) ∧ sh0[397 + k.val]? = some (2, 0) := by decide +kernel
set_option maxRecDepth 20000 in
theorem prM325 : ∀ k : Fin 48, ((413, k.val, 414 + k.val) ∈ rf0) ∧ sh0[414 + k.val]? = some (2, 0) := by decide +kernel
set_option maxRecDepth 20000 in
theorem prh325 : ∀ k : Fin 8, ((464, k.val, 465 + k.val) ∈ rf0) ∧ sh0[465 + k.val]? = some (2, 0) := by decide +kernel
set_option maxRecDepth 20000 in
theorem prm325 : ∀ k : Fin 32, ((473, k.val, 474 + k.val) ∈ rf0) ∧ sh0[474 + k.val]? = some (2, 0) := by decide +kernel
set_option maxRecDepth 20000 in
theorem gr_P133 {H : Hp} (h : Gr H) : isP H 133 := ⟨h.s (by decide +kernel), h.m (q := (133, 0, 134)) (by decide +kernel), h.s (by decide +kernel), fun k hk => ⟨h.m (prK133 ⟨k, hk⟩).1, h.s (prK133 ⟨k, hk⟩).2⟩, h.m (q := (133, 2, 203)) (by decide +kernel), h.s (by decide +kernel), h.m (q := (203, 0, 204)) (by decide +kernel), h.s (by decide +kernel), fun k hk => ⟨h.m (prH133 ⟨k, hk⟩).1, h.s (prH133 ⟨k, hk⟩).2⟩, h.m (q := (203, 1, 221)) (by decide +kernel), h.s (by decide +kernel), fun k hk => ⟨h.m (prM133 ⟨k, hk⟩).1, h.s (prM133 ⟨k, hk⟩).2⟩, h.m (q := (203, 2, 270)) (by decide +kernel), h.s (by decide +kernel), h.m (q := (133, 3, 271)) (by decide +kernel), h.s (by decide +kernel), h.m (q := (271, 0, 272)) (by decide +kernel), h.s (by decide +kernel), fun k hk => ⟨h.m (prh133 ⟨k, hk⟩).1, h.s (prh133 ⟨k, hk⟩).2⟩, h.m (q := (271, 1, 281)) (by decide +kernel), h.s (by decide +kernel), fun k hk => ⟨h.m (prm133 ⟨k, hk⟩).1, h.s (prm133 ⟨k, hk⟩).2⟩, h.m (q := (271, 2, 314)) (by decide +kernel), h.s (by decide +kernel), h.m (q := (133, 5, 315)) (by decide +kernel), h.s (by decide +kernel), h.m (q := (133, 6, 316)) (by decide +kernel), h.s (by decide +kernel), h.m (q := (133, 8, 317)) (by decide +kernel), h.s (by decide +kernel), h.m (q := (133, 9, 318)) (by decide +kernel), h.s (by decide +kernel), h.m (q := (133, 10, 319)) (by decide +kernel), h.s (by decide +kernel), h.m (q := (133, 11, 320)) (by decide +kernel), h.s (by decide +kernel), h.m (q := (133, 12, 321)) (by decide +kernel), h.s (by decide +kernel), h.m (q := (133, 13, 322)) (by decide +kernel), h.s (by decide +kernel), h.m (q := (133, 14, 323)) (by decide +kernel), h.s (by decide +kernel), h.m (q := (133, 16, 324)) (by decide +kernel), h.s (by decide +kernel)⟩
set_option maxRecDepth 20000 in
theorem gr_P325 {H : Hp} (h : Gr H) : isP H 325 := ⟨h.s (by decide +kernel), h.m (q := (325, 0, 326)) (by decide +kernel), h.s (by decide +kernel), fun k hk => ⟨h.m (prK325 ⟨k, hk⟩).1, h.s (prK325 ⟨k, hk⟩).2⟩, h.m (q := (325, 2, 395)) (by decide +kernel), h.s (by decide +kernel), h.m (q := (395, 0, 396)) (by decide +kernel), h.s (by decide +kernel), fun k hk => ⟨h.m (prH325 ⟨k, hk⟩).1, h.s (prH325 ⟨k, hk⟩).2⟩, h.m (q := (395, 1, 413)) (by decide +kernel), h.s (by decide +kernel), fun k hk => ⟨h.m (prM325 ⟨k, hk⟩).1, h.s (prM325 ⟨k, hk⟩).2⟩, h.m (q := (395, 2, 462)) (by decide +kernel), h.s (by decide +kernel), h.m (q := (325, 3, 463)) (by decide +kernel), h.s (by decide +kernel), h.m (q := (463, 0, 464)) (by decide +kernel), h.s (by decide +kernel), fun k hk => ⟨h.m (prh325 ⟨k, hk⟩).1, h.s (prh325 ⟨k, hk⟩).2⟩, h.m (q := (463, 1, 473)) (by decide +kernel), h.s (by decide +kernel), fun k hk => ⟨h.m (prm325 ⟨k, hk⟩).1, h.s (prm325 ⟨k, hk⟩).2⟩, h.m (q := (463, 2, 506)) (by decide +kernel), h.s (by decide +kernel), h.m (q := (325, 5, 507)) (by decide +kernel), h.s (by decide +kernel), h.m (q := (325, 6, 508)) (by decide +kernel), h.s (by decide +kernel), h.m (q := (325, 8, 509)) (by decide +kernel), h.s (by decide +kernel), h.m (q := (325, 9, 510)) (by decide +kernel), h.s (by decide +kernel), h.m (q := (325, 10, 511)) (by decide +kernel), h.s (by decide +kernel), h.m (q := (325, 11, 512)) (by decide +kernel), h.s (by decide +kernel), h.m (q := (325, 12, 513)) (by decide +kernel), h.s (by decide +kernel), h.m (q := (325, 13, 514)) (by decide +kernel), h.s (by decide +kernel), h.m (q := (325, 14, 515)) (by decide +kernel), h.s (by decide +kernel), h.m (q := (325, 16, 516)) (by decide +kernel), h.s (by decide +kernel)⟩
theorem isP.sD {H : Hp} {p a f : Nat} {v : Int32} (h : isP H p) : isP (H.sD a f v) p := h
