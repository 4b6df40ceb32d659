/-! ===== the reference's statements: counting, blocks, which statement ===== -/
/-- what a statement does behind its counting -/
def dsq (N : Nat) (o : Orc_RunS) (x16 x7 : Int32) (H18 : Hp) : Option (Unit × Hp) :=
    if x16 = 1 then
    bC (F_MRunner_assigns N 611 x7 H18) fun v21 H22 =>
    some ((), H22)
    else if x16 = 214 then
    bnd ((H18.D 611 11)) fun x24 =>
    bnd (H18.sD 611 11 (x24 + (2 : Int32))) fun H25 =>
    rf (H25.P 611 14) fun a26 =>
    rf (H25.P 611 0) fun a28 =>
    ck (H25.sh[a28]? = some (14, 0)) <|
    rf (H25.P a28 8) fun a31 =>
    ar H25 100 a31 fun n33 =>
    ck (inb (x7 + (1 : Int32)) n33) <|
    bnd ((H25.D a31 ((x7 + (1 : Int32))).toNatClampNeg)) fun x36 =>
    bC ((X_RunE N 50).1 611 H25) fun v38 H39 =>
    ar H39 100 a26 fun n40 =>
    ck (inb x36 n40) <|
    bnd (H39.sD a26 (x36).toNatClampNeg v38) fun H43 =>
    bnd ((H43.D 611 11)) fun x44 =>
    bnd (H43.sD 611 11 (x44 + (1 : Int32))) fun H45 =>
    some ((), H45)
    else if x16 = 215 then
    bC (F_MRunner_chooses N o 611 H18) fun v48 H49 =>
    some ((), H49)
    else if x16 = 217 then
    bC (F_MRunner_repeats N o 611 H18) fun v52 H53 =>
    some ((), H53)
    else if x16 = 218 then
    bC (F_MRunner_goes N o 611 H18) fun v56 H57 =>
    some ((), H57)
    else if x16 = 221 then
    bC (F_MRunner_hears N o 611 H18) fun v60 H61 =>
    some ((), H61)
    else if x16 = 222 then
    bC (F_MRunner_spawns N 611 H18) fun v64 H65 =>
    some ((), H65)
    else if x16 = 227 then
    bC (F_MRunner_emits N 611 H18) fun v68 H69 =>
    some ((), H69)
    else if x16 = 230 then
    bC (F_MRunner_fails N 611 (4 : Int32) H18) fun v72 H73 =>
    some ((), H73)
    else bC (F_MRunner_commands N 611 x16 H18) fun v75 H76 =>
    some ((), H76)
def dsp (N : Nat) (o : Orc_RunS) (H4 : Hp) : Option (Unit × Hp) :=
    bnd ((H4.D 611 11)) fun x7 =>
    rf (H4.P 611 0) fun a8 =>
    ck (H4.sh[a8]? = some (14, 0)) <|
    rf (H4.P a8 3) fun a11 =>
    ar H4 100 a11 fun n13 =>
    ck (inb x7 n13) <|
    bnd ((H4.D a11 (x7).toNatClampNeg)) fun x16 =>
    bnd ((H4.D 611 11)) fun x17 =>
    bnd (H4.sD 611 11 (x17 + (1 : Int32))) fun H18 =>
    dsq N o x16 x7 H18
section Par
variable {N w u ir M : Nat} {ty mn nu : Nat → Int32} {o : Orc_RunS}
theorem ev_cnt {B : Hp} {st : Nat} (hG : Gr B) (h8 : B.D 611 8 = nI st) (hst : st < 120) : F_MRunner_counts N 611 B = some ((), B.sD 611 8 (nI (st + 1))) := by
  unfold F_MRunner_counts
  rw [ck_t (rS_611 hG), bnd_t, h8, if_neg (fun z => by have := (nI_eq (b := 120) (by omega) (by decide)).mp z; omega)]
  unfold B_MRunner_counts_14
  rw [ck_t (rS_611 hG), bnd_t, h8, nI_1, bnd_t]
theorem ev_cnf {B : Hp} (hG : Gr B) (h8 : B.D 611 8 = nI 120) (h10 : B.D 611 10 = 0) : F_MRunner_counts N 611 B = some ((), (B.sD 611 10 5).sD 611 8 (nI 121)) := by
  have hG1 : Gr (B.sD 611 10 5) := hG
  unfold F_MRunner_counts F_MRunner_fails
  rw [ck_t (rS_611 hG), bnd_t, h8, if_pos (show nI 120 = (120 : Int32) from rfl), ck_t (rS_611 hG), bnd_t, h10, if_pos (show (0 : Int32) = 0 from rfl), bnd_t, bC_v]
  unfold B_MRunner_counts_14
  rw [ck_t (rS_611 hG1), bnd_t, rdf (by decide), h8, nI_1, bnd_t]
/-- a statement: it is counted, then done -/
theorem ev_stm {B : Hp} {st : Nat} (hG : Gr B) (h8 : B.D 611 8 = nI st) (hst : st < 120) (h10 : B.D 611 10 = 0) : F_MRunner_statement N o 611 B = dsp N o (B.sD 611 8 (nI (st + 1))) := by
  unfold F_MRunner_statement dsp dsq
  rw [ck_t (rS_611 hG), bC_t (ev_cnt hG h8 hst), bnd_t, rdf (by decide), h10, if_pos (by decide)]
theorem ev_stf {B : Hp} (hG : Gr B) (h8 : B.D 611 8 = nI 120) (h10 : B.D 611 10 = 0) : F_MRunner_statement N o 611 B = some ((), (B.sD 611 10 5).sD 611 8 (nI 121)) := by
  unfold F_MRunner_statement
  rw [ck_t (rS_611 hG), bC_t (ev_cnf hG h8 h10), bnd_t, rdf (by decide), rds, if_neg (by decide)]
theorem ev_blk {B : Hp} {i : Nat} (hG : Gr B) (h11 : B.D 611 11 = nI i) : F_MRunner_block N o 611 B = B_MRunner_block_15 N o 611 N (nI i) (atB B (i + 1)) := by
  unfold F_MRunner_block
  rw [ck_t (rS_611 hG), bnd_t, h11, bnd_t, nI_1, bnd_t]
  rfl
/-- a block's end -/
theorem ev_b45 {B : Hp} {op j : Nat} (h : RB B w u ir M ty mn nu) (ho : op < M) (hm : mn op = nI j) : B_MRunner_block_45 N o 611 (nI op) B = some ((), atB B (j + 1)) := by
  obtain ⟨t0, t1, t2, t3, t4, t5, t6⟩ := h.T
  have hM := h.2.2.2.2.2.2.2.1
  unfold B_MRunner_block_45
  rw [ck_t (rS_611 h.1), rf_t h.2.2.2.1, ck_t t0, rf_t t5, ar_t t6, rdI (show op < 6002 by omega) (by decide), (h.2.2.2.2.2.2.2.2 op ho).2.1, hm, nI_1, bnd_t]
  rfl
theorem ev_b15e {B : Hp} {op j n : Nat} {z dr : Int32} (h : RB B w u ir M ty mn nu) (ho : op < M) (hj : j < M) (hm : mn op = nI j) (hs : BS B j z dr) : B_MRunner_block_15 N o 611 (n + 1) (nI op) B = some ((), atB B (j + 1)) := by
  obtain ⟨t0, t1, t2, t3, t4, t5, t6⟩ := h.T
  have hM := h.2.2.2.2.2.2.2.1
  rw [B_MRunner_block_15, ck_t (rS_611 h.1), bnd_t, hs.2.1, if_pos rfl, bnd_t, hs.1, rf_t h.2.2.2.1, ck_t t0, rf_t t5, ar_t t6, rdI (show op < 6002 by omega) (by decide), (h.2.2.2.2.2.2.2.2 op ho).2.1, hm, if_pos (nI_le (by omega) (by omega)), ev_b45 h ho hm]
theorem ev_b15s {B : Hp} {op i j n : Nat} {z dr : Int32} (h : RB B w u ir M ty mn nu) (ho : op < M) (hij : i < j) (hj : j < M) (hm : mn op = nI j) (hs : BS B i z dr) : B_MRunner_block_15 N o 611 (n + 1) (nI op) B = bC (F_MRunner_statement N o 611 B) fun _ H => B_MRunner_block_15 N o 611 n (nI op) H := by
  obtain ⟨t0, t1, t2, t3, t4, t5, t6⟩ := h.T
  have hM := h.2.2.2.2.2.2.2.1
  rw [B_MRunner_block_15, ck_t (rS_611 h.1), bnd_t, hs.2.1, if_pos rfl, bnd_t, hs.1, rf_t h.2.2.2.1, ck_t t0, rf_t t5, ar_t t6, rdI (show op < 6002 by omega) (by decide), (h.2.2.2.2.2.2.2.2 op ho).2.1, hm, if_neg (nI_ge (by omega) (by omega))]
theorem ev_b15f {B : Hp} {op j n : Nat} (h : RB B w u ir M ty mn nu) (ho : op < M) (hm : mn op = nI j) (h10 : 0 < B.D 611 10) : B_MRunner_block_15 N o 611 (n + 1) (nI op) B = some ((), atB B (j + 1)) := by
  rw [B_MRunner_block_15, ck_t (rS_611 h.1), bnd_t, if_neg (fun z => by rw [z] at h10; exact absurd h10 (by decide)), ev_b45 h ho hm]
theorem ev_skp {B : Hp} {i j : Nat} (h : RB B w u ir M ty mn nu) (hi : i < M) (h11 : B.D 611 11 = nI i) (hm : mn i = nI j) : F_MRunner_skips N 611 B = some ((), atB B (j + 1)) := by
  obtain ⟨t0, t1, t2, t3, t4, t5, t6⟩ := h.T
  have hM := h.2.2.2.2.2.2.2.1
  unfold F_MRunner_skips
  rw [ck_t (rS_611 h.1), rf_t h.2.2.2.1, ck_t t0, rf_t t5, bnd_t, h11, ar_t t6, rdI (show i < 6002 by omega) (by decide), (h.2.2.2.2.2.2.2.2 i hi).2.1, hm, nI_1, bnd_t]
  rfl
/-- which statement -/
theorem dsp_h {B : Hp} {i : Nat} (h : RB B w u ir M ty mn nu) (hi : i < M) (h11 : B.D 611 11 = nI i) : dsp N o B = dsq N o (ty i) (nI i) (atB B (i + 1)) := by
  obtain ⟨t0, t1, t2, t3, t4, t5, t6⟩ := h.T
  have hM := h.2.2.2.2.2.2.2.1
  unfold dsp
  rw [bnd_t, h11, rf_t h.2.2.2.1, ck_t t0, rf_t t1, ar_t t2, rdI (show i < 6002 by omega) (by decide), (h.2.2.2.2.2.2.2.2 i hi).1, bnd_t, nI_1, bnd_t]
  rfl
end Par
