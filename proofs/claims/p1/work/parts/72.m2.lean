theorem upd_0 (j : Nat) : upd (fun _ => (0 : Int32)) j 0 = fun _ => 0 := by
  funext i; unfold upd; split <;> rfl
theorem upa_0 (k : Nat) : upa (fun _ _ => (0 : Int32)) k (fun _ => 0) = fun _ _ => 0 := by
  funext i; unfold upa; split <;> rfl
theorem nar_0 : vp_nar .boolean 0 = 0 := rfl
theorem nar_1 : vp_nar .boolean 1 = 1 := rfl
theorem mbegin_z : ∀ (n i : Nat) (s : Nat → Int32), sp_mbegin n i s (fun _ _ => 0) = (s, fun _ _ => 0) := by
  intro n
  induction n with
  | zero => intro i s; rw [sp_mbegin]
  | succ n ih =>
    intro i s
    rw [sp_mbegin, nar_0]
    simp only [upd_0, upa_0]
    exact ih (i + 1) s
def s0_MW : Nat → Int32 := upd (fun _ => 0) 13 (-1)
theorem begin_z : sp_MWorld_begin (fun _ => 0) (fun _ _ => 0) = (s0_MW, fun _ _ => 0) := by
  unfold sp_MWorld_begin
  rw [mbegin_z]
  simp only [upd_0]
  refine Prod.ext ?_ rfl
  funext k
  unfold s0_MW upd
  by_cases h1 : k = 16
  · subst h1; rfl
  · show (if k = 16 then (0 : Int32) else _) = _
    rw [if_neg h1]
set_option maxRecDepth 20000 in
set_option maxHeartbeats 2000000 in
theorem c_MWorld_init {h : List ab_E}  {b : Nat}  (ho : h[b]? = some (.inr (13, [.int 0, .int 0, .int 0, .int 0, .null, .null, .null, .null, .int 0, .null, .null, .null, .null, .int 0, .int 0, .int 0, .int 0, .null]))) (hlen : h.length = b + 1) : ab_M y_MWorld_init { frames := 1, cells := 9, slots := 14880, locals := 60 } [.ref b] h (ab_A none (fun h1 => at_MWorld h1 b s0_MW (fun _ _ => 0) ∧ h1.length = b + 10 ∧ ab_fr (in_up b) h h1)) := by
  refine ab_of2 (lv := [some (.ref b)]) 0 rfl rfl (Nat.le_of_ble_eq_true rfl) ?_
  refine ab_aload_n d_MWorld_init_0 rfl rfl rfl ?_
  refine ab_objInit d_MWorld_init_1 (k9 82 rfl rfl) (k1 37 rfl rfl) (k1 38 rfl rfl) (by decide) (by decide) ?_
  refine ab_aload_n d_MWorld_init_4 rfl rfl rfl ?_
  refine ab_sipush (v := 256) d_MWorld_init_5 (by decide) ?_
  refine ab_newaL (N := 256) hlen d_MWorld_init_8 rfl (k1 143 rfl rfl) tI (Or.inl rfl) (by decide) (by decide) (by decide) (by decide) (by decide) (fun h1 e2 e3 e4 => ?_)
  have c5 : h1[b + 1]? = some (.inl (.int, 256, .inl (fun _ => 0))) := e3
  have c6 : h1[b]? = some (.inr (13, [.int 0, .int 0, .int 0, .int 0, .null, .null, .null, .null, .int 0, .null, .null, .null, .null, .int 0, .int 0, .int 0, .int 0, .null])) := (e4 _ (by omega)).trans ho
  have fr7 : ab_fr (in_up b) h h1 := ab_fr_new (ab_fr_rf _ _) e4 e2 hlen
  have l8 : h1.length = b + 2 := e2
  clear e2 e3 e4
  refine ab_putF (f := 4) d_MWorld_init_10 c6 rfl (by decide) (k9 98 rfl rfl) rfl rfl rfl rfl (fun _ => rfl) (fun _ => rfl) (Nat.le_of_ble_eq_true rfl) ?_
  show ab_V _ _ _ _ _ _ _ 13 [some (.ref b)] [] (h1.set b (.inr (13, [.int 0, .int 0, .int 0, .int 0, .ref (b + 1), .null, .null, .null, .int 0, .null, .null, .null, .null, .int 0, .int 0, .int 0, .int 0, .null])))
  refine ab_gen (fun h9 e10 => ?_)
  have c11 : h9[b]? = some (.inr (13, [.int 0, .int 0, .int 0, .int 0, .ref (b + 1), .null, .null, .null, .int 0, .null, .null, .null, .null, .int 0, .int 0, .int 0, .int 0, .null])) := ab_self e10 c6
  have c12 : h9[b+1]? = some (.inl (.int, 256, .inl (fun _ => 0))) := ab_other e10 (by omega) c5
  have l13 : h9.length = b + 2 := by rw [e10]; exact List.length_set.trans l8
  have fr14 : ab_fr (in_up b) h h9 := ab_fr_set fr7 e10 (by first | (show _ ∧ _; omega) | (show _ ∨ _; omega) | (show _ = _; omega) | (show _ ≤ _; omega))
  clear c6 c5 l8 fr7 e10
  try clear h1
  refine ab_aload_n d_MWorld_init_13 rfl rfl rfl ?_
  refine ab_sipush (v := 256) d_MWorld_init_14 (by decide) ?_
  refine ab_newaL (N := 256) l13 d_MWorld_init_17 rfl (k1 144 rfl rfl) tZ (Or.inr (Or.inr (Or.inl rfl))) (by decide) (by decide) (by decide) (by decide) (by decide) (fun h15 e16 e17 e18 => ?_)
  have c19 : h15[b + 2]? = some (.inl (.boolean, 256, .inl (fun _ => 0))) := e17
  have c20 : h15[b]? = some (.inr (13, [.int 0, .int 0, .int 0, .int 0, .ref (b + 1), .null, .null, .null, .int 0, .null, .null, .null, .null, .int 0, .int 0, .int 0, .int 0, .null])) := (e18 _ (by omega)).trans c11
  have c21 : h15[b+1]? = some (.inl (.int, 256, .inl (fun _ => 0))) := (e18 _ (by omega)).trans c12
  have fr22 : ab_fr (in_up b) h h15 := ab_fr_new fr14 e18 e16 l13
  have l23 : h15.length = b + 3 := e16
  clear c11 c12 e16 e17 e18 l13 fr14
  try clear h9
  refine ab_putF (f := 5) d_MWorld_init_19 c20 rfl (by decide) (k9 100 rfl rfl) rfl rfl rfl rfl (fun _ => rfl) (fun _ => rfl) (Nat.le_of_ble_eq_true rfl) ?_
  show ab_V _ _ _ _ _ _ _ 22 [some (.ref b)] [] (h15.set b (.inr (13, [.int 0, .int 0, .int 0, .int 0, .ref (b + 1), .ref (b + 2), .null, .null, .int 0, .null, .null, .null, .null, .int 0, .int 0, .int 0, .int 0, .null])))
  refine ab_gen (fun h24 e25 => ?_)
  have c26 : h24[b]? = some (.inr (13, [.int 0, .int 0, .int 0, .int 0, .ref (b + 1), .ref (b + 2), .null, .null, .int 0, .null, .null, .null, .null, .int 0, .int 0, .int 0, .int 0, .null])) := ab_self e25 c20
  have c27 : h24[b+1]? = some (.inl (.int, 256, .inl (fun _ => 0))) := ab_other e25 (by omega) c21
  have c28 : h24[b+2]? = some (.inl (.boolean, 256, .inl (fun _ => 0))) := ab_other e25 (by omega) c19
  have l29 : h24.length = b + 3 := by rw [e25]; exact List.length_set.trans l23
  have fr30 : ab_fr (in_up b) h h24 := ab_fr_set fr22 e25 (by first | (show _ ∧ _; omega) | (show _ ∨ _; omega) | (show _ = _; omega) | (show _ ≤ _; omega))
  clear c20 c21 c19 l23 fr22 e25
  try clear h15
  refine ab_aload_n d_MWorld_init_22 rfl rfl rfl ?_
  refine ab_sipush (v := 256) d_MWorld_init_23 (by decide) ?_
  refine ab_newaL (N := 256) l29 d_MWorld_init_26 rfl (k1 143 rfl rfl) tI (Or.inl rfl) (by decide) (by decide) (by decide) (by decide) (by decide) (fun h31 e32 e33 e34 => ?_)
  have c35 : h31[b + 3]? = some (.inl (.int, 256, .inl (fun _ => 0))) := e33
  have c36 : h31[b]? = some (.inr (13, [.int 0, .int 0, .int 0, .int 0, .ref (b + 1), .ref (b + 2), .null, .null, .int 0, .null, .null, .null, .null, .int 0, .int 0, .int 0, .int 0, .null])) := (e34 _ (by omega)).trans c26
  have c37 : h31[b+1]? = some (.inl (.int, 256, .inl (fun _ => 0))) := (e34 _ (by omega)).trans c27
  have c38 : h31[b+2]? = some (.inl (.boolean, 256, .inl (fun _ => 0))) := (e34 _ (by omega)).trans c28
  have fr39 : ab_fr (in_up b) h h31 := ab_fr_new fr30 e34 e32 l29
  have l40 : h31.length = b + 4 := e32
  clear c26 c27 c28 e32 e33 e34 l29 fr30
  try clear h24
  refine ab_putF (f := 6) d_MWorld_init_28 c36 rfl (by decide) (k9 104 rfl rfl) rfl rfl rfl rfl (fun _ => rfl) (fun _ => rfl) (Nat.le_of_ble_eq_true rfl) ?_
  show ab_V _ _ _ _ _ _ _ 31 [some (.ref b)] [] (h31.set b (.inr (13, [.int 0, .int 0, .int 0, .int 0, .ref (b + 1), .ref (b + 2), .ref (b + 3), .null, .int 0, .null, .null, .null, .null, .int 0, .int 0, .int 0, .int 0, .null])))
  refine ab_gen (fun h41 e42 => ?_)
  have c43 : h41[b]? = some (.inr (13, [.int 0, .int 0, .int 0, .int 0, .ref (b + 1), .ref (b + 2), .ref (b + 3), .null, .int 0, .null, .null, .null, .null, .int 0, .int 0, .int 0, .int 0, .null])) := ab_self e42 c36
  have c44 : h41[b+1]? = some (.inl (.int, 256, .inl (fun _ => 0))) := ab_other e42 (by omega) c37
  have c45 : h41[b+2]? = some (.inl (.boolean, 256, .inl (fun _ => 0))) := ab_other e42 (by omega) c38
  have c46 : h41[b+3]? = some (.inl (.int, 256, .inl (fun _ => 0))) := ab_other e42 (by omega) c35
  have l47 : h41.length = b + 4 := by rw [e42]; exact List.length_set.trans l40
  have fr48 : ab_fr (in_up b) h h41 := ab_fr_set fr39 e42 (by first | (show _ ∧ _; omega) | (show _ ∨ _; omega) | (show _ = _; omega) | (show _ ≤ _; omega))
  clear c36 c37 c38 c35 l40 fr39 e42
  try clear h31
  refine ab_aload_n d_MWorld_init_31 rfl rfl rfl ?_
  refine ab_sipush (v := 12288) d_MWorld_init_32 (by decide) ?_
  refine ab_newaL (N := 12288) l47 d_MWorld_init_35 rfl (k1 143 rfl rfl) tI (Or.inl rfl) (by decide) (by decide) (by decide) (by decide) (by decide) (fun h49 e50 e51 e52 => ?_)
  have c53 : h49[b + 4]? = some (.inl (.int, 12288, .inl (fun _ => 0))) := e51
  have c54 : h49[b]? = some (.inr (13, [.int 0, .int 0, .int 0, .int 0, .ref (b + 1), .ref (b + 2), .ref (b + 3), .null, .int 0, .null, .null, .null, .null, .int 0, .int 0, .int 0, .int 0, .null])) := (e52 _ (by omega)).trans c43
  have c55 : h49[b+1]? = some (.inl (.int, 256, .inl (fun _ => 0))) := (e52 _ (by omega)).trans c44
  have c56 : h49[b+2]? = some (.inl (.boolean, 256, .inl (fun _ => 0))) := (e52 _ (by omega)).trans c45
  have c57 : h49[b+3]? = some (.inl (.int, 256, .inl (fun _ => 0))) := (e52 _ (by omega)).trans c46
  have fr58 : ab_fr (in_up b) h h49 := ab_fr_new fr48 e52 e50 l47
  have l59 : h49.length = b + 5 := e50
  clear c43 c44 c45 c46 e50 e51 e52 l47 fr48
  try clear h41
  refine ab_putF (f := 7) d_MWorld_init_37 c54 rfl (by decide) (k9 108 rfl rfl) rfl rfl rfl rfl (fun _ => rfl) (fun _ => rfl) (Nat.le_of_ble_eq_true rfl) ?_
  show ab_V _ _ _ _ _ _ _ 40 [some (.ref b)] [] (h49.set b (.inr (13, [.int 0, .int 0, .int 0, .int 0, .ref (b + 1), .ref (b + 2), .ref (b + 3), .ref (b + 4), .int 0, .null, .null, .null, .null, .int 0, .int 0, .int 0, .int 0, .null])))
  refine ab_gen (fun h60 e61 => ?_)
  have c62 : h60[b]? = some (.inr (13, [.int 0, .int 0, .int 0, .int 0, .ref (b + 1), .ref (b + 2), .ref (b + 3), .ref (b + 4), .int 0, .null, .null, .null, .null, .int 0, .int 0, .int 0, .int 0, .null])) := ab_self e61 c54
  have c63 : h60[b+1]? = some (.inl (.int, 256, .inl (fun _ => 0))) := ab_other e61 (by omega) c55
  have c64 : h60[b+2]? = some (.inl (.boolean, 256, .inl (fun _ => 0))) := ab_other e61 (by omega) c56
  have c65 : h60[b+3]? = some (.inl (.int, 256, .inl (fun _ => 0))) := ab_other e61 (by omega) c57
  have c66 : h60[b+4]? = some (.inl (.int, 12288, .inl (fun _ => 0))) := ab_other e61 (by omega) c53
  have l67 : h60.length = b + 5 := by rw [e61]; exact List.length_set.trans l59
  have fr68 : ab_fr (in_up b) h h60 := ab_fr_set fr58 e61 (by first | (show _ ∧ _; omega) | (show _ ∨ _; omega) | (show _ = _; omega) | (show _ ≤ _; omega))
  clear c54 c55 c56 c57 c53 l59 fr58 e61
  try clear h49
  refine ab_aload_n d_MWorld_init_40 rfl rfl rfl ?_
  refine ab_sipush (v := 256) d_MWorld_init_41 (by decide) ?_
  refine ab_newaL (N := 256) l67 d_MWorld_init_44 rfl (k1 143 rfl rfl) tI (Or.inl rfl) (by decide) (by decide) (by decide) (by decide) (by decide) (fun h69 e70 e71 e72 => ?_)
  have c73 : h69[b + 5]? = some (.inl (.int, 256, .inl (fun _ => 0))) := e71
  have c74 : h69[b]? = some (.inr (13, [.int 0, .int 0, .int 0, .int 0, .ref (b + 1), .ref (b + 2), .ref (b + 3), .ref (b + 4), .int 0, .null, .null, .null, .null, .int 0, .int 0, .int 0, .int 0, .null])) := (e72 _ (by omega)).trans c62
  have c75 : h69[b+1]? = some (.inl (.int, 256, .inl (fun _ => 0))) := (e72 _ (by omega)).trans c63
  have c76 : h69[b+2]? = some (.inl (.boolean, 256, .inl (fun _ => 0))) := (e72 _ (by omega)).trans c64
  have c77 : h69[b+3]? = some (.inl (.int, 256, .inl (fun _ => 0))) := (e72 _ (by omega)).trans c65
  have c78 : h69[b+4]? = some (.inl (.int, 12288, .inl (fun _ => 0))) := (e72 _ (by omega)).trans c66
  have fr79 : ab_fr (in_up b) h h69 := ab_fr_new fr68 e72 e70 l67
  have l80 : h69.length = b + 6 := e70
  clear c62 c63 c64 c65 c66 e70 e71 e72 l67 fr68
  try clear h60
  refine ab_putF (f := 9) d_MWorld_init_46 c74 rfl (by decide) (k9 114 rfl rfl) rfl rfl rfl rfl (fun _ => rfl) (fun _ => rfl) (Nat.le_of_ble_eq_true rfl) ?_
  show ab_V _ _ _ _ _ _ _ 49 [some (.ref b)] [] (h69.set b (.inr (13, [.int 0, .int 0, .int 0, .int 0, .ref (b + 1), .ref (b + 2), .ref (b + 3), .ref (b + 4), .int 0, .ref (b + 5), .null, .null, .null, .int 0, .int 0, .int 0, .int 0, .null])))
  refine ab_gen (fun h81 e82 => ?_)
  have c83 : h81[b]? = some (.inr (13, [.int 0, .int 0, .int 0, .int 0, .ref (b + 1), .ref (b + 2), .ref (b + 3), .ref (b + 4), .int 0, .ref (b + 5), .null, .null, .null, .int 0, .int 0, .int 0, .int 0, .null])) := ab_self e82 c74
  have c84 : h81[b+1]? = some (.inl (.int, 256, .inl (fun _ => 0))) := ab_other e82 (by omega) c75
  have c85 : h81[b+2]? = some (.inl (.boolean, 256, .inl (fun _ => 0))) := ab_other e82 (by omega) c76
  have c86 : h81[b+3]? = some (.inl (.int, 256, .inl (fun _ => 0))) := ab_other e82 (by omega) c77
  have c87 : h81[b+4]? = some (.inl (.int, 12288, .inl (fun _ => 0))) := ab_other e82 (by omega) c78
  have c88 : h81[b+5]? = some (.inl (.int, 256, .inl (fun _ => 0))) := ab_other e82 (by omega) c73
  have l89 : h81.length = b + 6 := by rw [e82]; exact List.length_set.trans l80
  have fr90 : ab_fr (in_up b) h h81 := ab_fr_set fr79 e82 (by first | (show _ ∧ _; omega) | (show _ ∨ _; omega) | (show _ = _; omega) | (show _ ≤ _; omega))
  clear c74 c75 c76 c77 c78 c73 l80 fr79 e82
  try clear h69
  refine ab_aload_n d_MWorld_init_49 rfl rfl rfl ?_
  refine ab_sipush (v := 256) d_MWorld_init_50 (by decide) ?_
  refine ab_newaL (N := 256) l89 d_MWorld_init_53 rfl (k1 143 rfl rfl) tI (Or.inl rfl) (by decide) (by decide) (by decide) (by decide) (by decide) (fun h91 e92 e93 e94 => ?_)
  have c95 : h91[b + 6]? = some (.inl (.int, 256, .inl (fun _ => 0))) := e93
  have c96 : h91[b]? = some (.inr (13, [.int 0, .int 0, .int 0, .int 0, .ref (b + 1), .ref (b + 2), .ref (b + 3), .ref (b + 4), .int 0, .ref (b + 5), .null, .null, .null, .int 0, .int 0, .int 0, .int 0, .null])) := (e94 _ (by omega)).trans c83
  have c97 : h91[b+1]? = some (.inl (.int, 256, .inl (fun _ => 0))) := (e94 _ (by omega)).trans c84
  have c98 : h91[b+2]? = some (.inl (.boolean, 256, .inl (fun _ => 0))) := (e94 _ (by omega)).trans c85
  have c99 : h91[b+3]? = some (.inl (.int, 256, .inl (fun _ => 0))) := (e94 _ (by omega)).trans c86
  have c100 : h91[b+4]? = some (.inl (.int, 12288, .inl (fun _ => 0))) := (e94 _ (by omega)).trans c87
  have c101 : h91[b+5]? = some (.inl (.int, 256, .inl (fun _ => 0))) := (e94 _ (by omega)).trans c88
  have fr102 : ab_fr (in_up b) h h91 := ab_fr_new fr90 e94 e92 l89
  have l103 : h91.length = b + 7 := e92
  clear c83 c84 c85 c86 c87 c88 e92 e93 e94 l89 fr90
  try clear h81
  refine ab_putF (f := 10) d_MWorld_init_55 c96 rfl (by decide) (k9 117 rfl rfl) rfl rfl rfl rfl (fun _ => rfl) (fun _ => rfl) (Nat.le_of_ble_eq_true rfl) ?_
  show ab_V _ _ _ _ _ _ _ 58 [some (.ref b)] [] (h91.set b (.inr (13, [.int 0, .int 0, .int 0, .int 0, .ref (b + 1), .ref (b + 2), .ref (b + 3), .ref (b + 4), .int 0, .ref (b + 5), .ref (b + 6), .null, .null, .int 0, .int 0, .int 0, .int 0, .null])))
  refine ab_gen (fun h104 e105 => ?_)
  have c106 : h104[b]? = some (.inr (13, [.int 0, .int 0, .int 0, .int 0, .ref (b + 1), .ref (b + 2), .ref (b + 3), .ref (b + 4), .int 0, .ref (b + 5), .ref (b + 6), .null, .null, .int 0, .int 0, .int 0, .int 0, .null])) := ab_self e105 c96
  have c107 : h104[b+1]? = some (.inl (.int, 256, .inl (fun _ => 0))) := ab_other e105 (by omega) c97
  have c108 : h104[b+2]? = some (.inl (.boolean, 256, .inl (fun _ => 0))) := ab_other e105 (by omega) c98
  have c109 : h104[b+3]? = some (.inl (.int, 256, .inl (fun _ => 0))) := ab_other e105 (by omega) c99
  have c110 : h104[b+4]? = some (.inl (.int, 12288, .inl (fun _ => 0))) := ab_other e105 (by omega) c100
  have c111 : h104[b+5]? = some (.inl (.int, 256, .inl (fun _ => 0))) := ab_other e105 (by omega) c101
  have c112 : h104[b+6]? = some (.inl (.int, 256, .inl (fun _ => 0))) := ab_other e105 (by omega) c95
  have l113 : h104.length = b + 7 := by rw [e105]; exact List.length_set.trans l103
  have fr114 : ab_fr (in_up b) h h104 := ab_fr_set fr102 e105 (by first | (show _ ∧ _; omega) | (show _ ∨ _; omega) | (show _ = _; omega) | (show _ ≤ _; omega))
  clear c96 c97 c98 c99 c100 c101 c95 l103 fr102 e105
  try clear h91
  refine ab_aload_n d_MWorld_init_58 rfl rfl rfl ?_
  refine ab_sipush (v := 256) d_MWorld_init_59 (by decide) ?_
  refine ab_newaL (N := 256) l113 d_MWorld_init_62 rfl (k1 143 rfl rfl) tI (Or.inl rfl) (by decide) (by decide) (by decide) (by decide) (by decide) (fun h115 e116 e117 e118 => ?_)
  have c119 : h115[b + 7]? = some (.inl (.int, 256, .inl (fun _ => 0))) := e117
  have c120 : h115[b]? = some (.inr (13, [.int 0, .int 0, .int 0, .int 0, .ref (b + 1), .ref (b + 2), .ref (b + 3), .ref (b + 4), .int 0, .ref (b + 5), .ref (b + 6), .null, .null, .int 0, .int 0, .int 0, .int 0, .null])) := (e118 _ (by omega)).trans c106
  have c121 : h115[b+1]? = some (.inl (.int, 256, .inl (fun _ => 0))) := (e118 _ (by omega)).trans c107
  have c122 : h115[b+2]? = some (.inl (.boolean, 256, .inl (fun _ => 0))) := (e118 _ (by omega)).trans c108
  have c123 : h115[b+3]? = some (.inl (.int, 256, .inl (fun _ => 0))) := (e118 _ (by omega)).trans c109
  have c124 : h115[b+4]? = some (.inl (.int, 12288, .inl (fun _ => 0))) := (e118 _ (by omega)).trans c110
  have c125 : h115[b+5]? = some (.inl (.int, 256, .inl (fun _ => 0))) := (e118 _ (by omega)).trans c111
  have c126 : h115[b+6]? = some (.inl (.int, 256, .inl (fun _ => 0))) := (e118 _ (by omega)).trans c112
  have fr127 : ab_fr (in_up b) h h115 := ab_fr_new fr114 e118 e116 l113
  have l128 : h115.length = b + 8 := e116
  clear c106 c107 c108 c109 c110 c111 c112 e116 e117 e118 l113 fr114
  try clear h104
  refine ab_putF (f := 11) d_MWorld_init_64 c120 rfl (by decide) (k9 120 rfl rfl) rfl rfl rfl rfl (fun _ => rfl) (fun _ => rfl) (Nat.le_of_ble_eq_true rfl) ?_
  show ab_V _ _ _ _ _ _ _ 67 [some (.ref b)] [] (h115.set b (.inr (13, [.int 0, .int 0, .int 0, .int 0, .ref (b + 1), .ref (b + 2), .ref (b + 3), .ref (b + 4), .int 0, .ref (b + 5), .ref (b + 6), .ref (b + 7), .null, .int 0, .int 0, .int 0, .int 0, .null])))
  refine ab_gen (fun h129 e130 => ?_)
  have c131 : h129[b]? = some (.inr (13, [.int 0, .int 0, .int 0, .int 0, .ref (b + 1), .ref (b + 2), .ref (b + 3), .ref (b + 4), .int 0, .ref (b + 5), .ref (b + 6), .ref (b + 7), .null, .int 0, .int 0, .int 0, .int 0, .null])) := ab_self e130 c120
  have c132 : h129[b+1]? = some (.inl (.int, 256, .inl (fun _ => 0))) := ab_other e130 (by omega) c121
  have c133 : h129[b+2]? = some (.inl (.boolean, 256, .inl (fun _ => 0))) := ab_other e130 (by omega) c122
  have c134 : h129[b+3]? = some (.inl (.int, 256, .inl (fun _ => 0))) := ab_other e130 (by omega) c123
  have c135 : h129[b+4]? = some (.inl (.int, 12288, .inl (fun _ => 0))) := ab_other e130 (by omega) c124
  have c136 : h129[b+5]? = some (.inl (.int, 256, .inl (fun _ => 0))) := ab_other e130 (by omega) c125
  have c137 : h129[b+6]? = some (.inl (.int, 256, .inl (fun _ => 0))) := ab_other e130 (by omega) c126
  have c138 : h129[b+7]? = some (.inl (.int, 256, .inl (fun _ => 0))) := ab_other e130 (by omega) c119
  have l139 : h129.length = b + 8 := by rw [e130]; exact List.length_set.trans l128
  have fr140 : ab_fr (in_up b) h h129 := ab_fr_set fr127 e130 (by first | (show _ ∧ _; omega) | (show _ ∨ _; omega) | (show _ = _; omega) | (show _ ≤ _; omega))
  clear c120 c121 c122 c123 c124 c125 c126 c119 l128 fr127 e130
  try clear h115
  refine ab_aload_n d_MWorld_init_67 rfl rfl rfl ?_
  refine ab_sipush (v := 1024) d_MWorld_init_68 (by decide) ?_
  refine ab_newaL (N := 1024) l139 d_MWorld_init_71 rfl (k1 143 rfl rfl) tI (Or.inl rfl) (by decide) (by decide) (by decide) (by decide) (by decide) (fun h141 e142 e143 e144 => ?_)
  have c145 : h141[b + 8]? = some (.inl (.int, 1024, .inl (fun _ => 0))) := e143
  have c146 : h141[b]? = some (.inr (13, [.int 0, .int 0, .int 0, .int 0, .ref (b + 1), .ref (b + 2), .ref (b + 3), .ref (b + 4), .int 0, .ref (b + 5), .ref (b + 6), .ref (b + 7), .null, .int 0, .int 0, .int 0, .int 0, .null])) := (e144 _ (by omega)).trans c131
  have c147 : h141[b+1]? = some (.inl (.int, 256, .inl (fun _ => 0))) := (e144 _ (by omega)).trans c132
  have c148 : h141[b+2]? = some (.inl (.boolean, 256, .inl (fun _ => 0))) := (e144 _ (by omega)).trans c133
  have c149 : h141[b+3]? = some (.inl (.int, 256, .inl (fun _ => 0))) := (e144 _ (by omega)).trans c134
  have c150 : h141[b+4]? = some (.inl (.int, 12288, .inl (fun _ => 0))) := (e144 _ (by omega)).trans c135
  have c151 : h141[b+5]? = some (.inl (.int, 256, .inl (fun _ => 0))) := (e144 _ (by omega)).trans c136
  have c152 : h141[b+6]? = some (.inl (.int, 256, .inl (fun _ => 0))) := (e144 _ (by omega)).trans c137
  have c153 : h141[b+7]? = some (.inl (.int, 256, .inl (fun _ => 0))) := (e144 _ (by omega)).trans c138
  have fr154 : ab_fr (in_up b) h h141 := ab_fr_new fr140 e144 e142 l139
  have l155 : h141.length = b + 9 := e142
  clear c131 c132 c133 c134 c135 c136 c137 c138 e142 e143 e144 l139 fr140
  try clear h129
  refine ab_putF (f := 12) d_MWorld_init_73 c146 rfl (by decide) (k9 123 rfl rfl) rfl rfl rfl rfl (fun _ => rfl) (fun _ => rfl) (Nat.le_of_ble_eq_true rfl) ?_
  show ab_V _ _ _ _ _ _ _ 76 [some (.ref b)] [] (h141.set b (.inr (13, [.int 0, .int 0, .int 0, .int 0, .ref (b + 1), .ref (b + 2), .ref (b + 3), .ref (b + 4), .int 0, .ref (b + 5), .ref (b + 6), .ref (b + 7), .ref (b + 8), .int 0, .int 0, .int 0, .int 0, .null])))
  refine ab_gen (fun h156 e157 => ?_)
  have c158 : h156[b]? = some (.inr (13, [.int 0, .int 0, .int 0, .int 0, .ref (b + 1), .ref (b + 2), .ref (b + 3), .ref (b + 4), .int 0, .ref (b + 5), .ref (b + 6), .ref (b + 7), .ref (b + 8), .int 0, .int 0, .int 0, .int 0, .null])) := ab_self e157 c146
  have c159 : h156[b+1]? = some (.inl (.int, 256, .inl (fun _ => 0))) := ab_other e157 (by omega) c147
  have c160 : h156[b+2]? = some (.inl (.boolean, 256, .inl (fun _ => 0))) := ab_other e157 (by omega) c148
  have c161 : h156[b+3]? = some (.inl (.int, 256, .inl (fun _ => 0))) := ab_other e157 (by omega) c149
  have c162 : h156[b+4]? = some (.inl (.int, 12288, .inl (fun _ => 0))) := ab_other e157 (by omega) c150
  have c163 : h156[b+5]? = some (.inl (.int, 256, .inl (fun _ => 0))) := ab_other e157 (by omega) c151
  have c164 : h156[b+6]? = some (.inl (.int, 256, .inl (fun _ => 0))) := ab_other e157 (by omega) c152
  have c165 : h156[b+7]? = some (.inl (.int, 256, .inl (fun _ => 0))) := ab_other e157 (by omega) c153
  have c166 : h156[b+8]? = some (.inl (.int, 1024, .inl (fun _ => 0))) := ab_other e157 (by omega) c145
  have l167 : h156.length = b + 9 := by rw [e157]; exact List.length_set.trans l155
  have fr168 : ab_fr (in_up b) h h156 := ab_fr_set fr154 e157 (by first | (show _ ∧ _; omega) | (show _ ∨ _; omega) | (show _ = _; omega) | (show _ ≤ _; omega))
  clear c146 c147 c148 c149 c150 c151 c152 c153 c145 l155 fr154 e157
  try clear h141
  refine ab_aload_n d_MWorld_init_76 rfl rfl rfl ?_
  refine ab_bipush (v := 32) d_MWorld_init_77 (by decide) ?_
  refine ab_newaL (N := 32) l167 d_MWorld_init_79 rfl (k1 143 rfl rfl) tI (Or.inl rfl) (by decide) (by decide) (by decide) (by decide) (by decide) (fun h169 e170 e171 e172 => ?_)
  have c173 : h169[b + 9]? = some (.inl (.int, 32, .inl (fun _ => 0))) := e171
  have c174 : h169[b]? = some (.inr (13, [.int 0, .int 0, .int 0, .int 0, .ref (b + 1), .ref (b + 2), .ref (b + 3), .ref (b + 4), .int 0, .ref (b + 5), .ref (b + 6), .ref (b + 7), .ref (b + 8), .int 0, .int 0, .int 0, .int 0, .null])) := (e172 _ (by omega)).trans c158
  have c175 : h169[b+1]? = some (.inl (.int, 256, .inl (fun _ => 0))) := (e172 _ (by omega)).trans c159
  have c176 : h169[b+2]? = some (.inl (.boolean, 256, .inl (fun _ => 0))) := (e172 _ (by omega)).trans c160
  have c177 : h169[b+3]? = some (.inl (.int, 256, .inl (fun _ => 0))) := (e172 _ (by omega)).trans c161
  have c178 : h169[b+4]? = some (.inl (.int, 12288, .inl (fun _ => 0))) := (e172 _ (by omega)).trans c162
  have c179 : h169[b+5]? = some (.inl (.int, 256, .inl (fun _ => 0))) := (e172 _ (by omega)).trans c163
  have c180 : h169[b+6]? = some (.inl (.int, 256, .inl (fun _ => 0))) := (e172 _ (by omega)).trans c164
  have c181 : h169[b+7]? = some (.inl (.int, 256, .inl (fun _ => 0))) := (e172 _ (by omega)).trans c165
  have c182 : h169[b+8]? = some (.inl (.int, 1024, .inl (fun _ => 0))) := (e172 _ (by omega)).trans c166
  have fr183 : ab_fr (in_up b) h h169 := ab_fr_new fr168 e172 e170 l167
  have l184 : h169.length = b + 10 := e170
  clear c158 c159 c160 c161 c162 c163 c164 c165 c166 e170 e171 e172 l167 fr168
  try clear h156
  refine ab_putF (f := 17) d_MWorld_init_81 c174 rfl (by decide) (k9 136 rfl rfl) rfl rfl rfl rfl (fun _ => rfl) (fun _ => rfl) (Nat.le_of_ble_eq_true rfl) ?_
  show ab_V _ _ _ _ _ _ _ 84 [some (.ref b)] [] (h169.set b (.inr (13, [.int 0, .int 0, .int 0, .int 0, .ref (b + 1), .ref (b + 2), .ref (b + 3), .ref (b + 4), .int 0, .ref (b + 5), .ref (b + 6), .ref (b + 7), .ref (b + 8), .int 0, .int 0, .int 0, .int 0, .ref (b + 9)])))
  refine ab_gen (fun h185 e186 => ?_)
  have c187 : h185[b]? = some (.inr (13, [.int 0, .int 0, .int 0, .int 0, .ref (b + 1), .ref (b + 2), .ref (b + 3), .ref (b + 4), .int 0, .ref (b + 5), .ref (b + 6), .ref (b + 7), .ref (b + 8), .int 0, .int 0, .int 0, .int 0, .ref (b + 9)])) := ab_self e186 c174
  have c188 : h185[b+1]? = some (.inl (.int, 256, .inl (fun _ => 0))) := ab_other e186 (by omega) c175
  have c189 : h185[b+2]? = some (.inl (.boolean, 256, .inl (fun _ => 0))) := ab_other e186 (by omega) c176
  have c190 : h185[b+3]? = some (.inl (.int, 256, .inl (fun _ => 0))) := ab_other e186 (by omega) c177
  have c191 : h185[b+4]? = some (.inl (.int, 12288, .inl (fun _ => 0))) := ab_other e186 (by omega) c178
  have c192 : h185[b+5]? = some (.inl (.int, 256, .inl (fun _ => 0))) := ab_other e186 (by omega) c179
  have c193 : h185[b+6]? = some (.inl (.int, 256, .inl (fun _ => 0))) := ab_other e186 (by omega) c180
  have c194 : h185[b+7]? = some (.inl (.int, 256, .inl (fun _ => 0))) := ab_other e186 (by omega) c181
  have c195 : h185[b+8]? = some (.inl (.int, 1024, .inl (fun _ => 0))) := ab_other e186 (by omega) c182
  have c196 : h185[b+9]? = some (.inl (.int, 32, .inl (fun _ => 0))) := ab_other e186 (by omega) c173
  have l197 : h185.length = b + 10 := by rw [e186]; exact List.length_set.trans l184
  have fr198 : ab_fr (in_up b) h h185 := ab_fr_set fr183 e186 (by first | (show _ ∧ _; omega) | (show _ ∨ _; omega) | (show _ = _; omega) | (show _ ≤ _; omega))
  clear c174 c175 c176 c177 c178 c179 c180 c181 c182 c173 l184 fr183 e186
  try clear h169
  refine ab_aload_n d_MWorld_init_84 rfl rfl rfl ?_
  refine ab_callV_v (As := []) (rest := []) d_MWorld_init_85 (ab_A_len rfl (c_MWorld_begin (show at_MWorld h185 b (fun _ => 0) (fun _ _ => 0) from ⟨c187, c188, c189, c190, c191, c192, c193, c194, c195, c196⟩))) (ab_mkC s_MWorld_begin (Nat.le_of_ble_eq_true rfl) (Nat.le_of_ble_eq_true rfl) (by decide) (by decide)) (k9 83 rfl rfl) i_MWorld_begin v_MWorld_begin c187 rfl rfl (Nat.le_of_ble_eq_true rfl) (fun h199 q200 => ?_)
  obtain ⟨⟨kf201, f202⟩, hlz⟩ := q200
  rw [begin_z] at kf201
  rw [l197] at hlz
  have fr203 : ab_fr (in_up b) h h199 := ab_fr_tr fr198 (ab_fr_mono f202 (by intro i hi; simp only [in_MWorld, in_up] at * <;> omega))
  clear c187 c188 c189 c190 c191 c192 c193 c194 c195 c196 l197 f202 fr198
  try clear h185
  exact ab_vret d_MWorld_init_88 rfl (by decide) (by decide) (by exact ⟨rfl, kf201, hlz, fr203⟩)
def nwork (w : Int32) : Nat := if ¬ (1 : Int32) ≤ w then 1 else if w ≤ 8 then w.toNatClampNeg else 8
theorem nwork_le (w : Int32) : nwork w ≤ 8 := by
  unfold nwork
  split
  · omega
  · split
    · rename_i h1 h2
      have h3 := Int32.le_iff_toInt_le.mp h2
      have e8 : (8 : Int32).toInt = 8 := by decide
      rw [e8] at h3
      unfold Int32.toNatClampNeg
      omega
    · omega
theorem nwork_eq {w : Int32} (h1 : (1 : Int32) ≤ w) (h2 : w ≤ 8) : w = nI (nwork w) := by
  unfold nwork
  rw [if_neg (fun z => z h1), if_pos h2]
  have q1 := Int32.le_iff_toInt_le.mp h1
  have q2 := Int32.le_iff_toInt_le.mp h2
  have e8 : (8 : Int32).toInt = 8 := by decide
  have e1 : (1 : Int32).toInt = 1 := by decide
  rw [e8] at q2
  rw [e1] at q1
  rcases pk_ix w (n := 9) (by decide) with q | q | ⟨j, hj, e⟩
  · exact absurd (Int32.lt_iff_toInt_lt.mp q) (by rw [show (0 : Int32).toInt = 0 by decide]; omega)
  · exact absurd (Int32.le_iff_toInt_le.mp q) (by rw [show (nI 9).toInt = 9 by decide]; omega)
  · rw [e, nI_clamp (by omega)]
def sp_mup   : Nat → Nat → (Nat → Int32) → (Nat → Nat → Int32) → (Nat → Int32) × (Nat → Nat → Int32)
  | 0, _, s, a => (s, a)
  | n + 1, i, s, a => sp_mup   n (i + 1) s (upa a 25 (upd (a 25) ((nI i)).toNatClampNeg (vp_nar .boolean 1)))
termination_by n => n
theorem sp_mup_0   (i : Nat) (s : (Nat → Int32)) (a : (Nat → Nat → Int32)) : sp_mup   0 i s a = (s, a) := by rw [sp_mup]
set_option maxRecDepth 20000 in
set_option maxHeartbeats 2000000 in
theorem l_mup {Po : Outcome → List ab_E → Prop} {mc ms cells slots : Nat} {R : Room}  {b : Nat} {tx ot su nw ma : Nat}   {N : Nat} {w : Int32} (hN : N ≤ 8)  : ∀ (n i : Nat) (s : Nat → Int32) (a : Nat → Nat → Int32)  (h : List ab_E), i + n = N → at_M h b tx ot su nw ma s a → (∀ h1, at_M h1 b tx ot su nw ma (sp_mup   n i s a).1 (sp_mup   n i s a).2 → ab_fr (in_M b) h h1 → h1.length = h.length → ab_V y_M_init R Po mc ms cells slots 209 [some (.ref b), some (.int w), some (.int (nI N)), some (.int (nI N))] [] h1) →
    ab_V y_M_init R Po mc ms cells slots 191 [some (.ref b), some (.int w), some (.int (nI N)), some (.int (nI i))] [] h := by
  intro n
  induction n with
  | zero =>
    intro i s a h hi hm hk
    have hm0 := hm; obtain ⟨go, g1, g14, g15, g16, g17, g18, g19, g21, g25, g26⟩ := hm
    have hl0 : h.length = h.length := rfl
    refine ab_iload_n d_M_init_191 rfl rfl ?_
    refine ab_iload_n d_M_init_192 rfl rfl ?_
    refine ab_icmp_ge (tgt := 209) d_M_init_193 (by decide) (fun q1 => ?_) (fun q1 => ?_)
    · have hiN : i = N := (by omega)
      subst hiN
      rw [sp_mup_0] at hk
      exact hk h hm0 (ab_fr_rf _ _) rfl
    · exact absurd (nI_le (a := N) (b := i) (by omega) (by omega)) q1
  | succ n ih =>
    intro i s a h hi hm hk
    have hm0 := hm; obtain ⟨go, g1, g14, g15, g16, g17, g18, g19, g21, g25, g26⟩ := hm
    have hl0 : h.length = h.length := rfl
    refine ab_iload_n d_M_init_191 rfl rfl ?_
    refine ab_iload_n d_M_init_192 rfl rfl ?_
    refine ab_icmp_ge (tgt := 209) d_M_init_193 (by decide) (fun q1 => ?_) (fun q1 => ?_)
    · exact absurd ((nI_leI (a := N) (b := i) (by omega) (by omega)).mp q1) (by omega)
    · refine ab_aload_n d_M_init_196 rfl rfl rfl ?_
      refine ab_get (f := 25) d_M_init_197 go rfl (by decide) (k10 18 rfl rfl) rfl ?_
      refine ab_iload_n d_M_init_200 rfl rfl ?_
      refine ab_iconst (v := 1) d_M_init_201 (by decide) ?_
      refine ab_zast d_M_init_202 tZ g25 (vp_in_nI (by omega) (by decide)) ?_
      refine ab_gen (fun h2 e3 => ?_)
      have c4 : h2[b]? = some (.inr (12, [.int (s 0), .ref (b + 1), .int (s 2), .ref tx, .ref ot, .int (s 5), .int (s 6), .int (s 7), .ref su, .ref nw, .ref ma, .ref (b + 94), .int (s 12), .int (s 13), .ref (b + 99), .ref (b + 100), .ref (b + 101), .ref (b + 102), .ref (b + 103), .ref (b + 104), .int (s 20), .ref (b + 105), .int (s 22), .int (s 23), .int (s 24), .ref (b + 106), .ref (b + 107), .int (s 27), .int (s 28)])) := ab_other e3 (by omega) go
      have c5 : h2[b+1]? = some (.inl (.byte, 6000, .inl (a 1))) := ab_other e3 (by omega) g1
      have c6 : h2[b+99]? = some (.inl (.int, 256, .inl (a 14))) := ab_other e3 (by omega) g14
      have c7 : h2[b+100]? = some (.inl (.boolean, 256, .inl (a 15))) := ab_other e3 (by omega) g15
      have c8 : h2[b+101]? = some (.inl (.int, 64, .inl (a 16))) := ab_other e3 (by omega) g16
      have c9 : h2[b+102]? = some (.inl (.int, 4, .inl (a 17))) := ab_other e3 (by omega) g17
      have c10 : h2[b+103]? = some (.inl (.int, 4, .inl (a 18))) := ab_other e3 (by omega) g18
      have c11 : h2[b+104]? = some (.inl (.int, 256, .inl (a 19))) := ab_other e3 (by omega) g19
      have c12 : h2[b+105]? = some (.inl (.byte, 58000, .inl (a 21))) := ab_other e3 (by omega) g21
      have c13 : h2[b+106]? = some (.inl (.boolean, 8, .inl (upd (a 25) ((nI i)).toNatClampNeg (vp_nar .boolean 1)))) := ab_self e3 g25
      have c14 : h2[b+107]? = some (.inl (.boolean, 8, .inl (a 26))) := ab_other e3 (by omega) g26
      have l15 : h2.length = h.length := by rw [e3]; exact List.length_set.trans hl0
      have fr16 : ab_fr (in_M b) h h2 := ab_fr_set (ab_fr_rf _ _) e3 (by first | (show _ ∧ _; omega) | (show _ ∨ _; omega) | (show _ = _; omega) | (show _ ≤ _; omega) | (simp only [in_M] <;> omega))
      clear e3
      obtain ⟨x17, ex17⟩ : ∃ q : Int32, q = nI i + 1 := ⟨_, rfl⟩
      refine ab_iinc (v := x17) (lv' := [some (.ref b), some (.int w), some (.int (nI N)), some (.int x17)]) d_M_init_203 rfl (by rw [ex17]; rfl) (by decide) rfl ?_
      refine ab_goto (tgt := 191) d_M_init_206 (by decide) ?_
      subst ex17
      have heq : sp_mup   (n + 1) i s a = sp_mup   n (i + 1) s (upa a 25 (upd (a 25) ((nI i)).toNatClampNeg (vp_nar .boolean 1))) := by rw [sp_mup]; try rfl
      rw [heq] at hk
      rw [nI_1]
      exact ih (i + 1) s (upa a 25 (upd (a 25) ((nI i)).toNatClampNeg (vp_nar .boolean 1))) h2 (by omega) ⟨c4, c5, c6, c7, c8, c9, c10, c11, c12, c13, c14⟩ (fun h1 q0 qf ql => hk h1 q0 (ab_fr_tr fr16 qf) (ql.trans l15))
theorem mup_1 : ∀ (n i : Nat) (s : Nat → Int32) (a : Nat → Nat → Int32), i + n ≤ 8 → (sp_mup n i s a).1 = s ∧ (∀ k, k ≠ 25 → (sp_mup n i s a).2 k = a k) ∧ ∀ j, (sp_mup n i s a).2 25 j = if i ≤ j ∧ j < i + n then 1 else a 25 j := by
  intro n
  induction n with
  | zero => intro i s a hi; rw [sp_mup]; exact ⟨rfl, fun _ _ => rfl, fun j => by rw [if_neg (by omega)]⟩
  | succ n ih =>
    intro i s a hi
    rw [sp_mup]
    obtain ⟨h1, h2, h3⟩ := ih (i + 1) s (upa a 25 (upd (a 25) (nI i).toNatClampNeg (vp_nar .boolean 1))) (by omega)
    refine ⟨h1, fun k hk => (h2 k hk).trans (by unfold upa; rw [if_neg hk]), fun j => ?_⟩
    rw [h3 j, nI_clamp (by omega)]
    unfold upa upd
    rw [if_pos rfl, nar_1]
    by_cases hj : j = i
    · subst hj; rw [if_neg (by omega), if_pos rfl, if_pos (by omega)]
    · by_cases h4 : i + 1 ≤ j ∧ j < i + 1 + n
      · rw [if_pos h4, if_pos (by omega)]
      · rw [if_neg h4, if_neg hj, if_neg (by omega)]
def s0_M : Nat → Int32 := upd (upd (upd (fun _ => 0) 6 (-1)) 7 (-1)) 12 1
def a0_M (w : Int32) : Nat → Nat → Int32 := (sp_mup (nwork w) 0 s0_M (fun _ _ => 0)).2
theorem a0_M_eq (w : Int32) : sp_mup (nwork w) 0 s0_M (fun _ _ => 0) = (s0_M, a0_M w) := Prod.ext (mup_1 _ _ _ _ (by have := nwork_le w; omega)).1 rfl
theorem a0_M_up (w : Int32) (j : Nat) : a0_M w 25 j = if j < nwork w then 1 else 0 := by
  have := (mup_1 (nwork w) 0 s0_M (fun _ _ => 0) (by have := nwork_le w; omega)).2.2 j
  rw [Nat.zero_add] at this
  unfold a0_M
  rw [this]
  by_cases h : j < nwork w
  · rw [if_pos ⟨Nat.zero_le _, h⟩, if_pos h]
  · rw [if_neg (fun z => h z.2), if_neg h]
theorem a0_M_0 (w : Int32) {k : Nat} (hk : k ≠ 25) : a0_M w k = fun _ => 0 := (mup_1 (nwork w) 0 s0_M (fun _ _ => 0) (by have := nwork_le w; omega)).2.1 k hk
def at_M0 (h : List ab_E) (b : Nat) (w : Int32) : Prop := at_M h b (b + 2) (b + 33) (b + 64) (b + 74) (b + 84) s0_M (a0_M w) ∧ at_MText h (b + 2) (fun _ => 0) (fun _ _ => 0) ∧ at_MText h (b + 33) (fun _ => 0) (fun _ _ => 0) ∧ at_MWorld h (b + 64) s0_MW (fun _ _ => 0) ∧ at_MWorld h (b + 74) s0_MW (fun _ _ => 0) ∧ at_MWorld h (b + 84) s0_MW (fun _ _ => 0) ∧ at_MRunner h (b + 94) .null .null .null (fun _ => 0) (fun _ _ => 0)
def in_M0 (b : Nat) : Nat → Prop := fun i => b ≤ i ∧ i ≤ b + 107
theorem fr_M0 {S : Nat → Prop} {h h1 : List ab_E} {b : Nat}  {w : Int32} (hf : ab_fr S h h1) (h0 : at_M0 h b w) (hn : ∀ i, in_M0 b i → ¬ S i) : at_M0 h1 b w := by
  obtain ⟨g0, g1, g2, g3, g4, g5, g6⟩ := h0
  exact ⟨fr_M hf g0 (fun i hi => hn i (by simp only [in_M] at hi; show _ ∧ _; omega)), fr_MText hf g1 (fun i hi => hn i (by simp only [in_MText] at hi; show _ ∧ _; omega)), fr_MText hf g2 (fun i hi => hn i (by simp only [in_MText] at hi; show _ ∧ _; omega)), fr_MWorld hf g3 (fun i hi => hn i (by simp only [in_MWorld] at hi; show _ ∧ _; omega)), fr_MWorld hf g4 (fun i hi => hn i (by simp only [in_MWorld] at hi; show _ ∧ _; omega)), fr_MWorld hf g5 (fun i hi => hn i (by simp only [in_MWorld] at hi; show _ ∧ _; omega)), fr_MRunner hf g6 (fun i hi => hn i (by simp only [in_MRunner] at hi; show _ ∧ _; omega))⟩
set_option maxRecDepth 20000 in
set_option maxHeartbeats 2000000 in
theorem c_M_init {h : List ab_E}  {b : Nat} {w : Int32}  (ho : h[b]? = some (.inr (12, [.int 0, .null, .int 0, .null, .null, .int 0, .int 0, .int 0, .null, .null, .null, .null, .int 0, .int 0, .null, .null, .null, .null, .null, .null, .int 0, .null, .int 0, .int 0, .int 0, .null, .null, .int 0, .int 0]))) (hlen : h.length = b + 1) : ab_M y_M_init { frames := 2, cells := 107, slots := 589578, locals := 160 } [.ref b, .int w] h (ab_A none (fun h1 => at_M0 h1 b w ∧ h1.length = b + 108 ∧ ab_fr (in_up b) h h1)) := by
  refine ab_of2 (lv := [some (.ref b), some (.int w), none, none]) 2 rfl rfl (Nat.le_of_ble_eq_true rfl) ?_
  refine ab_aload_n d_M_init_0 rfl rfl rfl ?_
  refine ab_objInit d_M_init_1 (k8 152 rfl rfl) (k1 37 rfl rfl) (k1 38 rfl rfl) (by decide) (by decide) ?_
  refine ab_aload_n d_M_init_4 rfl rfl rfl ?_
  refine ab_sipush (v := 6000) d_M_init_5 (by decide) ?_
  refine ab_newaL (N := 6000) hlen d_M_init_8 rfl (k1 142 rfl rfl) tB (Or.inr (Or.inl rfl)) (by decide) (by decide) (by decide) (by decide) (by decide) (fun h1 e2 e3 e4 => ?_)
  have c5 : h1[b + 1]? = some (.inl (.byte, 6000, .inl (fun _ => 0))) := e3
  have c6 : h1[b]? = some (.inr (12, [.int 0, .null, .int 0, .null, .null, .int 0, .int 0, .int 0, .null, .null, .null, .null, .int 0, .int 0, .null, .null, .null, .null, .null, .null, .int 0, .null, .int 0, .int 0, .int 0, .null, .null, .int 0, .int 0])) := (e4 _ (by omega)).trans ho
  have fr7 : ab_fr (in_up b) h h1 := ab_fr_new (ab_fr_rf _ _) e4 e2 hlen
  have l8 : h1.length = b + 2 := e2
  clear e2 e3 e4
  refine ab_putF (f := 1) d_M_init_10 c6 rfl (by decide) (k9 234 rfl rfl) rfl rfl rfl rfl (fun _ => rfl) (fun _ => rfl) (Nat.le_of_ble_eq_true rfl) ?_
  show ab_V _ _ _ _ _ _ _ 13 [some (.ref b), some (.int w), none, none] [] (h1.set b (.inr (12, [.int 0, .ref (b + 1), .int 0, .null, .null, .int 0, .int 0, .int 0, .null, .null, .null, .null, .int 0, .int 0, .null, .null, .null, .null, .null, .null, .int 0, .null, .int 0, .int 0, .int 0, .null, .null, .int 0, .int 0])))
  refine ab_gen (fun h9 e10 => ?_)
  have c11 : h9[b]? = some (.inr (12, [.int 0, .ref (b + 1), .int 0, .null, .null, .int 0, .int 0, .int 0, .null, .null, .null, .null, .int 0, .int 0, .null, .null, .null, .null, .null, .null, .int 0, .null, .int 0, .int 0, .int 0, .null, .null, .int 0, .int 0])) := ab_self e10 c6
  have c12 : h9[b+1]? = some (.inl (.byte, 6000, .inl (fun _ => 0))) := ab_other e10 (by omega) c5
  have l13 : h9.length = b + 2 := by rw [e10]; exact List.length_set.trans l8
  have fr14 : ab_fr (in_up b) h h9 := ab_fr_set fr7 e10 (by first | (show _ ∧ _; omega) | (show _ ∨ _; omega) | (show _ = _; omega) | (show _ ≤ _; omega))
  clear c6 c5 l8 fr7 e10
  try clear h1
  refine ab_aload_n d_M_init_13 rfl rfl rfl ?_
  refine ab_newL (ci := 14) (fs := [.null, .int 0, .int 0, .null, .null, .null, .null, .null, .null, .int 0, .int 0, .int 0, .int 0, .null, .null, .null, .int 0, .null, .null, .null, .null, .int 0, .null, .null, .null, .null, .int 0, .null, .null, .int 0, .null, .null, .null, .null, .null, .null, .null, .int 0, .null, .null, .null, .int 0, .int 0]) l13 d_M_init_14 rfl (k8 153 rfl rfl) (k8 154 rfl rfl) (k1 20 rfl rfl) rfl rfl (by decide) (by decide) (fun h15 e16 e17 e18 => ?_)
  have c19 : h15[b + 2]? = some (.inr (14, [.null, .int 0, .int 0, .null, .null, .null, .null, .null, .null, .int 0, .int 0, .int 0, .int 0, .null, .null, .null, .int 0, .null, .null, .null, .null, .int 0, .null, .null, .null, .null, .int 0, .null, .null, .int 0, .null, .null, .null, .null, .null, .null, .null, .int 0, .null, .null, .null, .int 0, .int 0])) := e17
  have c20 : h15[b]? = some (.inr (12, [.int 0, .ref (b + 1), .int 0, .null, .null, .int 0, .int 0, .int 0, .null, .null, .null, .null, .int 0, .int 0, .null, .null, .null, .null, .null, .null, .int 0, .null, .int 0, .int 0, .int 0, .null, .null, .int 0, .int 0])) := (e18 _ (by omega)).trans c11
  have c21 : h15[b+1]? = some (.inl (.byte, 6000, .inl (fun _ => 0))) := (e18 _ (by omega)).trans c12
  have fr22 : ab_fr (in_up b) h h15 := ab_fr_new fr14 e18 e16 l13
  have l23 : h15.length = b + 3 := e16
  clear c11 c12 e16 e17 e18 l13 fr14
  try clear h9
  refine ab_dup d_M_init_17 rfl ?_
  refine ab_callIN_v (As := []) (rest := [.ref (b + 2), .ref b]) d_M_init_18 (c_MText_init c19 l23) (ab_mkC s_MText_init (Nat.le_of_ble_eq_true rfl) (Nat.le_of_ble_eq_true rfl) (by decide) (by decide)) (k8 155 rfl rfl) i_MText_init rfl (k8 157 rfl rfl) rfl (Nat.le_of_ble_eq_true rfl) (fun h24 q25 => ?_)
  obtain ⟨kf26, l27, f28⟩ := q25
  replace l27 : h24.length = b + 33 := l27
  have c29 : h24[b]? = some (.inr (12, [.int 0, .ref (b + 1), .int 0, .null, .null, .int 0, .int 0, .int 0, .null, .null, .null, .null, .int 0, .int 0, .null, .null, .null, .null, .null, .null, .int 0, .null, .int 0, .int 0, .int 0, .null, .null, .int 0, .int 0])) := ab_fr_at f28 c20 (by simp only [in_up] <;> omega)
  have c30 : h24[b+1]? = some (.inl (.byte, 6000, .inl (fun _ => 0))) := ab_fr_at f28 c21 (by simp only [in_up] <;> omega)
  have fr31 : ab_fr (in_up b) h h24 := ab_fr_tr fr22 (ab_fr_mono f28 (by intro i hi; simp only [in_up, in_up] at * <;> omega))
  clear c20 c21 c19 l23 f28 fr22
  try clear h15
  replace kf26 : at_MText h24 (b + 2) (fun _ => 0) (fun _ _ => 0) := kf26
  refine ab_put (f := 3) d_M_init_21 c29 rfl (by decide) (k9 236 rfl rfl) rfl rfl (fun _ => rfl) (fun _ => rfl) (Nat.le_of_ble_eq_true rfl) ?_
  show ab_V _ _ _ _ _ _ _ 24 [some (.ref b), some (.int w), none, none] [] (h24.set b (.inr (12, [.int 0, .ref (b + 1), .int 0, .ref (b + 2), .null, .int 0, .int 0, .int 0, .null, .null, .null, .null, .int 0, .int 0, .null, .null, .null, .null, .null, .null, .int 0, .null, .int 0, .int 0, .int 0, .null, .null, .int 0, .int 0])))
  refine ab_gen (fun h32 e33 => ?_)
  have c34 : h32[b]? = some (.inr (12, [.int 0, .ref (b + 1), .int 0, .ref (b + 2), .null, .int 0, .int 0, .int 0, .null, .null, .null, .null, .int 0, .int 0, .null, .null, .null, .null, .null, .null, .int 0, .null, .int 0, .int 0, .int 0, .null, .null, .int 0, .int 0])) := ab_self e33 c29
  have c35 : h32[b+1]? = some (.inl (.byte, 6000, .inl (fun _ => 0))) := ab_other e33 (by omega) c30
  have l36 : h32.length = b + 33 := by rw [e33]; exact List.length_set.trans l27
  have f37 : ab_fr (fun i => i = b) h24 h32 := ab_fr_set (ab_fr_rf _ _) e33 rfl
  have kf38 : at_MText h32 (b + 2) (fun _ => 0) (fun _ _ => 0) := fr_MText f37 kf26 (by intro i hi hs; simp only [in_MText] at hi hs <;> omega)
  have fr39 : ab_fr (in_up b) h h32 := ab_fr_set fr31 e33 (by first | (show _ ∧ _; omega) | (show _ ∨ _; omega) | (show _ = _; omega) | (show _ ≤ _; omega))
  clear c29 c30 kf26 l27 fr31 e33 f37
  try clear h24
  refine ab_aload_n d_M_init_24 rfl rfl rfl ?_
  refine ab_newL (ci := 14) (fs := [.null, .int 0, .int 0, .null, .null, .null, .null, .null, .null, .int 0, .int 0, .int 0, .int 0, .null, .null, .null, .int 0, .null, .null, .null, .null, .int 0, .null, .null, .null, .null, .int 0, .null, .null, .int 0, .null, .null, .null, .null, .null, .null, .null, .int 0, .null, .null, .null, .int 0, .int 0]) l36 d_M_init_25 rfl (k8 153 rfl rfl) (k8 154 rfl rfl) (k1 20 rfl rfl) rfl rfl (by decide) (by decide) (fun h40 e41 e42 e43 => ?_)
  have c44 : h40[b + 33]? = some (.inr (14, [.null, .int 0, .int 0, .null, .null, .null, .null, .null, .null, .int 0, .int 0, .int 0, .int 0, .null, .null, .null, .int 0, .null, .null, .null, .null, .int 0, .null, .null, .null, .null, .int 0, .null, .null, .int 0, .null, .null, .null, .null, .null, .null, .null, .int 0, .null, .null, .null, .int 0, .int 0])) := e42
  have c45 : h40[b]? = some (.inr (12, [.int 0, .ref (b + 1), .int 0, .ref (b + 2), .null, .int 0, .int 0, .int 0, .null, .null, .null, .null, .int 0, .int 0, .null, .null, .null, .null, .null, .null, .int 0, .null, .int 0, .int 0, .int 0, .null, .null, .int 0, .int 0])) := (e43 _ (by omega)).trans c34
  have c46 : h40[b+1]? = some (.inl (.byte, 6000, .inl (fun _ => 0))) := (e43 _ (by omega)).trans c35
  have f47 : ab_fr (fun i => False) h32 h40 := ab_fr_new (ab_fr_rf _ _) e43 e41 l36
  have kf48 : at_MText h40 (b + 2) (fun _ => 0) (fun _ _ => 0) := fr_MText f47 kf38 (by intro i hi hs; simp only [in_MText] at hi hs <;> omega)
  have fr49 : ab_fr (in_up b) h h40 := ab_fr_new fr39 e43 e41 l36
  have l50 : h40.length = b + 34 := e41
  clear c34 c35 kf38 e41 e42 e43 f47 l36 fr39
  try clear h32
  refine ab_dup d_M_init_28 rfl ?_
  refine ab_callIN_v (As := []) (rest := [.ref (b + 33), .ref b]) d_M_init_29 (c_MText_init c44 l50) (ab_mkC s_MText_init (Nat.le_of_ble_eq_true rfl) (Nat.le_of_ble_eq_true rfl) (by decide) (by decide)) (k8 155 rfl rfl) i_MText_init rfl (k8 157 rfl rfl) rfl (Nat.le_of_ble_eq_true rfl) (fun h51 q52 => ?_)
  obtain ⟨kf53, l54, f55⟩ := q52
  replace l54 : h51.length = b + 64 := l54
  have c56 : h51[b]? = some (.inr (12, [.int 0, .ref (b + 1), .int 0, .ref (b + 2), .null, .int 0, .int 0, .int 0, .null, .null, .null, .null, .int 0, .int 0, .null, .null, .null, .null, .null, .null, .int 0, .null, .int 0, .int 0, .int 0, .null, .null, .int 0, .int 0])) := ab_fr_at f55 c45 (by simp only [in_up] <;> omega)
  have c57 : h51[b+1]? = some (.inl (.byte, 6000, .inl (fun _ => 0))) := ab_fr_at f55 c46 (by simp only [in_up] <;> omega)
  have kf58 : at_MText h51 (b + 2) (fun _ => 0) (fun _ _ => 0) := fr_MText f55 kf48 (by intro i hi hs; simp only [in_MText, in_up] at hi hs <;> omega)
  have fr59 : ab_fr (in_up b) h h51 := ab_fr_tr fr49 (ab_fr_mono f55 (by intro i hi; simp only [in_up, in_up] at * <;> omega))
  clear c45 c46 c44 kf48 l50 f55 fr49
  try clear h40
  replace kf53 : at_MText h51 (b + 33) (fun _ => 0) (fun _ _ => 0) := kf53
  refine ab_put (f := 4) d_M_init_32 c56 rfl (by decide) (k9 237 rfl rfl) rfl rfl (fun _ => rfl) (fun _ => rfl) (Nat.le_of_ble_eq_true rfl) ?_
  show ab_V _ _ _ _ _ _ _ 35 [some (.ref b), some (.int w), none, none] [] (h51.set b (.inr (12, [.int 0, .ref (b + 1), .int 0, .ref (b + 2), .ref (b + 33), .int 0, .int 0, .int 0, .null, .null, .null, .null, .int 0, .int 0, .null, .null, .null, .null, .null, .null, .int 0, .null, .int 0, .int 0, .int 0, .null, .null, .int 0, .int 0])))
  refine ab_gen (fun h60 e61 => ?_)
  have c62 : h60[b]? = some (.inr (12, [.int 0, .ref (b + 1), .int 0, .ref (b + 2), .ref (b + 33), .int 0, .int 0, .int 0, .null, .null, .null, .null, .int 0, .int 0, .null, .null, .null, .null, .null, .null, .int 0, .null, .int 0, .int 0, .int 0, .null, .null, .int 0, .int 0])) := ab_self e61 c56
  have c63 : h60[b+1]? = some (.inl (.byte, 6000, .inl (fun _ => 0))) := ab_other e61 (by omega) c57
  have l64 : h60.length = b + 64 := by rw [e61]; exact List.length_set.trans l54
  have f65 : ab_fr (fun i => i = b) h51 h60 := ab_fr_set (ab_fr_rf _ _) e61 rfl
  have kf66 : at_MText h60 (b + 2) (fun _ => 0) (fun _ _ => 0) := fr_MText f65 kf58 (by intro i hi hs; simp only [in_MText] at hi hs <;> omega)
  have kf67 : at_MText h60 (b + 33) (fun _ => 0) (fun _ _ => 0) := fr_MText f65 kf53 (by intro i hi hs; simp only [in_MText] at hi hs <;> omega)
  have fr68 : ab_fr (in_up b) h h60 := ab_fr_set fr59 e61 (by first | (show _ ∧ _; omega) | (show _ ∨ _; omega) | (show _ = _; omega) | (show _ ≤ _; omega))
  clear c56 c57 kf58 kf53 l54 fr59 e61 f65
  try clear h51
  refine ab_aload_n d_M_init_35 rfl rfl rfl ?_
  refine ab_iconst (v := (-1)) d_M_init_36 (by decide) ?_
  refine ab_put (f := 6) d_M_init_37 c62 rfl (by decide) (k9 239 rfl rfl) rfl rfl (fun _ => rfl) (fun _ => rfl) (Nat.le_of_ble_eq_true rfl) ?_
  show ab_V _ _ _ _ _ _ _ 40 [some (.ref b), some (.int w), none, none] [] (h60.set b (.inr (12, [.int 0, .ref (b + 1), .int 0, .ref (b + 2), .ref (b + 33), .int 0, .int (-1), .int 0, .null, .null, .null, .null, .int 0, .int 0, .null, .null, .null, .null, .null, .null, .int 0, .null, .int 0, .int 0, .int 0, .null, .null, .int 0, .int 0])))
  refine ab_gen (fun h69 e70 => ?_)
  have c71 : h69[b]? = some (.inr (12, [.int 0, .ref (b + 1), .int 0, .ref (b + 2), .ref (b + 33), .int 0, .int (-1), .int 0, .null, .null, .null, .null, .int 0, .int 0, .null, .null, .null, .null, .null, .null, .int 0, .null, .int 0, .int 0, .int 0, .null, .null, .int 0, .int 0])) := ab_self e70 c62
  have c72 : h69[b+1]? = some (.inl (.byte, 6000, .inl (fun _ => 0))) := ab_other e70 (by omega) c63
  have l73 : h69.length = b + 64 := by rw [e70]; exact List.length_set.trans l64
  have f74 : ab_fr (fun i => i = b) h60 h69 := ab_fr_set (ab_fr_rf _ _) e70 rfl
  have kf75 : at_MText h69 (b + 2) (fun _ => 0) (fun _ _ => 0) := fr_MText f74 kf66 (by intro i hi hs; simp only [in_MText] at hi hs <;> omega)
  have kf76 : at_MText h69 (b + 33) (fun _ => 0) (fun _ _ => 0) := fr_MText f74 kf67 (by intro i hi hs; simp only [in_MText] at hi hs <;> omega)
  have fr77 : ab_fr (in_up b) h h69 := ab_fr_set fr68 e70 (by first | (show _ ∧ _; omega) | (show _ ∨ _; omega) | (show _ = _; omega) | (show _ ≤ _; omega))
  clear c62 c63 kf66 kf67 l64 fr68 e70 f74
  try clear h60
  refine ab_aload_n d_M_init_40 rfl rfl rfl ?_
  refine ab_iconst (v := (-1)) d_M_init_41 (by decide) ?_
  refine ab_put (f := 7) d_M_init_42 c71 rfl (by decide) (k10 0 rfl rfl) rfl rfl (fun _ => rfl) (fun _ => rfl) (Nat.le_of_ble_eq_true rfl) ?_
  show ab_V _ _ _ _ _ _ _ 45 [some (.ref b), some (.int w), none, none] [] (h69.set b (.inr (12, [.int 0, .ref (b + 1), .int 0, .ref (b + 2), .ref (b + 33), .int 0, .int (-1), .int (-1), .null, .null, .null, .null, .int 0, .int 0, .null, .null, .null, .null, .null, .null, .int 0, .null, .int 0, .int 0, .int 0, .null, .null, .int 0, .int 0])))
  refine ab_gen (fun h78 e79 => ?_)
  have c80 : h78[b]? = some (.inr (12, [.int 0, .ref (b + 1), .int 0, .ref (b + 2), .ref (b + 33), .int 0, .int (-1), .int (-1), .null, .null, .null, .null, .int 0, .int 0, .null, .null, .null, .null, .null, .null, .int 0, .null, .int 0, .int 0, .int 0, .null, .null, .int 0, .int 0])) := ab_self e79 c71
  have c81 : h78[b+1]? = some (.inl (.byte, 6000, .inl (fun _ => 0))) := ab_other e79 (by omega) c72
  have l82 : h78.length = b + 64 := by rw [e79]; exact List.length_set.trans l73
  have f83 : ab_fr (fun i => i = b) h69 h78 := ab_fr_set (ab_fr_rf _ _) e79 rfl
  have kf84 : at_MText h78 (b + 2) (fun _ => 0) (fun _ _ => 0) := fr_MText f83 kf75 (by intro i hi hs; simp only [in_MText] at hi hs <;> omega)
  have kf85 : at_MText h78 (b + 33) (fun _ => 0) (fun _ _ => 0) := fr_MText f83 kf76 (by intro i hi hs; simp only [in_MText] at hi hs <;> omega)
  have fr86 : ab_fr (in_up b) h h78 := ab_fr_set fr77 e79 (by first | (show _ ∧ _; omega) | (show _ ∨ _; omega) | (show _ = _; omega) | (show _ ≤ _; omega))
  clear c71 c72 kf75 kf76 l73 fr77 e79 f83
  try clear h69
  refine ab_aload_n d_M_init_45 rfl rfl rfl ?_
  refine ab_newL (ci := 13) (fs := [.int 0, .int 0, .int 0, .int 0, .null, .null, .null, .null, .int 0, .null, .null, .null, .null, .int 0, .int 0, .int 0, .int 0, .null]) l82 d_M_init_46 rfl (k9 77 rfl rfl) (k9 78 rfl rfl) (k1 21 rfl rfl) rfl rfl (by decide) (by decide) (fun h87 e88 e89 e90 => ?_)
  have c91 : h87[b + 64]? = some (.inr (13, [.int 0, .int 0, .int 0, .int 0, .null, .null, .null, .null, .int 0, .null, .null, .null, .null, .int 0, .int 0, .int 0, .int 0, .null])) := e89
  have c92 : h87[b]? = some (.inr (12, [.int 0, .ref (b + 1), .int 0, .ref (b + 2), .ref (b + 33), .int 0, .int (-1), .int (-1), .null, .null, .null, .null, .int 0, .int 0, .null, .null, .null, .null, .null, .null, .int 0, .null, .int 0, .int 0, .int 0, .null, .null, .int 0, .int 0])) := (e90 _ (by omega)).trans c80
  have c93 : h87[b+1]? = some (.inl (.byte, 6000, .inl (fun _ => 0))) := (e90 _ (by omega)).trans c81
  have f94 : ab_fr (fun i => False) h78 h87 := ab_fr_new (ab_fr_rf _ _) e90 e88 l82
  have kf95 : at_MText h87 (b + 2) (fun _ => 0) (fun _ _ => 0) := fr_MText f94 kf84 (by intro i hi hs; simp only [in_MText] at hi hs <;> omega)
  have kf96 : at_MText h87 (b + 33) (fun _ => 0) (fun _ _ => 0) := fr_MText f94 kf85 (by intro i hi hs; simp only [in_MText] at hi hs <;> omega)
  have fr97 : ab_fr (in_up b) h h87 := ab_fr_new fr86 e90 e88 l82
  have l98 : h87.length = b + 65 := e88
  clear c80 c81 kf84 kf85 e88 e89 e90 f94 l82 fr86
  try clear h78
  refine ab_dup d_M_init_49 rfl ?_
  refine ab_callI_v (As := []) (rest := [.ref (b + 64), .ref b]) d_M_init_50 (c_MWorld_init c91 l98) (ab_mkC s_MWorld_init (Nat.le_of_ble_eq_true rfl) (Nat.le_of_ble_eq_true rfl) (by decide) (by decide)) (k9 79 rfl rfl) i_MWorld_init rfl (k9 81 rfl rfl) rfl (Nat.le_of_ble_eq_true rfl) (fun h99 q100 => ?_)
  obtain ⟨kf101, l102, f103⟩ := q100
  replace l102 : h99.length = b + 74 := l102
  have c104 : h99[b]? = some (.inr (12, [.int 0, .ref (b + 1), .int 0, .ref (b + 2), .ref (b + 33), .int 0, .int (-1), .int (-1), .null, .null, .null, .null, .int 0, .int 0, .null, .null, .null, .null, .null, .null, .int 0, .null, .int 0, .int 0, .int 0, .null, .null, .int 0, .int 0])) := ab_fr_at f103 c92 (by simp only [in_up] <;> omega)
  have c105 : h99[b+1]? = some (.inl (.byte, 6000, .inl (fun _ => 0))) := ab_fr_at f103 c93 (by simp only [in_up] <;> omega)
  have kf106 : at_MText h99 (b + 2) (fun _ => 0) (fun _ _ => 0) := fr_MText f103 kf95 (by intro i hi hs; simp only [in_MText, in_up] at hi hs <;> omega)
  have kf107 : at_MText h99 (b + 33) (fun _ => 0) (fun _ _ => 0) := fr_MText f103 kf96 (by intro i hi hs; simp only [in_MText, in_up] at hi hs <;> omega)
  have fr108 : ab_fr (in_up b) h h99 := ab_fr_tr fr97 (ab_fr_mono f103 (by intro i hi; simp only [in_up, in_up] at * <;> omega))
  clear c92 c93 c91 kf95 kf96 l98 f103 fr97
  try clear h87
  replace kf101 : at_MWorld h99 (b + 64) s0_MW (fun _ _ => 0) := kf101
  refine ab_put (f := 8) d_M_init_53 c104 rfl (by decide) (k10 1 rfl rfl) rfl rfl (fun _ => rfl) (fun _ => rfl) (Nat.le_of_ble_eq_true rfl) ?_
  show ab_V _ _ _ _ _ _ _ 56 [some (.ref b), some (.int w), none, none] [] (h99.set b (.inr (12, [.int 0, .ref (b + 1), .int 0, .ref (b + 2), .ref (b + 33), .int 0, .int (-1), .int (-1), .ref (b + 64), .null, .null, .null, .int 0, .int 0, .null, .null, .null, .null, .null, .null, .int 0, .null, .int 0, .int 0, .int 0, .null, .null, .int 0, .int 0])))
  refine ab_gen (fun h109 e110 => ?_)
  have c111 : h109[b]? = some (.inr (12, [.int 0, .ref (b + 1), .int 0, .ref (b + 2), .ref (b + 33), .int 0, .int (-1), .int (-1), .ref (b + 64), .null, .null, .null, .int 0, .int 0, .null, .null, .null, .null, .null, .null, .int 0, .null, .int 0, .int 0, .int 0, .null, .null, .int 0, .int 0])) := ab_self e110 c104
  have c112 : h109[b+1]? = some (.inl (.byte, 6000, .inl (fun _ => 0))) := ab_other e110 (by omega) c105
  have l113 : h109.length = b + 74 := by rw [e110]; exact List.length_set.trans l102
  have f114 : ab_fr (fun i => i = b) h99 h109 := ab_fr_set (ab_fr_rf _ _) e110 rfl
  have kf115 : at_MText h109 (b + 2) (fun _ => 0) (fun _ _ => 0) := fr_MText f114 kf106 (by intro i hi hs; simp only [in_MText] at hi hs <;> omega)
  have kf116 : at_MText h109 (b + 33) (fun _ => 0) (fun _ _ => 0) := fr_MText f114 kf107 (by intro i hi hs; simp only [in_MText] at hi hs <;> omega)
  have kf117 : at_MWorld h109 (b + 64) s0_MW (fun _ _ => 0) := fr_MWorld f114 kf101 (by intro i hi hs; simp only [in_MWorld] at hi hs <;> omega)
  have fr118 : ab_fr (in_up b) h h109 := ab_fr_set fr108 e110 (by first | (show _ ∧ _; omega) | (show _ ∨ _; omega) | (show _ = _; omega) | (show _ ≤ _; omega))
  clear c104 c105 kf106 kf107 kf101 l102 fr108 e110 f114
  try clear h99
  refine ab_aload_n d_M_init_56 rfl rfl rfl ?_
  refine ab_newL (ci := 13) (fs := [.int 0, .int 0, .int 0, .int 0, .null, .null, .null, .null, .int 0, .null, .null, .null, .null, .int 0, .int 0, .int 0, .int 0, .null]) l113 d_M_init_57 rfl (k9 77 rfl rfl) (k9 78 rfl rfl) (k1 21 rfl rfl) rfl rfl (by decide) (by decide) (fun h119 e120 e121 e122 => ?_)
  have c123 : h119[b + 74]? = some (.inr (13, [.int 0, .int 0, .int 0, .int 0, .null, .null, .null, .null, .int 0, .null, .null, .null, .null, .int 0, .int 0, .int 0, .int 0, .null])) := e121
  have c124 : h119[b]? = some (.inr (12, [.int 0, .ref (b + 1), .int 0, .ref (b + 2), .ref (b + 33), .int 0, .int (-1), .int (-1), .ref (b + 64), .null, .null, .null, .int 0, .int 0, .null, .null, .null, .null, .null, .null, .int 0, .null, .int 0, .int 0, .int 0, .null, .null, .int 0, .int 0])) := (e122 _ (by omega)).trans c111
  have c125 : h119[b+1]? = some (.inl (.byte, 6000, .inl (fun _ => 0))) := (e122 _ (by omega)).trans c112
  have f126 : ab_fr (fun i => False) h109 h119 := ab_fr_new (ab_fr_rf _ _) e122 e120 l113
  have kf127 : at_MText h119 (b + 2) (fun _ => 0) (fun _ _ => 0) := fr_MText f126 kf115 (by intro i hi hs; simp only [in_MText] at hi hs <;> omega)
  have kf128 : at_MText h119 (b + 33) (fun _ => 0) (fun _ _ => 0) := fr_MText f126 kf116 (by intro i hi hs; simp only [in_MText] at hi hs <;> omega)
  have kf129 : at_MWorld h119 (b + 64) s0_MW (fun _ _ => 0) := fr_MWorld f126 kf117 (by intro i hi hs; simp only [in_MWorld] at hi hs <;> omega)
  have fr130 : ab_fr (in_up b) h h119 := ab_fr_new fr118 e122 e120 l113
  have l131 : h119.length = b + 75 := e120
  clear c111 c112 kf115 kf116 kf117 e120 e121 e122 f126 l113 fr118
  try clear h109
  refine ab_dup d_M_init_60 rfl ?_
  refine ab_callI_v (As := []) (rest := [.ref (b + 74), .ref b]) d_M_init_61 (c_MWorld_init c123 l131) (ab_mkC s_MWorld_init (Nat.le_of_ble_eq_true rfl) (Nat.le_of_ble_eq_true rfl) (by decide) (by decide)) (k9 79 rfl rfl) i_MWorld_init rfl (k9 81 rfl rfl) rfl (Nat.le_of_ble_eq_true rfl) (fun h132 q133 => ?_)
  obtain ⟨kf134, l135, f136⟩ := q133
  replace l135 : h132.length = b + 84 := l135
  have c137 : h132[b]? = some (.inr (12, [.int 0, .ref (b + 1), .int 0, .ref (b + 2), .ref (b + 33), .int 0, .int (-1), .int (-1), .ref (b + 64), .null, .null, .null, .int 0, .int 0, .null, .null, .null, .null, .null, .null, .int 0, .null, .int 0, .int 0, .int 0, .null, .null, .int 0, .int 0])) := ab_fr_at f136 c124 (by simp only [in_up] <;> omega)
  have c138 : h132[b+1]? = some (.inl (.byte, 6000, .inl (fun _ => 0))) := ab_fr_at f136 c125 (by simp only [in_up] <;> omega)
  have kf139 : at_MText h132 (b + 2) (fun _ => 0) (fun _ _ => 0) := fr_MText f136 kf127 (by intro i hi hs; simp only [in_MText, in_up] at hi hs <;> omega)
  have kf140 : at_MText h132 (b + 33) (fun _ => 0) (fun _ _ => 0) := fr_MText f136 kf128 (by intro i hi hs; simp only [in_MText, in_up] at hi hs <;> omega)
  have kf141 : at_MWorld h132 (b + 64) s0_MW (fun _ _ => 0) := fr_MWorld f136 kf129 (by intro i hi hs; simp only [in_MWorld, in_up] at hi hs <;> omega)
  have fr142 : ab_fr (in_up b) h h132 := ab_fr_tr fr130 (ab_fr_mono f136 (by intro i hi; simp only [in_up, in_up] at * <;> omega))
  clear c124 c125 c123 kf127 kf128 kf129 l131 f136 fr130
  try clear h119
  replace kf134 : at_MWorld h132 (b + 74) s0_MW (fun _ _ => 0) := kf134
  refine ab_put (f := 9) d_M_init_64 c137 rfl (by decide) (k10 2 rfl rfl) rfl rfl (fun _ => rfl) (fun _ => rfl) (Nat.le_of_ble_eq_true rfl) ?_
  show ab_V _ _ _ _ _ _ _ 67 [some (.ref b), some (.int w), none, none] [] (h132.set b (.inr (12, [.int 0, .ref (b + 1), .int 0, .ref (b + 2), .ref (b + 33), .int 0, .int (-1), .int (-1), .ref (b + 64), .ref (b + 74), .null, .null, .int 0, .int 0, .null, .null, .null, .null, .null, .null, .int 0, .null, .int 0, .int 0, .int 0, .null, .null, .int 0, .int 0])))
  refine ab_gen (fun h143 e144 => ?_)
  have c145 : h143[b]? = some (.inr (12, [.int 0, .ref (b + 1), .int 0, .ref (b + 2), .ref (b + 33), .int 0, .int (-1), .int (-1), .ref (b + 64), .ref (b + 74), .null, .null, .int 0, .int 0, .null, .null, .null, .null, .null, .null, .int 0, .null, .int 0, .int 0, .int 0, .null, .null, .int 0, .int 0])) := ab_self e144 c137
  have c146 : h143[b+1]? = some (.inl (.byte, 6000, .inl (fun _ => 0))) := ab_other e144 (by omega) c138
  have l147 : h143.length = b + 84 := by rw [e144]; exact List.length_set.trans l135
  have f148 : ab_fr (fun i => i = b) h132 h143 := ab_fr_set (ab_fr_rf _ _) e144 rfl
  have kf149 : at_MText h143 (b + 2) (fun _ => 0) (fun _ _ => 0) := fr_MText f148 kf139 (by intro i hi hs; simp only [in_MText] at hi hs <;> omega)
  have kf150 : at_MText h143 (b + 33) (fun _ => 0) (fun _ _ => 0) := fr_MText f148 kf140 (by intro i hi hs; simp only [in_MText] at hi hs <;> omega)
  have kf151 : at_MWorld h143 (b + 64) s0_MW (fun _ _ => 0) := fr_MWorld f148 kf141 (by intro i hi hs; simp only [in_MWorld] at hi hs <;> omega)
  have kf152 : at_MWorld h143 (b + 74) s0_MW (fun _ _ => 0) := fr_MWorld f148 kf134 (by intro i hi hs; simp only [in_MWorld] at hi hs <;> omega)
  have fr153 : ab_fr (in_up b) h h143 := ab_fr_set fr142 e144 (by first | (show _ ∧ _; omega) | (show _ ∨ _; omega) | (show _ = _; omega) | (show _ ≤ _; omega))
  clear c137 c138 kf139 kf140 kf141 kf134 l135 fr142 e144 f148
  try clear h132
  refine ab_aload_n d_M_init_67 rfl rfl rfl ?_
  refine ab_newL (ci := 13) (fs := [.int 0, .int 0, .int 0, .int 0, .null, .null, .null, .null, .int 0, .null, .null, .null, .null, .int 0, .int 0, .int 0, .int 0, .null]) l147 d_M_init_68 rfl (k9 77 rfl rfl) (k9 78 rfl rfl) (k1 21 rfl rfl) rfl rfl (by decide) (by decide) (fun h154 e155 e156 e157 => ?_)
  have c158 : h154[b + 84]? = some (.inr (13, [.int 0, .int 0, .int 0, .int 0, .null, .null, .null, .null, .int 0, .null, .null, .null, .null, .int 0, .int 0, .int 0, .int 0, .null])) := e156
  have c159 : h154[b]? = some (.inr (12, [.int 0, .ref (b + 1), .int 0, .ref (b + 2), .ref (b + 33), .int 0, .int (-1), .int (-1), .ref (b + 64), .ref (b + 74), .null, .null, .int 0, .int 0, .null, .null, .null, .null, .null, .null, .int 0, .null, .int 0, .int 0, .int 0, .null, .null, .int 0, .int 0])) := (e157 _ (by omega)).trans c145
  have c160 : h154[b+1]? = some (.inl (.byte, 6000, .inl (fun _ => 0))) := (e157 _ (by omega)).trans c146
  have f161 : ab_fr (fun i => False) h143 h154 := ab_fr_new (ab_fr_rf _ _) e157 e155 l147
  have kf162 : at_MText h154 (b + 2) (fun _ => 0) (fun _ _ => 0) := fr_MText f161 kf149 (by intro i hi hs; simp only [in_MText] at hi hs <;> omega)
  have kf163 : at_MText h154 (b + 33) (fun _ => 0) (fun _ _ => 0) := fr_MText f161 kf150 (by intro i hi hs; simp only [in_MText] at hi hs <;> omega)
  have kf164 : at_MWorld h154 (b + 64) s0_MW (fun _ _ => 0) := fr_MWorld f161 kf151 (by intro i hi hs; simp only [in_MWorld] at hi hs <;> omega)
  have kf165 : at_MWorld h154 (b + 74) s0_MW (fun _ _ => 0) := fr_MWorld f161 kf152 (by intro i hi hs; simp only [in_MWorld] at hi hs <;> omega)
  have fr166 : ab_fr (in_up b) h h154 := ab_fr_new fr153 e157 e155 l147
  have l167 : h154.length = b + 85 := e155
  clear c145 c146 kf149 kf150 kf151 kf152 e155 e156 e157 f161 l147 fr153
  try clear h143
  refine ab_dup d_M_init_71 rfl ?_
  refine ab_callI_v (As := []) (rest := [.ref (b + 84), .ref b]) d_M_init_72 (c_MWorld_init c158 l167) (ab_mkC s_MWorld_init (Nat.le_of_ble_eq_true rfl) (Nat.le_of_ble_eq_true rfl) (by decide) (by decide)) (k9 79 rfl rfl) i_MWorld_init rfl (k9 81 rfl rfl) rfl (Nat.le_of_ble_eq_true rfl) (fun h168 q169 => ?_)
  obtain ⟨kf170, l171, f172⟩ := q169
  replace l171 : h168.length = b + 94 := l171
  have c173 : h168[b]? = some (.inr (12, [.int 0, .ref (b + 1), .int 0, .ref (b + 2), .ref (b + 33), .int 0, .int (-1), .int (-1), .ref (b + 64), .ref (b + 74), .null, .null, .int 0, .int 0, .null, .null, .null, .null, .null, .null, .int 0, .null, .int 0, .int 0, .int 0, .null, .null, .int 0, .int 0])) := ab_fr_at f172 c159 (by simp only [in_up] <;> omega)
  have c174 : h168[b+1]? = some (.inl (.byte, 6000, .inl (fun _ => 0))) := ab_fr_at f172 c160 (by simp only [in_up] <;> omega)
  have kf175 : at_MText h168 (b + 2) (fun _ => 0) (fun _ _ => 0) := fr_MText f172 kf162 (by intro i hi hs; simp only [in_MText, in_up] at hi hs <;> omega)
  have kf176 : at_MText h168 (b + 33) (fun _ => 0) (fun _ _ => 0) := fr_MText f172 kf163 (by intro i hi hs; simp only [in_MText, in_up] at hi hs <;> omega)
  have kf177 : at_MWorld h168 (b + 64) s0_MW (fun _ _ => 0) := fr_MWorld f172 kf164 (by intro i hi hs; simp only [in_MWorld, in_up] at hi hs <;> omega)
  have kf178 : at_MWorld h168 (b + 74) s0_MW (fun _ _ => 0) := fr_MWorld f172 kf165 (by intro i hi hs; simp only [in_MWorld, in_up] at hi hs <;> omega)
  have fr179 : ab_fr (in_up b) h h168 := ab_fr_tr fr166 (ab_fr_mono f172 (by intro i hi; simp only [in_up, in_up] at * <;> omega))
  clear c159 c160 c158 kf162 kf163 kf164 kf165 l167 f172 fr166
  try clear h154
  replace kf170 : at_MWorld h168 (b + 84) s0_MW (fun _ _ => 0) := kf170
  refine ab_put (f := 10) d_M_init_75 c173 rfl (by decide) (k10 3 rfl rfl) rfl rfl (fun _ => rfl) (fun _ => rfl) (Nat.le_of_ble_eq_true rfl) ?_
  show ab_V _ _ _ _ _ _ _ 78 [some (.ref b), some (.int w), none, none] [] (h168.set b (.inr (12, [.int 0, .ref (b + 1), .int 0, .ref (b + 2), .ref (b + 33), .int 0, .int (-1), .int (-1), .ref (b + 64), .ref (b + 74), .ref (b + 84), .null, .int 0, .int 0, .null, .null, .null, .null, .null, .null, .int 0, .null, .int 0, .int 0, .int 0, .null, .null, .int 0, .int 0])))
  refine ab_gen (fun h180 e181 => ?_)
  have c182 : h180[b]? = some (.inr (12, [.int 0, .ref (b + 1), .int 0, .ref (b + 2), .ref (b + 33), .int 0, .int (-1), .int (-1), .ref (b + 64), .ref (b + 74), .ref (b + 84), .null, .int 0, .int 0, .null, .null, .null, .null, .null, .null, .int 0, .null, .int 0, .int 0, .int 0, .null, .null, .int 0, .int 0])) := ab_self e181 c173
  have c183 : h180[b+1]? = some (.inl (.byte, 6000, .inl (fun _ => 0))) := ab_other e181 (by omega) c174
  have l184 : h180.length = b + 94 := by rw [e181]; exact List.length_set.trans l171
  have f185 : ab_fr (fun i => i = b) h168 h180 := ab_fr_set (ab_fr_rf _ _) e181 rfl
  have kf186 : at_MText h180 (b + 2) (fun _ => 0) (fun _ _ => 0) := fr_MText f185 kf175 (by intro i hi hs; simp only [in_MText] at hi hs <;> omega)
  have kf187 : at_MText h180 (b + 33) (fun _ => 0) (fun _ _ => 0) := fr_MText f185 kf176 (by intro i hi hs; simp only [in_MText] at hi hs <;> omega)
  have kf188 : at_MWorld h180 (b + 64) s0_MW (fun _ _ => 0) := fr_MWorld f185 kf177 (by intro i hi hs; simp only [in_MWorld] at hi hs <;> omega)
  have kf189 : at_MWorld h180 (b + 74) s0_MW (fun _ _ => 0) := fr_MWorld f185 kf178 (by intro i hi hs; simp only [in_MWorld] at hi hs <;> omega)
  have kf190 : at_MWorld h180 (b + 84) s0_MW (fun _ _ => 0) := fr_MWorld f185 kf170 (by intro i hi hs; simp only [in_MWorld] at hi hs <;> omega)
  have fr191 : ab_fr (in_up b) h h180 := ab_fr_set fr179 e181 (by first | (show _ ∧ _; omega) | (show _ ∨ _; omega) | (show _ = _; omega) | (show _ ≤ _; omega))
  clear c173 c174 kf175 kf176 kf177 kf178 kf170 l171 fr179 e181 f185
  try clear h168
  refine ab_aload_n d_M_init_78 rfl rfl rfl ?_
  refine ab_newL (ci := 15) (fs := [.null, .null, .null, .null, .int 0, .int 0, .int 0, .int 0, .int 0, .int 0, .int 0, .int 0, .int 0, .null, .null, .null]) l184 d_M_init_79 rfl (k9 176 rfl rfl) (k9 177 rfl rfl) (k1 22 rfl rfl) rfl rfl (by decide) (by decide) (fun h192 e193 e194 e195 => ?_)
  have c196 : h192[b + 94]? = some (.inr (15, [.null, .null, .null, .null, .int 0, .int 0, .int 0, .int 0, .int 0, .int 0, .int 0, .int 0, .int 0, .null, .null, .null])) := e194
  have c197 : h192[b]? = some (.inr (12, [.int 0, .ref (b + 1), .int 0, .ref (b + 2), .ref (b + 33), .int 0, .int (-1), .int (-1), .ref (b + 64), .ref (b + 74), .ref (b + 84), .null, .int 0, .int 0, .null, .null, .null, .null, .null, .null, .int 0, .null, .int 0, .int 0, .int 0, .null, .null, .int 0, .int 0])) := (e195 _ (by omega)).trans c182
  have c198 : h192[b+1]? = some (.inl (.byte, 6000, .inl (fun _ => 0))) := (e195 _ (by omega)).trans c183
  have f199 : ab_fr (fun i => False) h180 h192 := ab_fr_new (ab_fr_rf _ _) e195 e193 l184
  have kf200 : at_MText h192 (b + 2) (fun _ => 0) (fun _ _ => 0) := fr_MText f199 kf186 (by intro i hi hs; simp only [in_MText] at hi hs <;> omega)
  have kf201 : at_MText h192 (b + 33) (fun _ => 0) (fun _ _ => 0) := fr_MText f199 kf187 (by intro i hi hs; simp only [in_MText] at hi hs <;> omega)
  have kf202 : at_MWorld h192 (b + 64) s0_MW (fun _ _ => 0) := fr_MWorld f199 kf188 (by intro i hi hs; simp only [in_MWorld] at hi hs <;> omega)
  have kf203 : at_MWorld h192 (b + 74) s0_MW (fun _ _ => 0) := fr_MWorld f199 kf189 (by intro i hi hs; simp only [in_MWorld] at hi hs <;> omega)
  have kf204 : at_MWorld h192 (b + 84) s0_MW (fun _ _ => 0) := fr_MWorld f199 kf190 (by intro i hi hs; simp only [in_MWorld] at hi hs <;> omega)
  have fr205 : ab_fr (in_up b) h h192 := ab_fr_new fr191 e195 e193 l184
  have l206 : h192.length = b + 95 := e193
  clear c182 c183 kf186 kf187 kf188 kf189 kf190 e193 e194 e195 f199 l184 fr191
  try clear h180
  refine ab_dup d_M_init_82 rfl ?_
  refine ab_callIN_v (As := []) (rest := [.ref (b + 94), .ref b]) d_M_init_83 (c_MRunner_init c196 l206) (ab_mkC s_MRunner_init (Nat.le_of_ble_eq_true rfl) (Nat.le_of_ble_eq_true rfl) (by decide) (by decide)) (k9 178 rfl rfl) i_MRunner_init rfl (k9 180 rfl rfl) rfl (Nat.le_of_ble_eq_true rfl) (fun h207 q208 => ?_)
  obtain ⟨kf209, l210, f211⟩ := q208
  replace l210 : h207.length = b + 99 := l210
  have c212 : h207[b]? = some (.inr (12, [.int 0, .ref (b + 1), .int 0, .ref (b + 2), .ref (b + 33), .int 0, .int (-1), .int (-1), .ref (b + 64), .ref (b + 74), .ref (b + 84), .null, .int 0, .int 0, .null, .null, .null, .null, .null, .null, .int 0, .null, .int 0, .int 0, .int 0, .null, .null, .int 0, .int 0])) := ab_fr_at f211 c197 (by simp only [in_up] <;> omega)
  have c213 : h207[b+1]? = some (.inl (.byte, 6000, .inl (fun _ => 0))) := ab_fr_at f211 c198 (by simp only [in_up] <;> omega)
  have kf214 : at_MText h207 (b + 2) (fun _ => 0) (fun _ _ => 0) := fr_MText f211 kf200 (by intro i hi hs; simp only [in_MText, in_up] at hi hs <;> omega)
  have kf215 : at_MText h207 (b + 33) (fun _ => 0) (fun _ _ => 0) := fr_MText f211 kf201 (by intro i hi hs; simp only [in_MText, in_up] at hi hs <;> omega)
  have kf216 : at_MWorld h207 (b + 64) s0_MW (fun _ _ => 0) := fr_MWorld f211 kf202 (by intro i hi hs; simp only [in_MWorld, in_up] at hi hs <;> omega)
  have kf217 : at_MWorld h207 (b + 74) s0_MW (fun _ _ => 0) := fr_MWorld f211 kf203 (by intro i hi hs; simp only [in_MWorld, in_up] at hi hs <;> omega)
  have kf218 : at_MWorld h207 (b + 84) s0_MW (fun _ _ => 0) := fr_MWorld f211 kf204 (by intro i hi hs; simp only [in_MWorld, in_up] at hi hs <;> omega)
  have fr219 : ab_fr (in_up b) h h207 := ab_fr_tr fr205 (ab_fr_mono f211 (by intro i hi; simp only [in_up, in_up] at * <;> omega))
  clear c197 c198 c196 kf200 kf201 kf202 kf203 kf204 l206 f211 fr205
  try clear h192
  replace kf209 : at_MRunner h207 (b + 94) .null .null .null (fun _ => 0) (fun _ _ => 0) := kf209
  refine ab_putF (f := 11) d_M_init_86 c212 rfl (by decide) (k10 4 rfl rfl) rfl rfl rfl rfl (fun _ => rfl) (fun _ => rfl) (Nat.le_of_ble_eq_true rfl) ?_
  show ab_V _ _ _ _ _ _ _ 89 [some (.ref b), some (.int w), none, none] [] (h207.set b (.inr (12, [.int 0, .ref (b + 1), .int 0, .ref (b + 2), .ref (b + 33), .int 0, .int (-1), .int (-1), .ref (b + 64), .ref (b + 74), .ref (b + 84), .ref (b + 94), .int 0, .int 0, .null, .null, .null, .null, .null, .null, .int 0, .null, .int 0, .int 0, .int 0, .null, .null, .int 0, .int 0])))
  refine ab_gen (fun h220 e221 => ?_)
  have c222 : h220[b]? = some (.inr (12, [.int 0, .ref (b + 1), .int 0, .ref (b + 2), .ref (b + 33), .int 0, .int (-1), .int (-1), .ref (b + 64), .ref (b + 74), .ref (b + 84), .ref (b + 94), .int 0, .int 0, .null, .null, .null, .null, .null, .null, .int 0, .null, .int 0, .int 0, .int 0, .null, .null, .int 0, .int 0])) := ab_self e221 c212
  have c223 : h220[b+1]? = some (.inl (.byte, 6000, .inl (fun _ => 0))) := ab_other e221 (by omega) c213
  have l224 : h220.length = b + 99 := by rw [e221]; exact List.length_set.trans l210
  have f225 : ab_fr (fun i => i = b) h207 h220 := ab_fr_set (ab_fr_rf _ _) e221 rfl
  have kf226 : at_MText h220 (b + 2) (fun _ => 0) (fun _ _ => 0) := fr_MText f225 kf214 (by intro i hi hs; simp only [in_MText] at hi hs <;> omega)
  have kf227 : at_MText h220 (b + 33) (fun _ => 0) (fun _ _ => 0) := fr_MText f225 kf215 (by intro i hi hs; simp only [in_MText] at hi hs <;> omega)
  have kf228 : at_MWorld h220 (b + 64) s0_MW (fun _ _ => 0) := fr_MWorld f225 kf216 (by intro i hi hs; simp only [in_MWorld] at hi hs <;> omega)
  have kf229 : at_MWorld h220 (b + 74) s0_MW (fun _ _ => 0) := fr_MWorld f225 kf217 (by intro i hi hs; simp only [in_MWorld] at hi hs <;> omega)
  have kf230 : at_MWorld h220 (b + 84) s0_MW (fun _ _ => 0) := fr_MWorld f225 kf218 (by intro i hi hs; simp only [in_MWorld] at hi hs <;> omega)
  have kf231 : at_MRunner h220 (b + 94) .null .null .null (fun _ => 0) (fun _ _ => 0) := fr_MRunner f225 kf209 (by intro i hi hs; simp only [in_MRunner] at hi hs <;> omega)
  have fr232 : ab_fr (in_up b) h h220 := ab_fr_set fr219 e221 (by first | (show _ ∧ _; omega) | (show _ ∨ _; omega) | (show _ = _; omega) | (show _ ≤ _; omega))
  clear c212 c213 kf214 kf215 kf216 kf217 kf218 kf209 l210 fr219 e221 f225
  try clear h207
  refine ab_aload_n d_M_init_89 rfl rfl rfl ?_
  refine ab_iconst (v := 1) d_M_init_90 (by decide) ?_
  refine ab_put (f := 12) d_M_init_91 c222 rfl (by decide) (k10 5 rfl rfl) rfl rfl (fun _ => rfl) (fun _ => rfl) (Nat.le_of_ble_eq_true rfl) ?_
  show ab_V _ _ _ _ _ _ _ 94 [some (.ref b), some (.int w), none, none] [] (h220.set b (.inr (12, [.int 0, .ref (b + 1), .int 0, .ref (b + 2), .ref (b + 33), .int 0, .int (-1), .int (-1), .ref (b + 64), .ref (b + 74), .ref (b + 84), .ref (b + 94), .int 1, .int 0, .null, .null, .null, .null, .null, .null, .int 0, .null, .int 0, .int 0, .int 0, .null, .null, .int 0, .int 0])))
  refine ab_gen (fun h233 e234 => ?_)
  have c235 : h233[b]? = some (.inr (12, [.int 0, .ref (b + 1), .int 0, .ref (b + 2), .ref (b + 33), .int 0, .int (-1), .int (-1), .ref (b + 64), .ref (b + 74), .ref (b + 84), .ref (b + 94), .int 1, .int 0, .null, .null, .null, .null, .null, .null, .int 0, .null, .int 0, .int 0, .int 0, .null, .null, .int 0, .int 0])) := ab_self e234 c222
  have c236 : h233[b+1]? = some (.inl (.byte, 6000, .inl (fun _ => 0))) := ab_other e234 (by omega) c223
  have l237 : h233.length = b + 99 := by rw [e234]; exact List.length_set.trans l224
  have f238 : ab_fr (fun i => i = b) h220 h233 := ab_fr_set (ab_fr_rf _ _) e234 rfl
  have kf239 : at_MText h233 (b + 2) (fun _ => 0) (fun _ _ => 0) := fr_MText f238 kf226 (by intro i hi hs; simp only [in_MText] at hi hs <;> omega)
  have kf240 : at_MText h233 (b + 33) (fun _ => 0) (fun _ _ => 0) := fr_MText f238 kf227 (by intro i hi hs; simp only [in_MText] at hi hs <;> omega)
  have kf241 : at_MWorld h233 (b + 64) s0_MW (fun _ _ => 0) := fr_MWorld f238 kf228 (by intro i hi hs; simp only [in_MWorld] at hi hs <;> omega)
  have kf242 : at_MWorld h233 (b + 74) s0_MW (fun _ _ => 0) := fr_MWorld f238 kf229 (by intro i hi hs; simp only [in_MWorld] at hi hs <;> omega)
  have kf243 : at_MWorld h233 (b + 84) s0_MW (fun _ _ => 0) := fr_MWorld f238 kf230 (by intro i hi hs; simp only [in_MWorld] at hi hs <;> omega)
  have kf244 : at_MRunner h233 (b + 94) .null .null .null (fun _ => 0) (fun _ _ => 0) := fr_MRunner f238 kf231 (by intro i hi hs; simp only [in_MRunner] at hi hs <;> omega)
  have fr245 : ab_fr (in_up b) h h233 := ab_fr_set fr232 e234 (by first | (show _ ∧ _; omega) | (show _ ∨ _; omega) | (show _ = _; omega) | (show _ ≤ _; omega))
  clear c222 c223 kf226 kf227 kf228 kf229 kf230 kf231 l224 fr232 e234 f238
  try clear h220
  refine ab_aload_n d_M_init_94 rfl rfl rfl ?_
  refine ab_sipush (v := 256) d_M_init_95 (by decide) ?_
  refine ab_newaL (N := 256) l237 d_M_init_98 rfl (k1 143 rfl rfl) tI (Or.inl rfl) (by decide) (by decide) (by decide) (by decide) (by decide) (fun h246 e247 e248 e249 => ?_)
  have c250 : h246[b + 99]? = some (.inl (.int, 256, .inl (fun _ => 0))) := e248
  have c251 : h246[b]? = some (.inr (12, [.int 0, .ref (b + 1), .int 0, .ref (b + 2), .ref (b + 33), .int 0, .int (-1), .int (-1), .ref (b + 64), .ref (b + 74), .ref (b + 84), .ref (b + 94), .int 1, .int 0, .null, .null, .null, .null, .null, .null, .int 0, .null, .int 0, .int 0, .int 0, .null, .null, .int 0, .int 0])) := (e249 _ (by omega)).trans c235
  have c252 : h246[b+1]? = some (.inl (.byte, 6000, .inl (fun _ => 0))) := (e249 _ (by omega)).trans c236
  have f253 : ab_fr (fun i => False) h233 h246 := ab_fr_new (ab_fr_rf _ _) e249 e247 l237
  have kf254 : at_MText h246 (b + 2) (fun _ => 0) (fun _ _ => 0) := fr_MText f253 kf239 (by intro i hi hs; simp only [in_MText] at hi hs <;> omega)
  have kf255 : at_MText h246 (b + 33) (fun _ => 0) (fun _ _ => 0) := fr_MText f253 kf240 (by intro i hi hs; simp only [in_MText] at hi hs <;> omega)
  have kf256 : at_MWorld h246 (b + 64) s0_MW (fun _ _ => 0) := fr_MWorld f253 kf241 (by intro i hi hs; simp only [in_MWorld] at hi hs <;> omega)
  have kf257 : at_MWorld h246 (b + 74) s0_MW (fun _ _ => 0) := fr_MWorld f253 kf242 (by intro i hi hs; simp only [in_MWorld] at hi hs <;> omega)
  have kf258 : at_MWorld h246 (b + 84) s0_MW (fun _ _ => 0) := fr_MWorld f253 kf243 (by intro i hi hs; simp only [in_MWorld] at hi hs <;> omega)
  have kf259 : at_MRunner h246 (b + 94) .null .null .null (fun _ => 0) (fun _ _ => 0) := fr_MRunner f253 kf244 (by intro i hi hs; simp only [in_MRunner] at hi hs <;> omega)
  have fr260 : ab_fr (in_up b) h h246 := ab_fr_new fr245 e249 e247 l237
  have l261 : h246.length = b + 100 := e247
  clear c235 c236 kf239 kf240 kf241 kf242 kf243 kf244 e247 e248 e249 f253 l237 fr245
  try clear h233
  refine ab_putF (f := 14) d_M_init_100 c251 rfl (by decide) (k10 7 rfl rfl) rfl rfl rfl rfl (fun _ => rfl) (fun _ => rfl) (Nat.le_of_ble_eq_true rfl) ?_
  show ab_V _ _ _ _ _ _ _ 103 [some (.ref b), some (.int w), none, none] [] (h246.set b (.inr (12, [.int 0, .ref (b + 1), .int 0, .ref (b + 2), .ref (b + 33), .int 0, .int (-1), .int (-1), .ref (b + 64), .ref (b + 74), .ref (b + 84), .ref (b + 94), .int 1, .int 0, .ref (b + 99), .null, .null, .null, .null, .null, .int 0, .null, .int 0, .int 0, .int 0, .null, .null, .int 0, .int 0])))
  refine ab_gen (fun h262 e263 => ?_)
  have c264 : h262[b]? = some (.inr (12, [.int 0, .ref (b + 1), .int 0, .ref (b + 2), .ref (b + 33), .int 0, .int (-1), .int (-1), .ref (b + 64), .ref (b + 74), .ref (b + 84), .ref (b + 94), .int 1, .int 0, .ref (b + 99), .null, .null, .null, .null, .null, .int 0, .null, .int 0, .int 0, .int 0, .null, .null, .int 0, .int 0])) := ab_self e263 c251
  have c265 : h262[b+1]? = some (.inl (.byte, 6000, .inl (fun _ => 0))) := ab_other e263 (by omega) c252
  have c266 : h262[b+99]? = some (.inl (.int, 256, .inl (fun _ => 0))) := ab_other e263 (by omega) c250
  have l267 : h262.length = b + 100 := by rw [e263]; exact List.length_set.trans l261
  have f268 : ab_fr (fun i => i = b) h246 h262 := ab_fr_set (ab_fr_rf _ _) e263 rfl
  have kf269 : at_MText h262 (b + 2) (fun _ => 0) (fun _ _ => 0) := fr_MText f268 kf254 (by intro i hi hs; simp only [in_MText] at hi hs <;> omega)
  have kf270 : at_MText h262 (b + 33) (fun _ => 0) (fun _ _ => 0) := fr_MText f268 kf255 (by intro i hi hs; simp only [in_MText] at hi hs <;> omega)
  have kf271 : at_MWorld h262 (b + 64) s0_MW (fun _ _ => 0) := fr_MWorld f268 kf256 (by intro i hi hs; simp only [in_MWorld] at hi hs <;> omega)
  have kf272 : at_MWorld h262 (b + 74) s0_MW (fun _ _ => 0) := fr_MWorld f268 kf257 (by intro i hi hs; simp only [in_MWorld] at hi hs <;> omega)
  have kf273 : at_MWorld h262 (b + 84) s0_MW (fun _ _ => 0) := fr_MWorld f268 kf258 (by intro i hi hs; simp only [in_MWorld] at hi hs <;> omega)
  have kf274 : at_MRunner h262 (b + 94) .null .null .null (fun _ => 0) (fun _ _ => 0) := fr_MRunner f268 kf259 (by intro i hi hs; simp only [in_MRunner] at hi hs <;> omega)
  have fr275 : ab_fr (in_up b) h h262 := ab_fr_set fr260 e263 (by first | (show _ ∧ _; omega) | (show _ ∨ _; omega) | (show _ = _; omega) | (show _ ≤ _; omega))
  clear c251 c252 c250 kf254 kf255 kf256 kf257 kf258 kf259 l261 fr260 e263 f268
  try clear h246
  refine ab_aload_n d_M_init_103 rfl rfl rfl ?_
  refine ab_sipush (v := 256) d_M_init_104 (by decide) ?_
  refine ab_newaL (N := 256) l267 d_M_init_107 rfl (k1 144 rfl rfl) tZ (Or.inr (Or.inr (Or.inl rfl))) (by decide) (by decide) (by decide) (by decide) (by decide) (fun h276 e277 e278 e279 => ?_)
  have c280 : h276[b + 100]? = some (.inl (.boolean, 256, .inl (fun _ => 0))) := e278
  have c281 : h276[b]? = some (.inr (12, [.int 0, .ref (b + 1), .int 0, .ref (b + 2), .ref (b + 33), .int 0, .int (-1), .int (-1), .ref (b + 64), .ref (b + 74), .ref (b + 84), .ref (b + 94), .int 1, .int 0, .ref (b + 99), .null, .null, .null, .null, .null, .int 0, .null, .int 0, .int 0, .int 0, .null, .null, .int 0, .int 0])) := (e279 _ (by omega)).trans c264
  have c282 : h276[b+1]? = some (.inl (.byte, 6000, .inl (fun _ => 0))) := (e279 _ (by omega)).trans c265
  have c283 : h276[b+99]? = some (.inl (.int, 256, .inl (fun _ => 0))) := (e279 _ (by omega)).trans c266
  have f284 : ab_fr (fun i => False) h262 h276 := ab_fr_new (ab_fr_rf _ _) e279 e277 l267
  have kf285 : at_MText h276 (b + 2) (fun _ => 0) (fun _ _ => 0) := fr_MText f284 kf269 (by intro i hi hs; simp only [in_MText] at hi hs <;> omega)
  have kf286 : at_MText h276 (b + 33) (fun _ => 0) (fun _ _ => 0) := fr_MText f284 kf270 (by intro i hi hs; simp only [in_MText] at hi hs <;> omega)
  have kf287 : at_MWorld h276 (b + 64) s0_MW (fun _ _ => 0) := fr_MWorld f284 kf271 (by intro i hi hs; simp only [in_MWorld] at hi hs <;> omega)
  have kf288 : at_MWorld h276 (b + 74) s0_MW (fun _ _ => 0) := fr_MWorld f284 kf272 (by intro i hi hs; simp only [in_MWorld] at hi hs <;> omega)
  have kf289 : at_MWorld h276 (b + 84) s0_MW (fun _ _ => 0) := fr_MWorld f284 kf273 (by intro i hi hs; simp only [in_MWorld] at hi hs <;> omega)
  have kf290 : at_MRunner h276 (b + 94) .null .null .null (fun _ => 0) (fun _ _ => 0) := fr_MRunner f284 kf274 (by intro i hi hs; simp only [in_MRunner] at hi hs <;> omega)
  have fr291 : ab_fr (in_up b) h h276 := ab_fr_new fr275 e279 e277 l267
  have l292 : h276.length = b + 101 := e277
  clear c264 c265 c266 kf269 kf270 kf271 kf272 kf273 kf274 e277 e278 e279 f284 l267 fr275
  try clear h262
  refine ab_putF (f := 15) d_M_init_109 c281 rfl (by decide) (k10 8 rfl rfl) rfl rfl rfl rfl (fun _ => rfl) (fun _ => rfl) (Nat.le_of_ble_eq_true rfl) ?_
  show ab_V _ _ _ _ _ _ _ 112 [some (.ref b), some (.int w), none, none] [] (h276.set b (.inr (12, [.int 0, .ref (b + 1), .int 0, .ref (b + 2), .ref (b + 33), .int 0, .int (-1), .int (-1), .ref (b + 64), .ref (b + 74), .ref (b + 84), .ref (b + 94), .int 1, .int 0, .ref (b + 99), .ref (b + 100), .null, .null, .null, .null, .int 0, .null, .int 0, .int 0, .int 0, .null, .null, .int 0, .int 0])))
  refine ab_gen (fun h293 e294 => ?_)
  have c295 : h293[b]? = some (.inr (12, [.int 0, .ref (b + 1), .int 0, .ref (b + 2), .ref (b + 33), .int 0, .int (-1), .int (-1), .ref (b + 64), .ref (b + 74), .ref (b + 84), .ref (b + 94), .int 1, .int 0, .ref (b + 99), .ref (b + 100), .null, .null, .null, .null, .int 0, .null, .int 0, .int 0, .int 0, .null, .null, .int 0, .int 0])) := ab_self e294 c281
  have c296 : h293[b+1]? = some (.inl (.byte, 6000, .inl (fun _ => 0))) := ab_other e294 (by omega) c282
  have c297 : h293[b+99]? = some (.inl (.int, 256, .inl (fun _ => 0))) := ab_other e294 (by omega) c283
  have c298 : h293[b+100]? = some (.inl (.boolean, 256, .inl (fun _ => 0))) := ab_other e294 (by omega) c280
  have l299 : h293.length = b + 101 := by rw [e294]; exact List.length_set.trans l292
  have f300 : ab_fr (fun i => i = b) h276 h293 := ab_fr_set (ab_fr_rf _ _) e294 rfl
  have kf301 : at_MText h293 (b + 2) (fun _ => 0) (fun _ _ => 0) := fr_MText f300 kf285 (by intro i hi hs; simp only [in_MText] at hi hs <;> omega)
  have kf302 : at_MText h293 (b + 33) (fun _ => 0) (fun _ _ => 0) := fr_MText f300 kf286 (by intro i hi hs; simp only [in_MText] at hi hs <;> omega)
  have kf303 : at_MWorld h293 (b + 64) s0_MW (fun _ _ => 0) := fr_MWorld f300 kf287 (by intro i hi hs; simp only [in_MWorld] at hi hs <;> omega)
  have kf304 : at_MWorld h293 (b + 74) s0_MW (fun _ _ => 0) := fr_MWorld f300 kf288 (by intro i hi hs; simp only [in_MWorld] at hi hs <;> omega)
  have kf305 : at_MWorld h293 (b + 84) s0_MW (fun _ _ => 0) := fr_MWorld f300 kf289 (by intro i hi hs; simp only [in_MWorld] at hi hs <;> omega)
  have kf306 : at_MRunner h293 (b + 94) .null .null .null (fun _ => 0) (fun _ _ => 0) := fr_MRunner f300 kf290 (by intro i hi hs; simp only [in_MRunner] at hi hs <;> omega)
  have fr307 : ab_fr (in_up b) h h293 := ab_fr_set fr291 e294 (by first | (show _ ∧ _; omega) | (show _ ∨ _; omega) | (show _ = _; omega) | (show _ ≤ _; omega))
  clear c281 c282 c283 c280 kf285 kf286 kf287 kf288 kf289 kf290 l292 fr291 e294 f300
  try clear h276
  refine ab_aload_n d_M_init_112 rfl rfl rfl ?_
  refine ab_bipush (v := 64) d_M_init_113 (by decide) ?_
  refine ab_newaL (N := 64) l299 d_M_init_115 rfl (k1 143 rfl rfl) tI (Or.inl rfl) (by decide) (by decide) (by decide) (by decide) (by decide) (fun h308 e309 e310 e311 => ?_)
  have c312 : h308[b + 101]? = some (.inl (.int, 64, .inl (fun _ => 0))) := e310
  have c313 : h308[b]? = some (.inr (12, [.int 0, .ref (b + 1), .int 0, .ref (b + 2), .ref (b + 33), .int 0, .int (-1), .int (-1), .ref (b + 64), .ref (b + 74), .ref (b + 84), .ref (b + 94), .int 1, .int 0, .ref (b + 99), .ref (b + 100), .null, .null, .null, .null, .int 0, .null, .int 0, .int 0, .int 0, .null, .null, .int 0, .int 0])) := (e311 _ (by omega)).trans c295
  have c314 : h308[b+1]? = some (.inl (.byte, 6000, .inl (fun _ => 0))) := (e311 _ (by omega)).trans c296
  have c315 : h308[b+99]? = some (.inl (.int, 256, .inl (fun _ => 0))) := (e311 _ (by omega)).trans c297
  have c316 : h308[b+100]? = some (.inl (.boolean, 256, .inl (fun _ => 0))) := (e311 _ (by omega)).trans c298
  have f317 : ab_fr (fun i => False) h293 h308 := ab_fr_new (ab_fr_rf _ _) e311 e309 l299
  have kf318 : at_MText h308 (b + 2) (fun _ => 0) (fun _ _ => 0) := fr_MText f317 kf301 (by intro i hi hs; simp only [in_MText] at hi hs <;> omega)
  have kf319 : at_MText h308 (b + 33) (fun _ => 0) (fun _ _ => 0) := fr_MText f317 kf302 (by intro i hi hs; simp only [in_MText] at hi hs <;> omega)
  have kf320 : at_MWorld h308 (b + 64) s0_MW (fun _ _ => 0) := fr_MWorld f317 kf303 (by intro i hi hs; simp only [in_MWorld] at hi hs <;> omega)
  have kf321 : at_MWorld h308 (b + 74) s0_MW (fun _ _ => 0) := fr_MWorld f317 kf304 (by intro i hi hs; simp only [in_MWorld] at hi hs <;> omega)
  have kf322 : at_MWorld h308 (b + 84) s0_MW (fun _ _ => 0) := fr_MWorld f317 kf305 (by intro i hi hs; simp only [in_MWorld] at hi hs <;> omega)
  have kf323 : at_MRunner h308 (b + 94) .null .null .null (fun _ => 0) (fun _ _ => 0) := fr_MRunner f317 kf306 (by intro i hi hs; simp only [in_MRunner] at hi hs <;> omega)
  have fr324 : ab_fr (in_up b) h h308 := ab_fr_new fr307 e311 e309 l299
  have l325 : h308.length = b + 102 := e309
  clear c295 c296 c297 c298 kf301 kf302 kf303 kf304 kf305 kf306 e309 e310 e311 f317 l299 fr307
  try clear h293
  refine ab_putF (f := 16) d_M_init_117 c313 rfl (by decide) (k10 9 rfl rfl) rfl rfl rfl rfl (fun _ => rfl) (fun _ => rfl) (Nat.le_of_ble_eq_true rfl) ?_
  show ab_V _ _ _ _ _ _ _ 120 [some (.ref b), some (.int w), none, none] [] (h308.set b (.inr (12, [.int 0, .ref (b + 1), .int 0, .ref (b + 2), .ref (b + 33), .int 0, .int (-1), .int (-1), .ref (b + 64), .ref (b + 74), .ref (b + 84), .ref (b + 94), .int 1, .int 0, .ref (b + 99), .ref (b + 100), .ref (b + 101), .null, .null, .null, .int 0, .null, .int 0, .int 0, .int 0, .null, .null, .int 0, .int 0])))
  refine ab_gen (fun h326 e327 => ?_)
  have c328 : h326[b]? = some (.inr (12, [.int 0, .ref (b + 1), .int 0, .ref (b + 2), .ref (b + 33), .int 0, .int (-1), .int (-1), .ref (b + 64), .ref (b + 74), .ref (b + 84), .ref (b + 94), .int 1, .int 0, .ref (b + 99), .ref (b + 100), .ref (b + 101), .null, .null, .null, .int 0, .null, .int 0, .int 0, .int 0, .null, .null, .int 0, .int 0])) := ab_self e327 c313
  have c329 : h326[b+1]? = some (.inl (.byte, 6000, .inl (fun _ => 0))) := ab_other e327 (by omega) c314
  have c330 : h326[b+99]? = some (.inl (.int, 256, .inl (fun _ => 0))) := ab_other e327 (by omega) c315
  have c331 : h326[b+100]? = some (.inl (.boolean, 256, .inl (fun _ => 0))) := ab_other e327 (by omega) c316
  have c332 : h326[b+101]? = some (.inl (.int, 64, .inl (fun _ => 0))) := ab_other e327 (by omega) c312
  have l333 : h326.length = b + 102 := by rw [e327]; exact List.length_set.trans l325
  have f334 : ab_fr (fun i => i = b) h308 h326 := ab_fr_set (ab_fr_rf _ _) e327 rfl
  have kf335 : at_MText h326 (b + 2) (fun _ => 0) (fun _ _ => 0) := fr_MText f334 kf318 (by intro i hi hs; simp only [in_MText] at hi hs <;> omega)
  have kf336 : at_MText h326 (b + 33) (fun _ => 0) (fun _ _ => 0) := fr_MText f334 kf319 (by intro i hi hs; simp only [in_MText] at hi hs <;> omega)
  have kf337 : at_MWorld h326 (b + 64) s0_MW (fun _ _ => 0) := fr_MWorld f334 kf320 (by intro i hi hs; simp only [in_MWorld] at hi hs <;> omega)
  have kf338 : at_MWorld h326 (b + 74) s0_MW (fun _ _ => 0) := fr_MWorld f334 kf321 (by intro i hi hs; simp only [in_MWorld] at hi hs <;> omega)
  have kf339 : at_MWorld h326 (b + 84) s0_MW (fun _ _ => 0) := fr_MWorld f334 kf322 (by intro i hi hs; simp only [in_MWorld] at hi hs <;> omega)
  have kf340 : at_MRunner h326 (b + 94) .null .null .null (fun _ => 0) (fun _ _ => 0) := fr_MRunner f334 kf323 (by intro i hi hs; simp only [in_MRunner] at hi hs <;> omega)
  have fr341 : ab_fr (in_up b) h h326 := ab_fr_set fr324 e327 (by first | (show _ ∧ _; omega) | (show _ ∨ _; omega) | (show _ = _; omega) | (show _ ≤ _; omega))
  clear c313 c314 c315 c316 c312 kf318 kf319 kf320 kf321 kf322 kf323 l325 fr324 e327 f334
  try clear h308
  refine ab_aload_n d_M_init_120 rfl rfl rfl ?_
  refine ab_iconst (v := 4) d_M_init_121 (by decide) ?_
  refine ab_newaL (N := 4) l333 d_M_init_122 rfl (k1 143 rfl rfl) tI (Or.inl rfl) (by decide) (by decide) (by decide) (by decide) (by decide) (fun h342 e343 e344 e345 => ?_)
  have c346 : h342[b + 102]? = some (.inl (.int, 4, .inl (fun _ => 0))) := e344
  have c347 : h342[b]? = some (.inr (12, [.int 0, .ref (b + 1), .int 0, .ref (b + 2), .ref (b + 33), .int 0, .int (-1), .int (-1), .ref (b + 64), .ref (b + 74), .ref (b + 84), .ref (b + 94), .int 1, .int 0, .ref (b + 99), .ref (b + 100), .ref (b + 101), .null, .null, .null, .int 0, .null, .int 0, .int 0, .int 0, .null, .null, .int 0, .int 0])) := (e345 _ (by omega)).trans c328
  have c348 : h342[b+1]? = some (.inl (.byte, 6000, .inl (fun _ => 0))) := (e345 _ (by omega)).trans c329
  have c349 : h342[b+99]? = some (.inl (.int, 256, .inl (fun _ => 0))) := (e345 _ (by omega)).trans c330
  have c350 : h342[b+100]? = some (.inl (.boolean, 256, .inl (fun _ => 0))) := (e345 _ (by omega)).trans c331
  have c351 : h342[b+101]? = some (.inl (.int, 64, .inl (fun _ => 0))) := (e345 _ (by omega)).trans c332
  have f352 : ab_fr (fun i => False) h326 h342 := ab_fr_new (ab_fr_rf _ _) e345 e343 l333
  have kf353 : at_MText h342 (b + 2) (fun _ => 0) (fun _ _ => 0) := fr_MText f352 kf335 (by intro i hi hs; simp only [in_MText] at hi hs <;> omega)
  have kf354 : at_MText h342 (b + 33) (fun _ => 0) (fun _ _ => 0) := fr_MText f352 kf336 (by intro i hi hs; simp only [in_MText] at hi hs <;> omega)
  have kf355 : at_MWorld h342 (b + 64) s0_MW (fun _ _ => 0) := fr_MWorld f352 kf337 (by intro i hi hs; simp only [in_MWorld] at hi hs <;> omega)
  have kf356 : at_MWorld h342 (b + 74) s0_MW (fun _ _ => 0) := fr_MWorld f352 kf338 (by intro i hi hs; simp only [in_MWorld] at hi hs <;> omega)
  have kf357 : at_MWorld h342 (b + 84) s0_MW (fun _ _ => 0) := fr_MWorld f352 kf339 (by intro i hi hs; simp only [in_MWorld] at hi hs <;> omega)
  have kf358 : at_MRunner h342 (b + 94) .null .null .null (fun _ => 0) (fun _ _ => 0) := fr_MRunner f352 kf340 (by intro i hi hs; simp only [in_MRunner] at hi hs <;> omega)
  have fr359 : ab_fr (in_up b) h h342 := ab_fr_new fr341 e345 e343 l333
  have l360 : h342.length = b + 103 := e343
  clear c328 c329 c330 c331 c332 kf335 kf336 kf337 kf338 kf339 kf340 e343 e344 e345 f352 l333 fr341
  try clear h326
  refine ab_putF (f := 17) d_M_init_124 c347 rfl (by decide) (k10 10 rfl rfl) rfl rfl rfl rfl (fun _ => rfl) (fun _ => rfl) (Nat.le_of_ble_eq_true rfl) ?_
  show ab_V _ _ _ _ _ _ _ 127 [some (.ref b), some (.int w), none, none] [] (h342.set b (.inr (12, [.int 0, .ref (b + 1), .int 0, .ref (b + 2), .ref (b + 33), .int 0, .int (-1), .int (-1), .ref (b + 64), .ref (b + 74), .ref (b + 84), .ref (b + 94), .int 1, .int 0, .ref (b + 99), .ref (b + 100), .ref (b + 101), .ref (b + 102), .null, .null, .int 0, .null, .int 0, .int 0, .int 0, .null, .null, .int 0, .int 0])))
  refine ab_gen (fun h361 e362 => ?_)
  have c363 : h361[b]? = some (.inr (12, [.int 0, .ref (b + 1), .int 0, .ref (b + 2), .ref (b + 33), .int 0, .int (-1), .int (-1), .ref (b + 64), .ref (b + 74), .ref (b + 84), .ref (b + 94), .int 1, .int 0, .ref (b + 99), .ref (b + 100), .ref (b + 101), .ref (b + 102), .null, .null, .int 0, .null, .int 0, .int 0, .int 0, .null, .null, .int 0, .int 0])) := ab_self e362 c347
  have c364 : h361[b+1]? = some (.inl (.byte, 6000, .inl (fun _ => 0))) := ab_other e362 (by omega) c348
  have c365 : h361[b+99]? = some (.inl (.int, 256, .inl (fun _ => 0))) := ab_other e362 (by omega) c349
  have c366 : h361[b+100]? = some (.inl (.boolean, 256, .inl (fun _ => 0))) := ab_other e362 (by omega) c350
  have c367 : h361[b+101]? = some (.inl (.int, 64, .inl (fun _ => 0))) := ab_other e362 (by omega) c351
  have c368 : h361[b+102]? = some (.inl (.int, 4, .inl (fun _ => 0))) := ab_other e362 (by omega) c346
  have l369 : h361.length = b + 103 := by rw [e362]; exact List.length_set.trans l360
  have f370 : ab_fr (fun i => i = b) h342 h361 := ab_fr_set (ab_fr_rf _ _) e362 rfl
  have kf371 : at_MText h361 (b + 2) (fun _ => 0) (fun _ _ => 0) := fr_MText f370 kf353 (by intro i hi hs; simp only [in_MText] at hi hs <;> omega)
  have kf372 : at_MText h361 (b + 33) (fun _ => 0) (fun _ _ => 0) := fr_MText f370 kf354 (by intro i hi hs; simp only [in_MText] at hi hs <;> omega)
  have kf373 : at_MWorld h361 (b + 64) s0_MW (fun _ _ => 0) := fr_MWorld f370 kf355 (by intro i hi hs; simp only [in_MWorld] at hi hs <;> omega)
  have kf374 : at_MWorld h361 (b + 74) s0_MW (fun _ _ => 0) := fr_MWorld f370 kf356 (by intro i hi hs; simp only [in_MWorld] at hi hs <;> omega)
  have kf375 : at_MWorld h361 (b + 84) s0_MW (fun _ _ => 0) := fr_MWorld f370 kf357 (by intro i hi hs; simp only [in_MWorld] at hi hs <;> omega)
  have kf376 : at_MRunner h361 (b + 94) .null .null .null (fun _ => 0) (fun _ _ => 0) := fr_MRunner f370 kf358 (by intro i hi hs; simp only [in_MRunner] at hi hs <;> omega)
  have fr377 : ab_fr (in_up b) h h361 := ab_fr_set fr359 e362 (by first | (show _ ∧ _; omega) | (show _ ∨ _; omega) | (show _ = _; omega) | (show _ ≤ _; omega))
  clear c347 c348 c349 c350 c351 c346 kf353 kf354 kf355 kf356 kf357 kf358 l360 fr359 e362 f370
  try clear h342
  refine ab_aload_n d_M_init_127 rfl rfl rfl ?_
  refine ab_iconst (v := 4) d_M_init_128 (by decide) ?_
  refine ab_newaL (N := 4) l369 d_M_init_129 rfl (k1 143 rfl rfl) tI (Or.inl rfl) (by decide) (by decide) (by decide) (by decide) (by decide) (fun h378 e379 e380 e381 => ?_)
  have c382 : h378[b + 103]? = some (.inl (.int, 4, .inl (fun _ => 0))) := e380
  have c383 : h378[b]? = some (.inr (12, [.int 0, .ref (b + 1), .int 0, .ref (b + 2), .ref (b + 33), .int 0, .int (-1), .int (-1), .ref (b + 64), .ref (b + 74), .ref (b + 84), .ref (b + 94), .int 1, .int 0, .ref (b + 99), .ref (b + 100), .ref (b + 101), .ref (b + 102), .null, .null, .int 0, .null, .int 0, .int 0, .int 0, .null, .null, .int 0, .int 0])) := (e381 _ (by omega)).trans c363
  have c384 : h378[b+1]? = some (.inl (.byte, 6000, .inl (fun _ => 0))) := (e381 _ (by omega)).trans c364
  have c385 : h378[b+99]? = some (.inl (.int, 256, .inl (fun _ => 0))) := (e381 _ (by omega)).trans c365
  have c386 : h378[b+100]? = some (.inl (.boolean, 256, .inl (fun _ => 0))) := (e381 _ (by omega)).trans c366
  have c387 : h378[b+101]? = some (.inl (.int, 64, .inl (fun _ => 0))) := (e381 _ (by omega)).trans c367
  have c388 : h378[b+102]? = some (.inl (.int, 4, .inl (fun _ => 0))) := (e381 _ (by omega)).trans c368
  have f389 : ab_fr (fun i => False) h361 h378 := ab_fr_new (ab_fr_rf _ _) e381 e379 l369
  have kf390 : at_MText h378 (b + 2) (fun _ => 0) (fun _ _ => 0) := fr_MText f389 kf371 (by intro i hi hs; simp only [in_MText] at hi hs <;> omega)
  have kf391 : at_MText h378 (b + 33) (fun _ => 0) (fun _ _ => 0) := fr_MText f389 kf372 (by intro i hi hs; simp only [in_MText] at hi hs <;> omega)
  have kf392 : at_MWorld h378 (b + 64) s0_MW (fun _ _ => 0) := fr_MWorld f389 kf373 (by intro i hi hs; simp only [in_MWorld] at hi hs <;> omega)
  have kf393 : at_MWorld h378 (b + 74) s0_MW (fun _ _ => 0) := fr_MWorld f389 kf374 (by intro i hi hs; simp only [in_MWorld] at hi hs <;> omega)
  have kf394 : at_MWorld h378 (b + 84) s0_MW (fun _ _ => 0) := fr_MWorld f389 kf375 (by intro i hi hs; simp only [in_MWorld] at hi hs <;> omega)
  have kf395 : at_MRunner h378 (b + 94) .null .null .null (fun _ => 0) (fun _ _ => 0) := fr_MRunner f389 kf376 (by intro i hi hs; simp only [in_MRunner] at hi hs <;> omega)
  have fr396 : ab_fr (in_up b) h h378 := ab_fr_new fr377 e381 e379 l369
  have l397 : h378.length = b + 104 := e379
  clear c363 c364 c365 c366 c367 c368 kf371 kf372 kf373 kf374 kf375 kf376 e379 e380 e381 f389 l369 fr377
  try clear h361
  refine ab_putF (f := 18) d_M_init_131 c383 rfl (by decide) (k10 11 rfl rfl) rfl rfl rfl rfl (fun _ => rfl) (fun _ => rfl) (Nat.le_of_ble_eq_true rfl) ?_
  show ab_V _ _ _ _ _ _ _ 134 [some (.ref b), some (.int w), none, none] [] (h378.set b (.inr (12, [.int 0, .ref (b + 1), .int 0, .ref (b + 2), .ref (b + 33), .int 0, .int (-1), .int (-1), .ref (b + 64), .ref (b + 74), .ref (b + 84), .ref (b + 94), .int 1, .int 0, .ref (b + 99), .ref (b + 100), .ref (b + 101), .ref (b + 102), .ref (b + 103), .null, .int 0, .null, .int 0, .int 0, .int 0, .null, .null, .int 0, .int 0])))
  refine ab_gen (fun h398 e399 => ?_)
  have c400 : h398[b]? = some (.inr (12, [.int 0, .ref (b + 1), .int 0, .ref (b + 2), .ref (b + 33), .int 0, .int (-1), .int (-1), .ref (b + 64), .ref (b + 74), .ref (b + 84), .ref (b + 94), .int 1, .int 0, .ref (b + 99), .ref (b + 100), .ref (b + 101), .ref (b + 102), .ref (b + 103), .null, .int 0, .null, .int 0, .int 0, .int 0, .null, .null, .int 0, .int 0])) := ab_self e399 c383
  have c401 : h398[b+1]? = some (.inl (.byte, 6000, .inl (fun _ => 0))) := ab_other e399 (by omega) c384
  have c402 : h398[b+99]? = some (.inl (.int, 256, .inl (fun _ => 0))) := ab_other e399 (by omega) c385
  have c403 : h398[b+100]? = some (.inl (.boolean, 256, .inl (fun _ => 0))) := ab_other e399 (by omega) c386
  have c404 : h398[b+101]? = some (.inl (.int, 64, .inl (fun _ => 0))) := ab_other e399 (by omega) c387
  have c405 : h398[b+102]? = some (.inl (.int, 4, .inl (fun _ => 0))) := ab_other e399 (by omega) c388
  have c406 : h398[b+103]? = some (.inl (.int, 4, .inl (fun _ => 0))) := ab_other e399 (by omega) c382
  have l407 : h398.length = b + 104 := by rw [e399]; exact List.length_set.trans l397
  have f408 : ab_fr (fun i => i = b) h378 h398 := ab_fr_set (ab_fr_rf _ _) e399 rfl
  have kf409 : at_MText h398 (b + 2) (fun _ => 0) (fun _ _ => 0) := fr_MText f408 kf390 (by intro i hi hs; simp only [in_MText] at hi hs <;> omega)
  have kf410 : at_MText h398 (b + 33) (fun _ => 0) (fun _ _ => 0) := fr_MText f408 kf391 (by intro i hi hs; simp only [in_MText] at hi hs <;> omega)
  have kf411 : at_MWorld h398 (b + 64) s0_MW (fun _ _ => 0) := fr_MWorld f408 kf392 (by intro i hi hs; simp only [in_MWorld] at hi hs <;> omega)
  have kf412 : at_MWorld h398 (b + 74) s0_MW (fun _ _ => 0) := fr_MWorld f408 kf393 (by intro i hi hs; simp only [in_MWorld] at hi hs <;> omega)
  have kf413 : at_MWorld h398 (b + 84) s0_MW (fun _ _ => 0) := fr_MWorld f408 kf394 (by intro i hi hs; simp only [in_MWorld] at hi hs <;> omega)
  have kf414 : at_MRunner h398 (b + 94) .null .null .null (fun _ => 0) (fun _ _ => 0) := fr_MRunner f408 kf395 (by intro i hi hs; simp only [in_MRunner] at hi hs <;> omega)
  have fr415 : ab_fr (in_up b) h h398 := ab_fr_set fr396 e399 (by first | (show _ ∧ _; omega) | (show _ ∨ _; omega) | (show _ = _; omega) | (show _ ≤ _; omega))
  clear c383 c384 c385 c386 c387 c388 c382 kf390 kf391 kf392 kf393 kf394 kf395 l397 fr396 e399 f408
  try clear h378
  refine ab_aload_n d_M_init_134 rfl rfl rfl ?_
  refine ab_sipush (v := 256) d_M_init_135 (by decide) ?_
  refine ab_newaL (N := 256) l407 d_M_init_138 rfl (k1 143 rfl rfl) tI (Or.inl rfl) (by decide) (by decide) (by decide) (by decide) (by decide) (fun h416 e417 e418 e419 => ?_)
  have c420 : h416[b + 104]? = some (.inl (.int, 256, .inl (fun _ => 0))) := e418
  have c421 : h416[b]? = some (.inr (12, [.int 0, .ref (b + 1), .int 0, .ref (b + 2), .ref (b + 33), .int 0, .int (-1), .int (-1), .ref (b + 64), .ref (b + 74), .ref (b + 84), .ref (b + 94), .int 1, .int 0, .ref (b + 99), .ref (b + 100), .ref (b + 101), .ref (b + 102), .ref (b + 103), .null, .int 0, .null, .int 0, .int 0, .int 0, .null, .null, .int 0, .int 0])) := (e419 _ (by omega)).trans c400
  have c422 : h416[b+1]? = some (.inl (.byte, 6000, .inl (fun _ => 0))) := (e419 _ (by omega)).trans c401
  have c423 : h416[b+99]? = some (.inl (.int, 256, .inl (fun _ => 0))) := (e419 _ (by omega)).trans c402
  have c424 : h416[b+100]? = some (.inl (.boolean, 256, .inl (fun _ => 0))) := (e419 _ (by omega)).trans c403
  have c425 : h416[b+101]? = some (.inl (.int, 64, .inl (fun _ => 0))) := (e419 _ (by omega)).trans c404
  have c426 : h416[b+102]? = some (.inl (.int, 4, .inl (fun _ => 0))) := (e419 _ (by omega)).trans c405
  have c427 : h416[b+103]? = some (.inl (.int, 4, .inl (fun _ => 0))) := (e419 _ (by omega)).trans c406
  have f428 : ab_fr (fun i => False) h398 h416 := ab_fr_new (ab_fr_rf _ _) e419 e417 l407
  have kf429 : at_MText h416 (b + 2) (fun _ => 0) (fun _ _ => 0) := fr_MText f428 kf409 (by intro i hi hs; simp only [in_MText] at hi hs <;> omega)
  have kf430 : at_MText h416 (b + 33) (fun _ => 0) (fun _ _ => 0) := fr_MText f428 kf410 (by intro i hi hs; simp only [in_MText] at hi hs <;> omega)
  have kf431 : at_MWorld h416 (b + 64) s0_MW (fun _ _ => 0) := fr_MWorld f428 kf411 (by intro i hi hs; simp only [in_MWorld] at hi hs <;> omega)
  have kf432 : at_MWorld h416 (b + 74) s0_MW (fun _ _ => 0) := fr_MWorld f428 kf412 (by intro i hi hs; simp only [in_MWorld] at hi hs <;> omega)
  have kf433 : at_MWorld h416 (b + 84) s0_MW (fun _ _ => 0) := fr_MWorld f428 kf413 (by intro i hi hs; simp only [in_MWorld] at hi hs <;> omega)
  have kf434 : at_MRunner h416 (b + 94) .null .null .null (fun _ => 0) (fun _ _ => 0) := fr_MRunner f428 kf414 (by intro i hi hs; simp only [in_MRunner] at hi hs <;> omega)
  have fr435 : ab_fr (in_up b) h h416 := ab_fr_new fr415 e419 e417 l407
  have l436 : h416.length = b + 105 := e417
  clear c400 c401 c402 c403 c404 c405 c406 kf409 kf410 kf411 kf412 kf413 kf414 e417 e418 e419 f428 l407 fr415
  try clear h398
  refine ab_putF (f := 19) d_M_init_140 c421 rfl (by decide) (k10 12 rfl rfl) rfl rfl rfl rfl (fun _ => rfl) (fun _ => rfl) (Nat.le_of_ble_eq_true rfl) ?_
  show ab_V _ _ _ _ _ _ _ 143 [some (.ref b), some (.int w), none, none] [] (h416.set b (.inr (12, [.int 0, .ref (b + 1), .int 0, .ref (b + 2), .ref (b + 33), .int 0, .int (-1), .int (-1), .ref (b + 64), .ref (b + 74), .ref (b + 84), .ref (b + 94), .int 1, .int 0, .ref (b + 99), .ref (b + 100), .ref (b + 101), .ref (b + 102), .ref (b + 103), .ref (b + 104), .int 0, .null, .int 0, .int 0, .int 0, .null, .null, .int 0, .int 0])))
  refine ab_gen (fun h437 e438 => ?_)
  have c439 : h437[b]? = some (.inr (12, [.int 0, .ref (b + 1), .int 0, .ref (b + 2), .ref (b + 33), .int 0, .int (-1), .int (-1), .ref (b + 64), .ref (b + 74), .ref (b + 84), .ref (b + 94), .int 1, .int 0, .ref (b + 99), .ref (b + 100), .ref (b + 101), .ref (b + 102), .ref (b + 103), .ref (b + 104), .int 0, .null, .int 0, .int 0, .int 0, .null, .null, .int 0, .int 0])) := ab_self e438 c421
  have c440 : h437[b+1]? = some (.inl (.byte, 6000, .inl (fun _ => 0))) := ab_other e438 (by omega) c422
  have c441 : h437[b+99]? = some (.inl (.int, 256, .inl (fun _ => 0))) := ab_other e438 (by omega) c423
  have c442 : h437[b+100]? = some (.inl (.boolean, 256, .inl (fun _ => 0))) := ab_other e438 (by omega) c424
  have c443 : h437[b+101]? = some (.inl (.int, 64, .inl (fun _ => 0))) := ab_other e438 (by omega) c425
  have c444 : h437[b+102]? = some (.inl (.int, 4, .inl (fun _ => 0))) := ab_other e438 (by omega) c426
  have c445 : h437[b+103]? = some (.inl (.int, 4, .inl (fun _ => 0))) := ab_other e438 (by omega) c427
  have c446 : h437[b+104]? = some (.inl (.int, 256, .inl (fun _ => 0))) := ab_other e438 (by omega) c420
  have l447 : h437.length = b + 105 := by rw [e438]; exact List.length_set.trans l436
  have f448 : ab_fr (fun i => i = b) h416 h437 := ab_fr_set (ab_fr_rf _ _) e438 rfl
  have kf449 : at_MText h437 (b + 2) (fun _ => 0) (fun _ _ => 0) := fr_MText f448 kf429 (by intro i hi hs; simp only [in_MText] at hi hs <;> omega)
  have kf450 : at_MText h437 (b + 33) (fun _ => 0) (fun _ _ => 0) := fr_MText f448 kf430 (by intro i hi hs; simp only [in_MText] at hi hs <;> omega)
  have kf451 : at_MWorld h437 (b + 64) s0_MW (fun _ _ => 0) := fr_MWorld f448 kf431 (by intro i hi hs; simp only [in_MWorld] at hi hs <;> omega)
  have kf452 : at_MWorld h437 (b + 74) s0_MW (fun _ _ => 0) := fr_MWorld f448 kf432 (by intro i hi hs; simp only [in_MWorld] at hi hs <;> omega)
  have kf453 : at_MWorld h437 (b + 84) s0_MW (fun _ _ => 0) := fr_MWorld f448 kf433 (by intro i hi hs; simp only [in_MWorld] at hi hs <;> omega)
  have kf454 : at_MRunner h437 (b + 94) .null .null .null (fun _ => 0) (fun _ _ => 0) := fr_MRunner f448 kf434 (by intro i hi hs; simp only [in_MRunner] at hi hs <;> omega)
  have fr455 : ab_fr (in_up b) h h437 := ab_fr_set fr435 e438 (by first | (show _ ∧ _; omega) | (show _ ∨ _; omega) | (show _ = _; omega) | (show _ ≤ _; omega))
  clear c421 c422 c423 c424 c425 c426 c427 c420 kf429 kf430 kf431 kf432 kf433 kf434 l436 fr435 e438 f448
  try clear h416
  refine ab_aload_n d_M_init_143 rfl rfl rfl ?_
  refine ab_ldc d_M_init_144 (k9 232 rfl rfl) ?_
  refine ab_newaL (N := 58000) l447 d_M_init_146 rfl (k1 142 rfl rfl) tB (Or.inr (Or.inl rfl)) (by decide) (by decide) (by decide) (by decide) (by decide) (fun h456 e457 e458 e459 => ?_)
  have c460 : h456[b + 105]? = some (.inl (.byte, 58000, .inl (fun _ => 0))) := e458
  have c461 : h456[b]? = some (.inr (12, [.int 0, .ref (b + 1), .int 0, .ref (b + 2), .ref (b + 33), .int 0, .int (-1), .int (-1), .ref (b + 64), .ref (b + 74), .ref (b + 84), .ref (b + 94), .int 1, .int 0, .ref (b + 99), .ref (b + 100), .ref (b + 101), .ref (b + 102), .ref (b + 103), .ref (b + 104), .int 0, .null, .int 0, .int 0, .int 0, .null, .null, .int 0, .int 0])) := (e459 _ (by omega)).trans c439
  have c462 : h456[b+1]? = some (.inl (.byte, 6000, .inl (fun _ => 0))) := (e459 _ (by omega)).trans c440
  have c463 : h456[b+99]? = some (.inl (.int, 256, .inl (fun _ => 0))) := (e459 _ (by omega)).trans c441
  have c464 : h456[b+100]? = some (.inl (.boolean, 256, .inl (fun _ => 0))) := (e459 _ (by omega)).trans c442
  have c465 : h456[b+101]? = some (.inl (.int, 64, .inl (fun _ => 0))) := (e459 _ (by omega)).trans c443
  have c466 : h456[b+102]? = some (.inl (.int, 4, .inl (fun _ => 0))) := (e459 _ (by omega)).trans c444
  have c467 : h456[b+103]? = some (.inl (.int, 4, .inl (fun _ => 0))) := (e459 _ (by omega)).trans c445
  have c468 : h456[b+104]? = some (.inl (.int, 256, .inl (fun _ => 0))) := (e459 _ (by omega)).trans c446
  have f469 : ab_fr (fun i => False) h437 h456 := ab_fr_new (ab_fr_rf _ _) e459 e457 l447
  have kf470 : at_MText h456 (b + 2) (fun _ => 0) (fun _ _ => 0) := fr_MText f469 kf449 (by intro i hi hs; simp only [in_MText] at hi hs <;> omega)
  have kf471 : at_MText h456 (b + 33) (fun _ => 0) (fun _ _ => 0) := fr_MText f469 kf450 (by intro i hi hs; simp only [in_MText] at hi hs <;> omega)
  have kf472 : at_MWorld h456 (b + 64) s0_MW (fun _ _ => 0) := fr_MWorld f469 kf451 (by intro i hi hs; simp only [in_MWorld] at hi hs <;> omega)
  have kf473 : at_MWorld h456 (b + 74) s0_MW (fun _ _ => 0) := fr_MWorld f469 kf452 (by intro i hi hs; simp only [in_MWorld] at hi hs <;> omega)
  have kf474 : at_MWorld h456 (b + 84) s0_MW (fun _ _ => 0) := fr_MWorld f469 kf453 (by intro i hi hs; simp only [in_MWorld] at hi hs <;> omega)
  have kf475 : at_MRunner h456 (b + 94) .null .null .null (fun _ => 0) (fun _ _ => 0) := fr_MRunner f469 kf454 (by intro i hi hs; simp only [in_MRunner] at hi hs <;> omega)
  have fr476 : ab_fr (in_up b) h h456 := ab_fr_new fr455 e459 e457 l447
  have l477 : h456.length = b + 106 := e457
  clear c439 c440 c441 c442 c443 c444 c445 c446 kf449 kf450 kf451 kf452 kf453 kf454 e457 e458 e459 f469 l447 fr455
  try clear h437
  refine ab_putF (f := 21) d_M_init_148 c461 rfl (by decide) (k10 14 rfl rfl) rfl rfl rfl rfl (fun _ => rfl) (fun _ => rfl) (Nat.le_of_ble_eq_true rfl) ?_
  show ab_V _ _ _ _ _ _ _ 151 [some (.ref b), some (.int w), none, none] [] (h456.set b (.inr (12, [.int 0, .ref (b + 1), .int 0, .ref (b + 2), .ref (b + 33), .int 0, .int (-1), .int (-1), .ref (b + 64), .ref (b + 74), .ref (b + 84), .ref (b + 94), .int 1, .int 0, .ref (b + 99), .ref (b + 100), .ref (b + 101), .ref (b + 102), .ref (b + 103), .ref (b + 104), .int 0, .ref (b + 105), .int 0, .int 0, .int 0, .null, .null, .int 0, .int 0])))
  refine ab_gen (fun h478 e479 => ?_)
  have c480 : h478[b]? = some (.inr (12, [.int 0, .ref (b + 1), .int 0, .ref (b + 2), .ref (b + 33), .int 0, .int (-1), .int (-1), .ref (b + 64), .ref (b + 74), .ref (b + 84), .ref (b + 94), .int 1, .int 0, .ref (b + 99), .ref (b + 100), .ref (b + 101), .ref (b + 102), .ref (b + 103), .ref (b + 104), .int 0, .ref (b + 105), .int 0, .int 0, .int 0, .null, .null, .int 0, .int 0])) := ab_self e479 c461
  have c481 : h478[b+1]? = some (.inl (.byte, 6000, .inl (fun _ => 0))) := ab_other e479 (by omega) c462
  have c482 : h478[b+99]? = some (.inl (.int, 256, .inl (fun _ => 0))) := ab_other e479 (by omega) c463
  have c483 : h478[b+100]? = some (.inl (.boolean, 256, .inl (fun _ => 0))) := ab_other e479 (by omega) c464
  have c484 : h478[b+101]? = some (.inl (.int, 64, .inl (fun _ => 0))) := ab_other e479 (by omega) c465
  have c485 : h478[b+102]? = some (.inl (.int, 4, .inl (fun _ => 0))) := ab_other e479 (by omega) c466
  have c486 : h478[b+103]? = some (.inl (.int, 4, .inl (fun _ => 0))) := ab_other e479 (by omega) c467
  have c487 : h478[b+104]? = some (.inl (.int, 256, .inl (fun _ => 0))) := ab_other e479 (by omega) c468
  have c488 : h478[b+105]? = some (.inl (.byte, 58000, .inl (fun _ => 0))) := ab_other e479 (by omega) c460
  have l489 : h478.length = b + 106 := by rw [e479]; exact List.length_set.trans l477
  have f490 : ab_fr (fun i => i = b) h456 h478 := ab_fr_set (ab_fr_rf _ _) e479 rfl
  have kf491 : at_MText h478 (b + 2) (fun _ => 0) (fun _ _ => 0) := fr_MText f490 kf470 (by intro i hi hs; simp only [in_MText] at hi hs <;> omega)
  have kf492 : at_MText h478 (b + 33) (fun _ => 0) (fun _ _ => 0) := fr_MText f490 kf471 (by intro i hi hs; simp only [in_MText] at hi hs <;> omega)
  have kf493 : at_MWorld h478 (b + 64) s0_MW (fun _ _ => 0) := fr_MWorld f490 kf472 (by intro i hi hs; simp only [in_MWorld] at hi hs <;> omega)
  have kf494 : at_MWorld h478 (b + 74) s0_MW (fun _ _ => 0) := fr_MWorld f490 kf473 (by intro i hi hs; simp only [in_MWorld] at hi hs <;> omega)
  have kf495 : at_MWorld h478 (b + 84) s0_MW (fun _ _ => 0) := fr_MWorld f490 kf474 (by intro i hi hs; simp only [in_MWorld] at hi hs <;> omega)
  have kf496 : at_MRunner h478 (b + 94) .null .null .null (fun _ => 0) (fun _ _ => 0) := fr_MRunner f490 kf475 (by intro i hi hs; simp only [in_MRunner] at hi hs <;> omega)
  have fr497 : ab_fr (in_up b) h h478 := ab_fr_set fr476 e479 (by first | (show _ ∧ _; omega) | (show _ ∨ _; omega) | (show _ = _; omega) | (show _ ≤ _; omega))
  clear c461 c462 c463 c464 c465 c466 c467 c468 c460 kf470 kf471 kf472 kf473 kf474 kf475 l477 fr476 e479 f490
  try clear h456
  refine ab_aload_n d_M_init_151 rfl rfl rfl ?_
  refine ab_bipush (v := 8) d_M_init_152 (by decide) ?_
  refine ab_newaL (N := 8) l489 d_M_init_154 rfl (k1 144 rfl rfl) tZ (Or.inr (Or.inr (Or.inl rfl))) (by decide) (by decide) (by decide) (by decide) (by decide) (fun h498 e499 e500 e501 => ?_)
  have c502 : h498[b + 106]? = some (.inl (.boolean, 8, .inl (fun _ => 0))) := e500
  have c503 : h498[b]? = some (.inr (12, [.int 0, .ref (b + 1), .int 0, .ref (b + 2), .ref (b + 33), .int 0, .int (-1), .int (-1), .ref (b + 64), .ref (b + 74), .ref (b + 84), .ref (b + 94), .int 1, .int 0, .ref (b + 99), .ref (b + 100), .ref (b + 101), .ref (b + 102), .ref (b + 103), .ref (b + 104), .int 0, .ref (b + 105), .int 0, .int 0, .int 0, .null, .null, .int 0, .int 0])) := (e501 _ (by omega)).trans c480
  have c504 : h498[b+1]? = some (.inl (.byte, 6000, .inl (fun _ => 0))) := (e501 _ (by omega)).trans c481
  have c505 : h498[b+99]? = some (.inl (.int, 256, .inl (fun _ => 0))) := (e501 _ (by omega)).trans c482
  have c506 : h498[b+100]? = some (.inl (.boolean, 256, .inl (fun _ => 0))) := (e501 _ (by omega)).trans c483
  have c507 : h498[b+101]? = some (.inl (.int, 64, .inl (fun _ => 0))) := (e501 _ (by omega)).trans c484
  have c508 : h498[b+102]? = some (.inl (.int, 4, .inl (fun _ => 0))) := (e501 _ (by omega)).trans c485
  have c509 : h498[b+103]? = some (.inl (.int, 4, .inl (fun _ => 0))) := (e501 _ (by omega)).trans c486
  have c510 : h498[b+104]? = some (.inl (.int, 256, .inl (fun _ => 0))) := (e501 _ (by omega)).trans c487
  have c511 : h498[b+105]? = some (.inl (.byte, 58000, .inl (fun _ => 0))) := (e501 _ (by omega)).trans c488
  have f512 : ab_fr (fun i => False) h478 h498 := ab_fr_new (ab_fr_rf _ _) e501 e499 l489
  have kf513 : at_MText h498 (b + 2) (fun _ => 0) (fun _ _ => 0) := fr_MText f512 kf491 (by intro i hi hs; simp only [in_MText] at hi hs <;> omega)
  have kf514 : at_MText h498 (b + 33) (fun _ => 0) (fun _ _ => 0) := fr_MText f512 kf492 (by intro i hi hs; simp only [in_MText] at hi hs <;> omega)
  have kf515 : at_MWorld h498 (b + 64) s0_MW (fun _ _ => 0) := fr_MWorld f512 kf493 (by intro i hi hs; simp only [in_MWorld] at hi hs <;> omega)
  have kf516 : at_MWorld h498 (b + 74) s0_MW (fun _ _ => 0) := fr_MWorld f512 kf494 (by intro i hi hs; simp only [in_MWorld] at hi hs <;> omega)
  have kf517 : at_MWorld h498 (b + 84) s0_MW (fun _ _ => 0) := fr_MWorld f512 kf495 (by intro i hi hs; simp only [in_MWorld] at hi hs <;> omega)
  have kf518 : at_MRunner h498 (b + 94) .null .null .null (fun _ => 0) (fun _ _ => 0) := fr_MRunner f512 kf496 (by intro i hi hs; simp only [in_MRunner] at hi hs <;> omega)
  have fr519 : ab_fr (in_up b) h h498 := ab_fr_new fr497 e501 e499 l489
  have l520 : h498.length = b + 107 := e499
  clear c480 c481 c482 c483 c484 c485 c486 c487 c488 kf491 kf492 kf493 kf494 kf495 kf496 e499 e500 e501 f512 l489 fr497
  try clear h478
  refine ab_putF (f := 25) d_M_init_156 c503 rfl (by decide) (k10 18 rfl rfl) rfl rfl rfl rfl (fun _ => rfl) (fun _ => rfl) (Nat.le_of_ble_eq_true rfl) ?_
  show ab_V _ _ _ _ _ _ _ 159 [some (.ref b), some (.int w), none, none] [] (h498.set b (.inr (12, [.int 0, .ref (b + 1), .int 0, .ref (b + 2), .ref (b + 33), .int 0, .int (-1), .int (-1), .ref (b + 64), .ref (b + 74), .ref (b + 84), .ref (b + 94), .int 1, .int 0, .ref (b + 99), .ref (b + 100), .ref (b + 101), .ref (b + 102), .ref (b + 103), .ref (b + 104), .int 0, .ref (b + 105), .int 0, .int 0, .int 0, .ref (b + 106), .null, .int 0, .int 0])))
  refine ab_gen (fun h521 e522 => ?_)
  have c523 : h521[b]? = some (.inr (12, [.int 0, .ref (b + 1), .int 0, .ref (b + 2), .ref (b + 33), .int 0, .int (-1), .int (-1), .ref (b + 64), .ref (b + 74), .ref (b + 84), .ref (b + 94), .int 1, .int 0, .ref (b + 99), .ref (b + 100), .ref (b + 101), .ref (b + 102), .ref (b + 103), .ref (b + 104), .int 0, .ref (b + 105), .int 0, .int 0, .int 0, .ref (b + 106), .null, .int 0, .int 0])) := ab_self e522 c503
  have c524 : h521[b+1]? = some (.inl (.byte, 6000, .inl (fun _ => 0))) := ab_other e522 (by omega) c504
  have c525 : h521[b+99]? = some (.inl (.int, 256, .inl (fun _ => 0))) := ab_other e522 (by omega) c505
  have c526 : h521[b+100]? = some (.inl (.boolean, 256, .inl (fun _ => 0))) := ab_other e522 (by omega) c506
  have c527 : h521[b+101]? = some (.inl (.int, 64, .inl (fun _ => 0))) := ab_other e522 (by omega) c507
  have c528 : h521[b+102]? = some (.inl (.int, 4, .inl (fun _ => 0))) := ab_other e522 (by omega) c508
  have c529 : h521[b+103]? = some (.inl (.int, 4, .inl (fun _ => 0))) := ab_other e522 (by omega) c509
  have c530 : h521[b+104]? = some (.inl (.int, 256, .inl (fun _ => 0))) := ab_other e522 (by omega) c510
  have c531 : h521[b+105]? = some (.inl (.byte, 58000, .inl (fun _ => 0))) := ab_other e522 (by omega) c511
  have c532 : h521[b+106]? = some (.inl (.boolean, 8, .inl (fun _ => 0))) := ab_other e522 (by omega) c502
  have l533 : h521.length = b + 107 := by rw [e522]; exact List.length_set.trans l520
  have f534 : ab_fr (fun i => i = b) h498 h521 := ab_fr_set (ab_fr_rf _ _) e522 rfl
  have kf535 : at_MText h521 (b + 2) (fun _ => 0) (fun _ _ => 0) := fr_MText f534 kf513 (by intro i hi hs; simp only [in_MText] at hi hs <;> omega)
  have kf536 : at_MText h521 (b + 33) (fun _ => 0) (fun _ _ => 0) := fr_MText f534 kf514 (by intro i hi hs; simp only [in_MText] at hi hs <;> omega)
  have kf537 : at_MWorld h521 (b + 64) s0_MW (fun _ _ => 0) := fr_MWorld f534 kf515 (by intro i hi hs; simp only [in_MWorld] at hi hs <;> omega)
  have kf538 : at_MWorld h521 (b + 74) s0_MW (fun _ _ => 0) := fr_MWorld f534 kf516 (by intro i hi hs; simp only [in_MWorld] at hi hs <;> omega)
  have kf539 : at_MWorld h521 (b + 84) s0_MW (fun _ _ => 0) := fr_MWorld f534 kf517 (by intro i hi hs; simp only [in_MWorld] at hi hs <;> omega)
  have kf540 : at_MRunner h521 (b + 94) .null .null .null (fun _ => 0) (fun _ _ => 0) := fr_MRunner f534 kf518 (by intro i hi hs; simp only [in_MRunner] at hi hs <;> omega)
  have fr541 : ab_fr (in_up b) h h521 := ab_fr_set fr519 e522 (by first | (show _ ∧ _; omega) | (show _ ∨ _; omega) | (show _ = _; omega) | (show _ ≤ _; omega))
  clear c503 c504 c505 c506 c507 c508 c509 c510 c511 c502 kf513 kf514 kf515 kf516 kf517 kf518 l520 fr519 e522 f534
  try clear h498
  refine ab_aload_n d_M_init_159 rfl rfl rfl ?_
  refine ab_bipush (v := 8) d_M_init_160 (by decide) ?_
  refine ab_newaL (N := 8) l533 d_M_init_162 rfl (k1 144 rfl rfl) tZ (Or.inr (Or.inr (Or.inl rfl))) (by decide) (by decide) (by decide) (by decide) (by decide) (fun h542 e543 e544 e545 => ?_)
  have c546 : h542[b + 107]? = some (.inl (.boolean, 8, .inl (fun _ => 0))) := e544
  have c547 : h542[b]? = some (.inr (12, [.int 0, .ref (b + 1), .int 0, .ref (b + 2), .ref (b + 33), .int 0, .int (-1), .int (-1), .ref (b + 64), .ref (b + 74), .ref (b + 84), .ref (b + 94), .int 1, .int 0, .ref (b + 99), .ref (b + 100), .ref (b + 101), .ref (b + 102), .ref (b + 103), .ref (b + 104), .int 0, .ref (b + 105), .int 0, .int 0, .int 0, .ref (b + 106), .null, .int 0, .int 0])) := (e545 _ (by omega)).trans c523
  have c548 : h542[b+1]? = some (.inl (.byte, 6000, .inl (fun _ => 0))) := (e545 _ (by omega)).trans c524
  have c549 : h542[b+99]? = some (.inl (.int, 256, .inl (fun _ => 0))) := (e545 _ (by omega)).trans c525
  have c550 : h542[b+100]? = some (.inl (.boolean, 256, .inl (fun _ => 0))) := (e545 _ (by omega)).trans c526
  have c551 : h542[b+101]? = some (.inl (.int, 64, .inl (fun _ => 0))) := (e545 _ (by omega)).trans c527
  have c552 : h542[b+102]? = some (.inl (.int, 4, .inl (fun _ => 0))) := (e545 _ (by omega)).trans c528
  have c553 : h542[b+103]? = some (.inl (.int, 4, .inl (fun _ => 0))) := (e545 _ (by omega)).trans c529
  have c554 : h542[b+104]? = some (.inl (.int, 256, .inl (fun _ => 0))) := (e545 _ (by omega)).trans c530
  have c555 : h542[b+105]? = some (.inl (.byte, 58000, .inl (fun _ => 0))) := (e545 _ (by omega)).trans c531
  have c556 : h542[b+106]? = some (.inl (.boolean, 8, .inl (fun _ => 0))) := (e545 _ (by omega)).trans c532
  have f557 : ab_fr (fun i => False) h521 h542 := ab_fr_new (ab_fr_rf _ _) e545 e543 l533
  have kf558 : at_MText h542 (b + 2) (fun _ => 0) (fun _ _ => 0) := fr_MText f557 kf535 (by intro i hi hs; simp only [in_MText] at hi hs <;> omega)
  have kf559 : at_MText h542 (b + 33) (fun _ => 0) (fun _ _ => 0) := fr_MText f557 kf536 (by intro i hi hs; simp only [in_MText] at hi hs <;> omega)
  have kf560 : at_MWorld h542 (b + 64) s0_MW (fun _ _ => 0) := fr_MWorld f557 kf537 (by intro i hi hs; simp only [in_MWorld] at hi hs <;> omega)
  have kf561 : at_MWorld h542 (b + 74) s0_MW (fun _ _ => 0) := fr_MWorld f557 kf538 (by intro i hi hs; simp only [in_MWorld] at hi hs <;> omega)
  have kf562 : at_MWorld h542 (b + 84) s0_MW (fun _ _ => 0) := fr_MWorld f557 kf539 (by intro i hi hs; simp only [in_MWorld] at hi hs <;> omega)
  have kf563 : at_MRunner h542 (b + 94) .null .null .null (fun _ => 0) (fun _ _ => 0) := fr_MRunner f557 kf540 (by intro i hi hs; simp only [in_MRunner] at hi hs <;> omega)
  have fr564 : ab_fr (in_up b) h h542 := ab_fr_new fr541 e545 e543 l533
  have l565 : h542.length = b + 108 := e543
  clear c523 c524 c525 c526 c527 c528 c529 c530 c531 c532 kf535 kf536 kf537 kf538 kf539 kf540 e543 e544 e545 f557 l533 fr541
  try clear h521
  refine ab_putF (f := 26) d_M_init_164 c547 rfl (by decide) (k10 19 rfl rfl) rfl rfl rfl rfl (fun _ => rfl) (fun _ => rfl) (Nat.le_of_ble_eq_true rfl) ?_
  show ab_V _ _ _ _ _ _ _ 167 [some (.ref b), some (.int w), none, none] [] (h542.set b (.inr (12, [.int 0, .ref (b + 1), .int 0, .ref (b + 2), .ref (b + 33), .int 0, .int (-1), .int (-1), .ref (b + 64), .ref (b + 74), .ref (b + 84), .ref (b + 94), .int 1, .int 0, .ref (b + 99), .ref (b + 100), .ref (b + 101), .ref (b + 102), .ref (b + 103), .ref (b + 104), .int 0, .ref (b + 105), .int 0, .int 0, .int 0, .ref (b + 106), .ref (b + 107), .int 0, .int 0])))
  refine ab_gen (fun h566 e567 => ?_)
  have c568 : h566[b]? = some (.inr (12, [.int 0, .ref (b + 1), .int 0, .ref (b + 2), .ref (b + 33), .int 0, .int (-1), .int (-1), .ref (b + 64), .ref (b + 74), .ref (b + 84), .ref (b + 94), .int 1, .int 0, .ref (b + 99), .ref (b + 100), .ref (b + 101), .ref (b + 102), .ref (b + 103), .ref (b + 104), .int 0, .ref (b + 105), .int 0, .int 0, .int 0, .ref (b + 106), .ref (b + 107), .int 0, .int 0])) := ab_self e567 c547
  have c569 : h566[b+1]? = some (.inl (.byte, 6000, .inl (fun _ => 0))) := ab_other e567 (by omega) c548
  have c570 : h566[b+99]? = some (.inl (.int, 256, .inl (fun _ => 0))) := ab_other e567 (by omega) c549
  have c571 : h566[b+100]? = some (.inl (.boolean, 256, .inl (fun _ => 0))) := ab_other e567 (by omega) c550
  have c572 : h566[b+101]? = some (.inl (.int, 64, .inl (fun _ => 0))) := ab_other e567 (by omega) c551
  have c573 : h566[b+102]? = some (.inl (.int, 4, .inl (fun _ => 0))) := ab_other e567 (by omega) c552
  have c574 : h566[b+103]? = some (.inl (.int, 4, .inl (fun _ => 0))) := ab_other e567 (by omega) c553
  have c575 : h566[b+104]? = some (.inl (.int, 256, .inl (fun _ => 0))) := ab_other e567 (by omega) c554
  have c576 : h566[b+105]? = some (.inl (.byte, 58000, .inl (fun _ => 0))) := ab_other e567 (by omega) c555
  have c577 : h566[b+106]? = some (.inl (.boolean, 8, .inl (fun _ => 0))) := ab_other e567 (by omega) c556
  have c578 : h566[b+107]? = some (.inl (.boolean, 8, .inl (fun _ => 0))) := ab_other e567 (by omega) c546
  have l579 : h566.length = b + 108 := by rw [e567]; exact List.length_set.trans l565
  have f580 : ab_fr (fun i => i = b) h542 h566 := ab_fr_set (ab_fr_rf _ _) e567 rfl
  have kf581 : at_MText h566 (b + 2) (fun _ => 0) (fun _ _ => 0) := fr_MText f580 kf558 (by intro i hi hs; simp only [in_MText] at hi hs <;> omega)
  have kf582 : at_MText h566 (b + 33) (fun _ => 0) (fun _ _ => 0) := fr_MText f580 kf559 (by intro i hi hs; simp only [in_MText] at hi hs <;> omega)
  have kf583 : at_MWorld h566 (b + 64) s0_MW (fun _ _ => 0) := fr_MWorld f580 kf560 (by intro i hi hs; simp only [in_MWorld] at hi hs <;> omega)
  have kf584 : at_MWorld h566 (b + 74) s0_MW (fun _ _ => 0) := fr_MWorld f580 kf561 (by intro i hi hs; simp only [in_MWorld] at hi hs <;> omega)
  have kf585 : at_MWorld h566 (b + 84) s0_MW (fun _ _ => 0) := fr_MWorld f580 kf562 (by intro i hi hs; simp only [in_MWorld] at hi hs <;> omega)
  have kf586 : at_MRunner h566 (b + 94) .null .null .null (fun _ => 0) (fun _ _ => 0) := fr_MRunner f580 kf563 (by intro i hi hs; simp only [in_MRunner] at hi hs <;> omega)
  have fr587 : ab_fr (in_up b) h h566 := ab_fr_set fr564 e567 (by first | (show _ ∧ _; omega) | (show _ ∨ _; omega) | (show _ = _; omega) | (show _ ≤ _; omega))
  clear c547 c548 c549 c550 c551 c552 c553 c554 c555 c556 c546 kf558 kf559 kf560 kf561 kf562 kf563 l565 fr564 e567 f580
  try clear h542
  refine ab_iload_n d_M_init_167 rfl rfl ?_
  refine ab_iconst (v := 1) d_M_init_168 (by decide) ?_
  refine ab_icmp_ge (tgt := 176) d_M_init_169 (by decide) (fun q588 => ?_) (fun q588 => ?_)
  · refine ab_iload_n d_M_init_176 rfl rfl ?_
    refine ab_bipush (v := 8) d_M_init_177 (by decide) ?_
    refine ab_icmp_le (tgt := 187) d_M_init_179 (by decide) (fun q589 => ?_) (fun q589 => ?_)
    · refine ab_iload_n d_M_init_187 rfl rfl ?_
      refine ab_topi (fun x590 ex590 => ?_)
      obtain rfl : x590 = nI (nwork w) := (by rw [ex590]; exact nwork_eq q588 q589)
      refine ab_istore_n (lv' := [some (.ref b), some (.int w), some (.int (nI (nwork w))), none]) d_M_init_188 rfl (by decide) rfl ?_
      refine ab_iconst (v := 0) d_M_init_189 (by decide) ?_
      refine ab_istore_n (lv' := [some (.ref b), some (.int w), some (.int (nI (nwork w))), some (.int 0)]) d_M_init_190 rfl (by decide) rfl ?_
      refine l_mup (nwork_le w) (nwork w) 0 s0_M (fun _ _ => 0) h566 (by omega) ⟨c568, c569, c570, c571, c572, c573, c574, c575, c576, c577, c578⟩ (fun h594 kf591 f592 l593 => ?_)
      have l595 : h594.length = b + 108 := l593.trans l579
      have kf596 : at_MText h594 (b + 2) (fun _ => 0) (fun _ _ => 0) := fr_MText f592 kf581 (by intro i hi hs; simp only [in_M, in_MText] at hi hs <;> omega)
      have kf597 : at_MText h594 (b + 33) (fun _ => 0) (fun _ _ => 0) := fr_MText f592 kf582 (by intro i hi hs; simp only [in_M, in_MText] at hi hs <;> omega)
      have kf598 : at_MWorld h594 (b + 64) s0_MW (fun _ _ => 0) := fr_MWorld f592 kf583 (by intro i hi hs; simp only [in_M, in_MWorld] at hi hs <;> omega)
      have kf599 : at_MWorld h594 (b + 74) s0_MW (fun _ _ => 0) := fr_MWorld f592 kf584 (by intro i hi hs; simp only [in_M, in_MWorld] at hi hs <;> omega)
      have kf600 : at_MWorld h594 (b + 84) s0_MW (fun _ _ => 0) := fr_MWorld f592 kf585 (by intro i hi hs; simp only [in_M, in_MWorld] at hi hs <;> omega)
      have kf601 : at_MRunner h594 (b + 94) .null .null .null (fun _ => 0) (fun _ _ => 0) := fr_MRunner f592 kf586 (by intro i hi hs; simp only [in_M, in_MRunner] at hi hs <;> omega)
      have fr602 : ab_fr (in_up b) h h594 := ab_fr_tr fr587 (ab_fr_mono f592 (by intro i hi; simp only [in_M, in_up] at * <;> omega))
      clear c568 c569 c570 c571 c572 c573 c574 c575 c576 c577 c578 kf581 kf582 kf583 kf584 kf585 kf586 l579 f592 fr587
      try clear h566
      obtain ⟨s603, es603⟩ : ∃ z, z = (sp_mup   (nwork w) 0 s0_M (fun _ _ => 0)).1 := ⟨_, rfl⟩
      obtain ⟨a604, ea604⟩ : ∃ z, z = (sp_mup   (nwork w) 0 s0_M (fun _ _ => 0)).2 := ⟨_, rfl⟩
      rw [← es603, ← ea604] at kf591
      obtain ⟨g605o, g6051, g60514, g60515, g60516, g60517, g60518, g60519, g60521, g60525, g60526⟩ := kf591
      exact ab_vret d_M_init_209 rfl (by decide) (by decide) (by rw [a0_M_eq] at es603 ea604; subst es603; subst ea604; exact ⟨rfl, ⟨⟨g605o, g6051, g60514, g60515, g60516, g60517, g60518, g60519, g60521, g60525, g60526⟩, kf596, kf597, kf598, kf599, kf600, kf601⟩, l595, fr602⟩)
    · refine ab_bipush (v := 8) d_M_init_182 (by decide) ?_
      refine ab_goto (tgt := 188) d_M_init_184 (by decide) ?_
      refine ab_topi (fun x606 ex606 => ?_)
      obtain rfl : x606 = nI (nwork w) := (by rw [ex606]; unfold nwork; rw [if_neg (fun z => z q588), if_neg q589]; rfl)
      refine ab_istore_n (lv' := [some (.ref b), some (.int w), some (.int (nI (nwork w))), none]) d_M_init_188 rfl (by decide) rfl ?_
      refine ab_iconst (v := 0) d_M_init_189 (by decide) ?_
      refine ab_istore_n (lv' := [some (.ref b), some (.int w), some (.int (nI (nwork w))), some (.int 0)]) d_M_init_190 rfl (by decide) rfl ?_
      refine l_mup (nwork_le w) (nwork w) 0 s0_M (fun _ _ => 0) h566 (by omega) ⟨c568, c569, c570, c571, c572, c573, c574, c575, c576, c577, c578⟩ (fun h610 kf607 f608 l609 => ?_)
      have l611 : h610.length = b + 108 := l609.trans l579
      have kf612 : at_MText h610 (b + 2) (fun _ => 0) (fun _ _ => 0) := fr_MText f608 kf581 (by intro i hi hs; simp only [in_M, in_MText] at hi hs <;> omega)
      have kf613 : at_MText h610 (b + 33) (fun _ => 0) (fun _ _ => 0) := fr_MText f608 kf582 (by intro i hi hs; simp only [in_M, in_MText] at hi hs <;> omega)
      have kf614 : at_MWorld h610 (b + 64) s0_MW (fun _ _ => 0) := fr_MWorld f608 kf583 (by intro i hi hs; simp only [in_M, in_MWorld] at hi hs <;> omega)
      have kf615 : at_MWorld h610 (b + 74) s0_MW (fun _ _ => 0) := fr_MWorld f608 kf584 (by intro i hi hs; simp only [in_M, in_MWorld] at hi hs <;> omega)
      have kf616 : at_MWorld h610 (b + 84) s0_MW (fun _ _ => 0) := fr_MWorld f608 kf585 (by intro i hi hs; simp only [in_M, in_MWorld] at hi hs <;> omega)
      have kf617 : at_MRunner h610 (b + 94) .null .null .null (fun _ => 0) (fun _ _ => 0) := fr_MRunner f608 kf586 (by intro i hi hs; simp only [in_M, in_MRunner] at hi hs <;> omega)
      have fr618 : ab_fr (in_up b) h h610 := ab_fr_tr fr587 (ab_fr_mono f608 (by intro i hi; simp only [in_M, in_up] at * <;> omega))
      clear c568 c569 c570 c571 c572 c573 c574 c575 c576 c577 c578 kf581 kf582 kf583 kf584 kf585 kf586 l579 f608 fr587
      try clear h566
      obtain ⟨s619, es619⟩ : ∃ z, z = (sp_mup   (nwork w) 0 s0_M (fun _ _ => 0)).1 := ⟨_, rfl⟩
      obtain ⟨a620, ea620⟩ : ∃ z, z = (sp_mup   (nwork w) 0 s0_M (fun _ _ => 0)).2 := ⟨_, rfl⟩
      rw [← es619, ← ea620] at kf607
      obtain ⟨g621o, g6211, g62114, g62115, g62116, g62117, g62118, g62119, g62121, g62125, g62126⟩ := kf607
      exact ab_vret d_M_init_209 rfl (by decide) (by decide) (by rw [a0_M_eq] at es619 ea620; subst es619; subst ea620; exact ⟨rfl, ⟨⟨g621o, g6211, g62114, g62115, g62116, g62117, g62118, g62119, g62121, g62125, g62126⟩, kf612, kf613, kf614, kf615, kf616, kf617⟩, l611, fr618⟩)
  · refine ab_iconst (v := 1) d_M_init_172 (by decide) ?_
    refine ab_goto (tgt := 188) d_M_init_173 (by decide) ?_
    refine ab_topi (fun x622 ex622 => ?_)
    obtain rfl : x622 = nI (nwork w) := (by rw [ex622]; unfold nwork; rw [if_pos q588]; rfl)
    refine ab_istore_n (lv' := [some (.ref b), some (.int w), some (.int (nI (nwork w))), none]) d_M_init_188 rfl (by decide) rfl ?_
    refine ab_iconst (v := 0) d_M_init_189 (by decide) ?_
    refine ab_istore_n (lv' := [some (.ref b), some (.int w), some (.int (nI (nwork w))), some (.int 0)]) d_M_init_190 rfl (by decide) rfl ?_
    refine l_mup (nwork_le w) (nwork w) 0 s0_M (fun _ _ => 0) h566 (by omega) ⟨c568, c569, c570, c571, c572, c573, c574, c575, c576, c577, c578⟩ (fun h626 kf623 f624 l625 => ?_)
    have l627 : h626.length = b + 108 := l625.trans l579
    have kf628 : at_MText h626 (b + 2) (fun _ => 0) (fun _ _ => 0) := fr_MText f624 kf581 (by intro i hi hs; simp only [in_M, in_MText] at hi hs <;> omega)
    have kf629 : at_MText h626 (b + 33) (fun _ => 0) (fun _ _ => 0) := fr_MText f624 kf582 (by intro i hi hs; simp only [in_M, in_MText] at hi hs <;> omega)
    have kf630 : at_MWorld h626 (b + 64) s0_MW (fun _ _ => 0) := fr_MWorld f624 kf583 (by intro i hi hs; simp only [in_M, in_MWorld] at hi hs <;> omega)
    have kf631 : at_MWorld h626 (b + 74) s0_MW (fun _ _ => 0) := fr_MWorld f624 kf584 (by intro i hi hs; simp only [in_M, in_MWorld] at hi hs <;> omega)
    have kf632 : at_MWorld h626 (b + 84) s0_MW (fun _ _ => 0) := fr_MWorld f624 kf585 (by intro i hi hs; simp only [in_M, in_MWorld] at hi hs <;> omega)
    have kf633 : at_MRunner h626 (b + 94) .null .null .null (fun _ => 0) (fun _ _ => 0) := fr_MRunner f624 kf586 (by intro i hi hs; simp only [in_M, in_MRunner] at hi hs <;> omega)
    have fr634 : ab_fr (in_up b) h h626 := ab_fr_tr fr587 (ab_fr_mono f624 (by intro i hi; simp only [in_M, in_up] at * <;> omega))
    clear c568 c569 c570 c571 c572 c573 c574 c575 c576 c577 c578 kf581 kf582 kf583 kf584 kf585 kf586 l579 f624 fr587
    try clear h566
    obtain ⟨s635, es635⟩ : ∃ z, z = (sp_mup   (nwork w) 0 s0_M (fun _ _ => 0)).1 := ⟨_, rfl⟩
    obtain ⟨a636, ea636⟩ : ∃ z, z = (sp_mup   (nwork w) 0 s0_M (fun _ _ => 0)).2 := ⟨_, rfl⟩
    rw [← es635, ← ea636] at kf623
    obtain ⟨g637o, g6371, g63714, g63715, g63716, g63717, g63718, g63719, g63721, g63725, g63726⟩ := kf623
    exact ab_vret d_M_init_209 rfl (by decide) (by decide) (by rw [a0_M_eq] at es635 ea636; subst es635; subst ea636; exact ⟨rfl, ⟨⟨g637o, g6371, g63714, g63715, g63716, g63717, g63718, g63719, g63721, g63725, g63726⟩, kf628, kf629, kf630, kf631, kf632, kf633⟩, l627, fr634⟩)
