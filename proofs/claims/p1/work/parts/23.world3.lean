def sp_clear_s (s : Nat → Int32) (e u : Int32) : Nat → Int32 := upd (upd (upd (upd (upd (upd (upd (upd (upd s 0 0) 1 e) 2 0) 3 0) 6 0) 9 0) 10 u) 13 0) 15 0
def sp_clear_a (a : Nat → Nat → Int32) : Nat → Nat → Int32 := upa (upa a 7 (sp_fill 0 256 0 (a 7))) 8 (sp_fill 0 256 (-1) (a 8))
set_option maxRecDepth 20000 in
set_option maxHeartbeats 2000000 in
theorem c_World_clear {h : List ab_E} {w : Nat} {s : Nat → Int32} {a : Nat → Nat → Int32} {e u : Int32} (hw : at_World h w s a)  : ab_M y_World_clear { frames := 1, cells := 0, slots := 0, locals := 60 } [.ref w, .int e, .int u] h (ab_A none (fun h1 => at_World h1 w (sp_clear_s s e u) (sp_clear_a a) ∧ ab_fr (in_World w) h h1)) := by
  have hw0 := hw; obtain ⟨go, g7, g8, g11, g12, g14⟩ := hw
  refine ab_of2 (lv := [some (.ref w), some (.int e), some (.int u)]) 0 rfl rfl (Nat.le_of_ble_eq_true rfl) ?_
  refine ab_aload_n d_World_clear_0 rfl rfl rfl ?_
  refine ab_iconst (v := 0) d_World_clear_1 (by decide) ?_
  refine ab_put (f := 0) d_World_clear_2 go rfl (by decide) (k1 204 rfl rfl) rfl rfl (fun _ => rfl) (fun _ => rfl) (Nat.le_of_ble_eq_true rfl) ?_
  show ab_V _ _ _ _ _ _ _ 5 [some (.ref w), some (.int e), some (.int u)] [] (h.set w (.inr (7, [.int 0, .int (s 1), .int (s 2), .int (s 3), .int (s 4), .int (s 5), .int (s 6), .ref (w + 1), .ref (w + 2), .int (s 9), .int (s 10), .ref (w + 3), .ref (w + 4), .int (s 13), .ref (w + 5), .int (s 15)])))
  refine ab_gen (fun h1 e2 => ?_)
  have c3 : h1[w]? = some (.inr (7, [.int 0, .int (s 1), .int (s 2), .int (s 3), .int (s 4), .int (s 5), .int (s 6), .ref (w + 1), .ref (w + 2), .int (s 9), .int (s 10), .ref (w + 3), .ref (w + 4), .int (s 13), .ref (w + 5), .int (s 15)])) := ab_self e2 go
  have c4 : h1[w+1]? = some (.inl (.int, 256, .inl (a 7))) := ab_other e2 (by omega) g7
  have c5 : h1[w+2]? = some (.inl (.int, 256, .inl (a 8))) := ab_other e2 (by omega) g8
  have c6 : h1[w+3]? = some (.inl (.int, 12288, .inl (a 11))) := ab_other e2 (by omega) g11
  have c7 : h1[w+4]? = some (.inl (.int, 1792, .inl (a 12))) := ab_other e2 (by omega) g12
  have c8 : h1[w+5]? = some (.inl (.int, 32, .inl (a 14))) := ab_other e2 (by omega) g14
  refine ab_aload_n d_World_clear_5 rfl rfl rfl ?_
  refine ab_iload_n d_World_clear_6 rfl rfl ?_
  refine ab_put (f := 1) d_World_clear_7 c3 rfl (by decide) (k1 210 rfl rfl) rfl rfl (fun _ => rfl) (fun _ => rfl) (Nat.le_of_ble_eq_true rfl) ?_
  show ab_V _ _ _ _ _ _ _ 10 [some (.ref w), some (.int e), some (.int u)] [] (h1.set w (.inr (7, [.int 0, .int e, .int (s 2), .int (s 3), .int (s 4), .int (s 5), .int (s 6), .ref (w + 1), .ref (w + 2), .int (s 9), .int (s 10), .ref (w + 3), .ref (w + 4), .int (s 13), .ref (w + 5), .int (s 15)])))
  refine ab_gen (fun h9 e10 => ?_)
  have c11 : h9[w]? = some (.inr (7, [.int 0, .int e, .int (s 2), .int (s 3), .int (s 4), .int (s 5), .int (s 6), .ref (w + 1), .ref (w + 2), .int (s 9), .int (s 10), .ref (w + 3), .ref (w + 4), .int (s 13), .ref (w + 5), .int (s 15)])) := ab_self e10 c3
  have c12 : h9[w+1]? = some (.inl (.int, 256, .inl (a 7))) := ab_other e10 (by omega) c4
  have c13 : h9[w+2]? = some (.inl (.int, 256, .inl (a 8))) := ab_other e10 (by omega) c5
  have c14 : h9[w+3]? = some (.inl (.int, 12288, .inl (a 11))) := ab_other e10 (by omega) c6
  have c15 : h9[w+4]? = some (.inl (.int, 1792, .inl (a 12))) := ab_other e10 (by omega) c7
  have c16 : h9[w+5]? = some (.inl (.int, 32, .inl (a 14))) := ab_other e10 (by omega) c8
  refine ab_aload_n d_World_clear_10 rfl rfl rfl ?_
  refine ab_iconst (v := 0) d_World_clear_11 (by decide) ?_
  refine ab_put (f := 2) d_World_clear_12 c11 rfl (by decide) (k1 213 rfl rfl) rfl rfl (fun _ => rfl) (fun _ => rfl) (Nat.le_of_ble_eq_true rfl) ?_
  show ab_V _ _ _ _ _ _ _ 15 [some (.ref w), some (.int e), some (.int u)] [] (h9.set w (.inr (7, [.int 0, .int e, .int 0, .int (s 3), .int (s 4), .int (s 5), .int (s 6), .ref (w + 1), .ref (w + 2), .int (s 9), .int (s 10), .ref (w + 3), .ref (w + 4), .int (s 13), .ref (w + 5), .int (s 15)])))
  refine ab_gen (fun h17 e18 => ?_)
  have c19 : h17[w]? = some (.inr (7, [.int 0, .int e, .int 0, .int (s 3), .int (s 4), .int (s 5), .int (s 6), .ref (w + 1), .ref (w + 2), .int (s 9), .int (s 10), .ref (w + 3), .ref (w + 4), .int (s 13), .ref (w + 5), .int (s 15)])) := ab_self e18 c11
  have c20 : h17[w+1]? = some (.inl (.int, 256, .inl (a 7))) := ab_other e18 (by omega) c12
  have c21 : h17[w+2]? = some (.inl (.int, 256, .inl (a 8))) := ab_other e18 (by omega) c13
  have c22 : h17[w+3]? = some (.inl (.int, 12288, .inl (a 11))) := ab_other e18 (by omega) c14
  have c23 : h17[w+4]? = some (.inl (.int, 1792, .inl (a 12))) := ab_other e18 (by omega) c15
  have c24 : h17[w+5]? = some (.inl (.int, 32, .inl (a 14))) := ab_other e18 (by omega) c16
  refine ab_aload_n d_World_clear_15 rfl rfl rfl ?_
  refine ab_iconst (v := 0) d_World_clear_16 (by decide) ?_
  refine ab_put (f := 3) d_World_clear_17 c19 rfl (by decide) (k1 216 rfl rfl) rfl rfl (fun _ => rfl) (fun _ => rfl) (Nat.le_of_ble_eq_true rfl) ?_
  show ab_V _ _ _ _ _ _ _ 20 [some (.ref w), some (.int e), some (.int u)] [] (h17.set w (.inr (7, [.int 0, .int e, .int 0, .int 0, .int (s 4), .int (s 5), .int (s 6), .ref (w + 1), .ref (w + 2), .int (s 9), .int (s 10), .ref (w + 3), .ref (w + 4), .int (s 13), .ref (w + 5), .int (s 15)])))
  refine ab_gen (fun h25 e26 => ?_)
  have c27 : h25[w]? = some (.inr (7, [.int 0, .int e, .int 0, .int 0, .int (s 4), .int (s 5), .int (s 6), .ref (w + 1), .ref (w + 2), .int (s 9), .int (s 10), .ref (w + 3), .ref (w + 4), .int (s 13), .ref (w + 5), .int (s 15)])) := ab_self e26 c19
  have c28 : h25[w+1]? = some (.inl (.int, 256, .inl (a 7))) := ab_other e26 (by omega) c20
  have c29 : h25[w+2]? = some (.inl (.int, 256, .inl (a 8))) := ab_other e26 (by omega) c21
  have c30 : h25[w+3]? = some (.inl (.int, 12288, .inl (a 11))) := ab_other e26 (by omega) c22
  have c31 : h25[w+4]? = some (.inl (.int, 1792, .inl (a 12))) := ab_other e26 (by omega) c23
  have c32 : h25[w+5]? = some (.inl (.int, 32, .inl (a 14))) := ab_other e26 (by omega) c24
  refine ab_aload_n d_World_clear_20 rfl rfl rfl ?_
  refine ab_iconst (v := 0) d_World_clear_21 (by decide) ?_
  refine ab_put (f := 6) d_World_clear_22 c27 rfl (by decide) (k1 224 rfl rfl) rfl rfl (fun _ => rfl) (fun _ => rfl) (Nat.le_of_ble_eq_true rfl) ?_
  show ab_V _ _ _ _ _ _ _ 25 [some (.ref w), some (.int e), some (.int u)] [] (h25.set w (.inr (7, [.int 0, .int e, .int 0, .int 0, .int (s 4), .int (s 5), .int 0, .ref (w + 1), .ref (w + 2), .int (s 9), .int (s 10), .ref (w + 3), .ref (w + 4), .int (s 13), .ref (w + 5), .int (s 15)])))
  refine ab_gen (fun h33 e34 => ?_)
  have c35 : h33[w]? = some (.inr (7, [.int 0, .int e, .int 0, .int 0, .int (s 4), .int (s 5), .int 0, .ref (w + 1), .ref (w + 2), .int (s 9), .int (s 10), .ref (w + 3), .ref (w + 4), .int (s 13), .ref (w + 5), .int (s 15)])) := ab_self e34 c27
  have c36 : h33[w+1]? = some (.inl (.int, 256, .inl (a 7))) := ab_other e34 (by omega) c28
  have c37 : h33[w+2]? = some (.inl (.int, 256, .inl (a 8))) := ab_other e34 (by omega) c29
  have c38 : h33[w+3]? = some (.inl (.int, 12288, .inl (a 11))) := ab_other e34 (by omega) c30
  have c39 : h33[w+4]? = some (.inl (.int, 1792, .inl (a 12))) := ab_other e34 (by omega) c31
  have c40 : h33[w+5]? = some (.inl (.int, 32, .inl (a 14))) := ab_other e34 (by omega) c32
  refine ab_aload_n d_World_clear_25 rfl rfl rfl ?_
  refine ab_get (f := 7) d_World_clear_26 c35 rfl (by decide) (k1 227 rfl rfl) rfl ?_
  refine ab_iconst (v := 0) d_World_clear_29 (by decide) ?_
  refine ab_callS_v (As := [.ref (w + 1), .int 0]) (rest := []) d_World_clear_30 (c_Arr_fill (by decide) c36) (ab_mkC s_Arr_fill (Nat.le_of_ble_eq_true rfl) (Nat.le_of_ble_eq_true rfl) (by decide) (by decide)) (k1 201 rfl rfl) t_Arr_fill rfl (Nat.le_of_ble_eq_true rfl) (fun h41 e42 => ?_)
  have c43 : h41[w]? = some (.inr (7, [.int 0, .int e, .int 0, .int 0, .int (s 4), .int (s 5), .int 0, .ref (w + 1), .ref (w + 2), .int (s 9), .int (s 10), .ref (w + 3), .ref (w + 4), .int (s 13), .ref (w + 5), .int (s 15)])) := ab_other e42 (by omega) c35
  have c44 : h41[w+1]? = some (.inl (.int, 256, .inl (sp_fill 0 256 0 (a 7)))) := ab_self e42 c36
  have c45 : h41[w+2]? = some (.inl (.int, 256, .inl (a 8))) := ab_other e42 (by omega) c37
  have c46 : h41[w+3]? = some (.inl (.int, 12288, .inl (a 11))) := ab_other e42 (by omega) c38
  have c47 : h41[w+4]? = some (.inl (.int, 1792, .inl (a 12))) := ab_other e42 (by omega) c39
  have c48 : h41[w+5]? = some (.inl (.int, 32, .inl (a 14))) := ab_other e42 (by omega) c40
  refine ab_aload_n d_World_clear_33 rfl rfl rfl ?_
  refine ab_get (f := 8) d_World_clear_34 c43 rfl (by decide) (k1 229 rfl rfl) rfl ?_
  refine ab_iconst (v := (-1)) d_World_clear_37 (by decide) ?_
  refine ab_callS_v (As := [.ref (w + 2), .int (-1)]) (rest := []) d_World_clear_38 (c_Arr_fill (by decide) c45) (ab_mkC s_Arr_fill (Nat.le_of_ble_eq_true rfl) (Nat.le_of_ble_eq_true rfl) (by decide) (by decide)) (k1 201 rfl rfl) t_Arr_fill rfl (Nat.le_of_ble_eq_true rfl) (fun h49 e50 => ?_)
  have c51 : h49[w]? = some (.inr (7, [.int 0, .int e, .int 0, .int 0, .int (s 4), .int (s 5), .int 0, .ref (w + 1), .ref (w + 2), .int (s 9), .int (s 10), .ref (w + 3), .ref (w + 4), .int (s 13), .ref (w + 5), .int (s 15)])) := ab_other e50 (by omega) c43
  have c52 : h49[w+1]? = some (.inl (.int, 256, .inl (sp_fill 0 256 0 (a 7)))) := ab_other e50 (by omega) c44
  have c53 : h49[w+2]? = some (.inl (.int, 256, .inl (sp_fill 0 256 (-1) (a 8)))) := ab_self e50 c45
  have c54 : h49[w+3]? = some (.inl (.int, 12288, .inl (a 11))) := ab_other e50 (by omega) c46
  have c55 : h49[w+4]? = some (.inl (.int, 1792, .inl (a 12))) := ab_other e50 (by omega) c47
  have c56 : h49[w+5]? = some (.inl (.int, 32, .inl (a 14))) := ab_other e50 (by omega) c48
  refine ab_aload_n d_World_clear_41 rfl rfl rfl ?_
  refine ab_iconst (v := 0) d_World_clear_42 (by decide) ?_
  refine ab_put (f := 9) d_World_clear_43 c51 rfl (by decide) (k1 231 rfl rfl) rfl rfl (fun _ => rfl) (fun _ => rfl) (Nat.le_of_ble_eq_true rfl) ?_
  show ab_V _ _ _ _ _ _ _ 46 [some (.ref w), some (.int e), some (.int u)] [] (h49.set w (.inr (7, [.int 0, .int e, .int 0, .int 0, .int (s 4), .int (s 5), .int 0, .ref (w + 1), .ref (w + 2), .int 0, .int (s 10), .ref (w + 3), .ref (w + 4), .int (s 13), .ref (w + 5), .int (s 15)])))
  refine ab_gen (fun h57 e58 => ?_)
  have c59 : h57[w]? = some (.inr (7, [.int 0, .int e, .int 0, .int 0, .int (s 4), .int (s 5), .int 0, .ref (w + 1), .ref (w + 2), .int 0, .int (s 10), .ref (w + 3), .ref (w + 4), .int (s 13), .ref (w + 5), .int (s 15)])) := ab_self e58 c51
  have c60 : h57[w+1]? = some (.inl (.int, 256, .inl (sp_fill 0 256 0 (a 7)))) := ab_other e58 (by omega) c52
  have c61 : h57[w+2]? = some (.inl (.int, 256, .inl (sp_fill 0 256 (-1) (a 8)))) := ab_other e58 (by omega) c53
  have c62 : h57[w+3]? = some (.inl (.int, 12288, .inl (a 11))) := ab_other e58 (by omega) c54
  have c63 : h57[w+4]? = some (.inl (.int, 1792, .inl (a 12))) := ab_other e58 (by omega) c55
  have c64 : h57[w+5]? = some (.inl (.int, 32, .inl (a 14))) := ab_other e58 (by omega) c56
  refine ab_aload_n d_World_clear_46 rfl rfl rfl ?_
  refine ab_iload_n d_World_clear_47 rfl rfl ?_
  refine ab_put (f := 10) d_World_clear_48 c59 rfl (by decide) (k1 234 rfl rfl) rfl rfl (fun _ => rfl) (fun _ => rfl) (Nat.le_of_ble_eq_true rfl) ?_
  show ab_V _ _ _ _ _ _ _ 51 [some (.ref w), some (.int e), some (.int u)] [] (h57.set w (.inr (7, [.int 0, .int e, .int 0, .int 0, .int (s 4), .int (s 5), .int 0, .ref (w + 1), .ref (w + 2), .int 0, .int u, .ref (w + 3), .ref (w + 4), .int (s 13), .ref (w + 5), .int (s 15)])))
  refine ab_gen (fun h65 e66 => ?_)
  have c67 : h65[w]? = some (.inr (7, [.int 0, .int e, .int 0, .int 0, .int (s 4), .int (s 5), .int 0, .ref (w + 1), .ref (w + 2), .int 0, .int u, .ref (w + 3), .ref (w + 4), .int (s 13), .ref (w + 5), .int (s 15)])) := ab_self e66 c59
  have c68 : h65[w+1]? = some (.inl (.int, 256, .inl (sp_fill 0 256 0 (a 7)))) := ab_other e66 (by omega) c60
  have c69 : h65[w+2]? = some (.inl (.int, 256, .inl (sp_fill 0 256 (-1) (a 8)))) := ab_other e66 (by omega) c61
  have c70 : h65[w+3]? = some (.inl (.int, 12288, .inl (a 11))) := ab_other e66 (by omega) c62
  have c71 : h65[w+4]? = some (.inl (.int, 1792, .inl (a 12))) := ab_other e66 (by omega) c63
  have c72 : h65[w+5]? = some (.inl (.int, 32, .inl (a 14))) := ab_other e66 (by omega) c64
  refine ab_aload_n d_World_clear_51 rfl rfl rfl ?_
  refine ab_iconst (v := 0) d_World_clear_52 (by decide) ?_
  refine ab_put (f := 13) d_World_clear_53 c67 rfl (by decide) (k2 3 rfl rfl) rfl rfl (fun _ => rfl) (fun _ => rfl) (Nat.le_of_ble_eq_true rfl) ?_
  show ab_V _ _ _ _ _ _ _ 56 [some (.ref w), some (.int e), some (.int u)] [] (h65.set w (.inr (7, [.int 0, .int e, .int 0, .int 0, .int (s 4), .int (s 5), .int 0, .ref (w + 1), .ref (w + 2), .int 0, .int u, .ref (w + 3), .ref (w + 4), .int 0, .ref (w + 5), .int (s 15)])))
  refine ab_gen (fun h73 e74 => ?_)
  have c75 : h73[w]? = some (.inr (7, [.int 0, .int e, .int 0, .int 0, .int (s 4), .int (s 5), .int 0, .ref (w + 1), .ref (w + 2), .int 0, .int u, .ref (w + 3), .ref (w + 4), .int 0, .ref (w + 5), .int (s 15)])) := ab_self e74 c67
  have c76 : h73[w+1]? = some (.inl (.int, 256, .inl (sp_fill 0 256 0 (a 7)))) := ab_other e74 (by omega) c68
  have c77 : h73[w+2]? = some (.inl (.int, 256, .inl (sp_fill 0 256 (-1) (a 8)))) := ab_other e74 (by omega) c69
  have c78 : h73[w+3]? = some (.inl (.int, 12288, .inl (a 11))) := ab_other e74 (by omega) c70
  have c79 : h73[w+4]? = some (.inl (.int, 1792, .inl (a 12))) := ab_other e74 (by omega) c71
  have c80 : h73[w+5]? = some (.inl (.int, 32, .inl (a 14))) := ab_other e74 (by omega) c72
  refine ab_aload_n d_World_clear_56 rfl rfl rfl ?_
  refine ab_iconst (v := 0) d_World_clear_57 (by decide) ?_
  refine ab_put (f := 15) d_World_clear_58 c75 rfl (by decide) (k2 12 rfl rfl) rfl rfl (fun _ => rfl) (fun _ => rfl) (Nat.le_of_ble_eq_true rfl) ?_
  show ab_V _ _ _ _ _ _ _ 61 [some (.ref w), some (.int e), some (.int u)] [] (h73.set w (.inr (7, [.int 0, .int e, .int 0, .int 0, .int (s 4), .int (s 5), .int 0, .ref (w + 1), .ref (w + 2), .int 0, .int u, .ref (w + 3), .ref (w + 4), .int 0, .ref (w + 5), .int 0])))
  refine ab_gen (fun h81 e82 => ?_)
  have c83 : h81[w]? = some (.inr (7, [.int 0, .int e, .int 0, .int 0, .int (s 4), .int (s 5), .int 0, .ref (w + 1), .ref (w + 2), .int 0, .int u, .ref (w + 3), .ref (w + 4), .int 0, .ref (w + 5), .int 0])) := ab_self e82 c75
  have c84 : h81[w+1]? = some (.inl (.int, 256, .inl (sp_fill 0 256 0 (a 7)))) := ab_other e82 (by omega) c76
  have c85 : h81[w+2]? = some (.inl (.int, 256, .inl (sp_fill 0 256 (-1) (a 8)))) := ab_other e82 (by omega) c77
  have c86 : h81[w+3]? = some (.inl (.int, 12288, .inl (a 11))) := ab_other e82 (by omega) c78
  have c87 : h81[w+4]? = some (.inl (.int, 1792, .inl (a 12))) := ab_other e82 (by omega) c79
  have c88 : h81[w+5]? = some (.inl (.int, 32, .inl (a 14))) := ab_other e82 (by omega) c80
  exact ab_vret d_World_clear_61 rfl (Nat.le_refl _) (Nat.le_refl _) (by exact ⟨rfl, ⟨c83, c84, c85, c86, c87, c88⟩, (ab_fr_set (ab_fr_set (ab_fr_set (ab_fr_set (ab_fr_set (ab_fr_set (ab_fr_set (ab_fr_set (ab_fr_set (ab_fr_set (ab_fr_set (ab_fr_rf _ _) e2 (by first | (show _ ∧ _; omega) | (show _ ∨ _; omega) | (show _ = _; omega) | (show _ ≤ _; omega))) e10 (by first | (show _ ∧ _; omega) | (show _ ∨ _; omega) | (show _ = _; omega) | (show _ ≤ _; omega))) e18 (by first | (show _ ∧ _; omega) | (show _ ∨ _; omega) | (show _ = _; omega) | (show _ ≤ _; omega))) e26 (by first | (show _ ∧ _; omega) | (show _ ∨ _; omega) | (show _ = _; omega) | (show _ ≤ _; omega))) e34 (by first | (show _ ∧ _; omega) | (show _ ∨ _; omega) | (show _ = _; omega) | (show _ ≤ _; omega))) e42 (by first | (show _ ∧ _; omega) | (show _ ∨ _; omega) | (show _ = _; omega) | (show _ ≤ _; omega))) e50 (by first | (show _ ∧ _; omega) | (show _ ∨ _; omega) | (show _ = _; omega) | (show _ ≤ _; omega))) e58 (by first | (show _ ∧ _; omega) | (show _ ∨ _; omega) | (show _ = _; omega) | (show _ ≤ _; omega))) e66 (by first | (show _ ∧ _; omega) | (show _ ∨ _; omega) | (show _ = _; omega) | (show _ ≤ _; omega))) e74 (by first | (show _ ∧ _; omega) | (show _ ∨ _; omega) | (show _ = _; omega) | (show _ ≤ _; omega))) e82 (by first | (show _ ∧ _; omega) | (show _ ∨ _; omega) | (show _ = _; omega) | (show _ ≤ _; omega)))⟩)
def sp_count (a : Nat → Nat → Int32) : Nat → Nat → Int32 → Int32
  | 0, _, c => c
  | n + 1, i, c => if a 8 i < 0 then sp_count a n (i + 1) c else sp_count a n (i + 1) (c + 1)
set_option maxRecDepth 20000 in
set_option maxHeartbeats 2000000 in
theorem l_World_entityCount {h : List ab_E} {w : Nat} {s : Nat → Int32} {a : Nat → Nat → Int32} {T : Nat} {Po : Outcome → List ab_E → Prop} (hw : at_World h w s a) (hT : s 9 = nI T) (hT2 : T ≤ 256) : ∀ (n i : Nat) (c : Int32), i + n = T → Po (.returned (some (.int (sp_count a n i c)))) h →
    ab_V y_World_entityCount { frames := 0, cells := 0, slots := 0, locals := 0 } Po 0 0 0 0 4 [some (.ref w), some (.int c), some (.int (nI i))] [] h := by
  have hw0 := hw; obtain ⟨go, g7, g8, g11, g12, g14⟩ := hw
  intro n
  induction n with
  | zero =>
    intro i c hi hp
    refine ab_iload_n d_World_entityCount_4 rfl rfl ?_
    refine ab_aload_n d_World_entityCount_5 rfl rfl rfl ?_
    refine ab_get (f := 9) d_World_entityCount_6 go rfl (by decide) (k1 231 rfl rfl) rfl ?_
    refine ab_icmp_ge (tgt := 30) d_World_entityCount_9 (by decide) (fun q1 => ?_) (fun q1 => ?_)
    · refine ab_iload_n d_World_entityCount_30 rfl rfl ?_
      exact ab_iret d_World_entityCount_31 rfl (Nat.le_refl _) (Nat.le_refl _) (by rw [sp_count] at hp; exact hp)
    · exact absurd (by rw [hT]; exact nI_le (by omega) (by omega)) q1
  | succ n ih =>
    intro i c hi hp
    refine ab_iload_n d_World_entityCount_4 rfl rfl ?_
    refine ab_aload_n d_World_entityCount_5 rfl rfl rfl ?_
    refine ab_get (f := 9) d_World_entityCount_6 go rfl (by decide) (k1 231 rfl rfl) rfl ?_
    refine ab_icmp_ge (tgt := 30) d_World_entityCount_9 (by decide) (fun q1 => ?_) (fun q1 => ?_)
    · exact absurd (by rw [hT] at q1; exact (nI_leI (by omega) (by omega)).mp q1) (by omega)
    · refine ab_aload_n d_World_entityCount_12 rfl rfl rfl ?_
      refine ab_get (f := 8) d_World_entityCount_13 go rfl (by decide) (k1 229 rfl rfl) rfl ?_
      refine ab_iload_n d_World_entityCount_16 rfl rfl ?_
      refine ab_iald d_World_entityCount_17 tI g8 (vp_in_nI (by omega) (by decide)) ?_
      refine ab_if_lt (tgt := 24) d_World_entityCount_18 (by decide) (fun q2 => ?_) (fun q2 => ?_)
      · obtain ⟨x3, ex3⟩ : ∃ q : Int32, q = nI i + 1 := ⟨_, rfl⟩
        refine ab_iinc (v := x3) (lv' := [some (.ref w), some (.int c), some (.int x3)]) d_World_entityCount_24 rfl (by rw [ex3]; rfl) (by decide) rfl ?_
        refine ab_goto (tgt := 4) d_World_entityCount_27 (by decide) ?_
        subst ex3
        rw [nI_1]
        exact ih (i + 1) _ (by omega) (by rw [sp_count, if_pos (by rw [nI_clamp (by omega)] at *; assumption)] at hp; exact hp)
      · obtain ⟨x4, ex4⟩ : ∃ q : Int32, q = c + 1 := ⟨_, rfl⟩
        refine ab_iinc (v := x4) (lv' := [some (.ref w), some (.int x4), some (.int (nI i))]) d_World_entityCount_21 rfl (by rw [ex4]; rfl) (by decide) rfl ?_
        obtain ⟨x5, ex5⟩ : ∃ q : Int32, q = nI i + 1 := ⟨_, rfl⟩
        refine ab_iinc (v := x5) (lv' := [some (.ref w), some (.int x4), some (.int x5)]) d_World_entityCount_24 rfl (by rw [ex5]; rfl) (by decide) rfl ?_
        refine ab_goto (tgt := 4) d_World_entityCount_27 (by decide) ?_
        subst ex4
        subst ex5
        rw [nI_1]
        exact ih (i + 1) _ (by omega) (by rw [sp_count, if_neg (by rw [nI_clamp (by omega)] at *; assumption)] at hp; exact hp)
set_option maxRecDepth 20000 in
set_option maxHeartbeats 2000000 in
theorem c_World_entityCount {h : List ab_E} {w : Nat} {s : Nat → Int32} {a : Nat → Nat → Int32} {T : Nat} (hw : at_World h w s a) (hT : s 9 = nI T) (hT2 : T ≤ 256) : ab_M y_World_entityCount { frames := 0, cells := 0, slots := 0, locals := 0 } [.ref w] h (ab_A (some (.int (sp_count a T 0 0))) (fun h1 => h = h1)) := by
  have hw0 := hw; obtain ⟨go, g7, g8, g11, g12, g14⟩ := hw
  refine ab_of2 (lv := [some (.ref w), none, none]) 2 rfl rfl (Nat.le_of_ble_eq_true rfl) ?_
  refine ab_iconst (v := 0) d_World_entityCount_0 (by decide) ?_
  refine ab_istore_n (lv' := [some (.ref w), some (.int 0), none]) d_World_entityCount_1 rfl (by decide) rfl ?_
  refine ab_iconst (v := 0) d_World_entityCount_2 (by decide) ?_
  refine ab_istore_n (lv' := [some (.ref w), some (.int 0), some (.int 0)]) d_World_entityCount_3 rfl (by decide) rfl ?_
  exact l_World_entityCount hw0 hT hT2 T 0 0 (by omega) ⟨rfl, rfl⟩
def a0_World : Nat → Nat → Int32 := fun k => if k = 8 then sp_fill 0 256 (-1) (fun _ => 0) else fun _ => 0
set_option maxRecDepth 20000 in
set_option maxHeartbeats 2000000 in
theorem c_World_init {h : List ab_E}  {w : Nat}  (ho : h[w]? = some (.inr (7, [.int 0, .int 0, .int 0, .int 0, .int 0, .int 0, .int 0, .null, .null, .int 0, .int 0, .null, .null, .int 0, .null, .int 0]))) (hlen : h.length = w + 1) : ab_M y_World_init { frames := 1, cells := 5, slots := 14624, locals := 60 } [.ref w] h (ab_A none (fun h1 => at_World h1 w (fun _ => 0) a0_World ∧ h1.length = w + 6 ∧ ab_fr (in_World w) h h1)) := by
  refine ab_of2 (lv := [some (.ref w)]) 0 rfl rfl (Nat.le_of_ble_eq_true rfl) ?_
  refine ab_aload_n d_World_init_0 rfl rfl rfl ?_
  refine ab_objInit d_World_init_1 (k1 200 rfl rfl) (k1 37 rfl rfl) (k1 38 rfl rfl) (by decide) (by decide) ?_
  refine ab_aload_n d_World_init_4 rfl rfl rfl ?_
  refine ab_sipush (v := 256) d_World_init_5 (by decide) ?_
  refine ab_newaL (N := 256) hlen d_World_init_8 rfl (k1 143 rfl rfl) tI (Or.inl rfl) (by decide) (by decide) (by decide) (by decide) (by decide) (fun h1 e2 e3 e4 => ?_)
  have c5 : h1[w + 1]? = some (.inl (.int, 256, .inl (fun _ => 0))) := e3
  have c6 : h1[w]? = some (.inr (7, [.int 0, .int 0, .int 0, .int 0, .int 0, .int 0, .int 0, .null, .null, .int 0, .int 0, .null, .null, .int 0, .null, .int 0])) := (e4 _ (by omega)).trans ho
  have l7 : h1.length = w + 2 := e2
  refine ab_putF (f := 7) d_World_init_10 c6 rfl (by decide) (k1 227 rfl rfl) rfl rfl rfl rfl (fun _ => rfl) (fun _ => rfl) (Nat.le_of_ble_eq_true rfl) ?_
  show ab_V _ _ _ _ _ _ _ 13 [some (.ref w)] [] (h1.set w (.inr (7, [.int 0, .int 0, .int 0, .int 0, .int 0, .int 0, .int 0, .ref (w + 1), .null, .int 0, .int 0, .null, .null, .int 0, .null, .int 0])))
  refine ab_gen (fun h8 e9 => ?_)
  have c10 : h8[w]? = some (.inr (7, [.int 0, .int 0, .int 0, .int 0, .int 0, .int 0, .int 0, .ref (w + 1), .null, .int 0, .int 0, .null, .null, .int 0, .null, .int 0])) := ab_self e9 c6
  have c11 : h8[w+1]? = some (.inl (.int, 256, .inl (fun _ => 0))) := ab_other e9 (by omega) c5
  have l12 : h8.length = w + 2 := by rw [e9]; exact List.length_set.trans l7
  refine ab_aload_n d_World_init_13 rfl rfl rfl ?_
  refine ab_sipush (v := 256) d_World_init_14 (by decide) ?_
  refine ab_newaL (N := 256) l12 d_World_init_17 rfl (k1 143 rfl rfl) tI (Or.inl rfl) (by decide) (by decide) (by decide) (by decide) (by decide) (fun h13 e14 e15 e16 => ?_)
  have c17 : h13[w + 2]? = some (.inl (.int, 256, .inl (fun _ => 0))) := e15
  have c18 : h13[w]? = some (.inr (7, [.int 0, .int 0, .int 0, .int 0, .int 0, .int 0, .int 0, .ref (w + 1), .null, .int 0, .int 0, .null, .null, .int 0, .null, .int 0])) := (e16 _ (by omega)).trans c10
  have c19 : h13[w+1]? = some (.inl (.int, 256, .inl (fun _ => 0))) := (e16 _ (by omega)).trans c11
  have l20 : h13.length = w + 3 := e14
  refine ab_putF (f := 8) d_World_init_19 c18 rfl (by decide) (k1 229 rfl rfl) rfl rfl rfl rfl (fun _ => rfl) (fun _ => rfl) (Nat.le_of_ble_eq_true rfl) ?_
  show ab_V _ _ _ _ _ _ _ 22 [some (.ref w)] [] (h13.set w (.inr (7, [.int 0, .int 0, .int 0, .int 0, .int 0, .int 0, .int 0, .ref (w + 1), .ref (w + 2), .int 0, .int 0, .null, .null, .int 0, .null, .int 0])))
  refine ab_gen (fun h21 e22 => ?_)
  have c23 : h21[w]? = some (.inr (7, [.int 0, .int 0, .int 0, .int 0, .int 0, .int 0, .int 0, .ref (w + 1), .ref (w + 2), .int 0, .int 0, .null, .null, .int 0, .null, .int 0])) := ab_self e22 c18
  have c24 : h21[w+1]? = some (.inl (.int, 256, .inl (fun _ => 0))) := ab_other e22 (by omega) c19
  have c25 : h21[w+2]? = some (.inl (.int, 256, .inl (fun _ => 0))) := ab_other e22 (by omega) c17
  have l26 : h21.length = w + 3 := by rw [e22]; exact List.length_set.trans l20
  refine ab_aload_n d_World_init_22 rfl rfl rfl ?_
  refine ab_get (f := 8) d_World_init_23 c23 rfl (by decide) (k1 229 rfl rfl) rfl ?_
  refine ab_iconst (v := (-1)) d_World_init_26 (by decide) ?_
  refine ab_callS_v (As := [.ref (w + 2), .int (-1)]) (rest := []) d_World_init_27 (c_Arr_fill (by decide) c25) (ab_mkC s_Arr_fill (Nat.le_of_ble_eq_true rfl) (Nat.le_of_ble_eq_true rfl) (by decide) (by decide)) (k1 201 rfl rfl) t_Arr_fill rfl (Nat.le_of_ble_eq_true rfl) (fun h27 e28 => ?_)
  have c29 : h27[w]? = some (.inr (7, [.int 0, .int 0, .int 0, .int 0, .int 0, .int 0, .int 0, .ref (w + 1), .ref (w + 2), .int 0, .int 0, .null, .null, .int 0, .null, .int 0])) := ab_other e28 (by omega) c23
  have c30 : h27[w+1]? = some (.inl (.int, 256, .inl (fun _ => 0))) := ab_other e28 (by omega) c24
  have c31 : h27[w+2]? = some (.inl (.int, 256, .inl (sp_fill 0 256 (-1) (fun _ => 0)))) := ab_self e28 c25
  have l32 : h27.length = w + 3 := by rw [e28]; exact List.length_set.trans l26
  refine ab_aload_n d_World_init_30 rfl rfl rfl ?_
  refine ab_sipush (v := 12288) d_World_init_31 (by decide) ?_
  refine ab_newaL (N := 12288) l32 d_World_init_34 rfl (k1 143 rfl rfl) tI (Or.inl rfl) (by decide) (by decide) (by decide) (by decide) (by decide) (fun h33 e34 e35 e36 => ?_)
  have c37 : h33[w + 3]? = some (.inl (.int, 12288, .inl (fun _ => 0))) := e35
  have c38 : h33[w]? = some (.inr (7, [.int 0, .int 0, .int 0, .int 0, .int 0, .int 0, .int 0, .ref (w + 1), .ref (w + 2), .int 0, .int 0, .null, .null, .int 0, .null, .int 0])) := (e36 _ (by omega)).trans c29
  have c39 : h33[w+1]? = some (.inl (.int, 256, .inl (fun _ => 0))) := (e36 _ (by omega)).trans c30
  have c40 : h33[w+2]? = some (.inl (.int, 256, .inl (sp_fill 0 256 (-1) (fun _ => 0)))) := (e36 _ (by omega)).trans c31
  have l41 : h33.length = w + 4 := e34
  refine ab_putF (f := 11) d_World_init_36 c38 rfl (by decide) (k1 236 rfl rfl) rfl rfl rfl rfl (fun _ => rfl) (fun _ => rfl) (Nat.le_of_ble_eq_true rfl) ?_
  show ab_V _ _ _ _ _ _ _ 39 [some (.ref w)] [] (h33.set w (.inr (7, [.int 0, .int 0, .int 0, .int 0, .int 0, .int 0, .int 0, .ref (w + 1), .ref (w + 2), .int 0, .int 0, .ref (w + 3), .null, .int 0, .null, .int 0])))
  refine ab_gen (fun h42 e43 => ?_)
  have c44 : h42[w]? = some (.inr (7, [.int 0, .int 0, .int 0, .int 0, .int 0, .int 0, .int 0, .ref (w + 1), .ref (w + 2), .int 0, .int 0, .ref (w + 3), .null, .int 0, .null, .int 0])) := ab_self e43 c38
  have c45 : h42[w+1]? = some (.inl (.int, 256, .inl (fun _ => 0))) := ab_other e43 (by omega) c39
  have c46 : h42[w+2]? = some (.inl (.int, 256, .inl (sp_fill 0 256 (-1) (fun _ => 0)))) := ab_other e43 (by omega) c40
  have c47 : h42[w+3]? = some (.inl (.int, 12288, .inl (fun _ => 0))) := ab_other e43 (by omega) c37
  have l48 : h42.length = w + 4 := by rw [e43]; exact List.length_set.trans l41
  refine ab_aload_n d_World_init_39 rfl rfl rfl ?_
  refine ab_sipush (v := 1792) d_World_init_40 (by decide) ?_
  refine ab_newaL (N := 1792) l48 d_World_init_43 rfl (k1 143 rfl rfl) tI (Or.inl rfl) (by decide) (by decide) (by decide) (by decide) (by decide) (fun h49 e50 e51 e52 => ?_)
  have c53 : h49[w + 4]? = some (.inl (.int, 1792, .inl (fun _ => 0))) := e51
  have c54 : h49[w]? = some (.inr (7, [.int 0, .int 0, .int 0, .int 0, .int 0, .int 0, .int 0, .ref (w + 1), .ref (w + 2), .int 0, .int 0, .ref (w + 3), .null, .int 0, .null, .int 0])) := (e52 _ (by omega)).trans c44
  have c55 : h49[w+1]? = some (.inl (.int, 256, .inl (fun _ => 0))) := (e52 _ (by omega)).trans c45
  have c56 : h49[w+2]? = some (.inl (.int, 256, .inl (sp_fill 0 256 (-1) (fun _ => 0)))) := (e52 _ (by omega)).trans c46
  have c57 : h49[w+3]? = some (.inl (.int, 12288, .inl (fun _ => 0))) := (e52 _ (by omega)).trans c47
  have l58 : h49.length = w + 5 := e50
  refine ab_putF (f := 12) d_World_init_45 c54 rfl (by decide) (k1 238 rfl rfl) rfl rfl rfl rfl (fun _ => rfl) (fun _ => rfl) (Nat.le_of_ble_eq_true rfl) ?_
  show ab_V _ _ _ _ _ _ _ 48 [some (.ref w)] [] (h49.set w (.inr (7, [.int 0, .int 0, .int 0, .int 0, .int 0, .int 0, .int 0, .ref (w + 1), .ref (w + 2), .int 0, .int 0, .ref (w + 3), .ref (w + 4), .int 0, .null, .int 0])))
  refine ab_gen (fun h59 e60 => ?_)
  have c61 : h59[w]? = some (.inr (7, [.int 0, .int 0, .int 0, .int 0, .int 0, .int 0, .int 0, .ref (w + 1), .ref (w + 2), .int 0, .int 0, .ref (w + 3), .ref (w + 4), .int 0, .null, .int 0])) := ab_self e60 c54
  have c62 : h59[w+1]? = some (.inl (.int, 256, .inl (fun _ => 0))) := ab_other e60 (by omega) c55
  have c63 : h59[w+2]? = some (.inl (.int, 256, .inl (sp_fill 0 256 (-1) (fun _ => 0)))) := ab_other e60 (by omega) c56
  have c64 : h59[w+3]? = some (.inl (.int, 12288, .inl (fun _ => 0))) := ab_other e60 (by omega) c57
  have c65 : h59[w+4]? = some (.inl (.int, 1792, .inl (fun _ => 0))) := ab_other e60 (by omega) c53
  have l66 : h59.length = w + 5 := by rw [e60]; exact List.length_set.trans l58
  refine ab_aload_n d_World_init_48 rfl rfl rfl ?_
  refine ab_bipush (v := 32) d_World_init_49 (by decide) ?_
  refine ab_newaL (N := 32) l66 d_World_init_51 rfl (k1 143 rfl rfl) tI (Or.inl rfl) (by decide) (by decide) (by decide) (by decide) (by decide) (fun h67 e68 e69 e70 => ?_)
  have c71 : h67[w + 5]? = some (.inl (.int, 32, .inl (fun _ => 0))) := e69
  have c72 : h67[w]? = some (.inr (7, [.int 0, .int 0, .int 0, .int 0, .int 0, .int 0, .int 0, .ref (w + 1), .ref (w + 2), .int 0, .int 0, .ref (w + 3), .ref (w + 4), .int 0, .null, .int 0])) := (e70 _ (by omega)).trans c61
  have c73 : h67[w+1]? = some (.inl (.int, 256, .inl (fun _ => 0))) := (e70 _ (by omega)).trans c62
  have c74 : h67[w+2]? = some (.inl (.int, 256, .inl (sp_fill 0 256 (-1) (fun _ => 0)))) := (e70 _ (by omega)).trans c63
  have c75 : h67[w+3]? = some (.inl (.int, 12288, .inl (fun _ => 0))) := (e70 _ (by omega)).trans c64
  have c76 : h67[w+4]? = some (.inl (.int, 1792, .inl (fun _ => 0))) := (e70 _ (by omega)).trans c65
  have l77 : h67.length = w + 6 := e68
  refine ab_putF (f := 14) d_World_init_53 c72 rfl (by decide) (k2 8 rfl rfl) rfl rfl rfl rfl (fun _ => rfl) (fun _ => rfl) (Nat.le_of_ble_eq_true rfl) ?_
  show ab_V _ _ _ _ _ _ _ 56 [some (.ref w)] [] (h67.set w (.inr (7, [.int 0, .int 0, .int 0, .int 0, .int 0, .int 0, .int 0, .ref (w + 1), .ref (w + 2), .int 0, .int 0, .ref (w + 3), .ref (w + 4), .int 0, .ref (w + 5), .int 0])))
  refine ab_gen (fun h78 e79 => ?_)
  have c80 : h78[w]? = some (.inr (7, [.int 0, .int 0, .int 0, .int 0, .int 0, .int 0, .int 0, .ref (w + 1), .ref (w + 2), .int 0, .int 0, .ref (w + 3), .ref (w + 4), .int 0, .ref (w + 5), .int 0])) := ab_self e79 c72
  have c81 : h78[w+1]? = some (.inl (.int, 256, .inl (fun _ => 0))) := ab_other e79 (by omega) c73
  have c82 : h78[w+2]? = some (.inl (.int, 256, .inl (sp_fill 0 256 (-1) (fun _ => 0)))) := ab_other e79 (by omega) c74
  have c83 : h78[w+3]? = some (.inl (.int, 12288, .inl (fun _ => 0))) := ab_other e79 (by omega) c75
  have c84 : h78[w+4]? = some (.inl (.int, 1792, .inl (fun _ => 0))) := ab_other e79 (by omega) c76
  have c85 : h78[w+5]? = some (.inl (.int, 32, .inl (fun _ => 0))) := ab_other e79 (by omega) c71
  have l86 : h78.length = w + 6 := by rw [e79]; exact List.length_set.trans l77
  exact ab_vret d_World_init_56 rfl (by decide) (by decide) ⟨rfl, ⟨c80, c81, c82, c83, c84, c85⟩, l86, (ab_fr_set (ab_fr_new (ab_fr_set (ab_fr_new (ab_fr_set (ab_fr_new (ab_fr_set (ab_fr_set (ab_fr_new (ab_fr_set (ab_fr_new (ab_fr_rf _ _) e4 e2) e9 (by first | (show _ ∧ _; omega) | (show _ ∨ _; omega) | (show _ = _; omega) | (show _ ≤ _; omega))) e16 e14) e22 (by first | (show _ ∧ _; omega) | (show _ ∨ _; omega) | (show _ = _; omega) | (show _ ≤ _; omega))) e28 (by first | (show _ ∧ _; omega) | (show _ ∨ _; omega) | (show _ = _; omega) | (show _ ≤ _; omega))) e36 e34) e43 (by first | (show _ ∧ _; omega) | (show _ ∨ _; omega) | (show _ = _; omega) | (show _ ≤ _; omega))) e52 e50) e60 (by first | (show _ ∧ _; omega) | (show _ ∨ _; omega) | (show _ = _; omega) | (show _ ≤ _; omega))) e70 e68) e79 (by first | (show _ ∧ _; omega) | (show _ ∨ _; omega) | (show _ = _; omega) | (show _ ≤ _; omega)))⟩
/-- a world over the cells of another: what lies in use is copied -/
def sp_copy_s (s t : Nat → Int32) : Nat → Int32 := fun k => t k
def sp_copy_a (t : Nat → Int32) (a d : Nat → Nat → Int32) : Nat → Nat → Int32 := upa (upa (upa (upa (upa a 7 (va_cpy (d 7) (a 7) (0 : Int32).toNatClampNeg (0 : Int32).toNatClampNeg (256 : Int32).toNatClampNeg)) 8 (va_cpy (d 8) (a 8) (0 : Int32).toNatClampNeg (0 : Int32).toNatClampNeg (256 : Int32).toNatClampNeg)) 11 (va_cpy (d 11) (a 11) (0 : Int32).toNatClampNeg (0 : Int32).toNatClampNeg (t 9 * t 10 : Int32).toNatClampNeg)) 12 (va_cpy (d 12) (a 12) (0 : Int32).toNatClampNeg (0 : Int32).toNatClampNeg (t 13 * 7 : Int32).toNatClampNeg)) 14 (va_cpy (d 14) (a 14) (0 : Int32).toNatClampNeg (0 : Int32).toNatClampNeg (t 15 : Int32).toNatClampNeg)
set_option maxRecDepth 20000 in
set_option maxHeartbeats 2000000 in
theorem c_World_copyFrom {h : List ab_E} {w : Nat} {s : Nat → Int32} {a : Nat → Nat → Int32} {u : Nat} {t : Nat → Int32} {d : Nat → Nat → Int32}  (hw : at_World h w s a) (hu : at_World h u t d) (hwu : w + 5 < u ∨ u + 5 < w) (hv0 : ¬ t 9 * t 10 < 0) (hv1 : (t 9 * t 10).toNatClampNeg ≤ 12288) (hp0 : ¬ t 13 * 7 < 0) (hp1 : (t 13 * 7).toNatClampNeg ≤ 1792) (hs0 : ¬ t 15 < 0) (hs1 : (t 15).toNatClampNeg ≤ 32) : ab_M y_World_copyFrom { frames := 1, cells := 0, slots := 0, locals := 60 } [.ref w, .ref u] h (ab_A none (fun h1 => at_World h1 w t (sp_copy_a t a d) ∧ at_World h1 u t d ∧ ab_fr (in_World w) h h1)) := by
  have hw0 := hw; obtain ⟨go, g7, g8, g11, g12, g14⟩ := hw
  have hu0 := hu; obtain ⟨fo, f7, f8, f11, f12, f14⟩ := hu
  refine ab_of2 (lv := [some (.ref w), some (.ref u)]) 0 rfl rfl (Nat.le_of_ble_eq_true rfl) ?_
  refine ab_aload_n d_World_copyFrom_0 rfl rfl rfl ?_
  refine ab_aload_n d_World_copyFrom_1 rfl rfl rfl ?_
  refine ab_get (f := 0) d_World_copyFrom_2 fo rfl (by decide) (k1 204 rfl rfl) rfl ?_
  refine ab_put (f := 0) d_World_copyFrom_5 go rfl (by decide) (k1 204 rfl rfl) rfl rfl (fun _ => rfl) (fun _ => rfl) (Nat.le_of_ble_eq_true rfl) ?_
  show ab_V _ _ _ _ _ _ _ 8 [some (.ref w), some (.ref u)] [] (h.set w (.inr (7, [.int (t 0), .int (s 1), .int (s 2), .int (s 3), .int (s 4), .int (s 5), .int (s 6), .ref (w + 1), .ref (w + 2), .int (s 9), .int (s 10), .ref (w + 3), .ref (w + 4), .int (s 13), .ref (w + 5), .int (s 15)])))
  refine ab_gen (fun h1 e2 => ?_)
  have c3 : h1[w]? = some (.inr (7, [.int (t 0), .int (s 1), .int (s 2), .int (s 3), .int (s 4), .int (s 5), .int (s 6), .ref (w + 1), .ref (w + 2), .int (s 9), .int (s 10), .ref (w + 3), .ref (w + 4), .int (s 13), .ref (w + 5), .int (s 15)])) := ab_self e2 go
  have c4 : h1[w+1]? = some (.inl (.int, 256, .inl (a 7))) := ab_other e2 (by omega) g7
  have c5 : h1[w+2]? = some (.inl (.int, 256, .inl (a 8))) := ab_other e2 (by omega) g8
  have c6 : h1[w+3]? = some (.inl (.int, 12288, .inl (a 11))) := ab_other e2 (by omega) g11
  have c7 : h1[w+4]? = some (.inl (.int, 1792, .inl (a 12))) := ab_other e2 (by omega) g12
  have c8 : h1[w+5]? = some (.inl (.int, 32, .inl (a 14))) := ab_other e2 (by omega) g14
  have c9 : h1[u]? = some (.inr (7, [.int (t 0), .int (t 1), .int (t 2), .int (t 3), .int (t 4), .int (t 5), .int (t 6), .ref (u + 1), .ref (u + 2), .int (t 9), .int (t 10), .ref (u + 3), .ref (u + 4), .int (t 13), .ref (u + 5), .int (t 15)])) := ab_other e2 (by omega) fo
  have c10 : h1[u+1]? = some (.inl (.int, 256, .inl (d 7))) := ab_other e2 (by omega) f7
  have c11 : h1[u+2]? = some (.inl (.int, 256, .inl (d 8))) := ab_other e2 (by omega) f8
  have c12 : h1[u+3]? = some (.inl (.int, 12288, .inl (d 11))) := ab_other e2 (by omega) f11
  have c13 : h1[u+4]? = some (.inl (.int, 1792, .inl (d 12))) := ab_other e2 (by omega) f12
  have c14 : h1[u+5]? = some (.inl (.int, 32, .inl (d 14))) := ab_other e2 (by omega) f14
  refine ab_aload_n d_World_copyFrom_8 rfl rfl rfl ?_
  refine ab_aload_n d_World_copyFrom_9 rfl rfl rfl ?_
  refine ab_get (f := 1) d_World_copyFrom_10 c9 rfl (by decide) (k1 210 rfl rfl) rfl ?_
  refine ab_put (f := 1) d_World_copyFrom_13 c3 rfl (by decide) (k1 210 rfl rfl) rfl rfl (fun _ => rfl) (fun _ => rfl) (Nat.le_of_ble_eq_true rfl) ?_
  show ab_V _ _ _ _ _ _ _ 16 [some (.ref w), some (.ref u)] [] (h1.set w (.inr (7, [.int (t 0), .int (t 1), .int (s 2), .int (s 3), .int (s 4), .int (s 5), .int (s 6), .ref (w + 1), .ref (w + 2), .int (s 9), .int (s 10), .ref (w + 3), .ref (w + 4), .int (s 13), .ref (w + 5), .int (s 15)])))
  refine ab_gen (fun h15 e16 => ?_)
  have c17 : h15[w]? = some (.inr (7, [.int (t 0), .int (t 1), .int (s 2), .int (s 3), .int (s 4), .int (s 5), .int (s 6), .ref (w + 1), .ref (w + 2), .int (s 9), .int (s 10), .ref (w + 3), .ref (w + 4), .int (s 13), .ref (w + 5), .int (s 15)])) := ab_self e16 c3
  have c18 : h15[w+1]? = some (.inl (.int, 256, .inl (a 7))) := ab_other e16 (by omega) c4
  have c19 : h15[w+2]? = some (.inl (.int, 256, .inl (a 8))) := ab_other e16 (by omega) c5
  have c20 : h15[w+3]? = some (.inl (.int, 12288, .inl (a 11))) := ab_other e16 (by omega) c6
  have c21 : h15[w+4]? = some (.inl (.int, 1792, .inl (a 12))) := ab_other e16 (by omega) c7
  have c22 : h15[w+5]? = some (.inl (.int, 32, .inl (a 14))) := ab_other e16 (by omega) c8
  have c23 : h15[u]? = some (.inr (7, [.int (t 0), .int (t 1), .int (t 2), .int (t 3), .int (t 4), .int (t 5), .int (t 6), .ref (u + 1), .ref (u + 2), .int (t 9), .int (t 10), .ref (u + 3), .ref (u + 4), .int (t 13), .ref (u + 5), .int (t 15)])) := ab_other e16 (by omega) c9
  have c24 : h15[u+1]? = some (.inl (.int, 256, .inl (d 7))) := ab_other e16 (by omega) c10
  have c25 : h15[u+2]? = some (.inl (.int, 256, .inl (d 8))) := ab_other e16 (by omega) c11
  have c26 : h15[u+3]? = some (.inl (.int, 12288, .inl (d 11))) := ab_other e16 (by omega) c12
  have c27 : h15[u+4]? = some (.inl (.int, 1792, .inl (d 12))) := ab_other e16 (by omega) c13
  have c28 : h15[u+5]? = some (.inl (.int, 32, .inl (d 14))) := ab_other e16 (by omega) c14
  refine ab_aload_n d_World_copyFrom_16 rfl rfl rfl ?_
  refine ab_aload_n d_World_copyFrom_17 rfl rfl rfl ?_
  refine ab_get (f := 2) d_World_copyFrom_18 c23 rfl (by decide) (k1 213 rfl rfl) rfl ?_
  refine ab_put (f := 2) d_World_copyFrom_21 c17 rfl (by decide) (k1 213 rfl rfl) rfl rfl (fun _ => rfl) (fun _ => rfl) (Nat.le_of_ble_eq_true rfl) ?_
  show ab_V _ _ _ _ _ _ _ 24 [some (.ref w), some (.ref u)] [] (h15.set w (.inr (7, [.int (t 0), .int (t 1), .int (t 2), .int (s 3), .int (s 4), .int (s 5), .int (s 6), .ref (w + 1), .ref (w + 2), .int (s 9), .int (s 10), .ref (w + 3), .ref (w + 4), .int (s 13), .ref (w + 5), .int (s 15)])))
  refine ab_gen (fun h29 e30 => ?_)
  have c31 : h29[w]? = some (.inr (7, [.int (t 0), .int (t 1), .int (t 2), .int (s 3), .int (s 4), .int (s 5), .int (s 6), .ref (w + 1), .ref (w + 2), .int (s 9), .int (s 10), .ref (w + 3), .ref (w + 4), .int (s 13), .ref (w + 5), .int (s 15)])) := ab_self e30 c17
  have c32 : h29[w+1]? = some (.inl (.int, 256, .inl (a 7))) := ab_other e30 (by omega) c18
  have c33 : h29[w+2]? = some (.inl (.int, 256, .inl (a 8))) := ab_other e30 (by omega) c19
  have c34 : h29[w+3]? = some (.inl (.int, 12288, .inl (a 11))) := ab_other e30 (by omega) c20
  have c35 : h29[w+4]? = some (.inl (.int, 1792, .inl (a 12))) := ab_other e30 (by omega) c21
  have c36 : h29[w+5]? = some (.inl (.int, 32, .inl (a 14))) := ab_other e30 (by omega) c22
  have c37 : h29[u]? = some (.inr (7, [.int (t 0), .int (t 1), .int (t 2), .int (t 3), .int (t 4), .int (t 5), .int (t 6), .ref (u + 1), .ref (u + 2), .int (t 9), .int (t 10), .ref (u + 3), .ref (u + 4), .int (t 13), .ref (u + 5), .int (t 15)])) := ab_other e30 (by omega) c23
  have c38 : h29[u+1]? = some (.inl (.int, 256, .inl (d 7))) := ab_other e30 (by omega) c24
  have c39 : h29[u+2]? = some (.inl (.int, 256, .inl (d 8))) := ab_other e30 (by omega) c25
  have c40 : h29[u+3]? = some (.inl (.int, 12288, .inl (d 11))) := ab_other e30 (by omega) c26
  have c41 : h29[u+4]? = some (.inl (.int, 1792, .inl (d 12))) := ab_other e30 (by omega) c27
  have c42 : h29[u+5]? = some (.inl (.int, 32, .inl (d 14))) := ab_other e30 (by omega) c28
  refine ab_aload_n d_World_copyFrom_24 rfl rfl rfl ?_
  refine ab_aload_n d_World_copyFrom_25 rfl rfl rfl ?_
  refine ab_get (f := 3) d_World_copyFrom_26 c37 rfl (by decide) (k1 216 rfl rfl) rfl ?_
  refine ab_put (f := 3) d_World_copyFrom_29 c31 rfl (by decide) (k1 216 rfl rfl) rfl rfl (fun _ => rfl) (fun _ => rfl) (Nat.le_of_ble_eq_true rfl) ?_
  show ab_V _ _ _ _ _ _ _ 32 [some (.ref w), some (.ref u)] [] (h29.set w (.inr (7, [.int (t 0), .int (t 1), .int (t 2), .int (t 3), .int (s 4), .int (s 5), .int (s 6), .ref (w + 1), .ref (w + 2), .int (s 9), .int (s 10), .ref (w + 3), .ref (w + 4), .int (s 13), .ref (w + 5), .int (s 15)])))
  refine ab_gen (fun h43 e44 => ?_)
  have c45 : h43[w]? = some (.inr (7, [.int (t 0), .int (t 1), .int (t 2), .int (t 3), .int (s 4), .int (s 5), .int (s 6), .ref (w + 1), .ref (w + 2), .int (s 9), .int (s 10), .ref (w + 3), .ref (w + 4), .int (s 13), .ref (w + 5), .int (s 15)])) := ab_self e44 c31
  have c46 : h43[w+1]? = some (.inl (.int, 256, .inl (a 7))) := ab_other e44 (by omega) c32
  have c47 : h43[w+2]? = some (.inl (.int, 256, .inl (a 8))) := ab_other e44 (by omega) c33
  have c48 : h43[w+3]? = some (.inl (.int, 12288, .inl (a 11))) := ab_other e44 (by omega) c34
  have c49 : h43[w+4]? = some (.inl (.int, 1792, .inl (a 12))) := ab_other e44 (by omega) c35
  have c50 : h43[w+5]? = some (.inl (.int, 32, .inl (a 14))) := ab_other e44 (by omega) c36
  have c51 : h43[u]? = some (.inr (7, [.int (t 0), .int (t 1), .int (t 2), .int (t 3), .int (t 4), .int (t 5), .int (t 6), .ref (u + 1), .ref (u + 2), .int (t 9), .int (t 10), .ref (u + 3), .ref (u + 4), .int (t 13), .ref (u + 5), .int (t 15)])) := ab_other e44 (by omega) c37
  have c52 : h43[u+1]? = some (.inl (.int, 256, .inl (d 7))) := ab_other e44 (by omega) c38
  have c53 : h43[u+2]? = some (.inl (.int, 256, .inl (d 8))) := ab_other e44 (by omega) c39
  have c54 : h43[u+3]? = some (.inl (.int, 12288, .inl (d 11))) := ab_other e44 (by omega) c40
  have c55 : h43[u+4]? = some (.inl (.int, 1792, .inl (d 12))) := ab_other e44 (by omega) c41
  have c56 : h43[u+5]? = some (.inl (.int, 32, .inl (d 14))) := ab_other e44 (by omega) c42
  refine ab_aload_n d_World_copyFrom_32 rfl rfl rfl ?_
  refine ab_aload_n d_World_copyFrom_33 rfl rfl rfl ?_
  refine ab_get (f := 4) d_World_copyFrom_34 c51 rfl (by decide) (k1 220 rfl rfl) rfl ?_
  refine ab_put (f := 4) d_World_copyFrom_37 c45 rfl (by decide) (k1 220 rfl rfl) rfl rfl (fun _ => rfl) (fun _ => rfl) (Nat.le_of_ble_eq_true rfl) ?_
  show ab_V _ _ _ _ _ _ _ 40 [some (.ref w), some (.ref u)] [] (h43.set w (.inr (7, [.int (t 0), .int (t 1), .int (t 2), .int (t 3), .int (t 4), .int (s 5), .int (s 6), .ref (w + 1), .ref (w + 2), .int (s 9), .int (s 10), .ref (w + 3), .ref (w + 4), .int (s 13), .ref (w + 5), .int (s 15)])))
  refine ab_gen (fun h57 e58 => ?_)
  have c59 : h57[w]? = some (.inr (7, [.int (t 0), .int (t 1), .int (t 2), .int (t 3), .int (t 4), .int (s 5), .int (s 6), .ref (w + 1), .ref (w + 2), .int (s 9), .int (s 10), .ref (w + 3), .ref (w + 4), .int (s 13), .ref (w + 5), .int (s 15)])) := ab_self e58 c45
  have c60 : h57[w+1]? = some (.inl (.int, 256, .inl (a 7))) := ab_other e58 (by omega) c46
  have c61 : h57[w+2]? = some (.inl (.int, 256, .inl (a 8))) := ab_other e58 (by omega) c47
  have c62 : h57[w+3]? = some (.inl (.int, 12288, .inl (a 11))) := ab_other e58 (by omega) c48
  have c63 : h57[w+4]? = some (.inl (.int, 1792, .inl (a 12))) := ab_other e58 (by omega) c49
  have c64 : h57[w+5]? = some (.inl (.int, 32, .inl (a 14))) := ab_other e58 (by omega) c50
  have c65 : h57[u]? = some (.inr (7, [.int (t 0), .int (t 1), .int (t 2), .int (t 3), .int (t 4), .int (t 5), .int (t 6), .ref (u + 1), .ref (u + 2), .int (t 9), .int (t 10), .ref (u + 3), .ref (u + 4), .int (t 13), .ref (u + 5), .int (t 15)])) := ab_other e58 (by omega) c51
  have c66 : h57[u+1]? = some (.inl (.int, 256, .inl (d 7))) := ab_other e58 (by omega) c52
  have c67 : h57[u+2]? = some (.inl (.int, 256, .inl (d 8))) := ab_other e58 (by omega) c53
  have c68 : h57[u+3]? = some (.inl (.int, 12288, .inl (d 11))) := ab_other e58 (by omega) c54
  have c69 : h57[u+4]? = some (.inl (.int, 1792, .inl (d 12))) := ab_other e58 (by omega) c55
  have c70 : h57[u+5]? = some (.inl (.int, 32, .inl (d 14))) := ab_other e58 (by omega) c56
  refine ab_aload_n d_World_copyFrom_40 rfl rfl rfl ?_
  refine ab_aload_n d_World_copyFrom_41 rfl rfl rfl ?_
  refine ab_get (f := 5) d_World_copyFrom_42 c65 rfl (by decide) (k1 222 rfl rfl) rfl ?_
  refine ab_put (f := 5) d_World_copyFrom_45 c59 rfl (by decide) (k1 222 rfl rfl) rfl rfl (fun _ => rfl) (fun _ => rfl) (Nat.le_of_ble_eq_true rfl) ?_
  show ab_V _ _ _ _ _ _ _ 48 [some (.ref w), some (.ref u)] [] (h57.set w (.inr (7, [.int (t 0), .int (t 1), .int (t 2), .int (t 3), .int (t 4), .int (t 5), .int (s 6), .ref (w + 1), .ref (w + 2), .int (s 9), .int (s 10), .ref (w + 3), .ref (w + 4), .int (s 13), .ref (w + 5), .int (s 15)])))
  refine ab_gen (fun h71 e72 => ?_)
  have c73 : h71[w]? = some (.inr (7, [.int (t 0), .int (t 1), .int (t 2), .int (t 3), .int (t 4), .int (t 5), .int (s 6), .ref (w + 1), .ref (w + 2), .int (s 9), .int (s 10), .ref (w + 3), .ref (w + 4), .int (s 13), .ref (w + 5), .int (s 15)])) := ab_self e72 c59
  have c74 : h71[w+1]? = some (.inl (.int, 256, .inl (a 7))) := ab_other e72 (by omega) c60
  have c75 : h71[w+2]? = some (.inl (.int, 256, .inl (a 8))) := ab_other e72 (by omega) c61
  have c76 : h71[w+3]? = some (.inl (.int, 12288, .inl (a 11))) := ab_other e72 (by omega) c62
  have c77 : h71[w+4]? = some (.inl (.int, 1792, .inl (a 12))) := ab_other e72 (by omega) c63
  have c78 : h71[w+5]? = some (.inl (.int, 32, .inl (a 14))) := ab_other e72 (by omega) c64
  have c79 : h71[u]? = some (.inr (7, [.int (t 0), .int (t 1), .int (t 2), .int (t 3), .int (t 4), .int (t 5), .int (t 6), .ref (u + 1), .ref (u + 2), .int (t 9), .int (t 10), .ref (u + 3), .ref (u + 4), .int (t 13), .ref (u + 5), .int (t 15)])) := ab_other e72 (by omega) c65
  have c80 : h71[u+1]? = some (.inl (.int, 256, .inl (d 7))) := ab_other e72 (by omega) c66
  have c81 : h71[u+2]? = some (.inl (.int, 256, .inl (d 8))) := ab_other e72 (by omega) c67
  have c82 : h71[u+3]? = some (.inl (.int, 12288, .inl (d 11))) := ab_other e72 (by omega) c68
  have c83 : h71[u+4]? = some (.inl (.int, 1792, .inl (d 12))) := ab_other e72 (by omega) c69
  have c84 : h71[u+5]? = some (.inl (.int, 32, .inl (d 14))) := ab_other e72 (by omega) c70
  refine ab_aload_n d_World_copyFrom_48 rfl rfl rfl ?_
  refine ab_aload_n d_World_copyFrom_49 rfl rfl rfl ?_
  refine ab_get (f := 6) d_World_copyFrom_50 c79 rfl (by decide) (k1 224 rfl rfl) rfl ?_
  refine ab_put (f := 6) d_World_copyFrom_53 c73 rfl (by decide) (k1 224 rfl rfl) rfl rfl (fun _ => rfl) (fun _ => rfl) (Nat.le_of_ble_eq_true rfl) ?_
  show ab_V _ _ _ _ _ _ _ 56 [some (.ref w), some (.ref u)] [] (h71.set w (.inr (7, [.int (t 0), .int (t 1), .int (t 2), .int (t 3), .int (t 4), .int (t 5), .int (t 6), .ref (w + 1), .ref (w + 2), .int (s 9), .int (s 10), .ref (w + 3), .ref (w + 4), .int (s 13), .ref (w + 5), .int (s 15)])))
  refine ab_gen (fun h85 e86 => ?_)
  have c87 : h85[w]? = some (.inr (7, [.int (t 0), .int (t 1), .int (t 2), .int (t 3), .int (t 4), .int (t 5), .int (t 6), .ref (w + 1), .ref (w + 2), .int (s 9), .int (s 10), .ref (w + 3), .ref (w + 4), .int (s 13), .ref (w + 5), .int (s 15)])) := ab_self e86 c73
  have c88 : h85[w+1]? = some (.inl (.int, 256, .inl (a 7))) := ab_other e86 (by omega) c74
  have c89 : h85[w+2]? = some (.inl (.int, 256, .inl (a 8))) := ab_other e86 (by omega) c75
  have c90 : h85[w+3]? = some (.inl (.int, 12288, .inl (a 11))) := ab_other e86 (by omega) c76
  have c91 : h85[w+4]? = some (.inl (.int, 1792, .inl (a 12))) := ab_other e86 (by omega) c77
  have c92 : h85[w+5]? = some (.inl (.int, 32, .inl (a 14))) := ab_other e86 (by omega) c78
  have c93 : h85[u]? = some (.inr (7, [.int (t 0), .int (t 1), .int (t 2), .int (t 3), .int (t 4), .int (t 5), .int (t 6), .ref (u + 1), .ref (u + 2), .int (t 9), .int (t 10), .ref (u + 3), .ref (u + 4), .int (t 13), .ref (u + 5), .int (t 15)])) := ab_other e86 (by omega) c79
  have c94 : h85[u+1]? = some (.inl (.int, 256, .inl (d 7))) := ab_other e86 (by omega) c80
  have c95 : h85[u+2]? = some (.inl (.int, 256, .inl (d 8))) := ab_other e86 (by omega) c81
  have c96 : h85[u+3]? = some (.inl (.int, 12288, .inl (d 11))) := ab_other e86 (by omega) c82
  have c97 : h85[u+4]? = some (.inl (.int, 1792, .inl (d 12))) := ab_other e86 (by omega) c83
  have c98 : h85[u+5]? = some (.inl (.int, 32, .inl (d 14))) := ab_other e86 (by omega) c84
  refine ab_aload_n d_World_copyFrom_56 rfl rfl rfl ?_
  refine ab_get (f := 7) d_World_copyFrom_57 c93 rfl (by decide) (k1 227 rfl rfl) rfl ?_
  refine ab_iconst (v := 0) d_World_copyFrom_60 (by decide) ?_
  refine ab_aload_n d_World_copyFrom_61 rfl rfl rfl ?_
  refine ab_get (f := 7) d_World_copyFrom_62 c87 rfl (by decide) (k1 227 rfl rfl) rfl ?_
  refine ab_iconst (v := 0) d_World_copyFrom_65 (by decide) ?_
  refine ab_sipush (v := 256) d_World_copyFrom_66 (by decide) ?_
  refine ab_acopy d_World_copyFrom_69 (k6 111 rfl rfl) (k6 113 rfl rfl) (k6 112 rfl rfl) (k1 29 rfl rfl) c94 c88 (by decide) (by decide) (by decide) (by decide) (by decide) (by decide) (Nat.le_of_ble_eq_true rfl) ?_
  refine ab_gen (fun h99 e100 => ?_)
  have c101 : h99[w]? = some (.inr (7, [.int (t 0), .int (t 1), .int (t 2), .int (t 3), .int (t 4), .int (t 5), .int (t 6), .ref (w + 1), .ref (w + 2), .int (s 9), .int (s 10), .ref (w + 3), .ref (w + 4), .int (s 13), .ref (w + 5), .int (s 15)])) := ab_other e100 (by omega) c87
  have c102 : h99[w+1]? = some (.inl (.int, 256, .inl (va_cpy (d 7) (a 7) (0 : Int32).toNatClampNeg (0 : Int32).toNatClampNeg (256 : Int32).toNatClampNeg))) := ab_self e100 c88
  have c103 : h99[w+2]? = some (.inl (.int, 256, .inl (a 8))) := ab_other e100 (by omega) c89
  have c104 : h99[w+3]? = some (.inl (.int, 12288, .inl (a 11))) := ab_other e100 (by omega) c90
  have c105 : h99[w+4]? = some (.inl (.int, 1792, .inl (a 12))) := ab_other e100 (by omega) c91
  have c106 : h99[w+5]? = some (.inl (.int, 32, .inl (a 14))) := ab_other e100 (by omega) c92
  have c107 : h99[u]? = some (.inr (7, [.int (t 0), .int (t 1), .int (t 2), .int (t 3), .int (t 4), .int (t 5), .int (t 6), .ref (u + 1), .ref (u + 2), .int (t 9), .int (t 10), .ref (u + 3), .ref (u + 4), .int (t 13), .ref (u + 5), .int (t 15)])) := ab_other e100 (by omega) c93
  have c108 : h99[u+1]? = some (.inl (.int, 256, .inl (d 7))) := ab_other e100 (by omega) c94
  have c109 : h99[u+2]? = some (.inl (.int, 256, .inl (d 8))) := ab_other e100 (by omega) c95
  have c110 : h99[u+3]? = some (.inl (.int, 12288, .inl (d 11))) := ab_other e100 (by omega) c96
  have c111 : h99[u+4]? = some (.inl (.int, 1792, .inl (d 12))) := ab_other e100 (by omega) c97
  have c112 : h99[u+5]? = some (.inl (.int, 32, .inl (d 14))) := ab_other e100 (by omega) c98
  refine ab_aload_n d_World_copyFrom_72 rfl rfl rfl ?_
  refine ab_get (f := 8) d_World_copyFrom_73 c107 rfl (by decide) (k1 229 rfl rfl) rfl ?_
  refine ab_iconst (v := 0) d_World_copyFrom_76 (by decide) ?_
  refine ab_aload_n d_World_copyFrom_77 rfl rfl rfl ?_
  refine ab_get (f := 8) d_World_copyFrom_78 c101 rfl (by decide) (k1 229 rfl rfl) rfl ?_
  refine ab_iconst (v := 0) d_World_copyFrom_81 (by decide) ?_
  refine ab_sipush (v := 256) d_World_copyFrom_82 (by decide) ?_
  refine ab_acopy d_World_copyFrom_85 (k6 111 rfl rfl) (k6 113 rfl rfl) (k6 112 rfl rfl) (k1 29 rfl rfl) c109 c103 (by decide) (by decide) (by decide) (by decide) (by decide) (by decide) (Nat.le_of_ble_eq_true rfl) ?_
  refine ab_gen (fun h113 e114 => ?_)
  have c115 : h113[w]? = some (.inr (7, [.int (t 0), .int (t 1), .int (t 2), .int (t 3), .int (t 4), .int (t 5), .int (t 6), .ref (w + 1), .ref (w + 2), .int (s 9), .int (s 10), .ref (w + 3), .ref (w + 4), .int (s 13), .ref (w + 5), .int (s 15)])) := ab_other e114 (by omega) c101
  have c116 : h113[w+1]? = some (.inl (.int, 256, .inl (va_cpy (d 7) (a 7) (0 : Int32).toNatClampNeg (0 : Int32).toNatClampNeg (256 : Int32).toNatClampNeg))) := ab_other e114 (by omega) c102
  have c117 : h113[w+2]? = some (.inl (.int, 256, .inl (va_cpy (d 8) (a 8) (0 : Int32).toNatClampNeg (0 : Int32).toNatClampNeg (256 : Int32).toNatClampNeg))) := ab_self e114 c103
  have c118 : h113[w+3]? = some (.inl (.int, 12288, .inl (a 11))) := ab_other e114 (by omega) c104
  have c119 : h113[w+4]? = some (.inl (.int, 1792, .inl (a 12))) := ab_other e114 (by omega) c105
  have c120 : h113[w+5]? = some (.inl (.int, 32, .inl (a 14))) := ab_other e114 (by omega) c106
  have c121 : h113[u]? = some (.inr (7, [.int (t 0), .int (t 1), .int (t 2), .int (t 3), .int (t 4), .int (t 5), .int (t 6), .ref (u + 1), .ref (u + 2), .int (t 9), .int (t 10), .ref (u + 3), .ref (u + 4), .int (t 13), .ref (u + 5), .int (t 15)])) := ab_other e114 (by omega) c107
  have c122 : h113[u+1]? = some (.inl (.int, 256, .inl (d 7))) := ab_other e114 (by omega) c108
  have c123 : h113[u+2]? = some (.inl (.int, 256, .inl (d 8))) := ab_other e114 (by omega) c109
  have c124 : h113[u+3]? = some (.inl (.int, 12288, .inl (d 11))) := ab_other e114 (by omega) c110
  have c125 : h113[u+4]? = some (.inl (.int, 1792, .inl (d 12))) := ab_other e114 (by omega) c111
  have c126 : h113[u+5]? = some (.inl (.int, 32, .inl (d 14))) := ab_other e114 (by omega) c112
  refine ab_aload_n d_World_copyFrom_88 rfl rfl rfl ?_
  refine ab_aload_n d_World_copyFrom_89 rfl rfl rfl ?_
  refine ab_get (f := 9) d_World_copyFrom_90 c121 rfl (by decide) (k1 231 rfl rfl) rfl ?_
  refine ab_put (f := 9) d_World_copyFrom_93 c115 rfl (by decide) (k1 231 rfl rfl) rfl rfl (fun _ => rfl) (fun _ => rfl) (Nat.le_of_ble_eq_true rfl) ?_
  show ab_V _ _ _ _ _ _ _ 96 [some (.ref w), some (.ref u)] [] (h113.set w (.inr (7, [.int (t 0), .int (t 1), .int (t 2), .int (t 3), .int (t 4), .int (t 5), .int (t 6), .ref (w + 1), .ref (w + 2), .int (t 9), .int (s 10), .ref (w + 3), .ref (w + 4), .int (s 13), .ref (w + 5), .int (s 15)])))
  refine ab_gen (fun h127 e128 => ?_)
  have c129 : h127[w]? = some (.inr (7, [.int (t 0), .int (t 1), .int (t 2), .int (t 3), .int (t 4), .int (t 5), .int (t 6), .ref (w + 1), .ref (w + 2), .int (t 9), .int (s 10), .ref (w + 3), .ref (w + 4), .int (s 13), .ref (w + 5), .int (s 15)])) := ab_self e128 c115
  have c130 : h127[w+1]? = some (.inl (.int, 256, .inl (va_cpy (d 7) (a 7) (0 : Int32).toNatClampNeg (0 : Int32).toNatClampNeg (256 : Int32).toNatClampNeg))) := ab_other e128 (by omega) c116
  have c131 : h127[w+2]? = some (.inl (.int, 256, .inl (va_cpy (d 8) (a 8) (0 : Int32).toNatClampNeg (0 : Int32).toNatClampNeg (256 : Int32).toNatClampNeg))) := ab_other e128 (by omega) c117
  have c132 : h127[w+3]? = some (.inl (.int, 12288, .inl (a 11))) := ab_other e128 (by omega) c118
  have c133 : h127[w+4]? = some (.inl (.int, 1792, .inl (a 12))) := ab_other e128 (by omega) c119
  have c134 : h127[w+5]? = some (.inl (.int, 32, .inl (a 14))) := ab_other e128 (by omega) c120
  have c135 : h127[u]? = some (.inr (7, [.int (t 0), .int (t 1), .int (t 2), .int (t 3), .int (t 4), .int (t 5), .int (t 6), .ref (u + 1), .ref (u + 2), .int (t 9), .int (t 10), .ref (u + 3), .ref (u + 4), .int (t 13), .ref (u + 5), .int (t 15)])) := ab_other e128 (by omega) c121
  have c136 : h127[u+1]? = some (.inl (.int, 256, .inl (d 7))) := ab_other e128 (by omega) c122
  have c137 : h127[u+2]? = some (.inl (.int, 256, .inl (d 8))) := ab_other e128 (by omega) c123
  have c138 : h127[u+3]? = some (.inl (.int, 12288, .inl (d 11))) := ab_other e128 (by omega) c124
  have c139 : h127[u+4]? = some (.inl (.int, 1792, .inl (d 12))) := ab_other e128 (by omega) c125
  have c140 : h127[u+5]? = some (.inl (.int, 32, .inl (d 14))) := ab_other e128 (by omega) c126
  refine ab_aload_n d_World_copyFrom_96 rfl rfl rfl ?_
  refine ab_aload_n d_World_copyFrom_97 rfl rfl rfl ?_
  refine ab_get (f := 10) d_World_copyFrom_98 c135 rfl (by decide) (k1 234 rfl rfl) rfl ?_
  refine ab_put (f := 10) d_World_copyFrom_101 c129 rfl (by decide) (k1 234 rfl rfl) rfl rfl (fun _ => rfl) (fun _ => rfl) (Nat.le_of_ble_eq_true rfl) ?_
  show ab_V _ _ _ _ _ _ _ 104 [some (.ref w), some (.ref u)] [] (h127.set w (.inr (7, [.int (t 0), .int (t 1), .int (t 2), .int (t 3), .int (t 4), .int (t 5), .int (t 6), .ref (w + 1), .ref (w + 2), .int (t 9), .int (t 10), .ref (w + 3), .ref (w + 4), .int (s 13), .ref (w + 5), .int (s 15)])))
  refine ab_gen (fun h141 e142 => ?_)
  have c143 : h141[w]? = some (.inr (7, [.int (t 0), .int (t 1), .int (t 2), .int (t 3), .int (t 4), .int (t 5), .int (t 6), .ref (w + 1), .ref (w + 2), .int (t 9), .int (t 10), .ref (w + 3), .ref (w + 4), .int (s 13), .ref (w + 5), .int (s 15)])) := ab_self e142 c129
  have c144 : h141[w+1]? = some (.inl (.int, 256, .inl (va_cpy (d 7) (a 7) (0 : Int32).toNatClampNeg (0 : Int32).toNatClampNeg (256 : Int32).toNatClampNeg))) := ab_other e142 (by omega) c130
  have c145 : h141[w+2]? = some (.inl (.int, 256, .inl (va_cpy (d 8) (a 8) (0 : Int32).toNatClampNeg (0 : Int32).toNatClampNeg (256 : Int32).toNatClampNeg))) := ab_other e142 (by omega) c131
  have c146 : h141[w+3]? = some (.inl (.int, 12288, .inl (a 11))) := ab_other e142 (by omega) c132
  have c147 : h141[w+4]? = some (.inl (.int, 1792, .inl (a 12))) := ab_other e142 (by omega) c133
  have c148 : h141[w+5]? = some (.inl (.int, 32, .inl (a 14))) := ab_other e142 (by omega) c134
  have c149 : h141[u]? = some (.inr (7, [.int (t 0), .int (t 1), .int (t 2), .int (t 3), .int (t 4), .int (t 5), .int (t 6), .ref (u + 1), .ref (u + 2), .int (t 9), .int (t 10), .ref (u + 3), .ref (u + 4), .int (t 13), .ref (u + 5), .int (t 15)])) := ab_other e142 (by omega) c135
  have c150 : h141[u+1]? = some (.inl (.int, 256, .inl (d 7))) := ab_other e142 (by omega) c136
  have c151 : h141[u+2]? = some (.inl (.int, 256, .inl (d 8))) := ab_other e142 (by omega) c137
  have c152 : h141[u+3]? = some (.inl (.int, 12288, .inl (d 11))) := ab_other e142 (by omega) c138
  have c153 : h141[u+4]? = some (.inl (.int, 1792, .inl (d 12))) := ab_other e142 (by omega) c139
  have c154 : h141[u+5]? = some (.inl (.int, 32, .inl (d 14))) := ab_other e142 (by omega) c140
  refine ab_aload_n d_World_copyFrom_104 rfl rfl rfl ?_
  refine ab_get (f := 11) d_World_copyFrom_105 c149 rfl (by decide) (k1 236 rfl rfl) rfl ?_
  refine ab_iconst (v := 0) d_World_copyFrom_108 (by decide) ?_
  refine ab_aload_n d_World_copyFrom_109 rfl rfl rfl ?_
  refine ab_get (f := 11) d_World_copyFrom_110 c143 rfl (by decide) (k1 236 rfl rfl) rfl ?_
  refine ab_iconst (v := 0) d_World_copyFrom_113 (by decide) ?_
  refine ab_aload_n d_World_copyFrom_114 rfl rfl rfl ?_
  refine ab_get (f := 9) d_World_copyFrom_115 c143 rfl (by decide) (k1 231 rfl rfl) rfl ?_
  refine ab_aload_n d_World_copyFrom_118 rfl rfl rfl ?_
  refine ab_get (f := 10) d_World_copyFrom_119 c143 rfl (by decide) (k1 234 rfl rfl) rfl ?_
  refine ab_imul d_World_copyFrom_122 ?_
  refine ab_acopy d_World_copyFrom_123 (k6 111 rfl rfl) (k6 113 rfl rfl) (k6 112 rfl rfl) (k1 29 rfl rfl) c152 c146 (by decide) (by decide) hv0 (by rw [show ((0 : Int32).toNatClampNeg) = 0 by decide, Nat.zero_add]; exact hv1) (by rw [show ((0 : Int32).toNatClampNeg) = 0 by decide, Nat.zero_add]; exact hv1) (by decide) (Nat.le_of_ble_eq_true rfl) ?_
  refine ab_gen (fun h155 e156 => ?_)
  have c157 : h155[w]? = some (.inr (7, [.int (t 0), .int (t 1), .int (t 2), .int (t 3), .int (t 4), .int (t 5), .int (t 6), .ref (w + 1), .ref (w + 2), .int (t 9), .int (t 10), .ref (w + 3), .ref (w + 4), .int (s 13), .ref (w + 5), .int (s 15)])) := ab_other e156 (by omega) c143
  have c158 : h155[w+1]? = some (.inl (.int, 256, .inl (va_cpy (d 7) (a 7) (0 : Int32).toNatClampNeg (0 : Int32).toNatClampNeg (256 : Int32).toNatClampNeg))) := ab_other e156 (by omega) c144
  have c159 : h155[w+2]? = some (.inl (.int, 256, .inl (va_cpy (d 8) (a 8) (0 : Int32).toNatClampNeg (0 : Int32).toNatClampNeg (256 : Int32).toNatClampNeg))) := ab_other e156 (by omega) c145
  have c160 : h155[w+3]? = some (.inl (.int, 12288, .inl (va_cpy (d 11) (a 11) (0 : Int32).toNatClampNeg (0 : Int32).toNatClampNeg (((t 9) * (t 10)) : Int32).toNatClampNeg))) := ab_self e156 c146
  have c161 : h155[w+4]? = some (.inl (.int, 1792, .inl (a 12))) := ab_other e156 (by omega) c147
  have c162 : h155[w+5]? = some (.inl (.int, 32, .inl (a 14))) := ab_other e156 (by omega) c148
  have c163 : h155[u]? = some (.inr (7, [.int (t 0), .int (t 1), .int (t 2), .int (t 3), .int (t 4), .int (t 5), .int (t 6), .ref (u + 1), .ref (u + 2), .int (t 9), .int (t 10), .ref (u + 3), .ref (u + 4), .int (t 13), .ref (u + 5), .int (t 15)])) := ab_other e156 (by omega) c149
  have c164 : h155[u+1]? = some (.inl (.int, 256, .inl (d 7))) := ab_other e156 (by omega) c150
  have c165 : h155[u+2]? = some (.inl (.int, 256, .inl (d 8))) := ab_other e156 (by omega) c151
  have c166 : h155[u+3]? = some (.inl (.int, 12288, .inl (d 11))) := ab_other e156 (by omega) c152
  have c167 : h155[u+4]? = some (.inl (.int, 1792, .inl (d 12))) := ab_other e156 (by omega) c153
  have c168 : h155[u+5]? = some (.inl (.int, 32, .inl (d 14))) := ab_other e156 (by omega) c154
  refine ab_aload_n d_World_copyFrom_126 rfl rfl rfl ?_
  refine ab_get (f := 12) d_World_copyFrom_127 c163 rfl (by decide) (k1 238 rfl rfl) rfl ?_
  refine ab_iconst (v := 0) d_World_copyFrom_130 (by decide) ?_
  refine ab_aload_n d_World_copyFrom_131 rfl rfl rfl ?_
  refine ab_get (f := 12) d_World_copyFrom_132 c157 rfl (by decide) (k1 238 rfl rfl) rfl ?_
  refine ab_iconst (v := 0) d_World_copyFrom_135 (by decide) ?_
  refine ab_aload_n d_World_copyFrom_136 rfl rfl rfl ?_
  refine ab_get (f := 13) d_World_copyFrom_137 c163 rfl (by decide) (k2 3 rfl rfl) rfl ?_
  refine ab_bipush (v := 7) d_World_copyFrom_140 (by decide) ?_
  refine ab_imul d_World_copyFrom_142 ?_
  refine ab_acopy d_World_copyFrom_143 (k6 111 rfl rfl) (k6 113 rfl rfl) (k6 112 rfl rfl) (k1 29 rfl rfl) c167 c161 (by decide) (by decide) hp0 (by rw [show ((0 : Int32).toNatClampNeg) = 0 by decide, Nat.zero_add]; exact hp1) (by rw [show ((0 : Int32).toNatClampNeg) = 0 by decide, Nat.zero_add]; exact hp1) (by decide) (Nat.le_of_ble_eq_true rfl) ?_
  refine ab_gen (fun h169 e170 => ?_)
  have c171 : h169[w]? = some (.inr (7, [.int (t 0), .int (t 1), .int (t 2), .int (t 3), .int (t 4), .int (t 5), .int (t 6), .ref (w + 1), .ref (w + 2), .int (t 9), .int (t 10), .ref (w + 3), .ref (w + 4), .int (s 13), .ref (w + 5), .int (s 15)])) := ab_other e170 (by omega) c157
  have c172 : h169[w+1]? = some (.inl (.int, 256, .inl (va_cpy (d 7) (a 7) (0 : Int32).toNatClampNeg (0 : Int32).toNatClampNeg (256 : Int32).toNatClampNeg))) := ab_other e170 (by omega) c158
  have c173 : h169[w+2]? = some (.inl (.int, 256, .inl (va_cpy (d 8) (a 8) (0 : Int32).toNatClampNeg (0 : Int32).toNatClampNeg (256 : Int32).toNatClampNeg))) := ab_other e170 (by omega) c159
  have c174 : h169[w+3]? = some (.inl (.int, 12288, .inl (va_cpy (d 11) (a 11) (0 : Int32).toNatClampNeg (0 : Int32).toNatClampNeg (((t 9) * (t 10)) : Int32).toNatClampNeg))) := ab_other e170 (by omega) c160
  have c175 : h169[w+4]? = some (.inl (.int, 1792, .inl (va_cpy (d 12) (a 12) (0 : Int32).toNatClampNeg (0 : Int32).toNatClampNeg (((t 13) * 7) : Int32).toNatClampNeg))) := ab_self e170 c161
  have c176 : h169[w+5]? = some (.inl (.int, 32, .inl (a 14))) := ab_other e170 (by omega) c162
  have c177 : h169[u]? = some (.inr (7, [.int (t 0), .int (t 1), .int (t 2), .int (t 3), .int (t 4), .int (t 5), .int (t 6), .ref (u + 1), .ref (u + 2), .int (t 9), .int (t 10), .ref (u + 3), .ref (u + 4), .int (t 13), .ref (u + 5), .int (t 15)])) := ab_other e170 (by omega) c163
  have c178 : h169[u+1]? = some (.inl (.int, 256, .inl (d 7))) := ab_other e170 (by omega) c164
  have c179 : h169[u+2]? = some (.inl (.int, 256, .inl (d 8))) := ab_other e170 (by omega) c165
  have c180 : h169[u+3]? = some (.inl (.int, 12288, .inl (d 11))) := ab_other e170 (by omega) c166
  have c181 : h169[u+4]? = some (.inl (.int, 1792, .inl (d 12))) := ab_other e170 (by omega) c167
  have c182 : h169[u+5]? = some (.inl (.int, 32, .inl (d 14))) := ab_other e170 (by omega) c168
  refine ab_aload_n d_World_copyFrom_146 rfl rfl rfl ?_
  refine ab_aload_n d_World_copyFrom_147 rfl rfl rfl ?_
  refine ab_get (f := 13) d_World_copyFrom_148 c177 rfl (by decide) (k2 3 rfl rfl) rfl ?_
  refine ab_put (f := 13) d_World_copyFrom_151 c171 rfl (by decide) (k2 3 rfl rfl) rfl rfl (fun _ => rfl) (fun _ => rfl) (Nat.le_of_ble_eq_true rfl) ?_
  show ab_V _ _ _ _ _ _ _ 154 [some (.ref w), some (.ref u)] [] (h169.set w (.inr (7, [.int (t 0), .int (t 1), .int (t 2), .int (t 3), .int (t 4), .int (t 5), .int (t 6), .ref (w + 1), .ref (w + 2), .int (t 9), .int (t 10), .ref (w + 3), .ref (w + 4), .int (t 13), .ref (w + 5), .int (s 15)])))
  refine ab_gen (fun h183 e184 => ?_)
  have c185 : h183[w]? = some (.inr (7, [.int (t 0), .int (t 1), .int (t 2), .int (t 3), .int (t 4), .int (t 5), .int (t 6), .ref (w + 1), .ref (w + 2), .int (t 9), .int (t 10), .ref (w + 3), .ref (w + 4), .int (t 13), .ref (w + 5), .int (s 15)])) := ab_self e184 c171
  have c186 : h183[w+1]? = some (.inl (.int, 256, .inl (va_cpy (d 7) (a 7) (0 : Int32).toNatClampNeg (0 : Int32).toNatClampNeg (256 : Int32).toNatClampNeg))) := ab_other e184 (by omega) c172
  have c187 : h183[w+2]? = some (.inl (.int, 256, .inl (va_cpy (d 8) (a 8) (0 : Int32).toNatClampNeg (0 : Int32).toNatClampNeg (256 : Int32).toNatClampNeg))) := ab_other e184 (by omega) c173
  have c188 : h183[w+3]? = some (.inl (.int, 12288, .inl (va_cpy (d 11) (a 11) (0 : Int32).toNatClampNeg (0 : Int32).toNatClampNeg (((t 9) * (t 10)) : Int32).toNatClampNeg))) := ab_other e184 (by omega) c174
  have c189 : h183[w+4]? = some (.inl (.int, 1792, .inl (va_cpy (d 12) (a 12) (0 : Int32).toNatClampNeg (0 : Int32).toNatClampNeg (((t 13) * 7) : Int32).toNatClampNeg))) := ab_other e184 (by omega) c175
  have c190 : h183[w+5]? = some (.inl (.int, 32, .inl (a 14))) := ab_other e184 (by omega) c176
  have c191 : h183[u]? = some (.inr (7, [.int (t 0), .int (t 1), .int (t 2), .int (t 3), .int (t 4), .int (t 5), .int (t 6), .ref (u + 1), .ref (u + 2), .int (t 9), .int (t 10), .ref (u + 3), .ref (u + 4), .int (t 13), .ref (u + 5), .int (t 15)])) := ab_other e184 (by omega) c177
  have c192 : h183[u+1]? = some (.inl (.int, 256, .inl (d 7))) := ab_other e184 (by omega) c178
  have c193 : h183[u+2]? = some (.inl (.int, 256, .inl (d 8))) := ab_other e184 (by omega) c179
  have c194 : h183[u+3]? = some (.inl (.int, 12288, .inl (d 11))) := ab_other e184 (by omega) c180
  have c195 : h183[u+4]? = some (.inl (.int, 1792, .inl (d 12))) := ab_other e184 (by omega) c181
  have c196 : h183[u+5]? = some (.inl (.int, 32, .inl (d 14))) := ab_other e184 (by omega) c182
  refine ab_aload_n d_World_copyFrom_154 rfl rfl rfl ?_
  refine ab_get (f := 14) d_World_copyFrom_155 c191 rfl (by decide) (k2 8 rfl rfl) rfl ?_
  refine ab_iconst (v := 0) d_World_copyFrom_158 (by decide) ?_
  refine ab_aload_n d_World_copyFrom_159 rfl rfl rfl ?_
  refine ab_get (f := 14) d_World_copyFrom_160 c185 rfl (by decide) (k2 8 rfl rfl) rfl ?_
  refine ab_iconst (v := 0) d_World_copyFrom_163 (by decide) ?_
  refine ab_aload_n d_World_copyFrom_164 rfl rfl rfl ?_
  refine ab_get (f := 15) d_World_copyFrom_165 c191 rfl (by decide) (k2 12 rfl rfl) rfl ?_
  refine ab_acopy d_World_copyFrom_168 (k6 111 rfl rfl) (k6 113 rfl rfl) (k6 112 rfl rfl) (k1 29 rfl rfl) c196 c190 (by decide) (by decide) hs0 (by rw [show ((0 : Int32).toNatClampNeg) = 0 by decide, Nat.zero_add]; exact hs1) (by rw [show ((0 : Int32).toNatClampNeg) = 0 by decide, Nat.zero_add]; exact hs1) (by decide) (Nat.le_of_ble_eq_true rfl) ?_
  refine ab_gen (fun h197 e198 => ?_)
  have c199 : h197[w]? = some (.inr (7, [.int (t 0), .int (t 1), .int (t 2), .int (t 3), .int (t 4), .int (t 5), .int (t 6), .ref (w + 1), .ref (w + 2), .int (t 9), .int (t 10), .ref (w + 3), .ref (w + 4), .int (t 13), .ref (w + 5), .int (s 15)])) := ab_other e198 (by omega) c185
  have c200 : h197[w+1]? = some (.inl (.int, 256, .inl (va_cpy (d 7) (a 7) (0 : Int32).toNatClampNeg (0 : Int32).toNatClampNeg (256 : Int32).toNatClampNeg))) := ab_other e198 (by omega) c186
  have c201 : h197[w+2]? = some (.inl (.int, 256, .inl (va_cpy (d 8) (a 8) (0 : Int32).toNatClampNeg (0 : Int32).toNatClampNeg (256 : Int32).toNatClampNeg))) := ab_other e198 (by omega) c187
  have c202 : h197[w+3]? = some (.inl (.int, 12288, .inl (va_cpy (d 11) (a 11) (0 : Int32).toNatClampNeg (0 : Int32).toNatClampNeg (((t 9) * (t 10)) : Int32).toNatClampNeg))) := ab_other e198 (by omega) c188
  have c203 : h197[w+4]? = some (.inl (.int, 1792, .inl (va_cpy (d 12) (a 12) (0 : Int32).toNatClampNeg (0 : Int32).toNatClampNeg (((t 13) * 7) : Int32).toNatClampNeg))) := ab_other e198 (by omega) c189
  have c204 : h197[w+5]? = some (.inl (.int, 32, .inl (va_cpy (d 14) (a 14) (0 : Int32).toNatClampNeg (0 : Int32).toNatClampNeg ((t 15) : Int32).toNatClampNeg))) := ab_self e198 c190
  have c205 : h197[u]? = some (.inr (7, [.int (t 0), .int (t 1), .int (t 2), .int (t 3), .int (t 4), .int (t 5), .int (t 6), .ref (u + 1), .ref (u + 2), .int (t 9), .int (t 10), .ref (u + 3), .ref (u + 4), .int (t 13), .ref (u + 5), .int (t 15)])) := ab_other e198 (by omega) c191
  have c206 : h197[u+1]? = some (.inl (.int, 256, .inl (d 7))) := ab_other e198 (by omega) c192
  have c207 : h197[u+2]? = some (.inl (.int, 256, .inl (d 8))) := ab_other e198 (by omega) c193
  have c208 : h197[u+3]? = some (.inl (.int, 12288, .inl (d 11))) := ab_other e198 (by omega) c194
  have c209 : h197[u+4]? = some (.inl (.int, 1792, .inl (d 12))) := ab_other e198 (by omega) c195
  have c210 : h197[u+5]? = some (.inl (.int, 32, .inl (d 14))) := ab_other e198 (by omega) c196
  refine ab_aload_n d_World_copyFrom_171 rfl rfl rfl ?_
  refine ab_aload_n d_World_copyFrom_172 rfl rfl rfl ?_
  refine ab_get (f := 15) d_World_copyFrom_173 c205 rfl (by decide) (k2 12 rfl rfl) rfl ?_
  refine ab_put (f := 15) d_World_copyFrom_176 c199 rfl (by decide) (k2 12 rfl rfl) rfl rfl (fun _ => rfl) (fun _ => rfl) (Nat.le_of_ble_eq_true rfl) ?_
  show ab_V _ _ _ _ _ _ _ 179 [some (.ref w), some (.ref u)] [] (h197.set w (.inr (7, [.int (t 0), .int (t 1), .int (t 2), .int (t 3), .int (t 4), .int (t 5), .int (t 6), .ref (w + 1), .ref (w + 2), .int (t 9), .int (t 10), .ref (w + 3), .ref (w + 4), .int (t 13), .ref (w + 5), .int (t 15)])))
  refine ab_gen (fun h211 e212 => ?_)
  have c213 : h211[w]? = some (.inr (7, [.int (t 0), .int (t 1), .int (t 2), .int (t 3), .int (t 4), .int (t 5), .int (t 6), .ref (w + 1), .ref (w + 2), .int (t 9), .int (t 10), .ref (w + 3), .ref (w + 4), .int (t 13), .ref (w + 5), .int (t 15)])) := ab_self e212 c199
  have c214 : h211[w+1]? = some (.inl (.int, 256, .inl (va_cpy (d 7) (a 7) (0 : Int32).toNatClampNeg (0 : Int32).toNatClampNeg (256 : Int32).toNatClampNeg))) := ab_other e212 (by omega) c200
  have c215 : h211[w+2]? = some (.inl (.int, 256, .inl (va_cpy (d 8) (a 8) (0 : Int32).toNatClampNeg (0 : Int32).toNatClampNeg (256 : Int32).toNatClampNeg))) := ab_other e212 (by omega) c201
  have c216 : h211[w+3]? = some (.inl (.int, 12288, .inl (va_cpy (d 11) (a 11) (0 : Int32).toNatClampNeg (0 : Int32).toNatClampNeg (((t 9) * (t 10)) : Int32).toNatClampNeg))) := ab_other e212 (by omega) c202
  have c217 : h211[w+4]? = some (.inl (.int, 1792, .inl (va_cpy (d 12) (a 12) (0 : Int32).toNatClampNeg (0 : Int32).toNatClampNeg (((t 13) * 7) : Int32).toNatClampNeg))) := ab_other e212 (by omega) c203
  have c218 : h211[w+5]? = some (.inl (.int, 32, .inl (va_cpy (d 14) (a 14) (0 : Int32).toNatClampNeg (0 : Int32).toNatClampNeg ((t 15) : Int32).toNatClampNeg))) := ab_other e212 (by omega) c204
  have c219 : h211[u]? = some (.inr (7, [.int (t 0), .int (t 1), .int (t 2), .int (t 3), .int (t 4), .int (t 5), .int (t 6), .ref (u + 1), .ref (u + 2), .int (t 9), .int (t 10), .ref (u + 3), .ref (u + 4), .int (t 13), .ref (u + 5), .int (t 15)])) := ab_other e212 (by omega) c205
  have c220 : h211[u+1]? = some (.inl (.int, 256, .inl (d 7))) := ab_other e212 (by omega) c206
  have c221 : h211[u+2]? = some (.inl (.int, 256, .inl (d 8))) := ab_other e212 (by omega) c207
  have c222 : h211[u+3]? = some (.inl (.int, 12288, .inl (d 11))) := ab_other e212 (by omega) c208
  have c223 : h211[u+4]? = some (.inl (.int, 1792, .inl (d 12))) := ab_other e212 (by omega) c209
  have c224 : h211[u+5]? = some (.inl (.int, 32, .inl (d 14))) := ab_other e212 (by omega) c210
  exact ab_vret d_World_copyFrom_179 rfl (Nat.le_refl _) (Nat.le_refl _) (by exact ⟨rfl, ⟨c213, c214, c215, c216, c217, c218⟩, ⟨c219, c220, c221, c222, c223, c224⟩, (ab_fr_set (ab_fr_set (ab_fr_set (ab_fr_set (ab_fr_set (ab_fr_set (ab_fr_set (ab_fr_set (ab_fr_set (ab_fr_set (ab_fr_set (ab_fr_set (ab_fr_set (ab_fr_set (ab_fr_set (ab_fr_set (ab_fr_rf _ _) e2 (by first | (show _ ∧ _; omega) | (show _ ∨ _; omega) | (show _ = _; omega) | (show _ ≤ _; omega))) e16 (by first | (show _ ∧ _; omega) | (show _ ∨ _; omega) | (show _ = _; omega) | (show _ ≤ _; omega))) e30 (by first | (show _ ∧ _; omega) | (show _ ∨ _; omega) | (show _ = _; omega) | (show _ ≤ _; omega))) e44 (by first | (show _ ∧ _; omega) | (show _ ∨ _; omega) | (show _ = _; omega) | (show _ ≤ _; omega))) e58 (by first | (show _ ∧ _; omega) | (show _ ∨ _; omega) | (show _ = _; omega) | (show _ ≤ _; omega))) e72 (by first | (show _ ∧ _; omega) | (show _ ∨ _; omega) | (show _ = _; omega) | (show _ ≤ _; omega))) e86 (by first | (show _ ∧ _; omega) | (show _ ∨ _; omega) | (show _ = _; omega) | (show _ ≤ _; omega))) e100 (by first | (show _ ∧ _; omega) | (show _ ∨ _; omega) | (show _ = _; omega) | (show _ ≤ _; omega))) e114 (by first | (show _ ∧ _; omega) | (show _ ∨ _; omega) | (show _ = _; omega) | (show _ ≤ _; omega))) e128 (by first | (show _ ∧ _; omega) | (show _ ∨ _; omega) | (show _ = _; omega) | (show _ ≤ _; omega))) e142 (by first | (show _ ∧ _; omega) | (show _ ∨ _; omega) | (show _ = _; omega) | (show _ ≤ _; omega))) e156 (by first | (show _ ∧ _; omega) | (show _ ∨ _; omega) | (show _ = _; omega) | (show _ ≤ _; omega))) e170 (by first | (show _ ∧ _; omega) | (show _ ∨ _; omega) | (show _ = _; omega) | (show _ ≤ _; omega))) e184 (by first | (show _ ∧ _; omega) | (show _ ∨ _; omega) | (show _ = _; omega) | (show _ ≤ _; omega))) e198 (by first | (show _ ∧ _; omega) | (show _ ∨ _; omega) | (show _ = _; omega) | (show _ ≤ _; omega))) e212 (by first | (show _ ∧ _; omega) | (show _ ∨ _; omega) | (show _ = _; omega) | (show _ ≤ _; omega)))⟩)
