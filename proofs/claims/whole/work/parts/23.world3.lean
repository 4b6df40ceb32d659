def sp_clear_s (s : Nat → Int32) (e u : Int32) : Nat → Int32 := upd (upd (upd (upd (upd (upd (upd (upd (upd s 0 0) 1 e) 2 0) 3 0) 6 0) 9 0) 10 u) 13 0) 15 0
def sp_clear_a (a : Nat → Nat → Int32) : Nat → Nat → Int32 := upa (upa a 7 (sp_fill 0 256 0 (a 7))) 8 (sp_fill 0 256 (-1) (a 8))
set_option maxRecDepth 20000 in
set_option maxHeartbeats 2000000 in
theorem c_World_clear {h : List ab_E} {w : Nat} {s : Nat → Int32} {a : Nat → Nat → Int32} {e u : Int32} (hw : at_World h w s a)  : ab_M y_World_clear { frames := 1, cells := 0, slots := 0, locals := 60 } [.ref w, .int e, .int u] h (ab_A none (fun h1 => at_World h1 w (sp_clear_s s e u) (sp_clear_a a) ∧ ab_fr (in_World w) h h1)) := by
  have hw0 := hw; obtain ⟨go, g7, g8, g11, g12, g14⟩ := hw
  refine ab_of2 (lv := [some (.ref w), some (.int e), some (.int u)]) 0 rfl rfl (Nat.le_of_ble_eq_true rfl) ?_
  refine ab_aload_n d_World_clear_0 rfl rfl rfl ?_
  refine ab_iconst (v := 0) d_World_clear_1 (by decide) ?_
  refine ab_put (f := 0) d_World_clear_2 go rfl (by decide) (k1 204 rfl rfl) rfl rfl (fun _ => rfl) (fun _ => rfl) (Nat.le_of_ble_eq_true rfl) ?_
  show ab_V _ _ _ _ _ _ _ 5 [some (.ref w), some (.int e), some (.int u)] [] (h.set w (.inr (7, [.int 0, .int (s 1), .int (s 2), .int (s 3), .int (s 4), .int (s 5), .int (s 6), .ref (w + 1), .ref (w + 2), .int (s 9), .int (s 10), .ref (w + 3), .ref (w + 4), .int (s 13), .ref (w + 5), .int (s 15)])))
  refine ab_gen (fun h1 e2 => ?_)
  have c3 : h1[w]? = some (.inr (7, [.int 0, .int (s 1), .int (s 2), .int (s 3), .int (s 4), .int (s 5), .int (s 6), .ref (w + 1), .ref (w + 2), .int (s 9), .int (s 10), .ref (w + 3), .ref (w + 4), .int (s 13), .ref (w + 5), .int (s 15)])) := ab_self e2 go
  have c4 : h1[w+1]? = some (.inl (.int, 256, .inl (a 7))) := ab_other e2 (by omega) g7
  have c5 : h1[w+2]? = some (.inl (.int, 256, .inl (a 8))) := ab_other e2 (by omega) g8
  have c6 : h1[w+3]? = some (.inl (.int, 12288, .inl (a 11))) := ab_other e2 (by omega) g11
  have c7 : h1[w+4]? = some (.inl (.int, 1792, .inl (a 12))) := ab_other e2 (by omega) g12
  have c8 : h1[w+5]? = some (.inl (.int, 32, .inl (a 14))) := ab_other e2 (by omega) g14
  refine ab_aload_n d_World_clear_5 rfl rfl rfl ?_
  refine ab_iload_n d_World_clear_6 rfl rfl ?_
  refine ab_put (f := 1) d_World_clear_7 c3 rfl (by decide) (k1 210 rfl rfl) rfl rfl (fun _ => rfl) (fun _ => rfl) (Nat.le_of_ble_eq_true rfl) ?_
  show ab_V _ _ _ _ _ _ _ 10 [some (.ref w), some (.int e), some (.int u)] [] (h1.set w (.inr (7, [.int 0, .int e, .int (s 2), .int (s 3), .int (s 4), .int (s 5), .int (s 6), .ref (w + 1), .ref (w + 2), .int (s 9), .int (s 10), .ref (w + 3), .ref (w + 4), .int (s 13), .ref (w + 5), .int (s 15)])))
  refine ab_gen (fun h9 e10 => ?_)
  have c11 : h9[w]? = some (.inr (7, [.int 0, .int e, .int (s 2), .int (s 3), .int (s 4), .int (s 5), .int (s 6), .ref (w + 1), .ref (w + 2), .int (s 9), .int (s 10), .ref (w + 3), .ref (w + 4), .int (s 13), .ref (w + 5), .int (s 15)])) := ab_self e10 c3
  have c12 : h9[w+1]? = some (.inl (.int, 256, .inl (a 7))) := ab_other e10 (by omega) c4
  have c13 : h9[w+2]? = some (.inl (.int, 256, .inl (a 8))) := ab_other e10 (by omega) c5
  have c14 : h9[w+3]? = some (.inl (.int, 12288, .inl (a 11))) := ab_other e10 (by omega) c6
  have c15 : h9[w+4]? = some (.inl (.int, 1792, .inl (a 12))) := ab_other e10 (by omega) c7
  have c16 : h9[w+5]? = some (.inl (.int, 32, .inl (a 14))) := ab_other e10 (by omega) c8
  refine ab_aload_n d_World_clear_10 rfl rfl rfl ?_
  refine ab_iconst (v := 0) d_World_clear_11 (by decide) ?_
  refine ab_put (f := 2) d_World_clear_12 c11 rfl (by decide) (k1 213 rfl rfl) rfl rfl (fun _ => rfl) (fun _ => rfl) (Nat.le_of_ble_eq_true rfl) ?_
  show ab_V _ _ _ _ _ _ _ 15 [some (.ref w), some (.int e), some (.int u)] [] (h9.set w (.inr (7, [.int 0, .int e, .int 0, .int (s 3), .int (s 4), .int (s 5), .int (s 6), .ref (w + 1), .ref (w + 2), .int (s 9), .int (s 10), .ref (w + 3), .ref (w + 4), .int (s 13), .ref (w + 5), .int (s 15)])))
  refine ab_gen (fun h17 e18 => ?_)
  have c19 : h17[w]? = some (.inr (7, [.int 0, .int e, .int 0, .int (s 3), .int (s 4), .int (s 5), .int (s 6), .ref (w + 1), .ref (w + 2), .int (s 9), .int (s 10), .ref (w + 3), .ref (w + 4), .int (s 13), .ref (w + 5), .int (s 15)])) := ab_self e18 c11
  have c20 : h17[w+1]? = some (.inl (.int, 256, .inl (a 7))) := ab_other e18 (by omega) c12
  have c21 : h17[w+2]? = some (.inl (.int, 256, .inl (a 8))) := ab_other e18 (by omega) c13
  have c22 : h17[w+3]? = some (.inl (.int, 12288, .inl (a 11))) := ab_other e18 (by omega) c14
  have c23 : h17[w+4]? = some (.inl (.int, 1792, .inl (a 12))) := ab_other e18 (by omega) c15
  have c24 : h17[w+5]? = some (.inl (.int, 32, .inl (a 14))) := ab_other e18 (by omega) c16
  refine ab_aload_n d_World_clear_15 rfl rfl rfl ?_
  refine ab_iconst (v := 0) d_World_clear_16 (by decide) ?_
  refine ab_put (f := 3) d_World_clear_17 c19 rfl (by decide) (k1 216 rfl rfl) rfl rfl (fun _ => rfl) (fun _ => rfl) (Nat.le_of_ble_eq_true rfl) ?_
  show ab_V _ _ _ _ _ _ _ 20 [some (.ref w), some (.int e), some (.int u)] [] (h17.set w (.inr (7, [.int 0, .int e, .int 0, .int 0, .int (s 4), .int (s 5), .int (s 6), .ref (w + 1), .ref (w + 2), .int (s 9), .int (s 10), .ref (w + 3), .ref (w + 4), .int (s 13), .ref (w + 5), .int (s 15)])))
  refine ab_gen (fun h25 e26 => ?_)
  have c27 : h25[w]? = some (.inr (7, [.int 0, .int e, .int 0, .int 0, .int (s 4), .int (s 5), .int (s 6), .ref (w + 1), .ref (w + 2), .int (s 9), .int (s 10), .ref (w + 3), .ref (w + 4), .int (s 13), .ref (w + 5), .int (s 15)])) := ab_self e26 c19
  have c28 : h25[w+1]? = some (.inl (.int, 256, .inl (a 7))) := ab_other e26 (by omega) c20
  have c29 : h25[w+2]? = some (.inl (.int, 256, .inl (a 8))) := ab_other e26 (by omega) c21
  have c30 : h25[w+3]? = some (.inl (.int, 12288, .inl (a 11))) := ab_other e26 (by omega) c22
  have c31 : h25[w+4]? = some (.inl (.int, 1792, .inl (a 12))) := ab_other e26 (by omega) c23
  have c32 : h25[w+5]? = some (.inl (.int, 32, .inl (a 14))) := ab_other e26 (by omega) c24
  refine ab_aload_n d_World_clear_20 rfl rfl rfl ?_
  refine ab_iconst (v := 0) d_World_clear_21 (by decide) ?_
  refine ab_put (f := 6) d_World_clear_22 c27 rfl (by decide) (k1 224 rfl rfl) rfl rfl (fun _ => rfl) (fun _ => rfl) (Nat.le_of_ble_eq_true rfl) ?_
  show ab_V _ _ _ _ _ _ _ 25 [some (.ref w), some (.int e), some (.int u)] [] (h25.set w (.inr (7, [.int 0, .int e, .int 0, .int 0, .int (s 4), .int (s 5), .int 0, .ref (w + 1), .ref (w + 2), .int (s 9), .int (s 10), .ref (w + 3), .ref (w + 4), .int (s 13), .ref (w + 5), .int (s 15)])))
  refine ab_gen (fun h33 e34 => ?_)
  have c35 : h33[w]? = some (.inr (7, [.int 0, .int e, .int 0, .int 0, .int (s 4), .int (s 5), .int 0, .ref (w + 1), .ref (w + 2), .int (s 9), .int (s 10), .ref (w + 3), .ref (w + 4), .int (s 13), .ref (w + 5), .int (s 15)])) := ab_self e34 c27
  have c36 : h33[w+1]? = some (.inl (.int, 256, .inl (a 7))) := ab_other e34 (by omega) c28
  have c37 : h33[w+2]? = some (.inl (.int, 256, .inl (a 8))) := ab_other e34 (by omega) c29
  have c38 : h33[w+3]? = some (.inl (.int, 12288, .inl (a 11))) := ab_other e34 (by omega) c30
  have c39 : h33[w+4]? = some (.inl (.int, 1792, .inl (a 12))) := ab_other e34 (by omega) c31
  have c40 : h33[w+5]? = some (.inl (.int, 32, .inl (a 14))) := ab_other e34 (by omega) c32
  refine ab_aload_n d_World_clear_25 rfl rfl rfl ?_
  refine ab_get (f := 7) d_World_clear_26 c35 rfl (by decide) (k1 227 rfl rfl) rfl ?_
  refine ab_iconst (v := 0) d_World_clear_29 (by decide) ?_
  refine ab_callS_v (As := [.ref (w + 1), .int 0]) (rest := []) d_World_clear_30 (c_Arr_fill (by decide) c36) (ab_mkC s_Arr_fill (by decide) (by decide) (by decide) (by decide)) (k1 201 rfl rfl) t_Arr_fill rfl (Nat.le_of_ble_eq_true rfl) (fun h41 e42 => ?_)
  have c43 : h41[w]? = some (.inr (7, [.int 0, .int e, .int 0, .int 0, .int (s 4), .int (s 5), .int 0, .ref (w + 1), .ref (w + 2), .int (s 9), .int (s 10), .ref (w + 3), .ref (w + 4), .int (s 13), .ref (w + 5), .int (s 15)])) := ab_other e42 (by omega) c35
  have c44 : h41[w+1]? = some (.inl (.int, 256, .inl (sp_fill 0 256 0 (a 7)))) := ab_self e42 c36
  have c45 : h41[w+2]? = some (.inl (.int, 256, .inl (a 8))) := ab_other e42 (by omega) c37
  have c46 : h41[w+3]? = some (.inl (.int, 12288, .inl (a 11))) := ab_other e42 (by omega) c38
  have c47 : h41[w+4]? = some (.inl (.int, 1792, .inl (a 12))) := ab_other e42 (by omega) c39
  have c48 : h41[w+5]? = some (.inl (.int, 32, .inl (a 14))) := ab_other e42 (by omega) c40
  refine ab_aload_n d_World_clear_33 rfl rfl rfl ?_
  refine ab_get (f := 8) d_World_clear_34 c43 rfl (by decide) (k1 229 rfl rfl) rfl ?_
  refine ab_iconst (v := (-1)) d_World_clear_37 (by decide) ?_
  refine ab_callS_v (As := [.ref (w + 2), .int (-1)]) (rest := []) d_World_clear_38 (c_Arr_fill (by decide) c45) (ab_mkC s_Arr_fill (by decide) (by decide) (by decide) (by decide)) (k1 201 rfl rfl) t_Arr_fill rfl (Nat.le_of_ble_eq_true rfl) (fun h49 e50 => ?_)
  have c51 : h49[w]? = some (.inr (7, [.int 0, .int e, .int 0, .int 0, .int (s 4), .int (s 5), .int 0, .ref (w + 1), .ref (w + 2), .int (s 9), .int (s 10), .ref (w + 3), .ref (w + 4), .int (s 13), .ref (w + 5), .int (s 15)])) := ab_other e50 (by omega) c43
  have c52 : h49[w+1]? = some (.inl (.int, 256, .inl (sp_fill 0 256 0 (a 7)))) := ab_other e50 (by omega) c44
  have c53 : h49[w+2]? = some (.inl (.int, 256, .inl (sp_fill 0 256 (-1) (a 8)))) := ab_self e50 c45
  have c54 : h49[w+3]? = some (.inl (.int, 12288, .inl (a 11))) := ab_other e50 (by omega) c46
  have c55 : h49[w+4]? = some (.inl (.int, 1792, .inl (a 12))) := ab_other e50 (by omega) c47
  have c56 : h49[w+5]? = some (.inl (.int, 32, .inl (a 14))) := ab_other e50 (by omega) c48
  refine ab_aload_n d_World_clear_41 rfl rfl rfl ?_
  refine ab_iconst (v := 0) d_World_clear_42 (by decide) ?_
  refine ab_put (f := 9) d_World_clear_43 c51 rfl (by decide) (k1 231 rfl rfl) rfl rfl (fun _ => rfl) (fun _ => rfl) (Nat.le_of_ble_eq_true rfl) ?_
  show ab_V _ _ _ _ _ _ _ 46 [some (.ref w), some (.int e), some (.int u)] [] (h49.set w (.inr (7, [.int 0, .int e, .int 0, .int 0, .int (s 4), .int (s 5), .int 0, .ref (w + 1), .ref (w + 2), .int 0, .int (s 10), .ref (w + 3), .ref (w + 4), .int (s 13), .ref (w + 5), .int (s 15)])))
  refine ab_gen (fun h57 e58 => ?_)
  have c59 : h57[w]? = some (.inr (7, [.int 0, .int e, .int 0, .int 0, .int (s 4), .int (s 5), .int 0, .ref (w + 1), .ref (w + 2), .int 0, .int (s 10), .ref (w + 3), .ref (w + 4), .int (s 13), .ref (w + 5), .int (s 15)])) := ab_self e58 c51
  have c60 : h57[w+1]? = some (.inl (.int, 256, .inl (sp_fill 0 256 0 (a 7)))) := ab_other e58 (by omega) c52
  have c61 : h57[w+2]? = some (.inl (.int, 256, .inl (sp_fill 0 256 (-1) (a 8)))) := ab_other e58 (by omega) c53
  have c62 : h57[w+3]? = some (.inl (.int, 12288, .inl (a 11))) := ab_other e58 (by omega) c54
  have c63 : h57[w+4]? = some (.inl (.int, 1792, .inl (a 12))) := ab_other e58 (by omega) c55
  have c64 : h57[w+5]? = some (.inl (.int, 32, .inl (a 14))) := ab_other e58 (by omega) c56
  refine ab_aload_n d_World_clear_46 rfl rfl rfl ?_
  refine ab_iload_n d_World_clear_47 rfl rfl ?_
  refine ab_put (f := 10) d_World_clear_48 c59 rfl (by decide) (k1 234 rfl rfl) rfl rfl (fun _ => rfl) (fun _ => rfl) (Nat.le_of_ble_eq_true rfl) ?_
  show ab_V _ _ _ _ _ _ _ 51 [some (.ref w), some (.int e), some (.int u)] [] (h57.set w (.inr (7, [.int 0, .int e, .int 0, .int 0, .int (s 4), .int (s 5), .int 0, .ref (w + 1), .ref (w + 2), .int 0, .int u, .ref (w + 3), .ref (w + 4), .int (s 13), .ref (w + 5), .int (s 15)])))
  refine ab_gen (fun h65 e66 => ?_)
  have c67 : h65[w]? = some (.inr (7, [.int 0, .int e, .int 0, .int 0, .int (s 4), .int (s 5), .int 0, .ref (w + 1), .ref (w + 2), .int 0, .int u, .ref (w + 3), .ref (w + 4), .int (s 13), .ref (w + 5), .int (s 15)])) := ab_self e66 c59
  have c68 : h65[w+1]? = some (.inl (.int, 256, .inl (sp_fill 0 256 0 (a 7)))) := ab_other e66 (by omega) c60
  have c69 : h65[w+2]? = some (.inl (.int, 256, .inl (sp_fill 0 256 (-1) (a 8)))) := ab_other e66 (by omega) c61
  have c70 : h65[w+3]? = some (.inl (.int, 12288, .inl (a 11))) := ab_other e66 (by omega) c62
  have c71 : h65[w+4]? = some (.inl (.int, 1792, .inl (a 12))) := ab_other e66 (by omega) c63
  have c72 : h65[w+5]? = some (.inl (.int, 32, .inl (a 14))) := ab_other e66 (by omega) c64
  refine ab_aload_n d_World_clear_51 rfl rfl rfl ?_
  refine ab_iconst (v := 0) d_World_clear_52 (by decide) ?_
  refine ab_put (f := 13) d_World_clear_53 c67 rfl (by decide) (k2 3 rfl rfl) rfl rfl (fun _ => rfl) (fun _ => rfl) (Nat.le_of_ble_eq_true rfl) ?_
  show ab_V _ _ _ _ _ _ _ 56 [some (.ref w), some (.int e), some (.int u)] [] (h65.set w (.inr (7, [.int 0, .int e, .int 0, .int 0, .int (s 4), .int (s 5), .int 0, .ref (w + 1), .ref (w + 2), .int 0, .int u, .ref (w + 3), .ref (w + 4), .int 0, .ref (w + 5), .int (s 15)])))
  refine ab_gen (fun h73 e74 => ?_)
  have c75 : h73[w]? = some (.inr (7, [.int 0, .int e, .int 0, .int 0, .int (s 4), .int (s 5), .int 0, .ref (w + 1), .ref (w + 2), .int 0, .int u, .ref (w + 3), .ref (w + 4), .int 0, .ref (w + 5), .int (s 15)])) := ab_self e74 c67
  have c76 : h73[w+1]? = some (.inl (.int, 256, .inl (sp_fill 0 256 0 (a 7)))) := ab_other e74 (by omega) c68
  have c77 : h73[w+2]? = some (.inl (.int, 256, .inl (sp_fill 0 256 (-1) (a 8)))) := ab_other e74 (by omega) c69
  have c78 : h73[w+3]? = some (.inl (.int, 12288, .inl (a 11))) := ab_other e74 (by omega) c70
  have c79 : h73[w+4]? = some (.inl (.int, 1792, .inl (a 12))) := ab_other e74 (by omega) c71
  have c80 : h73[w+5]? = some (.inl (.int, 32, .inl (a 14))) := ab_other e74 (by omega) c72
  refine ab_aload_n d_World_clear_56 rfl rfl rfl ?_
  refine ab_iconst (v := 0) d_World_clear_57 (by decide) ?_
  refine ab_put (f := 15) d_World_clear_58 c75 rfl (by decide) (k2 12 rfl rfl) rfl rfl (fun _ => rfl) (fun _ => rfl) (Nat.le_of_ble_eq_true rfl) ?_
  show ab_V _ _ _ _ _ _ _ 61 [some (.ref w), some (.int e), some (.int u)] [] (h73.set w (.inr (7, [.int 0, .int e, .int 0, .int 0, .int (s 4), .int (s 5), .int 0, .ref (w + 1), .ref (w + 2), .int 0, .int u, .ref (w + 3), .ref (w + 4), .int 0, .ref (w + 5), .int 0])))
  refine ab_gen (fun h81 e82 => ?_)
  have c83 : h81[w]? = some (.inr (7, [.int 0, .int e, .int 0, .int 0, .int (s 4), .int (s 5), .int 0, .ref (w + 1), .ref (w + 2), .int 0, .int u, .ref (w + 3), .ref (w + 4), .int 0, .ref (w + 5), .int 0])) := ab_self e82 c75
  have c84 : h81[w+1]? = some (.inl (.int, 256, .inl (sp_fill 0 256 0 (a 7)))) := ab_other e82 (by omega) c76
  have c85 : h81[w+2]? = some (.inl (.int, 256, .inl (sp_fill 0 256 (-1) (a 8)))) := ab_other e82 (by omega) c77
  have c86 : h81[w+3]? = some (.inl (.int, 12288, .inl (a 11))) := ab_other e82 (by omega) c78
  have c87 : h81[w+4]? = some (.inl (.int, 1792, .inl (a 12))) := ab_other e82 (by omega) c79
  have c88 : h81[w+5]? = some (.inl (.int, 32, .inl (a 14))) := ab_other e82 (by omega) c80
  exact ab_vret d_World_clear_61 rfl (Nat.le_refl _) (Nat.le_refl _) (by exact ⟨rfl, ⟨c83, c84, c85, c86, c87, c88⟩, (ab_fr_set (ab_fr_set (ab_fr_set (ab_fr_set (ab_fr_set (ab_fr_set (ab_fr_set (ab_fr_set (ab_fr_set (ab_fr_set (ab_fr_set (ab_fr_rf _ _) e2 (by show _ ∧ _; omega)) e10 (by show _ ∧ _; omega)) e18 (by show _ ∧ _; omega)) e26 (by show _ ∧ _; omega)) e34 (by show _ ∧ _; omega)) e42 (by show _ ∧ _; omega)) e50 (by show _ ∧ _; omega)) e58 (by show _ ∧ _; omega)) e66 (by show _ ∧ _; omega)) e74 (by show _ ∧ _; omega)) e82 (by show _ ∧ _; omega))⟩)
def sp_count (a : Nat → Nat → Int32) : Nat → Nat → Int32 → Int32
  | 0, _, c => c
  | n + 1, i, c => if a 8 i < 0 then sp_count a n (i + 1) c else sp_count a n (i + 1) (c + 1)
set_option maxRecDepth 20000 in
set_option maxHeartbeats 2000000 in
theorem l_World_entityCount {h : List ab_E} {w : Nat} {s : Nat → Int32} {a : Nat → Nat → Int32} {T : Nat} {Po : Outcome → List ab_E → Prop} (hw : at_World h w s a) (hT : s 9 = nI T) (hT2 : T ≤ 256) : ∀ (n i : Nat) (c : Int32), i + n = T → Po (.returned (some (.int (sp_count a n i c)))) h →
    ab_V y_World_entityCount { frames := 0, cells := 0, slots := 0, locals := 0 } Po 0 0 0 0 4 [some (.ref w), some (.int c), some (.int (nI i))] [] h := by
  have hw0 := hw; obtain ⟨go, g7, g8, g11, g12, g14⟩ := hw
  intro n
  induction n with
  | zero =>
    intro i c hi hp
    refine ab_iload_n d_World_entityCount_4 rfl rfl ?_
    refine ab_aload_n d_World_entityCount_5 rfl rfl rfl ?_
    refine ab_get (f := 9) d_World_entityCount_6 go rfl (by decide) (k1 231 rfl rfl) rfl ?_
    refine ab_icmp_ge (tgt := 30) d_World_entityCount_9 (by decide) (fun q1 => ?_) (fun q1 => ?_)
    · refine ab_iload_n d_World_entityCount_30 rfl rfl ?_
      exact ab_iret d_World_entityCount_31 rfl (Nat.le_refl _) (Nat.le_refl _) (by rw [sp_count] at hp; exact hp)
    · exact absurd (by rw [hT]; exact nI_le (by omega) (by omega)) q1
  | succ n ih =>
    intro i c hi hp
    refine ab_iload_n d_World_entityCount_4 rfl rfl ?_
    refine ab_aload_n d_World_entityCount_5 rfl rfl rfl ?_
    refine ab_get (f := 9) d_World_entityCount_6 go rfl (by decide) (k1 231 rfl rfl) rfl ?_
    refine ab_icmp_ge (tgt := 30) d_World_entityCount_9 (by decide) (fun q1 => ?_) (fun q1 => ?_)
    · exact absurd (by rw [hT] at q1; exact (nI_leI (by omega) (by omega)).mp q1) (by omega)
    · refine ab_aload_n d_World_entityCount_12 rfl rfl rfl ?_
      refine ab_get (f := 8) d_World_entityCount_13 go rfl (by decide) (k1 229 rfl rfl) rfl ?_
      refine ab_iload_n d_World_entityCount_16 rfl rfl ?_
      refine ab_iald d_World_entityCount_17 tI g8 (vp_in_nI (by omega) (by decide)) ?_
      refine ab_if_lt (tgt := 24) d_World_entityCount_18 (by decide) (fun q2 => ?_) (fun q2 => ?_)
      · obtain ⟨x3, ex3⟩ : ∃ q : Int32, q = nI i + 1 := ⟨_, rfl⟩
        refine ab_iinc (v := x3) (lv' := [some (.ref w), some (.int c), some (.int x3)]) d_World_entityCount_24 rfl (by rw [ex3]; rfl) (by decide) rfl ?_
        refine ab_goto (tgt := 4) d_World_entityCount_27 (by decide) ?_
        subst ex3
        rw [nI_1]
        exact ih (i + 1) _ (by omega) (by rw [sp_count, if_pos (by rw [nI_clamp (by omega)] at *; assumption)] at hp; exact hp)
      · obtain ⟨x4, ex4⟩ : ∃ q : Int32, q = c + 1 := ⟨_, rfl⟩
        refine ab_iinc (v := x4) (lv' := [some (.ref w), some (.int x4), some (.int (nI i))]) d_World_entityCount_21 rfl (by rw [ex4]; rfl) (by decide) rfl ?_
        obtain ⟨x5, ex5⟩ : ∃ q : Int32, q = nI i + 1 := ⟨_, rfl⟩
        refine ab_iinc (v := x5) (lv' := [some (.ref w), some (.int x4), some (.int x5)]) d_World_entityCount_24 rfl (by rw [ex5]; rfl) (by decide) rfl ?_
        refine ab_goto (tgt := 4) d_World_entityCount_27 (by decide) ?_
        subst ex4
        subst ex5
        rw [nI_1]
        exact ih (i + 1) _ (by omega) (by rw [sp_count, if_neg (by rw [nI_clamp (by omega)] at *; assumption)] at hp; exact hp)
set_option maxRecDepth 20000 in
set_option maxHeartbeats 2000000 in
theorem c_World_entityCount {h : List ab_E} {w : Nat} {s : Nat → Int32} {a : Nat → Nat → Int32} {T : Nat} (hw : at_World h w s a) (hT : s 9 = nI T) (hT2 : T ≤ 256) : ab_M y_World_entityCount { frames := 0, cells := 0, slots := 0, locals := 0 } [.ref w] h (ab_A (some (.int (sp_count a T 0 0))) (fun h1 => h = h1)) := by
  have hw0 := hw; obtain ⟨go, g7, g8, g11, g12, g14⟩ := hw
  refine ab_of2 (lv := [some (.ref w), none, none]) 2 rfl rfl (Nat.le_of_ble_eq_true rfl) ?_
  refine ab_iconst (v := 0) d_World_entityCount_0 (by decide) ?_
  refine ab_istore_n (lv' := [some (.ref w), some (.int 0), none]) d_World_entityCount_1 rfl (by decide) rfl ?_
  refine ab_iconst (v := 0) d_World_entityCount_2 (by decide) ?_
  refine ab_istore_n (lv' := [some (.ref w), some (.int 0), some (.int 0)]) d_World_entityCount_3 rfl (by decide) rfl ?_
  exact l_World_entityCount hw0 hT hT2 T 0 0 (by omega) ⟨rfl, rfl⟩
