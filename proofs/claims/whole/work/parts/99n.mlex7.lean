def sp_MText_token (s : Nat → Int32) (a : Nat → Nat → Int32) (k : Int32) (b : Int32) (e : Int32) : (Nat → Int32) × (Nat → Nat → Int32) := (upd s 2 ((s 2) + 1), upa (upa (upa (upa (upa a 3 (upd (a 3) ((s 2)).toNatClampNeg k)) 4 (upd (a 4) ((s 2)).toNatClampNeg b)) 5 (upd (a 5) ((s 2)).toNatClampNeg (e - b))) 7 (upd (a 7) ((s 2)).toNatClampNeg (vp_nar .boolean 0))) 8 (upd (a 8) ((s 2)).toNatClampNeg (-1)))
set_option maxRecDepth 20000 in
set_option maxHeartbeats 2000000 in
theorem c_MText_token {h : List ab_E} {t : Nat} {s : Nat → Int32} {a : Nat → Nat → Int32} {k b e : Int32} {c : Nat} (hl : at_MText h t s a) (hc : s 2 = nI c) (hc2 : c < 6002) : ab_M y_MText_token { frames := 0, cells := 0, slots := 0, locals := 0 } [.ref t, .int k, .int b, .int e] h (ab_A none (fun h1 => at_MText h1 t (sp_MText_token s a k b e).1 (sp_MText_token s a k b e).2 ∧ ab_fr (in_MText t) h h1)) := by
  have hl0 := hl; obtain ⟨go, g0, g3, g4, g5, g6, g7, g8, g13, g14, g15, g17, g18, g19, g20, g22, g23, g24, g25, g27, g28, g30, g31, g32, g33, g34, g35, g36, g38, g39, g40⟩ := hl
  refine ab_of2 (lv := [some (.ref t), some (.int k), some (.int b), some (.int e)]) 0 rfl rfl (Nat.le_of_ble_eq_true rfl) ?_
  refine ab_aload_n d_MText_token_0 rfl rfl rfl ?_
  refine ab_get (f := 3) d_MText_token_1 go rfl (by decide) (k8 162 rfl rfl) rfl ?_
  refine ab_aload_n d_MText_token_4 rfl rfl rfl ?_
  refine ab_get (f := 2) d_MText_token_5 go rfl (by decide) (k8 161 rfl rfl) rfl ?_
  refine ab_iload_n d_MText_token_8 rfl rfl ?_
  refine ab_iast d_MText_token_9 tI g3 (by rw [hc]; exact vp_in_nI (by omega) (by decide)) ?_
  refine ab_gen (fun h1 e2 => ?_)
  have c3 : h1[t]? = some (.inr (14, [.ref (t + 1), .int (s 1), .int (s 2), .ref (t + 2), .ref (t + 3), .ref (t + 4), .ref (t + 5), .ref (t + 6), .ref (t + 7), .int (s 9), .int (s 10), .int (s 11), .int (s 12), .ref (t + 8), .ref (t + 9), .ref (t + 10), .int (s 16), .ref (t + 11), .ref (t + 12), .ref (t + 13), .ref (t + 14), .int (s 21), .ref (t + 15), .ref (t + 16), .ref (t + 17), .ref (t + 18), .int (s 26), .ref (t + 19), .ref (t + 20), .int (s 29), .ref (t + 21), .ref (t + 22), .ref (t + 23), .ref (t + 24), .ref (t + 25), .ref (t + 26), .ref (t + 27), .int (s 37), .ref (t + 28), .ref (t + 29), .ref (t + 30), .int (s 41), .int (s 42)])) := ab_other e2 (by omega) go
  have c4 : h1[t+1]? = some (.inl (.byte, 6000, .inl (a 0))) := ab_other e2 (by omega) g0
  have c5 : h1[t+2]? = some (.inl (.int, 6002, .inl (upd (a 3) ((s 2)).toNatClampNeg k))) := ab_self e2 g3
  have c6 : h1[t+3]? = some (.inl (.int, 6002, .inl (a 4))) := ab_other e2 (by omega) g4
  have c7 : h1[t+4]? = some (.inl (.int, 6002, .inl (a 5))) := ab_other e2 (by omega) g5
  have c8 : h1[t+5]? = some (.inl (.int, 6002, .inl (a 6))) := ab_other e2 (by omega) g6
  have c9 : h1[t+6]? = some (.inl (.boolean, 6002, .inl (a 7))) := ab_other e2 (by omega) g7
  have c10 : h1[t+7]? = some (.inl (.int, 6002, .inl (a 8))) := ab_other e2 (by omega) g8
  have c11 : h1[t+8]? = some (.inl (.int, 56, .inl (a 13))) := ab_other e2 (by omega) g13
  have c12 : h1[t+9]? = some (.inl (.int, 56, .inl (a 14))) := ab_other e2 (by omega) g14
  have c13 : h1[t+10]? = some (.inl (.int, 56, .inl (a 15))) := ab_other e2 (by omega) g15
  have c14 : h1[t+11]? = some (.inl (.int, 16, .inl (a 17))) := ab_other e2 (by omega) g17
  have c15 : h1[t+12]? = some (.inl (.int, 17, .inl (a 18))) := ab_other e2 (by omega) g18
  have c16 : h1[t+13]? = some (.inl (.int, 48, .inl (a 19))) := ab_other e2 (by omega) g19
  have c17 : h1[t+14]? = some (.inl (.int, 48, .inl (a 20))) := ab_other e2 (by omega) g20
  have c18 : h1[t+15]? = some (.inl (.int, 8, .inl (a 22))) := ab_other e2 (by omega) g22
  have c19 : h1[t+16]? = some (.inl (.int, 8, .inl (a 23))) := ab_other e2 (by omega) g23
  have c20 : h1[t+17]? = some (.inl (.int, 32, .inl (a 24))) := ab_other e2 (by omega) g24
  have c21 : h1[t+18]? = some (.inl (.int, 32, .inl (a 25))) := ab_other e2 (by omega) g25
  have c22 : h1[t+19]? = some (.inl (.int, 16, .inl (a 27))) := ab_other e2 (by omega) g27
  have c23 : h1[t+20]? = some (.inl (.int, 768, .inl (a 28))) := ab_other e2 (by omega) g28
  have c24 : h1[t+21]? = some (.inl (.int, 16, .inl (a 30))) := ab_other e2 (by omega) g30
  have c25 : h1[t+22]? = some (.inl (.int, 16, .inl (a 31))) := ab_other e2 (by omega) g31
  have c26 : h1[t+23]? = some (.inl (.int, 16, .inl (a 32))) := ab_other e2 (by omega) g32
  have c27 : h1[t+24]? = some (.inl (.int, 16, .inl (a 33))) := ab_other e2 (by omega) g33
  have c28 : h1[t+25]? = some (.inl (.int, 16, .inl (a 34))) := ab_other e2 (by omega) g34
  have c29 : h1[t+26]? = some (.inl (.int, 16, .inl (a 35))) := ab_other e2 (by omega) g35
  have c30 : h1[t+27]? = some (.inl (.int, 16, .inl (a 36))) := ab_other e2 (by omega) g36
  have c31 : h1[t+28]? = some (.inl (.int, 12, .inl (a 38))) := ab_other e2 (by omega) g38
  have c32 : h1[t+29]? = some (.inl (.int, 12, .inl (a 39))) := ab_other e2 (by omega) g39
  have c33 : h1[t+30]? = some (.inl (.boolean, 12, .inl (a 40))) := ab_other e2 (by omega) g40
  have fr34 : ab_fr (in_MText t) h h1 := ab_fr_set (ab_fr_rf _ _) e2 (by first | (show _ ∧ _; omega) | (show _ ∨ _; omega) | (show _ = _; omega) | (show _ ≤ _; omega))
  clear e2
  refine ab_aload_n d_MText_token_10 rfl rfl rfl ?_
  refine ab_get (f := 4) d_MText_token_11 c3 rfl (by decide) (k8 164 rfl rfl) rfl ?_
  refine ab_aload_n d_MText_token_14 rfl rfl rfl ?_
  refine ab_get (f := 2) d_MText_token_15 c3 rfl (by decide) (k8 161 rfl rfl) rfl ?_
  refine ab_iload_n d_MText_token_18 rfl rfl ?_
  refine ab_iast d_MText_token_19 tI c6 (by rw [hc]; exact vp_in_nI (by omega) (by decide)) ?_
  refine ab_gen (fun h35 e36 => ?_)
  have c37 : h35[t]? = some (.inr (14, [.ref (t + 1), .int (s 1), .int (s 2), .ref (t + 2), .ref (t + 3), .ref (t + 4), .ref (t + 5), .ref (t + 6), .ref (t + 7), .int (s 9), .int (s 10), .int (s 11), .int (s 12), .ref (t + 8), .ref (t + 9), .ref (t + 10), .int (s 16), .ref (t + 11), .ref (t + 12), .ref (t + 13), .ref (t + 14), .int (s 21), .ref (t + 15), .ref (t + 16), .ref (t + 17), .ref (t + 18), .int (s 26), .ref (t + 19), .ref (t + 20), .int (s 29), .ref (t + 21), .ref (t + 22), .ref (t + 23), .ref (t + 24), .ref (t + 25), .ref (t + 26), .ref (t + 27), .int (s 37), .ref (t + 28), .ref (t + 29), .ref (t + 30), .int (s 41), .int (s 42)])) := ab_other e36 (by omega) c3
  have c38 : h35[t+1]? = some (.inl (.byte, 6000, .inl (a 0))) := ab_other e36 (by omega) c4
  have c39 : h35[t+2]? = some (.inl (.int, 6002, .inl (upd (a 3) ((s 2)).toNatClampNeg k))) := ab_other e36 (by omega) c5
  have c40 : h35[t+3]? = some (.inl (.int, 6002, .inl (upd (a 4) ((s 2)).toNatClampNeg b))) := ab_self e36 c6
  have c41 : h35[t+4]? = some (.inl (.int, 6002, .inl (a 5))) := ab_other e36 (by omega) c7
  have c42 : h35[t+5]? = some (.inl (.int, 6002, .inl (a 6))) := ab_other e36 (by omega) c8
  have c43 : h35[t+6]? = some (.inl (.boolean, 6002, .inl (a 7))) := ab_other e36 (by omega) c9
  have c44 : h35[t+7]? = some (.inl (.int, 6002, .inl (a 8))) := ab_other e36 (by omega) c10
  have c45 : h35[t+8]? = some (.inl (.int, 56, .inl (a 13))) := ab_other e36 (by omega) c11
  have c46 : h35[t+9]? = some (.inl (.int, 56, .inl (a 14))) := ab_other e36 (by omega) c12
  have c47 : h35[t+10]? = some (.inl (.int, 56, .inl (a 15))) := ab_other e36 (by omega) c13
  have c48 : h35[t+11]? = some (.inl (.int, 16, .inl (a 17))) := ab_other e36 (by omega) c14
  have c49 : h35[t+12]? = some (.inl (.int, 17, .inl (a 18))) := ab_other e36 (by omega) c15
  have c50 : h35[t+13]? = some (.inl (.int, 48, .inl (a 19))) := ab_other e36 (by omega) c16
  have c51 : h35[t+14]? = some (.inl (.int, 48, .inl (a 20))) := ab_other e36 (by omega) c17
  have c52 : h35[t+15]? = some (.inl (.int, 8, .inl (a 22))) := ab_other e36 (by omega) c18
  have c53 : h35[t+16]? = some (.inl (.int, 8, .inl (a 23))) := ab_other e36 (by omega) c19
  have c54 : h35[t+17]? = some (.inl (.int, 32, .inl (a 24))) := ab_other e36 (by omega) c20
  have c55 : h35[t+18]? = some (.inl (.int, 32, .inl (a 25))) := ab_other e36 (by omega) c21
  have c56 : h35[t+19]? = some (.inl (.int, 16, .inl (a 27))) := ab_other e36 (by omega) c22
  have c57 : h35[t+20]? = some (.inl (.int, 768, .inl (a 28))) := ab_other e36 (by omega) c23
  have c58 : h35[t+21]? = some (.inl (.int, 16, .inl (a 30))) := ab_other e36 (by omega) c24
  have c59 : h35[t+22]? = some (.inl (.int, 16, .inl (a 31))) := ab_other e36 (by omega) c25
  have c60 : h35[t+23]? = some (.inl (.int, 16, .inl (a 32))) := ab_other e36 (by omega) c26
  have c61 : h35[t+24]? = some (.inl (.int, 16, .inl (a 33))) := ab_other e36 (by omega) c27
  have c62 : h35[t+25]? = some (.inl (.int, 16, .inl (a 34))) := ab_other e36 (by omega) c28
  have c63 : h35[t+26]? = some (.inl (.int, 16, .inl (a 35))) := ab_other e36 (by omega) c29
  have c64 : h35[t+27]? = some (.inl (.int, 16, .inl (a 36))) := ab_other e36 (by omega) c30
  have c65 : h35[t+28]? = some (.inl (.int, 12, .inl (a 38))) := ab_other e36 (by omega) c31
  have c66 : h35[t+29]? = some (.inl (.int, 12, .inl (a 39))) := ab_other e36 (by omega) c32
  have c67 : h35[t+30]? = some (.inl (.boolean, 12, .inl (a 40))) := ab_other e36 (by omega) c33
  have fr68 : ab_fr (in_MText t) h h35 := ab_fr_set fr34 e36 (by first | (show _ ∧ _; omega) | (show _ ∨ _; omega) | (show _ = _; omega) | (show _ ≤ _; omega))
  clear c3 c4 c5 c6 c7 c8 c9 c10 c11 c12 c13 c14 c15 c16 c17 c18 c19 c20 c21 c22 c23 c24 c25 c26 c27 c28 c29 c30 c31 c32 c33 fr34 e36
  try clear h1
  refine ab_aload_n d_MText_token_20 rfl rfl rfl ?_
  refine ab_get (f := 5) d_MText_token_21 c37 rfl (by decide) (k8 165 rfl rfl) rfl ?_
  refine ab_aload_n d_MText_token_24 rfl rfl rfl ?_
  refine ab_get (f := 2) d_MText_token_25 c37 rfl (by decide) (k8 161 rfl rfl) rfl ?_
  refine ab_iload_n d_MText_token_28 rfl rfl ?_
  refine ab_iload_n d_MText_token_29 rfl rfl ?_
  refine ab_isub d_MText_token_30 ?_
  refine ab_iast d_MText_token_31 tI c41 (by rw [hc]; exact vp_in_nI (by omega) (by decide)) ?_
  refine ab_gen (fun h69 e70 => ?_)
  have c71 : h69[t]? = some (.inr (14, [.ref (t + 1), .int (s 1), .int (s 2), .ref (t + 2), .ref (t + 3), .ref (t + 4), .ref (t + 5), .ref (t + 6), .ref (t + 7), .int (s 9), .int (s 10), .int (s 11), .int (s 12), .ref (t + 8), .ref (t + 9), .ref (t + 10), .int (s 16), .ref (t + 11), .ref (t + 12), .ref (t + 13), .ref (t + 14), .int (s 21), .ref (t + 15), .ref (t + 16), .ref (t + 17), .ref (t + 18), .int (s 26), .ref (t + 19), .ref (t + 20), .int (s 29), .ref (t + 21), .ref (t + 22), .ref (t + 23), .ref (t + 24), .ref (t + 25), .ref (t + 26), .ref (t + 27), .int (s 37), .ref (t + 28), .ref (t + 29), .ref (t + 30), .int (s 41), .int (s 42)])) := ab_other e70 (by omega) c37
  have c72 : h69[t+1]? = some (.inl (.byte, 6000, .inl (a 0))) := ab_other e70 (by omega) c38
  have c73 : h69[t+2]? = some (.inl (.int, 6002, .inl (upd (a 3) ((s 2)).toNatClampNeg k))) := ab_other e70 (by omega) c39
  have c74 : h69[t+3]? = some (.inl (.int, 6002, .inl (upd (a 4) ((s 2)).toNatClampNeg b))) := ab_other e70 (by omega) c40
  have c75 : h69[t+4]? = some (.inl (.int, 6002, .inl (upd (a 5) ((s 2)).toNatClampNeg (e - b)))) := ab_self e70 c41
  have c76 : h69[t+5]? = some (.inl (.int, 6002, .inl (a 6))) := ab_other e70 (by omega) c42
  have c77 : h69[t+6]? = some (.inl (.boolean, 6002, .inl (a 7))) := ab_other e70 (by omega) c43
  have c78 : h69[t+7]? = some (.inl (.int, 6002, .inl (a 8))) := ab_other e70 (by omega) c44
  have c79 : h69[t+8]? = some (.inl (.int, 56, .inl (a 13))) := ab_other e70 (by omega) c45
  have c80 : h69[t+9]? = some (.inl (.int, 56, .inl (a 14))) := ab_other e70 (by omega) c46
  have c81 : h69[t+10]? = some (.inl (.int, 56, .inl (a 15))) := ab_other e70 (by omega) c47
  have c82 : h69[t+11]? = some (.inl (.int, 16, .inl (a 17))) := ab_other e70 (by omega) c48
  have c83 : h69[t+12]? = some (.inl (.int, 17, .inl (a 18))) := ab_other e70 (by omega) c49
  have c84 : h69[t+13]? = some (.inl (.int, 48, .inl (a 19))) := ab_other e70 (by omega) c50
  have c85 : h69[t+14]? = some (.inl (.int, 48, .inl (a 20))) := ab_other e70 (by omega) c51
  have c86 : h69[t+15]? = some (.inl (.int, 8, .inl (a 22))) := ab_other e70 (by omega) c52
  have c87 : h69[t+16]? = some (.inl (.int, 8, .inl (a 23))) := ab_other e70 (by omega) c53
  have c88 : h69[t+17]? = some (.inl (.int, 32, .inl (a 24))) := ab_other e70 (by omega) c54
  have c89 : h69[t+18]? = some (.inl (.int, 32, .inl (a 25))) := ab_other e70 (by omega) c55
  have c90 : h69[t+19]? = some (.inl (.int, 16, .inl (a 27))) := ab_other e70 (by omega) c56
  have c91 : h69[t+20]? = some (.inl (.int, 768, .inl (a 28))) := ab_other e70 (by omega) c57
  have c92 : h69[t+21]? = some (.inl (.int, 16, .inl (a 30))) := ab_other e70 (by omega) c58
  have c93 : h69[t+22]? = some (.inl (.int, 16, .inl (a 31))) := ab_other e70 (by omega) c59
  have c94 : h69[t+23]? = some (.inl (.int, 16, .inl (a 32))) := ab_other e70 (by omega) c60
  have c95 : h69[t+24]? = some (.inl (.int, 16, .inl (a 33))) := ab_other e70 (by omega) c61
  have c96 : h69[t+25]? = some (.inl (.int, 16, .inl (a 34))) := ab_other e70 (by omega) c62
  have c97 : h69[t+26]? = some (.inl (.int, 16, .inl (a 35))) := ab_other e70 (by omega) c63
  have c98 : h69[t+27]? = some (.inl (.int, 16, .inl (a 36))) := ab_other e70 (by omega) c64
  have c99 : h69[t+28]? = some (.inl (.int, 12, .inl (a 38))) := ab_other e70 (by omega) c65
  have c100 : h69[t+29]? = some (.inl (.int, 12, .inl (a 39))) := ab_other e70 (by omega) c66
  have c101 : h69[t+30]? = some (.inl (.boolean, 12, .inl (a 40))) := ab_other e70 (by omega) c67
  have fr102 : ab_fr (in_MText t) h h69 := ab_fr_set fr68 e70 (by first | (show _ ∧ _; omega) | (show _ ∨ _; omega) | (show _ = _; omega) | (show _ ≤ _; omega))
  clear c37 c38 c39 c40 c41 c42 c43 c44 c45 c46 c47 c48 c49 c50 c51 c52 c53 c54 c55 c56 c57 c58 c59 c60 c61 c62 c63 c64 c65 c66 c67 fr68 e70
  try clear h35
  refine ab_aload_n d_MText_token_32 rfl rfl rfl ?_
  refine ab_get (f := 7) d_MText_token_33 c71 rfl (by decide) (k8 168 rfl rfl) rfl ?_
  refine ab_aload_n d_MText_token_36 rfl rfl rfl ?_
  refine ab_get (f := 2) d_MText_token_37 c71 rfl (by decide) (k8 161 rfl rfl) rfl ?_
  refine ab_iconst (v := 0) d_MText_token_40 (by decide) ?_
  refine ab_zast d_MText_token_41 tZ c77 (by rw [hc]; exact vp_in_nI (by omega) (by decide)) ?_
  refine ab_gen (fun h103 e104 => ?_)
  have c105 : h103[t]? = some (.inr (14, [.ref (t + 1), .int (s 1), .int (s 2), .ref (t + 2), .ref (t + 3), .ref (t + 4), .ref (t + 5), .ref (t + 6), .ref (t + 7), .int (s 9), .int (s 10), .int (s 11), .int (s 12), .ref (t + 8), .ref (t + 9), .ref (t + 10), .int (s 16), .ref (t + 11), .ref (t + 12), .ref (t + 13), .ref (t + 14), .int (s 21), .ref (t + 15), .ref (t + 16), .ref (t + 17), .ref (t + 18), .int (s 26), .ref (t + 19), .ref (t + 20), .int (s 29), .ref (t + 21), .ref (t + 22), .ref (t + 23), .ref (t + 24), .ref (t + 25), .ref (t + 26), .ref (t + 27), .int (s 37), .ref (t + 28), .ref (t + 29), .ref (t + 30), .int (s 41), .int (s 42)])) := ab_other e104 (by omega) c71
  have c106 : h103[t+1]? = some (.inl (.byte, 6000, .inl (a 0))) := ab_other e104 (by omega) c72
  have c107 : h103[t+2]? = some (.inl (.int, 6002, .inl (upd (a 3) ((s 2)).toNatClampNeg k))) := ab_other e104 (by omega) c73
  have c108 : h103[t+3]? = some (.inl (.int, 6002, .inl (upd (a 4) ((s 2)).toNatClampNeg b))) := ab_other e104 (by omega) c74
  have c109 : h103[t+4]? = some (.inl (.int, 6002, .inl (upd (a 5) ((s 2)).toNatClampNeg (e - b)))) := ab_other e104 (by omega) c75
  have c110 : h103[t+5]? = some (.inl (.int, 6002, .inl (a 6))) := ab_other e104 (by omega) c76
  have c111 : h103[t+6]? = some (.inl (.boolean, 6002, .inl (upd (a 7) ((s 2)).toNatClampNeg (vp_nar .boolean 0)))) := ab_self e104 c77
  have c112 : h103[t+7]? = some (.inl (.int, 6002, .inl (a 8))) := ab_other e104 (by omega) c78
  have c113 : h103[t+8]? = some (.inl (.int, 56, .inl (a 13))) := ab_other e104 (by omega) c79
  have c114 : h103[t+9]? = some (.inl (.int, 56, .inl (a 14))) := ab_other e104 (by omega) c80
  have c115 : h103[t+10]? = some (.inl (.int, 56, .inl (a 15))) := ab_other e104 (by omega) c81
  have c116 : h103[t+11]? = some (.inl (.int, 16, .inl (a 17))) := ab_other e104 (by omega) c82
  have c117 : h103[t+12]? = some (.inl (.int, 17, .inl (a 18))) := ab_other e104 (by omega) c83
  have c118 : h103[t+13]? = some (.inl (.int, 48, .inl (a 19))) := ab_other e104 (by omega) c84
  have c119 : h103[t+14]? = some (.inl (.int, 48, .inl (a 20))) := ab_other e104 (by omega) c85
  have c120 : h103[t+15]? = some (.inl (.int, 8, .inl (a 22))) := ab_other e104 (by omega) c86
  have c121 : h103[t+16]? = some (.inl (.int, 8, .inl (a 23))) := ab_other e104 (by omega) c87
  have c122 : h103[t+17]? = some (.inl (.int, 32, .inl (a 24))) := ab_other e104 (by omega) c88
  have c123 : h103[t+18]? = some (.inl (.int, 32, .inl (a 25))) := ab_other e104 (by omega) c89
  have c124 : h103[t+19]? = some (.inl (.int, 16, .inl (a 27))) := ab_other e104 (by omega) c90
  have c125 : h103[t+20]? = some (.inl (.int, 768, .inl (a 28))) := ab_other e104 (by omega) c91
  have c126 : h103[t+21]? = some (.inl (.int, 16, .inl (a 30))) := ab_other e104 (by omega) c92
  have c127 : h103[t+22]? = some (.inl (.int, 16, .inl (a 31))) := ab_other e104 (by omega) c93
  have c128 : h103[t+23]? = some (.inl (.int, 16, .inl (a 32))) := ab_other e104 (by omega) c94
  have c129 : h103[t+24]? = some (.inl (.int, 16, .inl (a 33))) := ab_other e104 (by omega) c95
  have c130 : h103[t+25]? = some (.inl (.int, 16, .inl (a 34))) := ab_other e104 (by omega) c96
  have c131 : h103[t+26]? = some (.inl (.int, 16, .inl (a 35))) := ab_other e104 (by omega) c97
  have c132 : h103[t+27]? = some (.inl (.int, 16, .inl (a 36))) := ab_other e104 (by omega) c98
  have c133 : h103[t+28]? = some (.inl (.int, 12, .inl (a 38))) := ab_other e104 (by omega) c99
  have c134 : h103[t+29]? = some (.inl (.int, 12, .inl (a 39))) := ab_other e104 (by omega) c100
  have c135 : h103[t+30]? = some (.inl (.boolean, 12, .inl (a 40))) := ab_other e104 (by omega) c101
  have fr136 : ab_fr (in_MText t) h h103 := ab_fr_set fr102 e104 (by first | (show _ ∧ _; omega) | (show _ ∨ _; omega) | (show _ = _; omega) | (show _ ≤ _; omega))
  clear c71 c72 c73 c74 c75 c76 c77 c78 c79 c80 c81 c82 c83 c84 c85 c86 c87 c88 c89 c90 c91 c92 c93 c94 c95 c96 c97 c98 c99 c100 c101 fr102 e104
  try clear h69
  refine ab_aload_n d_MText_token_42 rfl rfl rfl ?_
  refine ab_get (f := 8) d_MText_token_43 c105 rfl (by decide) (k8 169 rfl rfl) rfl ?_
  refine ab_aload_n d_MText_token_46 rfl rfl rfl ?_
  refine ab_get (f := 2) d_MText_token_47 c105 rfl (by decide) (k8 161 rfl rfl) rfl ?_
  refine ab_iconst (v := (-1)) d_MText_token_50 (by decide) ?_
  refine ab_iast d_MText_token_51 tI c112 (by rw [hc]; exact vp_in_nI (by omega) (by decide)) ?_
  refine ab_gen (fun h137 e138 => ?_)
  have c139 : h137[t]? = some (.inr (14, [.ref (t + 1), .int (s 1), .int (s 2), .ref (t + 2), .ref (t + 3), .ref (t + 4), .ref (t + 5), .ref (t + 6), .ref (t + 7), .int (s 9), .int (s 10), .int (s 11), .int (s 12), .ref (t + 8), .ref (t + 9), .ref (t + 10), .int (s 16), .ref (t + 11), .ref (t + 12), .ref (t + 13), .ref (t + 14), .int (s 21), .ref (t + 15), .ref (t + 16), .ref (t + 17), .ref (t + 18), .int (s 26), .ref (t + 19), .ref (t + 20), .int (s 29), .ref (t + 21), .ref (t + 22), .ref (t + 23), .ref (t + 24), .ref (t + 25), .ref (t + 26), .ref (t + 27), .int (s 37), .ref (t + 28), .ref (t + 29), .ref (t + 30), .int (s 41), .int (s 42)])) := ab_other e138 (by omega) c105
  have c140 : h137[t+1]? = some (.inl (.byte, 6000, .inl (a 0))) := ab_other e138 (by omega) c106
  have c141 : h137[t+2]? = some (.inl (.int, 6002, .inl (upd (a 3) ((s 2)).toNatClampNeg k))) := ab_other e138 (by omega) c107
  have c142 : h137[t+3]? = some (.inl (.int, 6002, .inl (upd (a 4) ((s 2)).toNatClampNeg b))) := ab_other e138 (by omega) c108
  have c143 : h137[t+4]? = some (.inl (.int, 6002, .inl (upd (a 5) ((s 2)).toNatClampNeg (e - b)))) := ab_other e138 (by omega) c109
  have c144 : h137[t+5]? = some (.inl (.int, 6002, .inl (a 6))) := ab_other e138 (by omega) c110
  have c145 : h137[t+6]? = some (.inl (.boolean, 6002, .inl (upd (a 7) ((s 2)).toNatClampNeg (vp_nar .boolean 0)))) := ab_other e138 (by omega) c111
  have c146 : h137[t+7]? = some (.inl (.int, 6002, .inl (upd (a 8) ((s 2)).toNatClampNeg (-1)))) := ab_self e138 c112
  have c147 : h137[t+8]? = some (.inl (.int, 56, .inl (a 13))) := ab_other e138 (by omega) c113
  have c148 : h137[t+9]? = some (.inl (.int, 56, .inl (a 14))) := ab_other e138 (by omega) c114
  have c149 : h137[t+10]? = some (.inl (.int, 56, .inl (a 15))) := ab_other e138 (by omega) c115
  have c150 : h137[t+11]? = some (.inl (.int, 16, .inl (a 17))) := ab_other e138 (by omega) c116
  have c151 : h137[t+12]? = some (.inl (.int, 17, .inl (a 18))) := ab_other e138 (by omega) c117
  have c152 : h137[t+13]? = some (.inl (.int, 48, .inl (a 19))) := ab_other e138 (by omega) c118
  have c153 : h137[t+14]? = some (.inl (.int, 48, .inl (a 20))) := ab_other e138 (by omega) c119
  have c154 : h137[t+15]? = some (.inl (.int, 8, .inl (a 22))) := ab_other e138 (by omega) c120
  have c155 : h137[t+16]? = some (.inl (.int, 8, .inl (a 23))) := ab_other e138 (by omega) c121
  have c156 : h137[t+17]? = some (.inl (.int, 32, .inl (a 24))) := ab_other e138 (by omega) c122
  have c157 : h137[t+18]? = some (.inl (.int, 32, .inl (a 25))) := ab_other e138 (by omega) c123
  have c158 : h137[t+19]? = some (.inl (.int, 16, .inl (a 27))) := ab_other e138 (by omega) c124
  have c159 : h137[t+20]? = some (.inl (.int, 768, .inl (a 28))) := ab_other e138 (by omega) c125
  have c160 : h137[t+21]? = some (.inl (.int, 16, .inl (a 30))) := ab_other e138 (by omega) c126
  have c161 : h137[t+22]? = some (.inl (.int, 16, .inl (a 31))) := ab_other e138 (by omega) c127
  have c162 : h137[t+23]? = some (.inl (.int, 16, .inl (a 32))) := ab_other e138 (by omega) c128
  have c163 : h137[t+24]? = some (.inl (.int, 16, .inl (a 33))) := ab_other e138 (by omega) c129
  have c164 : h137[t+25]? = some (.inl (.int, 16, .inl (a 34))) := ab_other e138 (by omega) c130
  have c165 : h137[t+26]? = some (.inl (.int, 16, .inl (a 35))) := ab_other e138 (by omega) c131
  have c166 : h137[t+27]? = some (.inl (.int, 16, .inl (a 36))) := ab_other e138 (by omega) c132
  have c167 : h137[t+28]? = some (.inl (.int, 12, .inl (a 38))) := ab_other e138 (by omega) c133
  have c168 : h137[t+29]? = some (.inl (.int, 12, .inl (a 39))) := ab_other e138 (by omega) c134
  have c169 : h137[t+30]? = some (.inl (.boolean, 12, .inl (a 40))) := ab_other e138 (by omega) c135
  have fr170 : ab_fr (in_MText t) h h137 := ab_fr_set fr136 e138 (by first | (show _ ∧ _; omega) | (show _ ∨ _; omega) | (show _ = _; omega) | (show _ ≤ _; omega))
  clear c105 c106 c107 c108 c109 c110 c111 c112 c113 c114 c115 c116 c117 c118 c119 c120 c121 c122 c123 c124 c125 c126 c127 c128 c129 c130 c131 c132 c133 c134 c135 fr136 e138
  try clear h103
  refine ab_aload_n d_MText_token_52 rfl rfl rfl ?_
  refine ab_dup d_MText_token_53 rfl ?_
  refine ab_get (f := 2) d_MText_token_54 c139 rfl (by decide) (k8 161 rfl rfl) rfl ?_
  refine ab_iconst (v := 1) d_MText_token_57 (by decide) ?_
  refine ab_iadd d_MText_token_58 ?_
  refine ab_put (f := 2) d_MText_token_59 c139 rfl (by decide) (k8 161 rfl rfl) rfl rfl (fun _ => rfl) (fun _ => rfl) (Nat.le_of_ble_eq_true rfl) ?_
  show ab_V _ _ _ _ _ _ _ 62 [some (.ref t), some (.int k), some (.int b), some (.int e)] [] (h137.set t (.inr (14, [.ref (t + 1), .int (s 1), .int ((s 2) + 1), .ref (t + 2), .ref (t + 3), .ref (t + 4), .ref (t + 5), .ref (t + 6), .ref (t + 7), .int (s 9), .int (s 10), .int (s 11), .int (s 12), .ref (t + 8), .ref (t + 9), .ref (t + 10), .int (s 16), .ref (t + 11), .ref (t + 12), .ref (t + 13), .ref (t + 14), .int (s 21), .ref (t + 15), .ref (t + 16), .ref (t + 17), .ref (t + 18), .int (s 26), .ref (t + 19), .ref (t + 20), .int (s 29), .ref (t + 21), .ref (t + 22), .ref (t + 23), .ref (t + 24), .ref (t + 25), .ref (t + 26), .ref (t + 27), .int (s 37), .ref (t + 28), .ref (t + 29), .ref (t + 30), .int (s 41), .int (s 42)])))
  refine ab_gen (fun h171 e172 => ?_)
  have c173 : h171[t]? = some (.inr (14, [.ref (t + 1), .int (s 1), .int ((s 2) + 1), .ref (t + 2), .ref (t + 3), .ref (t + 4), .ref (t + 5), .ref (t + 6), .ref (t + 7), .int (s 9), .int (s 10), .int (s 11), .int (s 12), .ref (t + 8), .ref (t + 9), .ref (t + 10), .int (s 16), .ref (t + 11), .ref (t + 12), .ref (t + 13), .ref (t + 14), .int (s 21), .ref (t + 15), .ref (t + 16), .ref (t + 17), .ref (t + 18), .int (s 26), .ref (t + 19), .ref (t + 20), .int (s 29), .ref (t + 21), .ref (t + 22), .ref (t + 23), .ref (t + 24), .ref (t + 25), .ref (t + 26), .ref (t + 27), .int (s 37), .ref (t + 28), .ref (t + 29), .ref (t + 30), .int (s 41), .int (s 42)])) := ab_self e172 c139
  have c174 : h171[t+1]? = some (.inl (.byte, 6000, .inl (a 0))) := ab_other e172 (by omega) c140
  have c175 : h171[t+2]? = some (.inl (.int, 6002, .inl (upd (a 3) ((s 2)).toNatClampNeg k))) := ab_other e172 (by omega) c141
  have c176 : h171[t+3]? = some (.inl (.int, 6002, .inl (upd (a 4) ((s 2)).toNatClampNeg b))) := ab_other e172 (by omega) c142
  have c177 : h171[t+4]? = some (.inl (.int, 6002, .inl (upd (a 5) ((s 2)).toNatClampNeg (e - b)))) := ab_other e172 (by omega) c143
  have c178 : h171[t+5]? = some (.inl (.int, 6002, .inl (a 6))) := ab_other e172 (by omega) c144
  have c179 : h171[t+6]? = some (.inl (.boolean, 6002, .inl (upd (a 7) ((s 2)).toNatClampNeg (vp_nar .boolean 0)))) := ab_other e172 (by omega) c145
  have c180 : h171[t+7]? = some (.inl (.int, 6002, .inl (upd (a 8) ((s 2)).toNatClampNeg (-1)))) := ab_other e172 (by omega) c146
  have c181 : h171[t+8]? = some (.inl (.int, 56, .inl (a 13))) := ab_other e172 (by omega) c147
  have c182 : h171[t+9]? = some (.inl (.int, 56, .inl (a 14))) := ab_other e172 (by omega) c148
  have c183 : h171[t+10]? = some (.inl (.int, 56, .inl (a 15))) := ab_other e172 (by omega) c149
  have c184 : h171[t+11]? = some (.inl (.int, 16, .inl (a 17))) := ab_other e172 (by omega) c150
  have c185 : h171[t+12]? = some (.inl (.int, 17, .inl (a 18))) := ab_other e172 (by omega) c151
  have c186 : h171[t+13]? = some (.inl (.int, 48, .inl (a 19))) := ab_other e172 (by omega) c152
  have c187 : h171[t+14]? = some (.inl (.int, 48, .inl (a 20))) := ab_other e172 (by omega) c153
  have c188 : h171[t+15]? = some (.inl (.int, 8, .inl (a 22))) := ab_other e172 (by omega) c154
  have c189 : h171[t+16]? = some (.inl (.int, 8, .inl (a 23))) := ab_other e172 (by omega) c155
  have c190 : h171[t+17]? = some (.inl (.int, 32, .inl (a 24))) := ab_other e172 (by omega) c156
  have c191 : h171[t+18]? = some (.inl (.int, 32, .inl (a 25))) := ab_other e172 (by omega) c157
  have c192 : h171[t+19]? = some (.inl (.int, 16, .inl (a 27))) := ab_other e172 (by omega) c158
  have c193 : h171[t+20]? = some (.inl (.int, 768, .inl (a 28))) := ab_other e172 (by omega) c159
  have c194 : h171[t+21]? = some (.inl (.int, 16, .inl (a 30))) := ab_other e172 (by omega) c160
  have c195 : h171[t+22]? = some (.inl (.int, 16, .inl (a 31))) := ab_other e172 (by omega) c161
  have c196 : h171[t+23]? = some (.inl (.int, 16, .inl (a 32))) := ab_other e172 (by omega) c162
  have c197 : h171[t+24]? = some (.inl (.int, 16, .inl (a 33))) := ab_other e172 (by omega) c163
  have c198 : h171[t+25]? = some (.inl (.int, 16, .inl (a 34))) := ab_other e172 (by omega) c164
  have c199 : h171[t+26]? = some (.inl (.int, 16, .inl (a 35))) := ab_other e172 (by omega) c165
  have c200 : h171[t+27]? = some (.inl (.int, 16, .inl (a 36))) := ab_other e172 (by omega) c166
  have c201 : h171[t+28]? = some (.inl (.int, 12, .inl (a 38))) := ab_other e172 (by omega) c167
  have c202 : h171[t+29]? = some (.inl (.int, 12, .inl (a 39))) := ab_other e172 (by omega) c168
  have c203 : h171[t+30]? = some (.inl (.boolean, 12, .inl (a 40))) := ab_other e172 (by omega) c169
  have fr204 : ab_fr (in_MText t) h h171 := ab_fr_set fr170 e172 (by first | (show _ ∧ _; omega) | (show _ ∨ _; omega) | (show _ = _; omega) | (show _ ≤ _; omega))
  clear c139 c140 c141 c142 c143 c144 c145 c146 c147 c148 c149 c150 c151 c152 c153 c154 c155 c156 c157 c158 c159 c160 c161 c162 c163 c164 c165 c166 c167 c168 c169 fr170 e172
  try clear h137
  exact ab_vret d_MText_token_62 rfl (Nat.le_refl _) (Nat.le_refl _) (by unfold sp_MText_token; exact ⟨rfl, ⟨c173, c174, c175, c176, c177, c178, c179, c180, c181, c182, c183, c184, c185, c186, c187, c188, c189, c190, c191, c192, c193, c194, c195, c196, c197, c198, c199, c200, c201, c202, c203⟩, fr204⟩)
