/-! ===== every statement, every block ===== -/
section Par
variable {N p w T : Nat} {L : List (Nat × Nat × Int32 × Bool × Nat)} {g : Nat → Nat} {E : Nat → Nat → Nat} {Nm : Nat → Nat → List Nat} {Pv : Nat → Nat → Int32} {nL lc dp : Nat} {ln : Nat → List Nat} {lk lf : Nat → Nat} {hd : Nat → Int32}
theorem jo_stmt {o : Orc_BodyS} {o' : Orc_TextS} (hN : 7000 ≤ N) (hZ : ZS w o') (hZn : ZN w T L g o') (ih : dp < 20 → IHB o o' p w T L g E Nm Pv (dp + 1)) : IHS N o o' p w T L g E Nm Pv dp := by
  intro nL lc ln lk lf hd hC i cs A B ha hb hcs
  by_cases z2 : tkk L i = 2
  · exact jo_given ha hb hC hcs hN z2
  by_cases z54 : tkk L i = 54
  · exact jo_let ha hb hC hcs hN z54
  by_cases z55 : tkk L i = 55
  · exact jo_if hZ hZn ih ha hb hC hcs hN z55
  by_cases z57 : tkk L i = 57
  · exact jo_while hZ hZn ih ha hb hC hcs hN z57
  by_cases z58 : tkk L i = 58
  · exact jo_for hZ hZn ih ha hb hC hcs hN z58
  by_cases z61 : tkk L i = 61
  · exact jo_hear hZ hZn ih ha hb hC hcs hN z61
  by_cases z62 : tkk L i = 62
  · exact jo_spawn ha hb hC hcs hN z62
  by_cases z63 : tkk L i = 63
  · exact jo_drop ha hb hC hcs hN z63
  by_cases z64 : tkk L i = 64 ∨ tkk L i = 65
  · exact jo_gvtk ha hb hC hcs hN z64
  by_cases z66 : tkk L i = 66
  · exact jo_put ha hb hC hcs hN z66
  by_cases z67 : tkk L i = 67
  · exact jo_emit ha hb hC hcs hN z67
  by_cases z69 : tkk L i = 69
  · exact jo_show ha hb hC hcs hN z69
  by_cases z70 : tkk L i = 70
  · exact jo_fail ha hb hC hcs z70
  exact st_no ha hb (by omega)
theorem jo_blocks (hN : 7000 ≤ N) : ∀ m dp, 20 - dp ≤ m → dp ≤ 20 → ∀ d d', m + 1 ≤ d → m + 1 ≤ d' → IHB (X_BodyS N (d + 1)) (X_TextS N (d' + 1)) p w T L g E Nm Pv dp := by
  intro m
  induction m with
  | zero =>
    intro dp hm hdp d d' hd hd'
    obtain ⟨c, rfl⟩ : ∃ z, d' = z + 1 := ⟨d' - 1, by omega⟩
    exact jo_block (o := X_BodyS N d) (o' := X_TextS N (c + 1)) hN (jo_stmt hN (ZS_st (by omega)) (ZN_st (by omega)) (fun z => absurd z (by omega)))
  | succ m ihm =>
    intro dp hm hdp d d' hd hd'
    obtain ⟨b, rfl⟩ : ∃ z, d = z + 1 := ⟨d - 1, by omega⟩
    obtain ⟨c, rfl⟩ : ∃ z, d' = z + 1 := ⟨d' - 1, by omega⟩
    exact jo_block (o := X_BodyS N (b + 1)) (o' := X_TextS N (c + 1)) hN (jo_stmt hN (ZS_st (by omega)) (ZN_st (by omega)) (fun z => ihm (dp + 1) (by omega) (by omega) b c (by omega) (by omega)))
/-- a system's body -/
theorem jo_body (hN : 7000 ≤ N) : IHB (X_BodyS N 24) (X_TextS N 24) p w T L g E Nm Pv 0 := jo_blocks hN 20 0 (by omega) (by omega) 23 23 (by omega) (by omega)
end Par
