/-! THE CLASS: counts cleared -/
theorem c_clrC (d : Nat) {G : Hp} (hF : FC G) : CX (d + 1) 29 [.inr (.inr (some 29))] G (fun r G1 => r = none ∧ G1 = si (si (si G 29 7 0) 29 8 0) 29 9 0) := by
  refine CX.of (d := d + 0) m_X3_clearCounts (Nat.le_of_ble_eq_true rfl) ?_
  refine Ex.lcl (ls' := [some (.inr (.inr (some 29)))]) rfl ?_
  refine x_aload_n (q := 1) dX3_clearCounts_0 rfl rfl ?_
  refine x_iconst (q := 2) dX3_clearCounts_1 rfl (by decide) ?_
  refine x_putI (q := 5) dX3_clearCounts_2 rfl f_3_65 rfl (fun h => by cases h) (fun h => by cases h) (ft29 hF) ?_
  have hF := FX_si hF 29 7 0
  refine x_aload_n (q := 6) dX3_clearCounts_5 rfl rfl ?_
  refine x_iconst (q := 7) dX3_clearCounts_6 rfl (by decide) ?_
  refine x_putI (q := 10) dX3_clearCounts_7 rfl f_3_68 rfl (fun h => by cases h) (fun h => by cases h) (ft29 hF) ?_
  have hF := FX_si hF 29 8 0
  refine x_aload_n (q := 11) dX3_clearCounts_10 rfl rfl ?_
  refine x_iconst (q := 12) dX3_clearCounts_11 rfl (by decide) ?_
  refine x_putI (q := 15) dX3_clearCounts_12 rfl f_3_71 rfl (fun h => by cases h) (fun h => by cases h) (ft29 hF) ?_
  have hF := FX_si hF 29 9 0
  refine x_vret dX3_clearCounts_15 rfl ?_
  exact ⟨rfl, rfl⟩
