/-! THE CLASS: the book read -/
theorem c_bkHas (d : Nat) {G : Hp} (hF : FC G) {n i : Int} (hn : iv G 23 3 = n) (i0 : 0 ≤ i) (i1 : i < n) : CX (d + 1) 2 [.inr (.inr (some 23)), .inl i] G (fun r G1 => r = some (.inl 1) ∧ G1 = G) := by
  refine CX.of (d := d + 0) m_X0_has (Nat.le_of_ble_eq_true rfl) ?_
  refine Ex.lcl (ls' := [some (.inr (.inr (some 23))), some (.inl i)]) rfl ?_
  refine x_iload_n (q := 1) dX0_has_0 rfl rfl ?_
  refine x_if_lt (q := 4) (t := 16) dX0_has_1 rfl (by decide) (fun h1 => by exfalso; omega) (fun h1 => ?_)
  refine x_iload_n (q := 5) dX0_has_4 rfl rfl ?_
  refine x_aload_n (q := 6) dX0_has_5 rfl rfl ?_
  refine x_getI (q := 9) dX0_has_6 rfl f_0_21 rfl (ft23 hF) ?_
  refine Ex.stk (st' := [.inl n, .inl i]) (by rw [show iv G 23 3 = n from hn]) ?_
  refine x_icmp_ge (q := 12) (t := 16) dX0_has_9 rfl (by decide) (fun h9 => by exfalso; omega) (fun h9 => ?_)
  refine x_iconst (q := 13) dX0_has_12 rfl (by decide) ?_
  refine x_goto (t := 17) dX0_has_13 (by decide) ?_
  refine x_zret dX0_has_17 rfl (by decide) ?_
  exact ⟨rfl, rfl⟩
theorem c_bkF (d : Nat) {G : Hp} (hF : FC G) {n i v : Int} (hn : iv G 23 3 = n) (i0 : 0 ≤ i) (i1 : i < n) (n1 : n ≤ 20) (hv : iv G 24 i = v) : CX (d + 2) 3 [.inr (.inr (some 23)), .inl i] G (fun r G1 => r = some (.inl v) ∧ G1 = G) := by
  refine CX.of (d := d + 1) m_X0_functionAt (Nat.le_of_ble_eq_true rfl) ?_
  refine Ex.lcl (ls' := [some (.inr (.inr (some 23))), some (.inl i)]) rfl ?_
  refine x_aload_n (q := 1) dX0_functionAt_0 rfl rfl ?_
  refine x_iload_n (q := 2) dX0_functionAt_1 rfl rfl ?_
  refine x_invV (q := 5) (as := [.inr (.inr (some 23)), .inl i]) (rest := []) dX0_functionAt_2 rfl l_0_25 m_X0_has rfl rfl (ft23 hF) (Nat.le_of_ble_eq_true rfl) (CX.up (d := 0 + 1) (by omega) (c_bkHas 0 hF hn i0 i1)) (fun r1 G1 hR => ?_)
  obtain ⟨rfl, hG1⟩ := hR
  replace hG1 := hG1.symm
  subst hG1
  refine Ex.stk (st' := [.inl 1]) rfl ?_
  refine x_if_eq (q := 8) (t := 17) dX0_functionAt_5 rfl (by decide) (fun h5 => by exfalso; omega) (fun h5 => ?_)
  refine x_aload_n (q := 9) dX0_functionAt_8 rfl rfl ?_
  refine x_getR (q := 12) dX0_functionAt_9 rfl f_0_9 rfl (ft23 hF) ?_
  refine Ex.stk (st' := [.inr (.inr (some 24))]) (by rw [fr23_0 hF]) ?_
  refine x_iload_n (q := 13) dX0_functionAt_12 rfl rfl ?_
  refine x_iaload (q := 14) dX0_functionAt_13 rfl (Or.inl (ft24 hF)) (by omega) (by rw [fl24 hF]; omega) ?_
  refine Ex.stk (st' := [.inl v]) (by rw [show iv G 24 i = v from hv]) ?_
  refine x_goto (t := 18) dX0_functionAt_14 (by decide) ?_
  refine x_iret dX0_functionAt_18 rfl ?_
  exact ⟨rfl, rfl⟩
theorem c_bkA (d : Nat) {G : Hp} (hF : FC G) {n i v : Int} (hn : iv G 23 3 = n) (i0 : 0 ≤ i) (i1 : i < n) (n1 : n ≤ 20) (hv : iv G 25 i = v) : CX (d + 2) 4 [.inr (.inr (some 23)), .inl i] G (fun r G1 => r = some (.inl v) ∧ G1 = G) := by
  refine CX.of (d := d + 1) m_X0_argumentAt (Nat.le_of_ble_eq_true rfl) ?_
  refine Ex.lcl (ls' := [some (.inr (.inr (some 23))), some (.inl i)]) rfl ?_
  refine x_aload_n (q := 1) dX0_argumentAt_0 rfl rfl ?_
  refine x_iload_n (q := 2) dX0_argumentAt_1 rfl rfl ?_
  refine x_invV (q := 5) (as := [.inr (.inr (some 23)), .inl i]) (rest := []) dX0_argumentAt_2 rfl l_0_25 m_X0_has rfl rfl (ft23 hF) (Nat.le_of_ble_eq_true rfl) (CX.up (d := 0 + 1) (by omega) (c_bkHas 0 hF hn i0 i1)) (fun r1 G1 hR => ?_)
  obtain ⟨rfl, hG1⟩ := hR
  replace hG1 := hG1.symm
  subst hG1
  refine Ex.stk (st' := [.inl 1]) rfl ?_
  refine x_if_eq (q := 8) (t := 17) dX0_argumentAt_5 rfl (by decide) (fun h5 => by exfalso; omega) (fun h5 => ?_)
  refine x_aload_n (q := 9) dX0_argumentAt_8 rfl rfl ?_
  refine x_getR (q := 12) dX0_argumentAt_9 rfl f_0_15 rfl (ft23 hF) ?_
  refine Ex.stk (st' := [.inr (.inr (some 25))]) (by rw [fr23_1 hF]) ?_
  refine x_iload_n (q := 13) dX0_argumentAt_12 rfl rfl ?_
  refine x_iaload (q := 14) dX0_argumentAt_13 rfl (Or.inl (ft25 hF)) (by omega) (by rw [fl25 hF]; omega) ?_
  refine Ex.stk (st' := [.inl v]) (by rw [show iv G 25 i = v from hv]) ?_
  refine x_goto (t := 18) dX0_argumentAt_14 (by decide) ?_
  refine x_iret dX0_argumentAt_18 rfl ?_
  exact ⟨rfl, rfl⟩
theorem c_bkT (d : Nat) {G : Hp} (hF : FC G) {n i v : Int} (hn : iv G 23 3 = n) (i0 : 0 ≤ i) (i1 : i < n) (n1 : n ≤ 20) (hv : iv G 26 i = v) : CX (d + 2) 5 [.inr (.inr (some 23)), .inl i] G (fun r G1 => r = some (.inl v) ∧ G1 = G) := by
  refine CX.of (d := d + 1) m_X0_tellingAt (Nat.le_of_ble_eq_true rfl) ?_
  refine Ex.lcl (ls' := [some (.inr (.inr (some 23))), some (.inl i)]) rfl ?_
  refine x_aload_n (q := 1) dX0_tellingAt_0 rfl rfl ?_
  refine x_iload_n (q := 2) dX0_tellingAt_1 rfl rfl ?_
  refine x_invV (q := 5) (as := [.inr (.inr (some 23)), .inl i]) (rest := []) dX0_tellingAt_2 rfl l_0_25 m_X0_has rfl rfl (ft23 hF) (Nat.le_of_ble_eq_true rfl) (CX.up (d := 0 + 1) (by omega) (c_bkHas 0 hF hn i0 i1)) (fun r1 G1 hR => ?_)
  obtain ⟨rfl, hG1⟩ := hR
  replace hG1 := hG1.symm
  subst hG1
  refine Ex.stk (st' := [.inl 1]) rfl ?_
  refine x_if_eq (q := 8) (t := 17) dX0_tellingAt_5 rfl (by decide) (fun h5 => by exfalso; omega) (fun h5 => ?_)
  refine x_aload_n (q := 9) dX0_tellingAt_8 rfl rfl ?_
  refine x_getR (q := 12) dX0_tellingAt_9 rfl f_0_18 rfl (ft23 hF) ?_
  refine Ex.stk (st' := [.inr (.inr (some 26))]) (by rw [fr23_2 hF]) ?_
  refine x_iload_n (q := 13) dX0_tellingAt_12 rfl rfl ?_
  refine x_iaload (q := 14) dX0_tellingAt_13 rfl (Or.inl (ft26 hF)) (by omega) (by rw [fl26 hF]; omega) ?_
  refine Ex.stk (st' := [.inl v]) (by rw [show iv G 26 i = v from hv]) ?_
  refine x_goto (t := 18) dX0_tellingAt_14 (by decide) ?_
  refine x_iret dX0_tellingAt_18 rfl ?_
  exact ⟨rfl, rfl⟩
