/-! THE MODEL: open and give, case by case -/
theorem c_open_fig (d : Nat) {G : Hp} (hF : FM G) {a c : Int} (ha : iv G 35 41 = a) (h0 : 0 ≤ a) (h1 : a < 160) (hc : iv G 42 a = c) (hd : 48 ≤ c ∧ c ≤ 57) : CX (d + 2) 118 [.inr (.inr (some 35))] G (fun r G1 => r = some (.inl (c - 48)) ∧ G1 = si G 35 41 (a + 1)) := by
  refine CX.of (d := d + 1) m_X10_open (Nat.le_of_ble_eq_true rfl) ?_
  refine Ex.lcl (ls' := [some (.inr (.inr (some 35))), none]) rfl ?_
  refine x_aload_n (q := 1) dX10_open_0 rfl rfl ?_
  refine x_getR (q := 4) dX10_open_1 rfl f_10_32 rfl (ft35 hF) ?_
  refine Ex.stk (st' := [.inr (.inr (some 42))]) (by rw [fr35_12 hF]) ?_
  refine x_aload_n (q := 5) dX10_open_4 rfl rfl ?_
  refine x_getI (q := 8) dX10_open_5 rfl f_10_111 rfl (ft35 hF) ?_
  refine Ex.stk (st' := [.inl a, .inr (.inr (some 42))]) (by rw [show iv G 35 41 = a from ha]) ?_
  refine x_iaload (q := 9) dX10_open_8 rfl (Or.inl (ft42 hF)) (by omega) (by rw [fl42 hF]; omega) ?_
  refine Ex.stk (st' := [.inl c]) (by rw [show iv G 42 a = c from hc]) ?_
  refine x_istore_n (q := 10) (ls' := [some (.inr (.inr (some 35))), some (.inl c)]) dX10_open_9 rfl (Nat.le_of_ble_eq_true rfl) (by first | rfl | exact hnl | exact hnl2 _) rfl ?_
  refine x_aload_n (q := 11) dX10_open_10 rfl rfl ?_
  refine x_dup (q := 12) dX10_open_11 rfl rfl ?_
  refine x_getI (q := 15) dX10_open_12 rfl f_10_111 rfl (ft35 hF) ?_
  refine Ex.stk (st' := [.inl a, .inr (.inr (some 35))]) (by rw [show iv G 35 41 = a from ha]) ?_
  refine x_iconst (q := 16) dX10_open_15 rfl (by decide) ?_
  refine x_iadd (q := 17) (z := a + 1) dX10_open_16 rfl (wr_id ⟨by omega, by omega⟩) ?_
  refine x_putI (q := 20) dX10_open_17 rfl f_10_111 rfl (fun h => by cases h) (fun h => by cases h) (ft35 hF) ?_
  have hF := FX_si hF 35 41 (a + 1)
  refine x_iload_n (q := 21) dX10_open_20 rfl rfl ?_
  refine x_i2l (q := 22) dX10_open_21 rfl ?_
  refine x_ldc2_w (q := 25) dX10_open_22 rfl j_10_127 ?_
  refine x_ldc2_w (q := 28) dX10_open_25 rfl j_10_129 ?_
  refine x_invS (q := 31) (as := [.inr (.inl c), .inr (.inl 48), .inr (.inl 57)]) (rest := []) dX10_open_28 rfl l_10_131 m_X10_in rfl rfl (Nat.le_of_ble_eq_true rfl) (Nat.le_of_ble_eq_true rfl) (c_in _) (fun r1 G1 hR => ?_)
  obtain ⟨hG1, z28, rfl, z28a, z28b⟩ := hR
  replace hG1 := hG1.symm
  subst hG1
  refine Ex.stk (st' := [.inl z28]) rfl ?_
  refine x_if_eq (q := 34) (t := 39) dX10_open_31 rfl (by decide) (fun h31 => by exfalso; omega) (fun h31 => ?_)
  refine x_iload_n (q := 35) dX10_open_34 rfl rfl ?_
  refine x_bipush (q := 37) dX10_open_35 rfl (by decide) ?_
  refine x_isub (q := 38) (z := c - 48) dX10_open_37 rfl (wr_id ⟨by omega, by omega⟩) ?_
  refine x_iret dX10_open_38 rfl ?_
  exact ⟨rfl, rfl⟩
theorem c_open_n (d : Nat) {G : Hp} (hF : FM G) {a c : Int} (ha : iv G 35 41 = a) (h0 : 0 ≤ a) (h1 : a < 160) (hc : iv G 42 a = c) {cur : Int} (hcur : iv G 35 42 = cur) (u0 : 0 ≤ cur) (u1 : cur < 364) (hd : c = 110) : CX (d + 2) 118 [.inr (.inr (some 35))] G (fun r G1 => r = some (.inl (iv G 53 cur)) ∧ G1 = si G 35 41 (a + 1)) := by
  refine CX.of (d := d + 1) m_X10_open (Nat.le_of_ble_eq_true rfl) ?_
  refine Ex.lcl (ls' := [some (.inr (.inr (some 35))), none]) rfl ?_
  refine x_aload_n (q := 1) dX10_open_0 rfl rfl ?_
  refine x_getR (q := 4) dX10_open_1 rfl f_10_32 rfl (ft35 hF) ?_
  refine Ex.stk (st' := [.inr (.inr (some 42))]) (by rw [fr35_12 hF]) ?_
  refine x_aload_n (q := 5) dX10_open_4 rfl rfl ?_
  refine x_getI (q := 8) dX10_open_5 rfl f_10_111 rfl (ft35 hF) ?_
  refine Ex.stk (st' := [.inl a, .inr (.inr (some 42))]) (by rw [show iv G 35 41 = a from ha]) ?_
  refine x_iaload (q := 9) dX10_open_8 rfl (Or.inl (ft42 hF)) (by omega) (by rw [fl42 hF]; omega) ?_
  refine Ex.stk (st' := [.inl c]) (by rw [show iv G 42 a = c from hc]) ?_
  refine x_istore_n (q := 10) (ls' := [some (.inr (.inr (some 35))), some (.inl c)]) dX10_open_9 rfl (Nat.le_of_ble_eq_true rfl) (by first | rfl | exact hnl | exact hnl2 _) rfl ?_
  refine x_aload_n (q := 11) dX10_open_10 rfl rfl ?_
  refine x_dup (q := 12) dX10_open_11 rfl rfl ?_
  refine x_getI (q := 15) dX10_open_12 rfl f_10_111 rfl (ft35 hF) ?_
  refine Ex.stk (st' := [.inl a, .inr (.inr (some 35))]) (by rw [show iv G 35 41 = a from ha]) ?_
  refine x_iconst (q := 16) dX10_open_15 rfl (by decide) ?_
  refine x_iadd (q := 17) (z := a + 1) dX10_open_16 rfl (wr_id ⟨by omega, by omega⟩) ?_
  refine x_putI (q := 20) dX10_open_17 rfl f_10_111 rfl (fun h => by cases h) (fun h => by cases h) (ft35 hF) ?_
  have hF := FX_si hF 35 41 (a + 1)
  refine x_iload_n (q := 21) dX10_open_20 rfl rfl ?_
  refine x_i2l (q := 22) dX10_open_21 rfl ?_
  refine x_ldc2_w (q := 25) dX10_open_22 rfl j_10_127 ?_
  refine x_ldc2_w (q := 28) dX10_open_25 rfl j_10_129 ?_
  refine x_invS (q := 31) (as := [.inr (.inl c), .inr (.inl 48), .inr (.inl 57)]) (rest := []) dX10_open_28 rfl l_10_131 m_X10_in rfl rfl (Nat.le_of_ble_eq_true rfl) (Nat.le_of_ble_eq_true rfl) (c_in _) (fun r1 G1 hR => ?_)
  obtain ⟨hG1, z28, rfl, z28a, z28b⟩ := hR
  replace hG1 := hG1.symm
  subst hG1
  refine Ex.stk (st' := [.inl z28]) rfl ?_
  refine x_if_eq (q := 34) (t := 39) dX10_open_31 rfl (by decide) (fun h31 => ?_) (fun h31 => by exfalso; omega)
  refine x_iload_n (q := 40) dX10_open_39 rfl rfl ?_
  refine x_bipush (q := 42) dX10_open_40 rfl (by decide) ?_
  refine x_icmp_ne (q := 45) (t := 55) dX10_open_42 rfl (by decide) (fun h42 => by exfalso; omega) (fun h42 => ?_)
  refine x_aload_n (q := 46) dX10_open_45 rfl rfl ?_
  refine x_getR (q := 49) dX10_open_46 rfl f_10_65 rfl (ft35 hF) ?_
  refine Ex.stk (st' := [.inr (.inr (some 53))]) (by rw [fr35_25 hF]) ?_
  refine x_aload_n (q := 50) dX10_open_49 rfl rfl ?_
  refine x_getI (q := 53) dX10_open_50 rfl f_10_121 rfl (ft35 hF) ?_
  refine Ex.stk (st' := [.inl cur, .inr (.inr (some 53))]) (by rw [show iv (si G 35 41 (a + 1)) 35 42 = cur from (by simp [iv_si, ha, hc, hcur])]) ?_
  refine x_iaload (q := 54) dX10_open_53 rfl (Or.inl (ft53 hF)) (by omega) (by rw [fl53 hF]; omega) ?_
  refine x_iret dX10_open_54 rfl ?_
  exact ⟨rfl, rfl⟩
theorem c_open_f (d : Nat) {G : Hp} (hF : FM G) {a c : Int} (ha : iv G 35 41 = a) (h0 : 0 ≤ a) (h1 : a < 160) (hc : iv G 42 a = c) {w c1 : Int} (hw : iv G 35 40 = w) (w0 : 0 ≤ w) (w1 : w < 1200) (h2 : a + 1 < 160) (hc1 : iv G 42 (a + 1) = c1) (hg : 48 ≤ c1 ∧ c1 ≤ 57) (hd : c = 102) : CX (d + 2) 118 [.inr (.inr (some 35))] G (fun r G1 => r = some (.inl (-1)) ∧ G1 = si (si (si (si (si (si G 35 41 (a + 1)) 60 w c) 61 w 0) 62 w (c1 - 48)) 35 40 (w + 1)) 35 41 (a + 2)) := by
  refine CX.of (d := d + 1) m_X10_open (Nat.le_of_ble_eq_true rfl) ?_
  refine Ex.lcl (ls' := [some (.inr (.inr (some 35))), none]) rfl ?_
  refine x_aload_n (q := 1) dX10_open_0 rfl rfl ?_
  refine x_getR (q := 4) dX10_open_1 rfl f_10_32 rfl (ft35 hF) ?_
  refine Ex.stk (st' := [.inr (.inr (some 42))]) (by rw [fr35_12 hF]) ?_
  refine x_aload_n (q := 5) dX10_open_4 rfl rfl ?_
  refine x_getI (q := 8) dX10_open_5 rfl f_10_111 rfl (ft35 hF) ?_
  refine Ex.stk (st' := [.inl a, .inr (.inr (some 42))]) (by rw [show iv G 35 41 = a from ha]) ?_
  refine x_iaload (q := 9) dX10_open_8 rfl (Or.inl (ft42 hF)) (by omega) (by rw [fl42 hF]; omega) ?_
  refine Ex.stk (st' := [.inl c]) (by rw [show iv G 42 a = c from hc]) ?_
  refine x_istore_n (q := 10) (ls' := [some (.inr (.inr (some 35))), some (.inl c)]) dX10_open_9 rfl (Nat.le_of_ble_eq_true rfl) (by first | rfl | exact hnl | exact hnl2 _) rfl ?_
  refine x_aload_n (q := 11) dX10_open_10 rfl rfl ?_
  refine x_dup (q := 12) dX10_open_11 rfl rfl ?_
  refine x_getI (q := 15) dX10_open_12 rfl f_10_111 rfl (ft35 hF) ?_
  refine Ex.stk (st' := [.inl a, .inr (.inr (some 35))]) (by rw [show iv G 35 41 = a from ha]) ?_
  refine x_iconst (q := 16) dX10_open_15 rfl (by decide) ?_
  refine x_iadd (q := 17) (z := a + 1) dX10_open_16 rfl (wr_id ⟨by omega, by omega⟩) ?_
  refine x_putI (q := 20) dX10_open_17 rfl f_10_111 rfl (fun h => by cases h) (fun h => by cases h) (ft35 hF) ?_
  have hF := FX_si hF 35 41 (a + 1)
  refine x_iload_n (q := 21) dX10_open_20 rfl rfl ?_
  refine x_i2l (q := 22) dX10_open_21 rfl ?_
  refine x_ldc2_w (q := 25) dX10_open_22 rfl j_10_127 ?_
  refine x_ldc2_w (q := 28) dX10_open_25 rfl j_10_129 ?_
  refine x_invS (q := 31) (as := [.inr (.inl c), .inr (.inl 48), .inr (.inl 57)]) (rest := []) dX10_open_28 rfl l_10_131 m_X10_in rfl rfl (Nat.le_of_ble_eq_true rfl) (Nat.le_of_ble_eq_true rfl) (c_in _) (fun r1 G1 hR => ?_)
  obtain ⟨hG1, z28, rfl, z28a, z28b⟩ := hR
  replace hG1 := hG1.symm
  subst hG1
  refine Ex.stk (st' := [.inl z28]) rfl ?_
  refine x_if_eq (q := 34) (t := 39) dX10_open_31 rfl (by decide) (fun h31 => ?_) (fun h31 => by exfalso; omega)
  refine x_iload_n (q := 40) dX10_open_39 rfl rfl ?_
  refine x_bipush (q := 42) dX10_open_40 rfl (by decide) ?_
  refine x_icmp_ne (q := 45) (t := 55) dX10_open_42 rfl (by decide) (fun h42 => ?_) (fun h42 => by exfalso; omega)
  refine x_iload_n (q := 56) dX10_open_55 rfl rfl ?_
  refine x_bipush (q := 58) dX10_open_56 rfl (by decide) ?_
  refine x_icmp_ne (q := 61) (t := 91) dX10_open_58 rfl (by decide) (fun h58 => by exfalso; omega) (fun h58 => ?_)
  refine x_aload_n (q := 62) dX10_open_61 rfl rfl ?_
  refine x_iload_n (q := 63) dX10_open_62 rfl rfl ?_
  refine x_aload_n (q := 64) dX10_open_63 rfl rfl ?_
  refine x_getR (q := 67) dX10_open_64 rfl f_10_32 rfl (ft35 hF) ?_
  refine Ex.stk (st' := [.inr (.inr (some 42)), .inl c, .inr (.inr (some 35))]) (by rw [fr35_12 hF]) ?_
  refine x_aload_n (q := 68) dX10_open_67 rfl rfl ?_
  refine x_getI (q := 71) dX10_open_68 rfl f_10_111 rfl (ft35 hF) ?_
  refine Ex.stk (st' := [.inl (a + 1), .inr (.inr (some 42)), .inl c, .inr (.inr (some 35))]) (by rw [show iv (si G 35 41 (a + 1)) 35 41 = a + 1 from (by simp [iv_si])]) ?_
  refine x_iaload (q := 72) dX10_open_71 rfl (Or.inl (ft42 hF)) (by omega) (by rw [fl42 hF]; omega) ?_
  refine Ex.stk (st' := [.inl c1, .inl c, .inr (.inr (some 35))]) (by rw [show iv (si G 35 41 (a + 1)) 42 (a + 1) = c1 from (by simp [iv_si, ha, hc, hw, hc1])]) ?_
  refine x_bipush (q := 74) dX10_open_72 rfl (by decide) ?_
  refine x_isub (q := 75) (z := c1 - 48) dX10_open_74 rfl (wr_id ⟨by omega, by omega⟩) ?_
  refine x_invV (q := 78) (as := [.inr (.inr (some 35)), .inl c, .inl (c1 - 48)]) (rest := []) dX10_open_75 rfl l_10_124 m_X10_push rfl rfl (ft35 hF) (Nat.le_of_ble_eq_true rfl) (c_push _ (G := si G 35 41 (a + 1)) hF (w := w) (by simp [iv_si, hw]) (by omega) (by omega)) (fun r1 G1 hR => ?_)
  obtain ⟨rfl, rfl⟩ := hR
  have hF := FX_si (FX_si (FX_si (FX_si hF 60 w c) 61 w 0) 62 w (c1 - 48)) 35 40 (w + 1)
  refine Ex.stk (st' := []) rfl ?_
  refine x_aload_n (q := 79) dX10_open_78 rfl rfl ?_
  refine x_dup (q := 80) dX10_open_79 rfl rfl ?_
  refine x_getI (q := 83) dX10_open_80 rfl f_10_111 rfl (ft35 hF) ?_
  refine Ex.stk (st' := [.inl (a + 1), .inr (.inr (some 35))]) (by rw [show iv (si (si (si (si (si G 35 41 (a + 1)) 60 w c) 61 w 0) 62 w (c1 - 48)) 35 40 (w + 1)) 35 41 = a + 1 from (by simp [iv_si])]) ?_
  refine x_iconst (q := 84) dX10_open_83 rfl (by decide) ?_
  refine x_iadd (q := 85) (z := a + 2) dX10_open_84 rfl (by rw [show a + 1 + 1 = a + 2 from by omega]; exact wr_id ⟨by omega, by omega⟩) ?_
  refine x_putI (q := 88) dX10_open_85 rfl f_10_111 rfl (fun h => by cases h) (fun h => by cases h) (ft35 hF) ?_
  have hF := FX_si hF 35 41 (a + 2)
  refine x_goto (t := 97) dX10_open_88 (by decide) ?_
  refine x_iconst (q := 98) dX10_open_97 rfl (by decide) ?_
  refine x_iret dX10_open_98 rfl ?_
  exact ⟨rfl, rfl⟩
theorem c_open_op (d : Nat) {G : Hp} (hF : FM G) {a c : Int} (ha : iv G 35 41 = a) (h0 : 0 ≤ a) (h1 : a < 160) (hc : iv G 42 a = c) {w : Int} (hw : iv G 35 40 = w) (w0 : 0 ≤ w) (w1 : w < 1200) (hd : c = 120 ∨ c = 43 ∨ c = 45 ∨ c = 42 ∨ c = 60 ∨ c = 63) : CX (d + 2) 118 [.inr (.inr (some 35))] G (fun r G1 => r = some (.inl (-1)) ∧ G1 = si (si (si (si (si G 35 41 (a + 1)) 60 w c) 61 w 0) 62 w 0) 35 40 (w + 1)) := by
  refine CX.of (d := d + 1) m_X10_open (Nat.le_of_ble_eq_true rfl) ?_
  refine Ex.lcl (ls' := [some (.inr (.inr (some 35))), none]) rfl ?_
  refine x_aload_n (q := 1) dX10_open_0 rfl rfl ?_
  refine x_getR (q := 4) dX10_open_1 rfl f_10_32 rfl (ft35 hF) ?_
  refine Ex.stk (st' := [.inr (.inr (some 42))]) (by rw [fr35_12 hF]) ?_
  refine x_aload_n (q := 5) dX10_open_4 rfl rfl ?_
  refine x_getI (q := 8) dX10_open_5 rfl f_10_111 rfl (ft35 hF) ?_
  refine Ex.stk (st' := [.inl a, .inr (.inr (some 42))]) (by rw [show iv G 35 41 = a from ha]) ?_
  refine x_iaload (q := 9) dX10_open_8 rfl (Or.inl (ft42 hF)) (by omega) (by rw [fl42 hF]; omega) ?_
  refine Ex.stk (st' := [.inl c]) (by rw [show iv G 42 a = c from hc]) ?_
  refine x_istore_n (q := 10) (ls' := [some (.inr (.inr (some 35))), some (.inl c)]) dX10_open_9 rfl (Nat.le_of_ble_eq_true rfl) (by first | rfl | exact hnl | exact hnl2 _) rfl ?_
  refine x_aload_n (q := 11) dX10_open_10 rfl rfl ?_
  refine x_dup (q := 12) dX10_open_11 rfl rfl ?_
  refine x_getI (q := 15) dX10_open_12 rfl f_10_111 rfl (ft35 hF) ?_
  refine Ex.stk (st' := [.inl a, .inr (.inr (some 35))]) (by rw [show iv G 35 41 = a from ha]) ?_
  refine x_iconst (q := 16) dX10_open_15 rfl (by decide) ?_
  refine x_iadd (q := 17) (z := a + 1) dX10_open_16 rfl (wr_id ⟨by omega, by omega⟩) ?_
  refine x_putI (q := 20) dX10_open_17 rfl f_10_111 rfl (fun h => by cases h) (fun h => by cases h) (ft35 hF) ?_
  have hF := FX_si hF 35 41 (a + 1)
  refine x_iload_n (q := 21) dX10_open_20 rfl rfl ?_
  refine x_i2l (q := 22) dX10_open_21 rfl ?_
  refine x_ldc2_w (q := 25) dX10_open_22 rfl j_10_127 ?_
  refine x_ldc2_w (q := 28) dX10_open_25 rfl j_10_129 ?_
  refine x_invS (q := 31) (as := [.inr (.inl c), .inr (.inl 48), .inr (.inl 57)]) (rest := []) dX10_open_28 rfl l_10_131 m_X10_in rfl rfl (Nat.le_of_ble_eq_true rfl) (Nat.le_of_ble_eq_true rfl) (c_in _) (fun r1 G1 hR => ?_)
  obtain ⟨hG1, z28, rfl, z28a, z28b⟩ := hR
  replace hG1 := hG1.symm
  subst hG1
  refine Ex.stk (st' := [.inl z28]) rfl ?_
  refine x_if_eq (q := 34) (t := 39) dX10_open_31 rfl (by decide) (fun h31 => ?_) (fun h31 => by exfalso; omega)
  refine x_iload_n (q := 40) dX10_open_39 rfl rfl ?_
  refine x_bipush (q := 42) dX10_open_40 rfl (by decide) ?_
  refine x_icmp_ne (q := 45) (t := 55) dX10_open_42 rfl (by decide) (fun h42 => ?_) (fun h42 => by exfalso; omega)
  refine x_iload_n (q := 56) dX10_open_55 rfl rfl ?_
  refine x_bipush (q := 58) dX10_open_56 rfl (by decide) ?_
  refine x_icmp_ne (q := 61) (t := 91) dX10_open_58 rfl (by decide) (fun h58 => ?_) (fun h58 => by exfalso; omega)
  refine x_aload_n (q := 92) dX10_open_91 rfl rfl ?_
  refine x_iload_n (q := 93) dX10_open_92 rfl rfl ?_
  refine x_iconst (q := 94) dX10_open_93 rfl (by decide) ?_
  refine x_invV (q := 97) (as := [.inr (.inr (some 35)), .inl c, .inl 0]) (rest := []) dX10_open_94 rfl l_10_124 m_X10_push rfl rfl (ft35 hF) (Nat.le_of_ble_eq_true rfl) (c_push _ (G := si G 35 41 (a + 1)) hF (w := w) (by simp [iv_si, hw]) (by omega) (by omega)) (fun r1 G1 hR => ?_)
  obtain ⟨rfl, rfl⟩ := hR
  have hF := FX_si (FX_si (FX_si (FX_si hF 60 w c) 61 w 0) 62 w 0) 35 40 (w + 1)
  refine Ex.stk (st' := []) rfl ?_
  refine x_iconst (q := 98) dX10_open_97 rfl (by decide) ?_
  refine x_iret dX10_open_98 rfl ?_
  exact ⟨rfl, rfl⟩
theorem c_called0 (d : Nat) {G : Hp} (hF : FM G) {f x mn cur ns : Int} (hmn : iv G 35 14 = mn) (hcur : iv G 35 42 = cur) (u0 : 0 ≤ cur) (u1 : cur < 364) (hns : iv G 55 cur = ns) (hn : mn ≤ f ∨ ns = 6) : CX (d + 3) 119 [.inr (.inr (some 35)), .inl f, .inl x] G (fun r G1 => r = some (.inl 0) ∧ G1 = G) := by
  refine CX.of (d := d + 2) m_X10_called (Nat.le_of_ble_eq_true rfl) ?_
  refine Ex.lcl (ls' := [some (.inr (.inr (some 35))), some (.inl f), some (.inl x)]) rfl ?_
  refine x_iload_n (q := 1) dX10_called_0 rfl rfl ?_
  refine x_aload_n (q := 2) dX10_called_1 rfl rfl ?_
  refine x_getI (q := 5) dX10_called_2 rfl f_10_95 rfl (ft35 hF) ?_
  refine Ex.stk (st' := [.inl mn, .inl f]) (by rw [show iv G 35 14 = mn from hmn]) ?_
  refine x_icmp_ge (q := 8) (t := 22) dX10_called_5 rfl (by decide) (fun h5 => ?_) (fun h5 => ?_)
  · refine x_iconst (q := 23) dX10_called_22 rfl (by decide) ?_
    refine x_iret dX10_called_23 rfl ?_
    exact ⟨rfl, rfl⟩
  · refine x_aload_n (q := 9) dX10_called_8 rfl rfl ?_
    refine x_getR (q := 12) dX10_called_9 rfl f_10_71 rfl (ft35 hF) ?_
    refine Ex.stk (st' := [.inr (.inr (some 55))]) (by rw [fr35_27 hF]) ?_
    refine x_aload_n (q := 13) dX10_called_12 rfl rfl ?_
    refine x_getI (q := 16) dX10_called_13 rfl f_10_121 rfl (ft35 hF) ?_
    refine Ex.stk (st' := [.inl cur, .inr (.inr (some 55))]) (by rw [show iv G 35 42 = cur from hcur]) ?_
    refine x_iaload (q := 17) dX10_called_16 rfl (Or.inl (ft55 hF)) (by omega) (by rw [fl55 hF]; omega) ?_
    refine Ex.stk (st' := [.inl ns]) (by rw [show iv G 55 cur = ns from hns]) ?_
    refine x_bipush (q := 19) dX10_called_17 rfl (by decide) ?_
    refine x_icmp_ne (q := 22) (t := 24) dX10_called_19 rfl (by decide) (fun h19 => by exfalso; omega) (fun h19 => ?_)
    refine x_iconst (q := 23) dX10_called_22 rfl (by decide) ?_
    refine x_iret dX10_called_23 rfl ?_
    exact ⟨rfl, rfl⟩
theorem c_called1 (d : Nat) {G : Hp} (hF : FM G) {f x mn cur ns : Int} (hmn : iv G 35 14 = mn) (hcur : iv G 35 42 = cur) (u0 : 0 ≤ cur) (u1 : cur < 364) (hns : iv G 55 cur = ns) {w a nc : Int} (hw : iv G 35 40 = w) (ha : iv G 35 41 = a) (hnc : iv G 35 29 = nc) (w0 : 0 ≤ w) (w1 : w < 1200) (n0 : 0 ≤ nc) (n1 : nc < 364) (n2 : nc ≠ 0) (f0 : 0 ≤ f) (f1 : f < mn) (m5 : mn ≤ 5) (b0 : 0 ≤ ns) (b1 : ns < 6) : CX (d + 3) 119 [.inr (.inr (some 35)), .inl f, .inl x] G (fun r G1 => r = some (.inl (-1)) ∧ G1 = si (si (si (si (si (si (si (si (si (si (si (si G 35 42 nc) 52 nc f) 53 nc x) 55 nc (ns + 1)) 56 nc 0) 35 29 (nc + 1)) 60 w 67) 61 w 0) 62 w cur) 35 40 (w + 1)) 61 w a) 35 41 (iv G 43 f)) := by
  refine CX.of (d := d + 2) m_X10_called (Nat.le_of_ble_eq_true rfl) ?_
  refine Ex.lcl (ls' := [some (.inr (.inr (some 35))), some (.inl f), some (.inl x)]) rfl ?_
  refine x_iload_n (q := 1) dX10_called_0 rfl rfl ?_
  refine x_aload_n (q := 2) dX10_called_1 rfl rfl ?_
  refine x_getI (q := 5) dX10_called_2 rfl f_10_95 rfl (ft35 hF) ?_
  refine Ex.stk (st' := [.inl mn, .inl f]) (by rw [show iv G 35 14 = mn from hmn]) ?_
  refine x_icmp_ge (q := 8) (t := 22) dX10_called_5 rfl (by decide) (fun h5 => by exfalso; omega) (fun h5 => ?_)
  refine x_aload_n (q := 9) dX10_called_8 rfl rfl ?_
  refine x_getR (q := 12) dX10_called_9 rfl f_10_71 rfl (ft35 hF) ?_
  refine Ex.stk (st' := [.inr (.inr (some 55))]) (by rw [fr35_27 hF]) ?_
  refine x_aload_n (q := 13) dX10_called_12 rfl rfl ?_
  refine x_getI (q := 16) dX10_called_13 rfl f_10_121 rfl (ft35 hF) ?_
  refine Ex.stk (st' := [.inl cur, .inr (.inr (some 55))]) (by rw [show iv G 35 42 = cur from hcur]) ?_
  refine x_iaload (q := 17) dX10_called_16 rfl (Or.inl (ft55 hF)) (by omega) (by rw [fl55 hF]; omega) ?_
  refine Ex.stk (st' := [.inl ns]) (by rw [show iv G 55 cur = ns from hns]) ?_
  refine x_bipush (q := 19) dX10_called_17 rfl (by decide) ?_
  refine x_icmp_ne (q := 22) (t := 24) dX10_called_19 rfl (by decide) (fun h19 => ?_) (fun h19 => by exfalso; omega)
  refine x_aload_n (q := 25) dX10_called_24 rfl rfl ?_
  refine x_iload_n (q := 26) dX10_called_25 rfl rfl ?_
  refine x_iload_n (q := 27) dX10_called_26 rfl rfl ?_
  refine x_invV (q := 30) (as := [.inr (.inr (some 35)), .inl f, .inl x]) (rest := []) dX10_called_27 rfl l_10_135 m_X10_begin rfl rfl (ft35 hF) (Nat.le_of_ble_eq_true rfl) (c_begin _ hF hw ha hcur hnc (Or.inr ⟨by omega, hns⟩) w0 w1 n0 n1 u0 u1 (by omega) (by omega) (by omega) (by omega)) (fun r1 G1 hR => ?_)
  obtain ⟨rfl, rfl⟩ := hR
  refine Ex.stk (st' := []) rfl ?_
  refine x_iconst (q := 31) dX10_called_30 rfl (by decide) ?_
  refine x_iret dX10_called_31 rfl ?_
  exact ⟨rfl, rfl⟩
theorem c_give_C (d : Nat) {G : Hp} (hF : FM G) {w v sg : Int} (hw : iv G 35 40 = w) (w0 : 1 ≤ w) (w1 : w < 1200) (hsg : iv G 60 (w - 1) = sg) {cur : Int} (hcur : iv G 35 42 = cur) (u0 : 0 ≤ cur) (u1 : cur < 364) (hs : sg = 67) : CX (d + 2) 120 [.inr (.inr (some 35)), .inl v] G (fun r G1 => r = some (.inl v) ∧ G1 = si (si (si (si G 54 cur v) 35 42 (iv G 62 (w - 1))) 35 41 (iv G 61 (w - 1))) 35 40 (w - 1)) := by
  refine CX.of (d := d + 1) m_X10_give (Nat.le_of_ble_eq_true rfl) ?_
  refine Ex.lcl (ls' := [some (.inr (.inr (some 35))), some (.inl v), none, none]) rfl ?_
  refine x_aload_n (q := 1) dX10_give_0 rfl rfl ?_
  refine x_getI (q := 4) dX10_give_1 rfl f_10_108 rfl (ft35 hF) ?_
  refine Ex.stk (st' := [.inl w]) (by rw [show iv G 35 40 = w from hw]) ?_
  refine x_iconst (q := 5) dX10_give_4 rfl (by decide) ?_
  refine x_isub (q := 6) (z := w - 1) dX10_give_5 rfl (wr_id ⟨by omega, by omega⟩) ?_
  refine x_istore_n (q := 7) (ls' := [some (.inr (.inr (some 35))), some (.inl v), some (.inl (w - 1)), none]) dX10_give_6 rfl (Nat.le_of_ble_eq_true rfl) (by first | rfl | exact hnl | exact hnl2 _) rfl ?_
  refine x_aload_n (q := 8) dX10_give_7 rfl rfl ?_
  refine x_getR (q := 11) dX10_give_8 rfl f_10_86 rfl (ft35 hF) ?_
  refine Ex.stk (st' := [.inr (.inr (some 60))]) (by rw [fr35_37 hF]) ?_
  refine x_iload_n (q := 12) dX10_give_11 rfl rfl ?_
  refine x_iaload (q := 13) dX10_give_12 rfl (Or.inl (ft60 hF)) (by omega) (by rw [fl60 hF]; omega) ?_
  refine Ex.stk (st' := [.inl sg]) (by rw [show iv G 60 (w - 1) = sg from hsg]) ?_
  refine x_istore_n (q := 14) (ls' := [some (.inr (.inr (some 35))), some (.inl v), some (.inl (w - 1)), some (.inl sg)]) dX10_give_13 rfl (Nat.le_of_ble_eq_true rfl) (by first | rfl | exact hnl | exact hnl2 _) rfl ?_
  refine x_iload_n (q := 15) dX10_give_14 rfl rfl ?_
  refine x_bipush (q := 17) dX10_give_15 rfl (by decide) ?_
  refine x_icmp_ne (q := 20) (t := 62) dX10_give_17 rfl (by decide) (fun h17 => by exfalso; omega) (fun h17 => ?_)
  refine x_aload_n (q := 21) dX10_give_20 rfl rfl ?_
  refine x_getR (q := 24) dX10_give_21 rfl f_10_68 rfl (ft35 hF) ?_
  refine Ex.stk (st' := [.inr (.inr (some 54))]) (by rw [fr35_26 hF]) ?_
  refine x_aload_n (q := 25) dX10_give_24 rfl rfl ?_
  refine x_getI (q := 28) dX10_give_25 rfl f_10_121 rfl (ft35 hF) ?_
  refine Ex.stk (st' := [.inl cur, .inr (.inr (some 54))]) (by rw [show iv G 35 42 = cur from hcur]) ?_
  refine x_iload_n (q := 29) dX10_give_28 rfl rfl ?_
  refine x_iastore (q := 30) dX10_give_29 rfl (ft54 hF) (by omega) (by rw [fl54 hF]; omega) ?_
  have hF := FX_si hF 54 cur v
  refine x_aload_n (q := 31) dX10_give_30 rfl rfl ?_
  refine x_aload_n (q := 32) dX10_give_31 rfl rfl ?_
  refine x_getR (q := 35) dX10_give_32 rfl f_10_92 rfl (ft35 hF) ?_
  refine Ex.stk (st' := [.inr (.inr (some 62)), .inr (.inr (some 35))]) (by rw [fr35_39 hF]) ?_
  refine x_iload_n (q := 36) dX10_give_35 rfl rfl ?_
  refine x_iaload (q := 37) dX10_give_36 rfl (Or.inl (ft62 hF)) (by omega) (by rw [fl62 hF]; omega) ?_
  refine Ex.stk (st' := [.inl (iv G 62 (w - 1)), .inr (.inr (some 35))]) (by rw [show iv (si G 54 cur v) 62 (w - 1) = iv G 62 (w - 1) from (by simp [iv_si, hw, hsg, hcur])]) ?_
  refine x_putI (q := 40) dX10_give_37 rfl f_10_121 rfl (fun h => by cases h) (fun h => by cases h) (ft35 hF) ?_
  have hF := FX_si hF 35 42 (iv G 62 (w - 1))
  refine x_aload_n (q := 41) dX10_give_40 rfl rfl ?_
  refine x_aload_n (q := 42) dX10_give_41 rfl rfl ?_
  refine x_getR (q := 45) dX10_give_42 rfl f_10_89 rfl (ft35 hF) ?_
  refine Ex.stk (st' := [.inr (.inr (some 61)), .inr (.inr (some 35))]) (by rw [fr35_38 hF]) ?_
  refine x_iload_n (q := 46) dX10_give_45 rfl rfl ?_
  refine x_iaload (q := 47) dX10_give_46 rfl (Or.inl (ft61 hF)) (by omega) (by rw [fl61 hF]; omega) ?_
  refine Ex.stk (st' := [.inl (iv G 61 (w - 1)), .inr (.inr (some 35))]) (by rw [show iv (si (si G 54 cur v) 35 42 (iv G 62 (w - 1))) 61 (w - 1) = iv G 61 (w - 1) from (by simp [iv_si, hw, hsg, hcur])]) ?_
  refine x_putI (q := 50) dX10_give_47 rfl f_10_111 rfl (fun h => by cases h) (fun h => by cases h) (ft35 hF) ?_
  have hF := FX_si hF 35 41 (iv G 61 (w - 1))
  refine x_aload_n (q := 51) dX10_give_50 rfl rfl ?_
  refine x_dup (q := 52) dX10_give_51 rfl rfl ?_
  refine x_getI (q := 55) dX10_give_52 rfl f_10_108 rfl (ft35 hF) ?_
  refine Ex.stk (st' := [.inl w, .inr (.inr (some 35))]) (by rw [show iv (si (si (si G 54 cur v) 35 42 (iv G 62 (w - 1))) 35 41 (iv G 61 (w - 1))) 35 40 = w from (by simp [iv_si, hw, hsg, hcur])]) ?_
  refine x_iconst (q := 56) dX10_give_55 rfl (by decide) ?_
  refine x_isub (q := 57) (z := w - 1) dX10_give_56 rfl (wr_id ⟨by omega, by omega⟩) ?_
  refine x_putI (q := 60) dX10_give_57 rfl f_10_108 rfl (fun h => by cases h) (fun h => by cases h) (ft35 hF) ?_
  have hF := FX_si hF 35 40 (w - 1)
  refine x_iload_n (q := 61) dX10_give_60 rfl rfl ?_
  refine x_iret dX10_give_61 rfl ?_
  exact ⟨rfl, rfl⟩
theorem c_give_x (d : Nat) {G : Hp} (hF : FM G) {w v sg : Int} (hw : iv G 35 40 = w) (w0 : 1 ≤ w) (w1 : w < 1200) (hsg : iv G 60 (w - 1) = sg) {cur m cv : Int} (hcur : iv G 35 42 = cur) (u0 : 0 ≤ cur) (u1 : cur < 364) (hm : iv G 56 cur = m) (hcv : iv G 36 (v % 8) = cv) (v0 : 0 ≤ v) (hs : sg = 120) : CX (d + 2) 120 [.inr (.inr (some 35)), .inl v] G (fun r G1 => r = some (.inl cv) ∧ G1 = si (si G 35 40 (w - 1)) 56 cur (bor m (bit (v % 8)))) := by
  refine CX.of (d := d + 1) m_X10_give (Nat.le_of_ble_eq_true rfl) ?_
  refine Ex.lcl (ls' := [some (.inr (.inr (some 35))), some (.inl v), none, none]) rfl ?_
  refine x_aload_n (q := 1) dX10_give_0 rfl rfl ?_
  refine x_getI (q := 4) dX10_give_1 rfl f_10_108 rfl (ft35 hF) ?_
  refine Ex.stk (st' := [.inl w]) (by rw [show iv G 35 40 = w from hw]) ?_
  refine x_iconst (q := 5) dX10_give_4 rfl (by decide) ?_
  refine x_isub (q := 6) (z := w - 1) dX10_give_5 rfl (wr_id ⟨by omega, by omega⟩) ?_
  refine x_istore_n (q := 7) (ls' := [some (.inr (.inr (some 35))), some (.inl v), some (.inl (w - 1)), none]) dX10_give_6 rfl (Nat.le_of_ble_eq_true rfl) (by first | rfl | exact hnl | exact hnl2 _) rfl ?_
  refine x_aload_n (q := 8) dX10_give_7 rfl rfl ?_
  refine x_getR (q := 11) dX10_give_8 rfl f_10_86 rfl (ft35 hF) ?_
  refine Ex.stk (st' := [.inr (.inr (some 60))]) (by rw [fr35_37 hF]) ?_
  refine x_iload_n (q := 12) dX10_give_11 rfl rfl ?_
  refine x_iaload (q := 13) dX10_give_12 rfl (Or.inl (ft60 hF)) (by omega) (by rw [fl60 hF]; omega) ?_
  refine Ex.stk (st' := [.inl sg]) (by rw [show iv G 60 (w - 1) = sg from hsg]) ?_
  refine x_istore_n (q := 14) (ls' := [some (.inr (.inr (some 35))), some (.inl v), some (.inl (w - 1)), some (.inl sg)]) dX10_give_13 rfl (Nat.le_of_ble_eq_true rfl) (by first | rfl | exact hnl | exact hnl2 _) rfl ?_
  refine x_iload_n (q := 15) dX10_give_14 rfl rfl ?_
  refine x_bipush (q := 17) dX10_give_15 rfl (by decide) ?_
  refine x_icmp_ne (q := 20) (t := 62) dX10_give_17 rfl (by decide) (fun h17 => ?_) (fun h17 => by exfalso; omega)
  refine x_iload_n (q := 63) dX10_give_62 rfl rfl ?_
  refine x_bipush (q := 65) dX10_give_63 rfl (by decide) ?_
  refine x_icmp_ne (q := 68) (t := 106) dX10_give_65 rfl (by decide) (fun h65 => by exfalso; omega) (fun h65 => ?_)
  refine x_aload_n (q := 69) dX10_give_68 rfl rfl ?_
  refine x_dup (q := 70) dX10_give_69 rfl rfl ?_
  refine x_getI (q := 73) dX10_give_70 rfl f_10_108 rfl (ft35 hF) ?_
  refine Ex.stk (st' := [.inl w, .inr (.inr (some 35))]) (by rw [show iv G 35 40 = w from hw]) ?_
  refine x_iconst (q := 74) dX10_give_73 rfl (by decide) ?_
  refine x_isub (q := 75) (z := w - 1) dX10_give_74 rfl (wr_id ⟨by omega, by omega⟩) ?_
  refine x_putI (q := 78) dX10_give_75 rfl f_10_108 rfl (fun h => by cases h) (fun h => by cases h) (ft35 hF) ?_
  have hF := FX_si hF 35 40 (w - 1)
  refine x_aload_n (q := 79) dX10_give_78 rfl rfl ?_
  refine x_getR (q := 82) dX10_give_79 rfl f_10_74 rfl (ft35 hF) ?_
  refine Ex.stk (st' := [.inr (.inr (some 56))]) (by rw [fr35_28 hF]) ?_
  refine x_aload_n (q := 83) dX10_give_82 rfl rfl ?_
  refine x_getI (q := 86) dX10_give_83 rfl f_10_121 rfl (ft35 hF) ?_
  refine Ex.stk (st' := [.inl cur, .inr (.inr (some 56))]) (by rw [show iv (si G 35 40 (w - 1)) 35 42 = cur from (by simp [iv_si, hw, hsg, hcur, hm, hcv])]) ?_
  refine x_dup2 (q := 87) dX10_give_86 rfl rfl rfl ?_
  refine x_iaload (q := 88) dX10_give_87 rfl (Or.inl (ft56 hF)) (by omega) (by rw [fl56 hF]; omega) ?_
  refine Ex.stk (st' := [.inl m, .inl cur, .inr (.inr (some 56))]) (by rw [show iv (si G 35 40 (w - 1)) 56 cur = m from (by simp [iv_si, hw, hsg, hcur, hm, hcv])]) ?_
  refine x_iconst (q := 89) dX10_give_88 rfl (by decide) ?_
  refine x_iload_n (q := 90) dX10_give_89 rfl rfl ?_
  refine x_bipush (q := 92) dX10_give_90 rfl (by decide) ?_
  refine x_irem (q := 93) (z := v % 8) dX10_give_92 rfl (by omega) (Int.tmod_eq_emod_of_nonneg (by omega)) ?_
  refine x_ishl (q := 94) (z := bit (v % 8)) dX10_give_93 rfl rfl ?_
  refine x_ior (q := 95) (z := bor m (bit (v % 8))) dX10_give_94 rfl rfl ?_
  refine x_iastore (q := 96) dX10_give_95 rfl (ft56 hF) (by omega) (by rw [fl56 hF]; omega) ?_
  have hF := FX_si hF 56 cur (bor m (bit (v % 8)))
  refine x_aload_n (q := 97) dX10_give_96 rfl rfl ?_
  refine x_getR (q := 100) dX10_give_97 rfl f_10_7 rfl (ft35 hF) ?_
  refine Ex.stk (st' := [.inr (.inr (some 36))]) (by rw [fr35_0 hF]) ?_
  refine x_iload_n (q := 101) dX10_give_100 rfl rfl ?_
  refine x_bipush (q := 103) dX10_give_101 rfl (by decide) ?_
  refine x_irem (q := 104) (z := v % 8) dX10_give_103 rfl (by omega) (Int.tmod_eq_emod_of_nonneg (by omega)) ?_
  refine x_iaload (q := 105) dX10_give_104 rfl (Or.inl (ft36 hF)) (by omega) (by rw [fl36 hF]; omega) ?_
  refine Ex.stk (st' := [.inl cv]) (by rw [show iv (si (si G 35 40 (w - 1)) 56 cur (bor m (bit (v % 8)))) 36 (v % 8) = cv from (by simp [iv_si, hw, hsg, hcur, hm, hcv])]) ?_
  refine x_iret dX10_give_105 rfl ?_
  exact ⟨rfl, rfl⟩
theorem c_give_f0 (d : Nat) {G : Hp} (hF : FM G) {w v sg : Int} (hw : iv G 35 40 = w) (w0 : 1 ≤ w) (w1 : w < 1200) (hsg : iv G 60 (w - 1) = sg) {f mn cur ns : Int} (hmn : iv G 35 14 = mn) (hcur : iv G 35 42 = cur) (u0 : 0 ≤ cur) (u1 : cur < 364) (hns : iv G 55 cur = ns) (hf : iv G 62 (w - 1) = f) (hs : sg = 102) (hn : mn ≤ f ∨ ns = 6) : CX (d + 4) 120 [.inr (.inr (some 35)), .inl v] G (fun r G1 => r = some (.inl 0) ∧ G1 = si G 35 40 (w - 1)) := by
  refine CX.of (d := d + 3) m_X10_give (Nat.le_of_ble_eq_true rfl) ?_
  refine Ex.lcl (ls' := [some (.inr (.inr (some 35))), some (.inl v), none, none]) rfl ?_
  refine x_aload_n (q := 1) dX10_give_0 rfl rfl ?_
  refine x_getI (q := 4) dX10_give_1 rfl f_10_108 rfl (ft35 hF) ?_
  refine Ex.stk (st' := [.inl w]) (by rw [show iv G 35 40 = w from hw]) ?_
  refine x_iconst (q := 5) dX10_give_4 rfl (by decide) ?_
  refine x_isub (q := 6) (z := w - 1) dX10_give_5 rfl (wr_id ⟨by omega, by omega⟩) ?_
  refine x_istore_n (q := 7) (ls' := [some (.inr (.inr (some 35))), some (.inl v), some (.inl (w - 1)), none]) dX10_give_6 rfl (Nat.le_of_ble_eq_true rfl) (by first | rfl | exact hnl | exact hnl2 _) rfl ?_
  refine x_aload_n (q := 8) dX10_give_7 rfl rfl ?_
  refine x_getR (q := 11) dX10_give_8 rfl f_10_86 rfl (ft35 hF) ?_
  refine Ex.stk (st' := [.inr (.inr (some 60))]) (by rw [fr35_37 hF]) ?_
  refine x_iload_n (q := 12) dX10_give_11 rfl rfl ?_
  refine x_iaload (q := 13) dX10_give_12 rfl (Or.inl (ft60 hF)) (by omega) (by rw [fl60 hF]; omega) ?_
  refine Ex.stk (st' := [.inl sg]) (by rw [show iv G 60 (w - 1) = sg from hsg]) ?_
  refine x_istore_n (q := 14) (ls' := [some (.inr (.inr (some 35))), some (.inl v), some (.inl (w - 1)), some (.inl sg)]) dX10_give_13 rfl (Nat.le_of_ble_eq_true rfl) (by first | rfl | exact hnl | exact hnl2 _) rfl ?_
  refine x_iload_n (q := 15) dX10_give_14 rfl rfl ?_
  refine x_bipush (q := 17) dX10_give_15 rfl (by decide) ?_
  refine x_icmp_ne (q := 20) (t := 62) dX10_give_17 rfl (by decide) (fun h17 => ?_) (fun h17 => by exfalso; omega)
  refine x_iload_n (q := 63) dX10_give_62 rfl rfl ?_
  refine x_bipush (q := 65) dX10_give_63 rfl (by decide) ?_
  refine x_icmp_ne (q := 68) (t := 106) dX10_give_65 rfl (by decide) (fun h65 => ?_) (fun h65 => by exfalso; omega)
  refine x_iload_n (q := 107) dX10_give_106 rfl rfl ?_
  refine x_bipush (q := 109) dX10_give_107 rfl (by decide) ?_
  refine x_icmp_ne (q := 112) (t := 134) dX10_give_109 rfl (by decide) (fun h109 => by exfalso; omega) (fun h109 => ?_)
  refine x_aload_n (q := 113) dX10_give_112 rfl rfl ?_
  refine x_dup (q := 114) dX10_give_113 rfl rfl ?_
  refine x_getI (q := 117) dX10_give_114 rfl f_10_108 rfl (ft35 hF) ?_
  refine Ex.stk (st' := [.inl w, .inr (.inr (some 35))]) (by rw [show iv G 35 40 = w from hw]) ?_
  refine x_iconst (q := 118) dX10_give_117 rfl (by decide) ?_
  refine x_isub (q := 119) (z := w - 1) dX10_give_118 rfl (wr_id ⟨by omega, by omega⟩) ?_
  refine x_putI (q := 122) dX10_give_119 rfl f_10_108 rfl (fun h => by cases h) (fun h => by cases h) (ft35 hF) ?_
  have hF := FX_si hF 35 40 (w - 1)
  refine x_aload_n (q := 123) dX10_give_122 rfl rfl ?_
  refine x_aload_n (q := 124) dX10_give_123 rfl rfl ?_
  refine x_getR (q := 127) dX10_give_124 rfl f_10_92 rfl (ft35 hF) ?_
  refine Ex.stk (st' := [.inr (.inr (some 62)), .inr (.inr (some 35))]) (by rw [fr35_39 hF]) ?_
  refine x_iload_n (q := 128) dX10_give_127 rfl rfl ?_
  refine x_iaload (q := 129) dX10_give_128 rfl (Or.inl (ft62 hF)) (by omega) (by rw [fl62 hF]; omega) ?_
  refine Ex.stk (st' := [.inl f, .inr (.inr (some 35))]) (by rw [show iv (si G 35 40 (w - 1)) 62 (w - 1) = f from (by simp [iv_si, hw, hsg, hf])]) ?_
  refine x_iload_n (q := 130) dX10_give_129 rfl rfl ?_
  refine x_invV (q := 133) (as := [.inr (.inr (some 35)), .inl f, .inl v]) (rest := []) dX10_give_130 rfl l_10_138 m_X10_called rfl rfl (ft35 hF) (Nat.le_of_ble_eq_true rfl) (c_called0 _ (G := si G 35 40 (w - 1)) hF (by simp [iv_si, hmn]) (by simp [iv_si, hcur]) u0 u1 (by simp [iv_si, hns]) hn) (fun r1 G1 hR => ?_)
  obtain ⟨rfl, rfl⟩ := hR
  refine Ex.stk (st' := [.inl 0]) rfl ?_
  refine x_iret dX10_give_133 rfl ?_
  exact ⟨rfl, rfl⟩
theorem c_give_f1 (d : Nat) {G : Hp} (hF : FM G) {w v sg : Int} (hw : iv G 35 40 = w) (w0 : 1 ≤ w) (w1 : w < 1200) (hsg : iv G 60 (w - 1) = sg) {f mn cur ns : Int} (hmn : iv G 35 14 = mn) (hcur : iv G 35 42 = cur) (u0 : 0 ≤ cur) (u1 : cur < 364) (hns : iv G 55 cur = ns) (hf : iv G 62 (w - 1) = f) (hs : sg = 102) {a nc : Int} (ha : iv G 35 41 = a) (hnc : iv G 35 29 = nc) (n0 : 0 ≤ nc) (n1 : nc < 364) (n2 : nc ≠ 0) (f0 : 0 ≤ f) (f1 : f < mn) (m5 : mn ≤ 5) (b0 : 0 ≤ ns) (b1 : ns < 6) : CX (d + 4) 120 [.inr (.inr (some 35)), .inl v] G (fun r G1 => r = some (.inl (-1)) ∧ G1 = si (si (si (si (si (si (si (si (si (si (si (si (si G 35 40 (w - 1)) 35 42 nc) 52 nc f) 53 nc v) 55 nc (ns + 1)) 56 nc 0) 35 29 (nc + 1)) 60 (w - 1) 67) 61 (w - 1) 0) 62 (w - 1) cur) 35 40 (w - 1 + 1)) 61 (w - 1) a) 35 41 (iv (si G 35 40 (w - 1)) 43 f)) := by
  refine CX.of (d := d + 3) m_X10_give (Nat.le_of_ble_eq_true rfl) ?_
  refine Ex.lcl (ls' := [some (.inr (.inr (some 35))), some (.inl v), none, none]) rfl ?_
  refine x_aload_n (q := 1) dX10_give_0 rfl rfl ?_
  refine x_getI (q := 4) dX10_give_1 rfl f_10_108 rfl (ft35 hF) ?_
  refine Ex.stk (st' := [.inl w]) (by rw [show iv G 35 40 = w from hw]) ?_
  refine x_iconst (q := 5) dX10_give_4 rfl (by decide) ?_
  refine x_isub (q := 6) (z := w - 1) dX10_give_5 rfl (wr_id ⟨by omega, by omega⟩) ?_
  refine x_istore_n (q := 7) (ls' := [some (.inr (.inr (some 35))), some (.inl v), some (.inl (w - 1)), none]) dX10_give_6 rfl (Nat.le_of_ble_eq_true rfl) (by first | rfl | exact hnl | exact hnl2 _) rfl ?_
  refine x_aload_n (q := 8) dX10_give_7 rfl rfl ?_
  refine x_getR (q := 11) dX10_give_8 rfl f_10_86 rfl (ft35 hF) ?_
  refine Ex.stk (st' := [.inr (.inr (some 60))]) (by rw [fr35_37 hF]) ?_
  refine x_iload_n (q := 12) dX10_give_11 rfl rfl ?_
  refine x_iaload (q := 13) dX10_give_12 rfl (Or.inl (ft60 hF)) (by omega) (by rw [fl60 hF]; omega) ?_
  refine Ex.stk (st' := [.inl sg]) (by rw [show iv G 60 (w - 1) = sg from hsg]) ?_
  refine x_istore_n (q := 14) (ls' := [some (.inr (.inr (some 35))), some (.inl v), some (.inl (w - 1)), some (.inl sg)]) dX10_give_13 rfl (Nat.le_of_ble_eq_true rfl) (by first | rfl | exact hnl | exact hnl2 _) rfl ?_
  refine x_iload_n (q := 15) dX10_give_14 rfl rfl ?_
  refine x_bipush (q := 17) dX10_give_15 rfl (by decide) ?_
  refine x_icmp_ne (q := 20) (t := 62) dX10_give_17 rfl (by decide) (fun h17 => ?_) (fun h17 => by exfalso; omega)
  refine x_iload_n (q := 63) dX10_give_62 rfl rfl ?_
  refine x_bipush (q := 65) dX10_give_63 rfl (by decide) ?_
  refine x_icmp_ne (q := 68) (t := 106) dX10_give_65 rfl (by decide) (fun h65 => ?_) (fun h65 => by exfalso; omega)
  refine x_iload_n (q := 107) dX10_give_106 rfl rfl ?_
  refine x_bipush (q := 109) dX10_give_107 rfl (by decide) ?_
  refine x_icmp_ne (q := 112) (t := 134) dX10_give_109 rfl (by decide) (fun h109 => by exfalso; omega) (fun h109 => ?_)
  refine x_aload_n (q := 113) dX10_give_112 rfl rfl ?_
  refine x_dup (q := 114) dX10_give_113 rfl rfl ?_
  refine x_getI (q := 117) dX10_give_114 rfl f_10_108 rfl (ft35 hF) ?_
  refine Ex.stk (st' := [.inl w, .inr (.inr (some 35))]) (by rw [show iv G 35 40 = w from hw]) ?_
  refine x_iconst (q := 118) dX10_give_117 rfl (by decide) ?_
  refine x_isub (q := 119) (z := w - 1) dX10_give_118 rfl (wr_id ⟨by omega, by omega⟩) ?_
  refine x_putI (q := 122) dX10_give_119 rfl f_10_108 rfl (fun h => by cases h) (fun h => by cases h) (ft35 hF) ?_
  have hF := FX_si hF 35 40 (w - 1)
  refine x_aload_n (q := 123) dX10_give_122 rfl rfl ?_
  refine x_aload_n (q := 124) dX10_give_123 rfl rfl ?_
  refine x_getR (q := 127) dX10_give_124 rfl f_10_92 rfl (ft35 hF) ?_
  refine Ex.stk (st' := [.inr (.inr (some 62)), .inr (.inr (some 35))]) (by rw [fr35_39 hF]) ?_
  refine x_iload_n (q := 128) dX10_give_127 rfl rfl ?_
  refine x_iaload (q := 129) dX10_give_128 rfl (Or.inl (ft62 hF)) (by omega) (by rw [fl62 hF]; omega) ?_
  refine Ex.stk (st' := [.inl f, .inr (.inr (some 35))]) (by rw [show iv (si G 35 40 (w - 1)) 62 (w - 1) = f from (by simp [iv_si, hw, hsg, hf])]) ?_
  refine x_iload_n (q := 130) dX10_give_129 rfl rfl ?_
  refine x_invV (q := 133) (as := [.inr (.inr (some 35)), .inl f, .inl v]) (rest := []) dX10_give_130 rfl l_10_138 m_X10_called rfl rfl (ft35 hF) (Nat.le_of_ble_eq_true rfl) (c_called1 _ (G := si G 35 40 (w - 1)) hF (by simp [iv_si, hmn]) (by simp [iv_si, hcur]) u0 u1 (by simp [iv_si, hns]) (w := w - 1) (a := a) (nc := nc) (by simp [iv_si]) (by simp [iv_si, ha]) (by simp [iv_si, hnc]) (by omega) (by omega) n0 n1 n2 f0 f1 m5 b0 b1) (fun r1 G1 hR => ?_)
  obtain ⟨rfl, rfl⟩ := hR
  refine Ex.stk (st' := [.inl (-1)]) rfl ?_
  refine x_iret dX10_give_133 rfl ?_
  exact ⟨rfl, rfl⟩
theorem c_give_t1 (d : Nat) {G : Hp} (hF : FM G) {w v sg : Int} (hw : iv G 35 40 = w) (w0 : 1 ≤ w) (w1 : w < 1200) (hsg : iv G 60 (w - 1) = sg) (hb : sg = 43 ∨ sg = 45 ∨ sg = 42 ∨ sg = 60) (hst : iv G 61 (w - 1) = 0) : CX (d + 4) 120 [.inr (.inr (some 35)), .inl v] G (fun r G1 => r = some (.inl (-1)) ∧ G1 = si (si G 61 (w - 1) 1) 62 (w - 1) v) := by
  refine CX.of (d := d + 3) m_X10_give (Nat.le_of_ble_eq_true rfl) ?_
  refine Ex.lcl (ls' := [some (.inr (.inr (some 35))), some (.inl v), none, none]) rfl ?_
  refine x_aload_n (q := 1) dX10_give_0 rfl rfl ?_
  refine x_getI (q := 4) dX10_give_1 rfl f_10_108 rfl (ft35 hF) ?_
  refine Ex.stk (st' := [.inl w]) (by rw [show iv G 35 40 = w from hw]) ?_
  refine x_iconst (q := 5) dX10_give_4 rfl (by decide) ?_
  refine x_isub (q := 6) (z := w - 1) dX10_give_5 rfl (wr_id ⟨by omega, by omega⟩) ?_
  refine x_istore_n (q := 7) (ls' := [some (.inr (.inr (some 35))), some (.inl v), some (.inl (w - 1)), none]) dX10_give_6 rfl (Nat.le_of_ble_eq_true rfl) (by first | rfl | exact hnl | exact hnl2 _) rfl ?_
  refine x_aload_n (q := 8) dX10_give_7 rfl rfl ?_
  refine x_getR (q := 11) dX10_give_8 rfl f_10_86 rfl (ft35 hF) ?_
  refine Ex.stk (st' := [.inr (.inr (some 60))]) (by rw [fr35_37 hF]) ?_
  refine x_iload_n (q := 12) dX10_give_11 rfl rfl ?_
  refine x_iaload (q := 13) dX10_give_12 rfl (Or.inl (ft60 hF)) (by omega) (by rw [fl60 hF]; omega) ?_
  refine Ex.stk (st' := [.inl sg]) (by rw [show iv G 60 (w - 1) = sg from hsg]) ?_
  refine x_istore_n (q := 14) (ls' := [some (.inr (.inr (some 35))), some (.inl v), some (.inl (w - 1)), some (.inl sg)]) dX10_give_13 rfl (Nat.le_of_ble_eq_true rfl) (by first | rfl | exact hnl | exact hnl2 _) rfl ?_
  refine x_iload_n (q := 15) dX10_give_14 rfl rfl ?_
  refine x_bipush (q := 17) dX10_give_15 rfl (by decide) ?_
  refine x_icmp_ne (q := 20) (t := 62) dX10_give_17 rfl (by decide) (fun h17 => ?_) (fun h17 => by exfalso; omega)
  refine x_iload_n (q := 63) dX10_give_62 rfl rfl ?_
  refine x_bipush (q := 65) dX10_give_63 rfl (by decide) ?_
  refine x_icmp_ne (q := 68) (t := 106) dX10_give_65 rfl (by decide) (fun h65 => ?_) (fun h65 => by exfalso; omega)
  refine x_iload_n (q := 107) dX10_give_106 rfl rfl ?_
  refine x_bipush (q := 109) dX10_give_107 rfl (by decide) ?_
  refine x_icmp_ne (q := 112) (t := 134) dX10_give_109 rfl (by decide) (fun h109 => ?_) (fun h109 => by exfalso; omega)
  refine x_iload_n (q := 135) dX10_give_134 rfl rfl ?_
  refine x_bipush (q := 137) dX10_give_135 rfl (by decide) ?_
  refine x_icmp_ne (q := 140) (t := 149) dX10_give_137 rfl (by decide) (fun h137 => ?_) (fun h137 => by exfalso; omega)
  refine x_aload_n (q := 150) dX10_give_149 rfl rfl ?_
  refine x_iload_n (q := 151) dX10_give_150 rfl rfl ?_
  refine x_iload_n (q := 152) dX10_give_151 rfl rfl ?_
  refine x_invV (q := 155) (as := [.inr (.inr (some 35)), .inl (w - 1), .inl v]) (rest := []) dX10_give_152 rfl l_10_145 m_X10_giveTwo rfl rfl (ft35 hF) (Nat.le_of_ble_eq_true rfl) (CX.of m_X10_giveTwo (Nat.le_of_ble_eq_true rfl) ?_) (fun _ _ h => h)
  refine Ex.lcl (ls' := [some (.inr (.inr (some 35))), some (.inl (w - 1)), some (.inl v)]) rfl ?_
  refine x_aload_n (q := 1) dX10_giveTwo_0 rfl rfl ?_
  refine x_getR (q := 4) dX10_giveTwo_1 rfl f_10_89 rfl (ft35 hF) ?_
  refine Ex.stk (st' := [.inr (.inr (some 61))]) (by rw [fr35_38 hF]) ?_
  refine x_iload_n (q := 5) dX10_giveTwo_4 rfl rfl ?_
  refine x_dup2 (q := 6) dX10_giveTwo_5 rfl rfl rfl ?_
  refine x_iaload (q := 7) dX10_giveTwo_6 rfl (Or.inl (ft61 hF)) (by omega) (by rw [fl61 hF]; omega) ?_
  refine Ex.stk (st' := [.inl 0, .inl (w - 1), .inr (.inr (some 61))]) (by rw [hst]) ?_
  refine x_iconst (q := 8) dX10_giveTwo_7 rfl (by decide) ?_
  refine x_iadd (q := 9) (z := 1) dX10_giveTwo_8 rfl (by decide) ?_
  refine x_iastore (q := 10) dX10_giveTwo_9 rfl (ft61 hF) (by omega) (by rw [fl61 hF]; omega) ?_
  have hF := FX_si hF 61 (w - 1) 1
  refine x_aload_n (q := 11) dX10_giveTwo_10 rfl rfl ?_
  refine x_getR (q := 14) dX10_giveTwo_11 rfl f_10_89 rfl (ft35 hF) ?_
  refine Ex.stk (st' := [.inr (.inr (some 61))]) (by rw [fr35_38 hF]) ?_
  refine x_iload_n (q := 15) dX10_giveTwo_14 rfl rfl ?_
  refine x_iaload (q := 16) dX10_giveTwo_15 rfl (Or.inl (ft61 hF)) (by omega) (by rw [fl61 hF]; omega) ?_
  refine Ex.stk (st' := [.inl 1]) (by rw [show iv (si G 61 (w - 1) 1) 61 (w - 1) = 1 from (by simp [iv_si])]) ?_
  refine x_iconst (q := 17) dX10_giveTwo_16 rfl (by decide) ?_
  refine x_icmp_ne (q := 20) (t := 29) dX10_giveTwo_17 rfl (by decide) (fun h17 => by exfalso; omega) (fun h17 => ?_)
  refine x_aload_n (q := 21) dX10_giveTwo_20 rfl rfl ?_
  refine x_getR (q := 24) dX10_giveTwo_21 rfl f_10_92 rfl (ft35 hF) ?_
  refine Ex.stk (st' := [.inr (.inr (some 62))]) (by rw [fr35_39 hF]) ?_
  refine x_iload_n (q := 25) dX10_giveTwo_24 rfl rfl ?_
  refine x_iload_n (q := 26) dX10_giveTwo_25 rfl rfl ?_
  refine x_iastore (q := 27) dX10_giveTwo_26 rfl (ft62 hF) (by omega) (by rw [fl62 hF]; omega) ?_
  have hF := FX_si hF 62 (w - 1) v
  refine x_iconst (q := 28) dX10_giveTwo_27 rfl (by decide) ?_
  refine x_iret dX10_giveTwo_28 rfl ?_
  refine Ex.stk (st' := [.inl (-1)]) rfl ?_
  refine x_iret dX10_give_155 rfl ?_
  exact ⟨rfl, rfl⟩
theorem c_give_t2 (d : Nat) {G : Hp} (hF : FM G) {w v sg : Int} (hw : iv G 35 40 = w) (w0 : 1 ≤ w) (w1 : w < 1200) (hsg : iv G 60 (w - 1) = sg) (hb : sg = 43 ∨ sg = 45 ∨ sg = 42 ∨ sg = 60) (hst : iv G 61 (w - 1) = 1) {x : Int} (hxv : iv G 62 (w - 1) = x) (hx : 0 ≤ x ∧ x ≤ 996) (hv : 0 ≤ v ∧ v ≤ 996) : CX (d + 4) 120 [.inr (.inr (some 35)), .inl v] G (fun r G1 => r = some (.inl (opv sg x v)) ∧ G1 = si (si G 61 (w - 1) 2) 35 40 (w - 1)) := by
  refine CX.of (d := d + 3) m_X10_give (Nat.le_of_ble_eq_true rfl) ?_
  refine Ex.lcl (ls' := [some (.inr (.inr (some 35))), some (.inl v), none, none]) rfl ?_
  refine x_aload_n (q := 1) dX10_give_0 rfl rfl ?_
  refine x_getI (q := 4) dX10_give_1 rfl f_10_108 rfl (ft35 hF) ?_
  refine Ex.stk (st' := [.inl w]) (by rw [show iv G 35 40 = w from hw]) ?_
  refine x_iconst (q := 5) dX10_give_4 rfl (by decide) ?_
  refine x_isub (q := 6) (z := w - 1) dX10_give_5 rfl (wr_id ⟨by omega, by omega⟩) ?_
  refine x_istore_n (q := 7) (ls' := [some (.inr (.inr (some 35))), some (.inl v), some (.inl (w - 1)), none]) dX10_give_6 rfl (Nat.le_of_ble_eq_true rfl) (by first | rfl | exact hnl | exact hnl2 _) rfl ?_
  refine x_aload_n (q := 8) dX10_give_7 rfl rfl ?_
  refine x_getR (q := 11) dX10_give_8 rfl f_10_86 rfl (ft35 hF) ?_
  refine Ex.stk (st' := [.inr (.inr (some 60))]) (by rw [fr35_37 hF]) ?_
  refine x_iload_n (q := 12) dX10_give_11 rfl rfl ?_
  refine x_iaload (q := 13) dX10_give_12 rfl (Or.inl (ft60 hF)) (by omega) (by rw [fl60 hF]; omega) ?_
  refine Ex.stk (st' := [.inl sg]) (by rw [show iv G 60 (w - 1) = sg from hsg]) ?_
  refine x_istore_n (q := 14) (ls' := [some (.inr (.inr (some 35))), some (.inl v), some (.inl (w - 1)), some (.inl sg)]) dX10_give_13 rfl (Nat.le_of_ble_eq_true rfl) (by first | rfl | exact hnl | exact hnl2 _) rfl ?_
  refine x_iload_n (q := 15) dX10_give_14 rfl rfl ?_
  refine x_bipush (q := 17) dX10_give_15 rfl (by decide) ?_
  refine x_icmp_ne (q := 20) (t := 62) dX10_give_17 rfl (by decide) (fun h17 => ?_) (fun h17 => by exfalso; omega)
  refine x_iload_n (q := 63) dX10_give_62 rfl rfl ?_
  refine x_bipush (q := 65) dX10_give_63 rfl (by decide) ?_
  refine x_icmp_ne (q := 68) (t := 106) dX10_give_65 rfl (by decide) (fun h65 => ?_) (fun h65 => by exfalso; omega)
  refine x_iload_n (q := 107) dX10_give_106 rfl rfl ?_
  refine x_bipush (q := 109) dX10_give_107 rfl (by decide) ?_
  refine x_icmp_ne (q := 112) (t := 134) dX10_give_109 rfl (by decide) (fun h109 => ?_) (fun h109 => by exfalso; omega)
  refine x_iload_n (q := 135) dX10_give_134 rfl rfl ?_
  refine x_bipush (q := 137) dX10_give_135 rfl (by decide) ?_
  refine x_icmp_ne (q := 140) (t := 149) dX10_give_137 rfl (by decide) (fun h137 => ?_) (fun h137 => by exfalso; omega)
  refine x_aload_n (q := 150) dX10_give_149 rfl rfl ?_
  refine x_iload_n (q := 151) dX10_give_150 rfl rfl ?_
  refine x_iload_n (q := 152) dX10_give_151 rfl rfl ?_
  refine x_invV (q := 155) (as := [.inr (.inr (some 35)), .inl (w - 1), .inl v]) (rest := []) dX10_give_152 rfl l_10_145 m_X10_giveTwo rfl rfl (ft35 hF) (Nat.le_of_ble_eq_true rfl) (CX.of m_X10_giveTwo (Nat.le_of_ble_eq_true rfl) ?_) (fun _ _ h => h)
  refine Ex.lcl (ls' := [some (.inr (.inr (some 35))), some (.inl (w - 1)), some (.inl v)]) rfl ?_
  refine x_aload_n (q := 1) dX10_giveTwo_0 rfl rfl ?_
  refine x_getR (q := 4) dX10_giveTwo_1 rfl f_10_89 rfl (ft35 hF) ?_
  refine Ex.stk (st' := [.inr (.inr (some 61))]) (by rw [fr35_38 hF]) ?_
  refine x_iload_n (q := 5) dX10_giveTwo_4 rfl rfl ?_
  refine x_dup2 (q := 6) dX10_giveTwo_5 rfl rfl rfl ?_
  refine x_iaload (q := 7) dX10_giveTwo_6 rfl (Or.inl (ft61 hF)) (by omega) (by rw [fl61 hF]; omega) ?_
  refine Ex.stk (st' := [.inl 1, .inl (w - 1), .inr (.inr (some 61))]) (by rw [hst]) ?_
  refine x_iconst (q := 8) dX10_giveTwo_7 rfl (by decide) ?_
  refine x_iadd (q := 9) (z := 2) dX10_giveTwo_8 rfl (by decide) ?_
  refine x_iastore (q := 10) dX10_giveTwo_9 rfl (ft61 hF) (by omega) (by rw [fl61 hF]; omega) ?_
  have hF := FX_si hF 61 (w - 1) 2
  refine x_aload_n (q := 11) dX10_giveTwo_10 rfl rfl ?_
  refine x_getR (q := 14) dX10_giveTwo_11 rfl f_10_89 rfl (ft35 hF) ?_
  refine Ex.stk (st' := [.inr (.inr (some 61))]) (by rw [fr35_38 hF]) ?_
  refine x_iload_n (q := 15) dX10_giveTwo_14 rfl rfl ?_
  refine x_iaload (q := 16) dX10_giveTwo_15 rfl (Or.inl (ft61 hF)) (by omega) (by rw [fl61 hF]; omega) ?_
  refine Ex.stk (st' := [.inl 2]) (by rw [show iv (si G 61 (w - 1) 2) 61 (w - 1) = 2 from (by simp [iv_si])]) ?_
  refine x_iconst (q := 17) dX10_giveTwo_16 rfl (by decide) ?_
  refine x_icmp_ne (q := 20) (t := 29) dX10_giveTwo_17 rfl (by decide) (fun h17 => ?_) (fun h17 => by exfalso; omega)
  refine x_aload_n (q := 30) dX10_giveTwo_29 rfl rfl ?_
  refine x_dup (q := 31) dX10_giveTwo_30 rfl rfl ?_
  refine x_getI (q := 34) dX10_giveTwo_31 rfl f_10_108 rfl (ft35 hF) ?_
  refine Ex.stk (st' := [.inl w, .inr (.inr (some 35))]) (by rw [show iv (si G 61 (w - 1) 2) 35 40 = w from (by simp [iv_si, hw, hsg, hxv])]) ?_
  refine x_iconst (q := 35) dX10_giveTwo_34 rfl (by decide) ?_
  refine x_isub (q := 36) (z := w - 1) dX10_giveTwo_35 rfl (wr_id ⟨by omega, by omega⟩) ?_
  refine x_putI (q := 39) dX10_giveTwo_36 rfl f_10_108 rfl (fun h => by cases h) (fun h => by cases h) (ft35 hF) ?_
  have hF := FX_si hF 35 40 (w - 1)
  refine x_aload_n (q := 40) dX10_giveTwo_39 rfl rfl ?_
  refine x_getR (q := 43) dX10_giveTwo_40 rfl f_10_86 rfl (ft35 hF) ?_
  refine Ex.stk (st' := [.inr (.inr (some 60))]) (by rw [fr35_37 hF]) ?_
  refine x_iload_n (q := 44) dX10_giveTwo_43 rfl rfl ?_
  refine x_iaload (q := 45) dX10_giveTwo_44 rfl (Or.inl (ft60 hF)) (by omega) (by rw [fl60 hF]; omega) ?_
  refine Ex.stk (st' := [.inl sg]) (by rw [show iv (si (si G 61 (w - 1) 2) 35 40 (w - 1)) 60 (w - 1) = sg from (by simp [iv_si, hw, hsg, hxv])]) ?_
  refine x_aload_n (q := 46) dX10_giveTwo_45 rfl rfl ?_
  refine x_getR (q := 49) dX10_giveTwo_46 rfl f_10_92 rfl (ft35 hF) ?_
  refine Ex.stk (st' := [.inr (.inr (some 62)), .inl sg]) (by rw [fr35_39 hF]) ?_
  refine x_iload_n (q := 50) dX10_giveTwo_49 rfl rfl ?_
  refine x_iaload (q := 51) dX10_giveTwo_50 rfl (Or.inl (ft62 hF)) (by omega) (by rw [fl62 hF]; omega) ?_
  refine Ex.stk (st' := [.inl x, .inl sg]) (by rw [show iv (si (si G 61 (w - 1) 2) 35 40 (w - 1)) 62 (w - 1) = x from (by simp [iv_si, hw, hsg, hxv])]) ?_
  refine x_iload_n (q := 52) dX10_giveTwo_51 rfl rfl ?_
  refine x_invS (q := 55) (as := [.inl sg, .inl x, .inl v]) (rest := []) dX10_giveTwo_52 rfl l_10_148 m_X10_counted rfl rfl (Nat.le_of_ble_eq_true rfl) (Nat.le_of_ble_eq_true rfl) (c_counted _ hb hx hv) (fun r1 G1 hR => ?_)
  obtain ⟨hG1, rfl⟩ := hR
  replace hG1 := hG1.symm
  subst hG1
  refine Ex.stk (st' := [.inl (opv sg x v)]) rfl ?_
  refine x_iret dX10_giveTwo_55 rfl ?_
  refine Ex.stk (st' := [.inl (opv sg x v)]) rfl ?_
  refine x_iret dX10_give_155 rfl ?_
  exact ⟨rfl, rfl⟩
theorem c_give_q0 (d : Nat) {G : Hp} (hF : FM G) {w v sg : Int} (hw : iv G 35 40 = w) (w0 : 1 ≤ w) (w1 : w < 1200) (hsg : iv G 60 (w - 1) = sg) (hs : sg = 63) {n : Nat} {a b : Int} (ha : iv G 35 41 = a) (hT : Tm (iv G 42) n a b) (a0 : 0 ≤ a) (b1 : b ≤ 160) (hst : iv G 61 (w - 1) = 0) (hv : v = 0) : CX (d + 4) 120 [.inr (.inr (some 35)), .inl v] G (fun r G1 => r = some (.inl (-1)) ∧ G1 = si (si G 35 41 b) 61 (w - 1) 2) := by
  refine CX.of (d := d + 3) m_X10_give (Nat.le_of_ble_eq_true rfl) ?_
  refine Ex.lcl (ls' := [some (.inr (.inr (some 35))), some (.inl v), none, none]) rfl ?_
  refine x_aload_n (q := 1) dX10_give_0 rfl rfl ?_
  refine x_getI (q := 4) dX10_give_1 rfl f_10_108 rfl (ft35 hF) ?_
  refine Ex.stk (st' := [.inl w]) (by rw [show iv G 35 40 = w from hw]) ?_
  refine x_iconst (q := 5) dX10_give_4 rfl (by decide) ?_
  refine x_isub (q := 6) (z := w - 1) dX10_give_5 rfl (wr_id ⟨by omega, by omega⟩) ?_
  refine x_istore_n (q := 7) (ls' := [some (.inr (.inr (some 35))), some (.inl v), some (.inl (w - 1)), none]) dX10_give_6 rfl (Nat.le_of_ble_eq_true rfl) (by first | rfl | exact hnl | exact hnl2 _) rfl ?_
  refine x_aload_n (q := 8) dX10_give_7 rfl rfl ?_
  refine x_getR (q := 11) dX10_give_8 rfl f_10_86 rfl (ft35 hF) ?_
  refine Ex.stk (st' := [.inr (.inr (some 60))]) (by rw [fr35_37 hF]) ?_
  refine x_iload_n (q := 12) dX10_give_11 rfl rfl ?_
  refine x_iaload (q := 13) dX10_give_12 rfl (Or.inl (ft60 hF)) (by omega) (by rw [fl60 hF]; omega) ?_
  refine Ex.stk (st' := [.inl sg]) (by rw [show iv G 60 (w - 1) = sg from hsg]) ?_
  refine x_istore_n (q := 14) (ls' := [some (.inr (.inr (some 35))), some (.inl v), some (.inl (w - 1)), some (.inl sg)]) dX10_give_13 rfl (Nat.le_of_ble_eq_true rfl) (by first | rfl | exact hnl | exact hnl2 _) rfl ?_
  refine x_iload_n (q := 15) dX10_give_14 rfl rfl ?_
  refine x_bipush (q := 17) dX10_give_15 rfl (by decide) ?_
  refine x_icmp_ne (q := 20) (t := 62) dX10_give_17 rfl (by decide) (fun h17 => ?_) (fun h17 => by exfalso; omega)
  refine x_iload_n (q := 63) dX10_give_62 rfl rfl ?_
  refine x_bipush (q := 65) dX10_give_63 rfl (by decide) ?_
  refine x_icmp_ne (q := 68) (t := 106) dX10_give_65 rfl (by decide) (fun h65 => ?_) (fun h65 => by exfalso; omega)
  refine x_iload_n (q := 107) dX10_give_106 rfl rfl ?_
  refine x_bipush (q := 109) dX10_give_107 rfl (by decide) ?_
  refine x_icmp_ne (q := 112) (t := 134) dX10_give_109 rfl (by decide) (fun h109 => ?_) (fun h109 => by exfalso; omega)
  refine x_iload_n (q := 135) dX10_give_134 rfl rfl ?_
  refine x_bipush (q := 137) dX10_give_135 rfl (by decide) ?_
  refine x_icmp_ne (q := 140) (t := 149) dX10_give_137 rfl (by decide) (fun h137 => by exfalso; omega) (fun h137 => ?_)
  refine x_aload_n (q := 141) dX10_give_140 rfl rfl ?_
  refine x_iload_n (q := 142) dX10_give_141 rfl rfl ?_
  refine x_iload_n (q := 143) dX10_give_142 rfl rfl ?_
  refine x_invV (q := 146) (as := [.inr (.inr (some 35)), .inl (w - 1), .inl v]) (rest := []) dX10_give_143 rfl l_10_142 m_X10_choose rfl rfl (ft35 hF) (Nat.le_of_ble_eq_true rfl) (CX.of m_X10_choose (Nat.le_of_ble_eq_true rfl) ?_) (fun _ _ h => h)
  refine Ex.lcl (ls' := [some (.inr (.inr (some 35))), some (.inl (w - 1)), some (.inl v)]) rfl ?_
  refine x_aload_n (q := 1) dX10_choose_0 rfl rfl ?_
  refine x_getR (q := 4) dX10_choose_1 rfl f_10_89 rfl (ft35 hF) ?_
  refine Ex.stk (st' := [.inr (.inr (some 61))]) (by rw [fr35_38 hF]) ?_
  refine x_iload_n (q := 5) dX10_choose_4 rfl rfl ?_
  refine x_iaload (q := 6) dX10_choose_5 rfl (Or.inl (ft61 hF)) (by omega) (by rw [fl61 hF]; omega) ?_
  refine Ex.stk (st' := [.inl 0]) (by rw [show iv G 61 (w - 1) = 0 from hst]) ?_
  refine x_if_ne (q := 9) (t := 34) dX10_choose_6 rfl (by decide) (fun h6 => by exfalso; omega) (fun h6 => ?_)
  refine x_iload_n (q := 10) dX10_choose_9 rfl rfl ?_
  refine x_if_ne (q := 13) (t := 17) dX10_choose_10 rfl (by decide) (fun h10 => by exfalso; omega) (fun h10 => ?_)
  refine x_aload_n (q := 14) dX10_choose_13 rfl rfl ?_
  refine x_invV (q := 17) (as := [.inr (.inr (some 35))]) (rest := []) dX10_choose_14 rfl l_10_152 m_X10_skip rfl rfl (ft35 hF) (Nat.le_of_ble_eq_true rfl) (c_skip _ (G := G) hF (by simp [iv_si, ha]) (hT : Tm (iv G 42) n a b) (by omega) (by omega)) (fun r1 G1 hR => ?_)
  obtain ⟨rfl, rfl⟩ := hR
  have hF := FX_si hF 35 41 b
  refine Ex.stk (st' := []) rfl ?_
  refine x_aload_n (q := 18) dX10_choose_17 rfl rfl ?_
  refine x_getR (q := 21) dX10_choose_18 rfl f_10_89 rfl (ft35 hF) ?_
  refine Ex.stk (st' := [.inr (.inr (some 61))]) (by rw [fr35_38 hF]) ?_
  refine x_iload_n (q := 22) dX10_choose_21 rfl rfl ?_
  refine x_iload_n (q := 23) dX10_choose_22 rfl rfl ?_
  refine x_if_ne (q := 26) (t := 30) dX10_choose_23 rfl (by decide) (fun h23 => by exfalso; omega) (fun h23 => ?_)
  refine x_iconst (q := 27) dX10_choose_26 rfl (by decide) ?_
  refine x_goto (t := 31) dX10_choose_27 (by decide) ?_
  refine x_iastore (q := 32) dX10_choose_31 rfl (ft61 hF) (by omega) (by rw [fl61 hF]; omega) ?_
  have hF := FX_si hF 61 (w - 1) 2
  refine x_iconst (q := 33) dX10_choose_32 rfl (by decide) ?_
  refine x_iret dX10_choose_33 rfl ?_
  refine Ex.stk (st' := [.inl (-1)]) rfl ?_
  refine x_goto (t := 155) dX10_give_146 (by decide) ?_
  refine x_iret dX10_give_155 rfl ?_
  exact ⟨rfl, rfl⟩
theorem c_give_q1 (d : Nat) {G : Hp} (hF : FM G) {w v sg : Int} (hw : iv G 35 40 = w) (w0 : 1 ≤ w) (w1 : w < 1200) (hsg : iv G 60 (w - 1) = sg) (hs : sg = 63) (hst : iv G 61 (w - 1) = 0) (hv : v ≠ 0) : CX (d + 4) 120 [.inr (.inr (some 35)), .inl v] G (fun r G1 => r = some (.inl (-1)) ∧ G1 = si G 61 (w - 1) 1) := by
  refine CX.of (d := d + 3) m_X10_give (Nat.le_of_ble_eq_true rfl) ?_
  refine Ex.lcl (ls' := [some (.inr (.inr (some 35))), some (.inl v), none, none]) rfl ?_
  refine x_aload_n (q := 1) dX10_give_0 rfl rfl ?_
  refine x_getI (q := 4) dX10_give_1 rfl f_10_108 rfl (ft35 hF) ?_
  refine Ex.stk (st' := [.inl w]) (by rw [show iv G 35 40 = w from hw]) ?_
  refine x_iconst (q := 5) dX10_give_4 rfl (by decide) ?_
  refine x_isub (q := 6) (z := w - 1) dX10_give_5 rfl (wr_id ⟨by omega, by omega⟩) ?_
  refine x_istore_n (q := 7) (ls' := [some (.inr (.inr (some 35))), some (.inl v), some (.inl (w - 1)), none]) dX10_give_6 rfl (Nat.le_of_ble_eq_true rfl) (by first | rfl | exact hnl | exact hnl2 _) rfl ?_
  refine x_aload_n (q := 8) dX10_give_7 rfl rfl ?_
  refine x_getR (q := 11) dX10_give_8 rfl f_10_86 rfl (ft35 hF) ?_
  refine Ex.stk (st' := [.inr (.inr (some 60))]) (by rw [fr35_37 hF]) ?_
  refine x_iload_n (q := 12) dX10_give_11 rfl rfl ?_
  refine x_iaload (q := 13) dX10_give_12 rfl (Or.inl (ft60 hF)) (by omega) (by rw [fl60 hF]; omega) ?_
  refine Ex.stk (st' := [.inl sg]) (by rw [show iv G 60 (w - 1) = sg from hsg]) ?_
  refine x_istore_n (q := 14) (ls' := [some (.inr (.inr (some 35))), some (.inl v), some (.inl (w - 1)), some (.inl sg)]) dX10_give_13 rfl (Nat.le_of_ble_eq_true rfl) (by first | rfl | exact hnl | exact hnl2 _) rfl ?_
  refine x_iload_n (q := 15) dX10_give_14 rfl rfl ?_
  refine x_bipush (q := 17) dX10_give_15 rfl (by decide) ?_
  refine x_icmp_ne (q := 20) (t := 62) dX10_give_17 rfl (by decide) (fun h17 => ?_) (fun h17 => by exfalso; omega)
  refine x_iload_n (q := 63) dX10_give_62 rfl rfl ?_
  refine x_bipush (q := 65) dX10_give_63 rfl (by decide) ?_
  refine x_icmp_ne (q := 68) (t := 106) dX10_give_65 rfl (by decide) (fun h65 => ?_) (fun h65 => by exfalso; omega)
  refine x_iload_n (q := 107) dX10_give_106 rfl rfl ?_
  refine x_bipush (q := 109) dX10_give_107 rfl (by decide) ?_
  refine x_icmp_ne (q := 112) (t := 134) dX10_give_109 rfl (by decide) (fun h109 => ?_) (fun h109 => by exfalso; omega)
  refine x_iload_n (q := 135) dX10_give_134 rfl rfl ?_
  refine x_bipush (q := 137) dX10_give_135 rfl (by decide) ?_
  refine x_icmp_ne (q := 140) (t := 149) dX10_give_137 rfl (by decide) (fun h137 => by exfalso; omega) (fun h137 => ?_)
  refine x_aload_n (q := 141) dX10_give_140 rfl rfl ?_
  refine x_iload_n (q := 142) dX10_give_141 rfl rfl ?_
  refine x_iload_n (q := 143) dX10_give_142 rfl rfl ?_
  refine x_invV (q := 146) (as := [.inr (.inr (some 35)), .inl (w - 1), .inl v]) (rest := []) dX10_give_143 rfl l_10_142 m_X10_choose rfl rfl (ft35 hF) (Nat.le_of_ble_eq_true rfl) (CX.of m_X10_choose (Nat.le_of_ble_eq_true rfl) ?_) (fun _ _ h => h)
  refine Ex.lcl (ls' := [some (.inr (.inr (some 35))), some (.inl (w - 1)), some (.inl v)]) rfl ?_
  refine x_aload_n (q := 1) dX10_choose_0 rfl rfl ?_
  refine x_getR (q := 4) dX10_choose_1 rfl f_10_89 rfl (ft35 hF) ?_
  refine Ex.stk (st' := [.inr (.inr (some 61))]) (by rw [fr35_38 hF]) ?_
  refine x_iload_n (q := 5) dX10_choose_4 rfl rfl ?_
  refine x_iaload (q := 6) dX10_choose_5 rfl (Or.inl (ft61 hF)) (by omega) (by rw [fl61 hF]; omega) ?_
  refine Ex.stk (st' := [.inl 0]) (by rw [show iv G 61 (w - 1) = 0 from hst]) ?_
  refine x_if_ne (q := 9) (t := 34) dX10_choose_6 rfl (by decide) (fun h6 => by exfalso; omega) (fun h6 => ?_)
  refine x_iload_n (q := 10) dX10_choose_9 rfl rfl ?_
  refine x_if_ne (q := 13) (t := 17) dX10_choose_10 rfl (by decide) (fun h10 => ?_) (fun h10 => by exfalso; omega)
  refine x_aload_n (q := 18) dX10_choose_17 rfl rfl ?_
  refine x_getR (q := 21) dX10_choose_18 rfl f_10_89 rfl (ft35 hF) ?_
  refine Ex.stk (st' := [.inr (.inr (some 61))]) (by rw [fr35_38 hF]) ?_
  refine x_iload_n (q := 22) dX10_choose_21 rfl rfl ?_
  refine x_iload_n (q := 23) dX10_choose_22 rfl rfl ?_
  refine x_if_ne (q := 26) (t := 30) dX10_choose_23 rfl (by decide) (fun h23 => ?_) (fun h23 => by exfalso; omega)
  refine x_iconst (q := 31) dX10_choose_30 rfl (by decide) ?_
  refine x_iastore (q := 32) dX10_choose_31 rfl (ft61 hF) (by omega) (by rw [fl61 hF]; omega) ?_
  have hF := FX_si hF 61 (w - 1) 1
  refine x_iconst (q := 33) dX10_choose_32 rfl (by decide) ?_
  refine x_iret dX10_choose_33 rfl ?_
  refine Ex.stk (st' := [.inl (-1)]) rfl ?_
  refine x_goto (t := 155) dX10_give_146 (by decide) ?_
  refine x_iret dX10_give_155 rfl ?_
  exact ⟨rfl, rfl⟩
theorem c_give_q2 (d : Nat) {G : Hp} (hF : FM G) {w v sg : Int} (hw : iv G 35 40 = w) (w0 : 1 ≤ w) (w1 : w < 1200) (hsg : iv G 60 (w - 1) = sg) (hs : sg = 63) {n : Nat} {a b : Int} (ha : iv G 35 41 = a) (hT : Tm (iv G 42) n a b) (a0 : 0 ≤ a) (b1 : b ≤ 160) (hst : iv G 61 (w - 1) = 1) : CX (d + 4) 120 [.inr (.inr (some 35)), .inl v] G (fun r G1 => r = some (.inl v) ∧ G1 = si (si G 35 41 b) 35 40 (w - 1)) := by
  refine CX.of (d := d + 3) m_X10_give (Nat.le_of_ble_eq_true rfl) ?_
  refine Ex.lcl (ls' := [some (.inr (.inr (some 35))), some (.inl v), none, none]) rfl ?_
  refine x_aload_n (q := 1) dX10_give_0 rfl rfl ?_
  refine x_getI (q := 4) dX10_give_1 rfl f_10_108 rfl (ft35 hF) ?_
  refine Ex.stk (st' := [.inl w]) (by rw [show iv G 35 40 = w from hw]) ?_
  refine x_iconst (q := 5) dX10_give_4 rfl (by decide) ?_
  refine x_isub (q := 6) (z := w - 1) dX10_give_5 rfl (wr_id ⟨by omega, by omega⟩) ?_
  refine x_istore_n (q := 7) (ls' := [some (.inr (.inr (some 35))), some (.inl v), some (.inl (w - 1)), none]) dX10_give_6 rfl (Nat.le_of_ble_eq_true rfl) (by first | rfl | exact hnl | exact hnl2 _) rfl ?_
  refine x_aload_n (q := 8) dX10_give_7 rfl rfl ?_
  refine x_getR (q := 11) dX10_give_8 rfl f_10_86 rfl (ft35 hF) ?_
  refine Ex.stk (st' := [.inr (.inr (some 60))]) (by rw [fr35_37 hF]) ?_
  refine x_iload_n (q := 12) dX10_give_11 rfl rfl ?_
  refine x_iaload (q := 13) dX10_give_12 rfl (Or.inl (ft60 hF)) (by omega) (by rw [fl60 hF]; omega) ?_
  refine Ex.stk (st' := [.inl sg]) (by rw [show iv G 60 (w - 1) = sg from hsg]) ?_
  refine x_istore_n (q := 14) (ls' := [some (.inr (.inr (some 35))), some (.inl v), some (.inl (w - 1)), some (.inl sg)]) dX10_give_13 rfl (Nat.le_of_ble_eq_true rfl) (by first | rfl | exact hnl | exact hnl2 _) rfl ?_
  refine x_iload_n (q := 15) dX10_give_14 rfl rfl ?_
  refine x_bipush (q := 17) dX10_give_15 rfl (by decide) ?_
  refine x_icmp_ne (q := 20) (t := 62) dX10_give_17 rfl (by decide) (fun h17 => ?_) (fun h17 => by exfalso; omega)
  refine x_iload_n (q := 63) dX10_give_62 rfl rfl ?_
  refine x_bipush (q := 65) dX10_give_63 rfl (by decide) ?_
  refine x_icmp_ne (q := 68) (t := 106) dX10_give_65 rfl (by decide) (fun h65 => ?_) (fun h65 => by exfalso; omega)
  refine x_iload_n (q := 107) dX10_give_106 rfl rfl ?_
  refine x_bipush (q := 109) dX10_give_107 rfl (by decide) ?_
  refine x_icmp_ne (q := 112) (t := 134) dX10_give_109 rfl (by decide) (fun h109 => ?_) (fun h109 => by exfalso; omega)
  refine x_iload_n (q := 135) dX10_give_134 rfl rfl ?_
  refine x_bipush (q := 137) dX10_give_135 rfl (by decide) ?_
  refine x_icmp_ne (q := 140) (t := 149) dX10_give_137 rfl (by decide) (fun h137 => by exfalso; omega) (fun h137 => ?_)
  refine x_aload_n (q := 141) dX10_give_140 rfl rfl ?_
  refine x_iload_n (q := 142) dX10_give_141 rfl rfl ?_
  refine x_iload_n (q := 143) dX10_give_142 rfl rfl ?_
  refine x_invV (q := 146) (as := [.inr (.inr (some 35)), .inl (w - 1), .inl v]) (rest := []) dX10_give_143 rfl l_10_142 m_X10_choose rfl rfl (ft35 hF) (Nat.le_of_ble_eq_true rfl) (CX.of m_X10_choose (Nat.le_of_ble_eq_true rfl) ?_) (fun _ _ h => h)
  refine Ex.lcl (ls' := [some (.inr (.inr (some 35))), some (.inl (w - 1)), some (.inl v)]) rfl ?_
  refine x_aload_n (q := 1) dX10_choose_0 rfl rfl ?_
  refine x_getR (q := 4) dX10_choose_1 rfl f_10_89 rfl (ft35 hF) ?_
  refine Ex.stk (st' := [.inr (.inr (some 61))]) (by rw [fr35_38 hF]) ?_
  refine x_iload_n (q := 5) dX10_choose_4 rfl rfl ?_
  refine x_iaload (q := 6) dX10_choose_5 rfl (Or.inl (ft61 hF)) (by omega) (by rw [fl61 hF]; omega) ?_
  refine Ex.stk (st' := [.inl 1]) (by rw [show iv G 61 (w - 1) = 1 from hst]) ?_
  refine x_if_ne (q := 9) (t := 34) dX10_choose_6 rfl (by decide) (fun h6 => ?_) (fun h6 => by exfalso; omega)
  refine x_aload_n (q := 35) dX10_choose_34 rfl rfl ?_
  refine x_getR (q := 38) dX10_choose_35 rfl f_10_89 rfl (ft35 hF) ?_
  refine Ex.stk (st' := [.inr (.inr (some 61))]) (by rw [fr35_38 hF]) ?_
  refine x_iload_n (q := 39) dX10_choose_38 rfl rfl ?_
  refine x_iaload (q := 40) dX10_choose_39 rfl (Or.inl (ft61 hF)) (by omega) (by rw [fl61 hF]; omega) ?_
  refine Ex.stk (st' := [.inl 1]) (by rw [show iv G 61 (w - 1) = 1 from hst]) ?_
  refine x_iconst (q := 41) dX10_choose_40 rfl (by decide) ?_
  refine x_icmp_ne (q := 44) (t := 48) dX10_choose_41 rfl (by decide) (fun h41 => by exfalso; omega) (fun h41 => ?_)
  refine x_aload_n (q := 45) dX10_choose_44 rfl rfl ?_
  refine x_invV (q := 48) (as := [.inr (.inr (some 35))]) (rest := []) dX10_choose_45 rfl l_10_152 m_X10_skip rfl rfl (ft35 hF) (Nat.le_of_ble_eq_true rfl) (c_skip _ (G := G) hF (by simp [iv_si, ha]) (hT : Tm (iv G 42) n a b) (by omega) (by omega)) (fun r1 G1 hR => ?_)
  obtain ⟨rfl, rfl⟩ := hR
  have hF := FX_si hF 35 41 b
  refine Ex.stk (st' := []) rfl ?_
  refine x_aload_n (q := 49) dX10_choose_48 rfl rfl ?_
  refine x_dup (q := 50) dX10_choose_49 rfl rfl ?_
  refine x_getI (q := 53) dX10_choose_50 rfl f_10_108 rfl (ft35 hF) ?_
  refine Ex.stk (st' := [.inl w, .inr (.inr (some 35))]) (by rw [show iv (si G 35 41 b) 35 40 = w from (by simp [iv_si, hw, hsg, hst])]) ?_
  refine x_iconst (q := 54) dX10_choose_53 rfl (by decide) ?_
  refine x_isub (q := 55) (z := w - 1) dX10_choose_54 rfl (wr_id ⟨by omega, by omega⟩) ?_
  refine x_putI (q := 58) dX10_choose_55 rfl f_10_108 rfl (fun h => by cases h) (fun h => by cases h) (ft35 hF) ?_
  have hF := FX_si hF 35 40 (w - 1)
  refine x_iload_n (q := 59) dX10_choose_58 rfl rfl ?_
  refine x_iret dX10_choose_59 rfl ?_
  refine Ex.stk (st' := [.inl v]) rfl ?_
  refine x_goto (t := 155) dX10_give_146 (by decide) ?_
  refine x_iret dX10_give_155 rfl ?_
  exact ⟨rfl, rfl⟩
theorem c_give_q3 (d : Nat) {G : Hp} (hF : FM G) {w v sg : Int} (hw : iv G 35 40 = w) (w0 : 1 ≤ w) (w1 : w < 1200) (hsg : iv G 60 (w - 1) = sg) (hs : sg = 63) (hst : iv G 61 (w - 1) = 2) : CX (d + 4) 120 [.inr (.inr (some 35)), .inl v] G (fun r G1 => r = some (.inl v) ∧ G1 = si G 35 40 (w - 1)) := by
  refine CX.of (d := d + 3) m_X10_give (Nat.le_of_ble_eq_true rfl) ?_
  refine Ex.lcl (ls' := [some (.inr (.inr (some 35))), some (.inl v), none, none]) rfl ?_
  refine x_aload_n (q := 1) dX10_give_0 rfl rfl ?_
  refine x_getI (q := 4) dX10_give_1 rfl f_10_108 rfl (ft35 hF) ?_
  refine Ex.stk (st' := [.inl w]) (by rw [show iv G 35 40 = w from hw]) ?_
  refine x_iconst (q := 5) dX10_give_4 rfl (by decide) ?_
  refine x_isub (q := 6) (z := w - 1) dX10_give_5 rfl (wr_id ⟨by omega, by omega⟩) ?_
  refine x_istore_n (q := 7) (ls' := [some (.inr (.inr (some 35))), some (.inl v), some (.inl (w - 1)), none]) dX10_give_6 rfl (Nat.le_of_ble_eq_true rfl) (by first | rfl | exact hnl | exact hnl2 _) rfl ?_
  refine x_aload_n (q := 8) dX10_give_7 rfl rfl ?_
  refine x_getR (q := 11) dX10_give_8 rfl f_10_86 rfl (ft35 hF) ?_
  refine Ex.stk (st' := [.inr (.inr (some 60))]) (by rw [fr35_37 hF]) ?_
  refine x_iload_n (q := 12) dX10_give_11 rfl rfl ?_
  refine x_iaload (q := 13) dX10_give_12 rfl (Or.inl (ft60 hF)) (by omega) (by rw [fl60 hF]; omega) ?_
  refine Ex.stk (st' := [.inl sg]) (by rw [show iv G 60 (w - 1) = sg from hsg]) ?_
  refine x_istore_n (q := 14) (ls' := [some (.inr (.inr (some 35))), some (.inl v), some (.inl (w - 1)), some (.inl sg)]) dX10_give_13 rfl (Nat.le_of_ble_eq_true rfl) (by first | rfl | exact hnl | exact hnl2 _) rfl ?_
  refine x_iload_n (q := 15) dX10_give_14 rfl rfl ?_
  refine x_bipush (q := 17) dX10_give_15 rfl (by decide) ?_
  refine x_icmp_ne (q := 20) (t := 62) dX10_give_17 rfl (by decide) (fun h17 => ?_) (fun h17 => by exfalso; omega)
  refine x_iload_n (q := 63) dX10_give_62 rfl rfl ?_
  refine x_bipush (q := 65) dX10_give_63 rfl (by decide) ?_
  refine x_icmp_ne (q := 68) (t := 106) dX10_give_65 rfl (by decide) (fun h65 => ?_) (fun h65 => by exfalso; omega)
  refine x_iload_n (q := 107) dX10_give_106 rfl rfl ?_
  refine x_bipush (q := 109) dX10_give_107 rfl (by decide) ?_
  refine x_icmp_ne (q := 112) (t := 134) dX10_give_109 rfl (by decide) (fun h109 => ?_) (fun h109 => by exfalso; omega)
  refine x_iload_n (q := 135) dX10_give_134 rfl rfl ?_
  refine x_bipush (q := 137) dX10_give_135 rfl (by decide) ?_
  refine x_icmp_ne (q := 140) (t := 149) dX10_give_137 rfl (by decide) (fun h137 => by exfalso; omega) (fun h137 => ?_)
  refine x_aload_n (q := 141) dX10_give_140 rfl rfl ?_
  refine x_iload_n (q := 142) dX10_give_141 rfl rfl ?_
  refine x_iload_n (q := 143) dX10_give_142 rfl rfl ?_
  refine x_invV (q := 146) (as := [.inr (.inr (some 35)), .inl (w - 1), .inl v]) (rest := []) dX10_give_143 rfl l_10_142 m_X10_choose rfl rfl (ft35 hF) (Nat.le_of_ble_eq_true rfl) (CX.of m_X10_choose (Nat.le_of_ble_eq_true rfl) ?_) (fun _ _ h => h)
  refine Ex.lcl (ls' := [some (.inr (.inr (some 35))), some (.inl (w - 1)), some (.inl v)]) rfl ?_
  refine x_aload_n (q := 1) dX10_choose_0 rfl rfl ?_
  refine x_getR (q := 4) dX10_choose_1 rfl f_10_89 rfl (ft35 hF) ?_
  refine Ex.stk (st' := [.inr (.inr (some 61))]) (by rw [fr35_38 hF]) ?_
  refine x_iload_n (q := 5) dX10_choose_4 rfl rfl ?_
  refine x_iaload (q := 6) dX10_choose_5 rfl (Or.inl (ft61 hF)) (by omega) (by rw [fl61 hF]; omega) ?_
  refine Ex.stk (st' := [.inl 2]) (by rw [show iv G 61 (w - 1) = 2 from hst]) ?_
  refine x_if_ne (q := 9) (t := 34) dX10_choose_6 rfl (by decide) (fun h6 => ?_) (fun h6 => by exfalso; omega)
  refine x_aload_n (q := 35) dX10_choose_34 rfl rfl ?_
  refine x_getR (q := 38) dX10_choose_35 rfl f_10_89 rfl (ft35 hF) ?_
  refine Ex.stk (st' := [.inr (.inr (some 61))]) (by rw [fr35_38 hF]) ?_
  refine x_iload_n (q := 39) dX10_choose_38 rfl rfl ?_
  refine x_iaload (q := 40) dX10_choose_39 rfl (Or.inl (ft61 hF)) (by omega) (by rw [fl61 hF]; omega) ?_
  refine Ex.stk (st' := [.inl 2]) (by rw [show iv G 61 (w - 1) = 2 from hst]) ?_
  refine x_iconst (q := 41) dX10_choose_40 rfl (by decide) ?_
  refine x_icmp_ne (q := 44) (t := 48) dX10_choose_41 rfl (by decide) (fun h41 => ?_) (fun h41 => by exfalso; omega)
  refine x_aload_n (q := 49) dX10_choose_48 rfl rfl ?_
  refine x_dup (q := 50) dX10_choose_49 rfl rfl ?_
  refine x_getI (q := 53) dX10_choose_50 rfl f_10_108 rfl (ft35 hF) ?_
  refine Ex.stk (st' := [.inl w, .inr (.inr (some 35))]) (by rw [show iv G 35 40 = w from hw]) ?_
  refine x_iconst (q := 54) dX10_choose_53 rfl (by decide) ?_
  refine x_isub (q := 55) (z := w - 1) dX10_choose_54 rfl (wr_id ⟨by omega, by omega⟩) ?_
  refine x_putI (q := 58) dX10_choose_55 rfl f_10_108 rfl (fun h => by cases h) (fun h => by cases h) (ft35 hF) ?_
  have hF := FX_si hF 35 40 (w - 1)
  refine x_iload_n (q := 59) dX10_choose_58 rfl rfl ?_
  refine x_iret dX10_choose_59 rfl ?_
  refine Ex.stk (st' := [.inl v]) rfl ?_
  refine x_goto (t := 155) dX10_give_146 (by decide) ?_
  refine x_iret dX10_give_155 rfl ?_
  exact ⟨rfl, rfl⟩
