/-! THE CLASS: letters read, method by method -/
theorem c_bf1 (d : Nat) {G : Hp} (hF : FC G) {pb : Nat} (hpb : pb = 7 ∨ pb = 11) (hpr : rv G 3 6 = some pb) {c : Int} (hc : c ≠ 100) : CX (d + 2) 59 [.inr (.inr (some 3)), .inl c] G (fun r G1 => r = some (.inl 1) ∧ G1 = G) := by
  refine CX.of (d := d + 1) m_X6_beginFunction (Nat.le_of_ble_eq_true rfl) ?_
  refine Ex.lcl (ls' := [some (.inr (.inr (some 3))), some (.inl c)]) rfl ?_
  refine x_iload_n (q := 1) dX6_beginFunction_0 rfl rfl ?_
  refine x_bipush (q := 3) dX6_beginFunction_1 rfl (by decide) ?_
  refine x_icmp_eq (q := 6) (t := 8) dX6_beginFunction_3 rfl (by decide) (fun h3 => by exfalso; exact hc h3) (fun h3 => ?_)
  refine x_iconst (q := 7) dX6_beginFunction_6 rfl (by decide) ?_
  refine x_iret dX6_beginFunction_7 rfl ?_
  exact ⟨rfl, rfl⟩
theorem c_bf3 (d : Nat) {G : Hp} (hF : FC G) {pb : Nat} (hpb : pb = 7 ∨ pb = 11) (hpr : rv G 3 6 = some pb) {c tn : Int} (hc : c = 100) (ht : iv G pb 4 = tn) (t1 : 5 ≤ tn) : CX (d + 2) 59 [.inr (.inr (some 3)), .inl c] G (fun r G1 => r = some (.inl 3) ∧ G1 = G) := by
  refine CX.of (d := d + 1) m_X6_beginFunction (Nat.le_of_ble_eq_true rfl) ?_
  refine Ex.lcl (ls' := [some (.inr (.inr (some 3))), some (.inl c)]) rfl ?_
  refine x_iload_n (q := 1) dX6_beginFunction_0 rfl rfl ?_
  refine x_bipush (q := 3) dX6_beginFunction_1 rfl (by decide) ?_
  refine x_icmp_eq (q := 6) (t := 8) dX6_beginFunction_3 rfl (by decide) (fun h3 => ?_) (fun h3 => by exfalso; exact h3 hc)
  refine x_aload_n (q := 9) dX6_beginFunction_8 rfl rfl ?_
  refine x_getR (q := 12) dX6_beginFunction_9 rfl f_6_21 rfl (ft3 hF) ?_
  refine Ex.stk (st' := [.inr (.inr (some pb))]) (by rw [show rv G 3 6 = some pb from hpr]) ?_
  refine x_getI (q := 15) dX6_beginFunction_12 rfl f_6_47 rfl (PGs_FC hF hpb).1 ?_
  refine Ex.stk (st' := [.inl tn]) (by rw [show iv G pb 4 = tn from ht]) ?_
  refine x_iconst (q := 16) dX6_beginFunction_15 rfl (by decide) ?_
  refine x_icmp_lt (q := 19) (t := 21) dX6_beginFunction_16 rfl (by decide) (fun h16 => by exfalso; omega) (fun h16 => ?_)
  refine x_iconst (q := 20) dX6_beginFunction_19 rfl (by decide) ?_
  refine x_iret dX6_beginFunction_20 rfl ?_
  exact ⟨rfl, rfl⟩
theorem c_bf0 (d : Nat) {G : Hp} (hF : FC G) {pb : Nat} (hpb : pb = 7 ∨ pb = 11) (hpr : rv G 3 6 = some pb) {c tn sp : Int} (hc : c = 100) (ht : iv G pb 4 = tn) (t0 : 0 ≤ tn) (t1 : tn < 5) (hs : iv G pb 3 = sp) : CX (d + 2) 59 [.inr (.inr (some 3)), .inl c] G (fun r G1 => r = some (.inl 0) ∧ G1 = si (si (si (si G (pb + 3) tn sp) 3 3 0) 3 5 0) 3 4 1) := by
  refine CX.of (d := d + 1) m_X6_beginFunction (Nat.le_of_ble_eq_true rfl) ?_
  refine Ex.lcl (ls' := [some (.inr (.inr (some 3))), some (.inl c)]) rfl ?_
  refine x_iload_n (q := 1) dX6_beginFunction_0 rfl rfl ?_
  refine x_bipush (q := 3) dX6_beginFunction_1 rfl (by decide) ?_
  refine x_icmp_eq (q := 6) (t := 8) dX6_beginFunction_3 rfl (by decide) (fun h3 => ?_) (fun h3 => by exfalso; exact h3 hc)
  refine x_aload_n (q := 9) dX6_beginFunction_8 rfl rfl ?_
  refine x_getR (q := 12) dX6_beginFunction_9 rfl f_6_21 rfl (ft3 hF) ?_
  refine Ex.stk (st' := [.inr (.inr (some pb))]) (by rw [show rv G 3 6 = some pb from hpr]) ?_
  refine x_getI (q := 15) dX6_beginFunction_12 rfl f_6_47 rfl (PGs_FC hF hpb).1 ?_
  refine Ex.stk (st' := [.inl tn]) (by rw [show iv G pb 4 = tn from ht]) ?_
  refine x_iconst (q := 16) dX6_beginFunction_15 rfl (by decide) ?_
  refine x_icmp_lt (q := 19) (t := 21) dX6_beginFunction_16 rfl (by decide) (fun h16 => ?_) (fun h16 => by exfalso; omega)
  refine x_aload_n (q := 22) dX6_beginFunction_21 rfl rfl ?_
  refine x_getR (q := 25) dX6_beginFunction_22 rfl f_6_21 rfl (ft3 hF) ?_
  refine Ex.stk (st' := [.inr (.inr (some pb))]) (by rw [show rv G 3 6 = some pb from hpr]) ?_
  refine x_invV (q := 28) (as := [.inr (.inr (some pb))]) (rest := []) dX6_beginFunction_25 rfl l_6_62 m_X5_beginFunction rfl rfl (PGs_FC hF hpb).1 (Nat.le_of_ble_eq_true rfl) (c_beginF _ (PGs_FC hF hpb) hs ht t0 t1) (fun r1 G1 hR => ?_)
  obtain ⟨rfl, rfl⟩ := hR
  have hF : FC (si G (pb + 3) tn sp) := hF
  refine Ex.stk (st' := []) rfl ?_
  refine x_aload_n (q := 29) dX6_beginFunction_28 rfl rfl ?_
  refine x_iconst (q := 30) dX6_beginFunction_29 rfl (by decide) ?_
  refine x_putI (q := 33) dX6_beginFunction_30 rfl f_6_64 rfl (fun h => by cases h) (fun h => by cases h) (ft3 hF) ?_
  have hF := FX_si hF 3 3 0
  refine x_aload_n (q := 34) dX6_beginFunction_33 rfl rfl ?_
  refine x_iconst (q := 35) dX6_beginFunction_34 rfl (by decide) ?_
  refine x_putI (q := 38) dX6_beginFunction_35 rfl f_6_67 rfl (fun h => by cases h) (fun h => by cases h) (ft3 hF) ?_
  have hF := FX_si hF 3 5 0
  refine x_aload_n (q := 39) dX6_beginFunction_38 rfl rfl ?_
  refine x_iconst (q := 40) dX6_beginFunction_39 rfl (by decide) ?_
  refine x_putI (q := 43) dX6_beginFunction_40 rfl f_6_30 rfl (fun h => by cases h) (fun h => by cases h) (ft3 hF) ?_
  have hF := FX_si hF 3 4 1
  refine x_iconst (q := 44) dX6_beginFunction_43 rfl (by decide) ?_
  refine x_iret dX6_beginFunction_44 rfl ?_
  exact ⟨rfl, rfl⟩
theorem c_ef1 (d : Nat) {G : Hp} (hF : FC G) {pb : Nat} (hpb : pb = 7 ∨ pb = 11) (hpr : rv G 3 6 = some pb) {c : Int} (hc : c ≠ 59) : CX (d + 3) 60 [.inr (.inr (some 3)), .inl c] G (fun r G1 => r = some (.inl 1) ∧ G1 = G) := by
  refine CX.of (d := d + 2) m_X6_endFunction (Nat.le_of_ble_eq_true rfl) ?_
  refine Ex.lcl (ls' := [some (.inr (.inr (some 3))), some (.inl c)]) rfl ?_
  refine x_iload_n (q := 1) dX6_endFunction_0 rfl rfl ?_
  refine x_bipush (q := 3) dX6_endFunction_1 rfl (by decide) ?_
  refine x_icmp_eq (q := 6) (t := 8) dX6_endFunction_3 rfl (by decide) (fun h3 => by exfalso; exact hc h3) (fun h3 => ?_)
  refine x_iconst (q := 7) dX6_endFunction_6 rfl (by decide) ?_
  refine x_iret dX6_endFunction_7 rfl ?_
  exact ⟨rfl, rfl⟩
theorem c_ef0 (d : Nat) {G : Hp} (hF : FC G) {pb : Nat} (hpb : pb = 7 ∨ pb = 11) (hpr : rv G 3 6 = some pb) {c tn sp : Int} (hc : c = 59) (ht : iv G pb 4 = tn) (t0 : 0 ≤ tn) (t1 : tn < 5) (hs : iv G pb 3 = sp) (s0 : 0 ≤ sp) (s1 : sp < 320) : CX (d + 3) 60 [.inr (.inr (some 3)), .inl c] G (fun r G1 => r = some (.inl 0) ∧ G1 = si (si (si (si (si G (pb + 1) sp 11) (pb + 2) sp 0) pb 3 (sp + 1)) pb 4 (tn + 1)) 3 4 0) := by
  refine CX.of (d := d + 2) m_X6_endFunction (Nat.le_of_ble_eq_true rfl) ?_
  refine Ex.lcl (ls' := [some (.inr (.inr (some 3))), some (.inl c)]) rfl ?_
  refine x_iload_n (q := 1) dX6_endFunction_0 rfl rfl ?_
  refine x_bipush (q := 3) dX6_endFunction_1 rfl (by decide) ?_
  refine x_icmp_eq (q := 6) (t := 8) dX6_endFunction_3 rfl (by decide) (fun h3 => ?_) (fun h3 => by exfalso; exact h3 hc)
  refine x_aload_n (q := 9) dX6_endFunction_8 rfl rfl ?_
  refine x_getR (q := 12) dX6_endFunction_9 rfl f_6_21 rfl (ft3 hF) ?_
  refine Ex.stk (st' := [.inr (.inr (some pb))]) (by rw [show rv G 3 6 = some pb from hpr]) ?_
  refine x_invV (q := 15) (as := [.inr (.inr (some pb))]) (rest := []) dX6_endFunction_12 rfl l_6_70 m_X5_endFunction rfl rfl (PGs_FC hF hpb).1 (Nat.le_of_ble_eq_true rfl) (c_endF _ (PGs_FC hF hpb) hs s0 s1 ht t0 t1) (fun r1 G1 hR => ?_)
  obtain ⟨rfl, rfl⟩ := hR
  have hF : FC (si (si (si (si G (pb + 1) sp 11) (pb + 2) sp 0) pb 3 (sp + 1)) pb 4 (tn + 1)) := hF
  refine Ex.stk (st' := []) rfl ?_
  refine x_aload_n (q := 16) dX6_endFunction_15 rfl rfl ?_
  refine x_iconst (q := 17) dX6_endFunction_16 rfl (by decide) ?_
  refine x_putI (q := 20) dX6_endFunction_17 rfl f_6_30 rfl (fun h => by cases h) (fun h => by cases h) (ft3 hF) ?_
  have hF := FX_si hF 3 4 0
  refine x_iconst (q := 21) dX6_endFunction_20 rfl (by decide) ?_
  refine x_iret dX6_endFunction_21 rfl ?_
  exact ⟨rfl, rfl⟩
theorem c_rc1 (d : Nat) {G : Hp} (hF : FC G) {pb : Nat} (hpb : pb = 7 ∨ pb = 11) (hpr : rv G 3 6 = some pb) {c : Int} (hc : ¬ (48 ≤ c ∧ c ≤ 57)) : CX (d + 2) 63 [.inr (.inr (some 3)), .inl c] G (fun r G1 => r = some (.inl 1) ∧ G1 = G) := by
  refine CX.of (d := d + 1) m_X6_readCalledFunction (Nat.le_of_ble_eq_true rfl) ?_
  refine Ex.lcl (ls' := [some (.inr (.inr (some 3))), some (.inl c)]) rfl ?_
  refine x_iload_n (q := 1) dX6_readCalledFunction_0 rfl rfl ?_
  refine x_invS (q := 4) (as := [.inl c]) (rest := []) dX6_readCalledFunction_1 rfl l_6_72 m_X6_isFigure rfl rfl (Nat.le_of_ble_eq_true rfl) (Nat.le_of_ble_eq_true rfl) (c_isFigure _) (fun r1 G1 hR => ?_)
  obtain ⟨hG1, z1, rfl, z1a, z1b⟩ := hR
  replace hG1 := hG1.symm
  subst hG1
  refine Ex.stk (st' := [.inl z1]) rfl ?_
  refine x_if_ne (q := 7) (t := 9) dX6_readCalledFunction_4 rfl (by decide) (fun h4 => by exfalso; exact hc (z1b.mp (by omega))) (fun h4 => ?_)
  refine x_iconst (q := 8) dX6_readCalledFunction_7 rfl (by decide) ?_
  refine x_iret dX6_readCalledFunction_8 rfl ?_
  exact ⟨rfl, rfl⟩
theorem c_rc2 (d : Nat) {G : Hp} (hF : FC G) {pb : Nat} (hpb : pb = 7 ∨ pb = 11) (hpr : rv G 3 6 = some pb) {c : Int} (hc : 53 ≤ c ∧ c ≤ 57) : CX (d + 2) 63 [.inr (.inr (some 3)), .inl c] G (fun r G1 => r = some (.inl 2) ∧ G1 = G) := by
  refine CX.of (d := d + 1) m_X6_readCalledFunction (Nat.le_of_ble_eq_true rfl) ?_
  refine Ex.lcl (ls' := [some (.inr (.inr (some 3))), some (.inl c)]) rfl ?_
  refine x_iload_n (q := 1) dX6_readCalledFunction_0 rfl rfl ?_
  refine x_invS (q := 4) (as := [.inl c]) (rest := []) dX6_readCalledFunction_1 rfl l_6_72 m_X6_isFigure rfl rfl (Nat.le_of_ble_eq_true rfl) (Nat.le_of_ble_eq_true rfl) (c_isFigure _) (fun r1 G1 hR => ?_)
  obtain ⟨hG1, z1, rfl, z1a, z1b⟩ := hR
  replace hG1 := hG1.symm
  subst hG1
  refine Ex.stk (st' := [.inl z1]) rfl ?_
  refine x_if_ne (q := 7) (t := 9) dX6_readCalledFunction_4 rfl (by decide) (fun h4 => ?_) (fun h4 => by exfalso; (have := z1b.mpr (by omega); omega))
  refine x_iload_n (q := 10) dX6_readCalledFunction_9 rfl rfl ?_
  refine x_bipush (q := 12) dX6_readCalledFunction_10 rfl (by decide) ?_
  refine x_isub (q := 13) (z := c - 48) dX6_readCalledFunction_12 rfl (wr_id ⟨by omega, by omega⟩) ?_
  refine x_iconst (q := 14) dX6_readCalledFunction_13 rfl (by decide) ?_
  refine x_icmp_lt (q := 17) (t := 19) dX6_readCalledFunction_14 rfl (by decide) (fun h14 => by exfalso; omega) (fun h14 => ?_)
  refine x_iconst (q := 18) dX6_readCalledFunction_17 rfl (by decide) ?_
  refine x_iret dX6_readCalledFunction_18 rfl ?_
  exact ⟨rfl, rfl⟩
theorem c_rc0 (d : Nat) {G : Hp} (hF : FC G) {pb : Nat} (hpb : pb = 7 ∨ pb = 11) (hpr : rv G 3 6 = some pb) {c k : Int} (hc : 48 ≤ c ∧ c ≤ 52) (hk : iv G 3 3 = k) (k0 : 0 ≤ k) (k1 : k < 160) : CX (d + 2) 63 [.inr (.inr (some 3)), .inl c] G (fun r G1 => r = some (.inl 0) ∧ G1 = si (si (si (si (si G 3 4 1) 4 k 3) 5 k (c - 48)) 6 k 1) 3 3 (k + 1)) := by
  refine CX.of (d := d + 1) m_X6_readCalledFunction (Nat.le_of_ble_eq_true rfl) ?_
  refine Ex.lcl (ls' := [some (.inr (.inr (some 3))), some (.inl c)]) rfl ?_
  refine x_iload_n (q := 1) dX6_readCalledFunction_0 rfl rfl ?_
  refine x_invS (q := 4) (as := [.inl c]) (rest := []) dX6_readCalledFunction_1 rfl l_6_72 m_X6_isFigure rfl rfl (Nat.le_of_ble_eq_true rfl) (Nat.le_of_ble_eq_true rfl) (c_isFigure _) (fun r1 G1 hR => ?_)
  obtain ⟨hG1, z1, rfl, z1a, z1b⟩ := hR
  replace hG1 := hG1.symm
  subst hG1
  refine Ex.stk (st' := [.inl z1]) rfl ?_
  refine x_if_ne (q := 7) (t := 9) dX6_readCalledFunction_4 rfl (by decide) (fun h4 => ?_) (fun h4 => by exfalso; (have := z1b.mpr (by omega); omega))
  refine x_iload_n (q := 10) dX6_readCalledFunction_9 rfl rfl ?_
  refine x_bipush (q := 12) dX6_readCalledFunction_10 rfl (by decide) ?_
  refine x_isub (q := 13) (z := c - 48) dX6_readCalledFunction_12 rfl (wr_id ⟨by omega, by omega⟩) ?_
  refine x_iconst (q := 14) dX6_readCalledFunction_13 rfl (by decide) ?_
  refine x_icmp_lt (q := 17) (t := 19) dX6_readCalledFunction_14 rfl (by decide) (fun h14 => ?_) (fun h14 => by exfalso; omega)
  refine x_aload_n (q := 20) dX6_readCalledFunction_19 rfl rfl ?_
  refine x_iconst (q := 21) dX6_readCalledFunction_20 rfl (by decide) ?_
  refine x_putI (q := 24) dX6_readCalledFunction_21 rfl f_6_30 rfl (fun h => by cases h) (fun h => by cases h) (ft3 hF) ?_
  have hF := FX_si hF 3 4 1
  refine x_aload_n (q := 25) dX6_readCalledFunction_24 rfl rfl ?_
  refine x_iconst (q := 26) dX6_readCalledFunction_25 rfl (by decide) ?_
  refine x_iload_n (q := 27) dX6_readCalledFunction_26 rfl rfl ?_
  refine x_bipush (q := 29) dX6_readCalledFunction_27 rfl (by decide) ?_
  refine x_isub (q := 30) (z := c - 48) dX6_readCalledFunction_29 rfl (wr_id ⟨by omega, by omega⟩) ?_
  refine x_iconst (q := 31) dX6_readCalledFunction_30 rfl (by decide) ?_
  refine x_invV (q := 34) (as := [.inr (.inr (some 3)), .inl 3, .inl (c - 48), .inl 1]) (rest := []) dX6_readCalledFunction_31 rfl l_6_79 m_X6_openTerm rfl rfl (ft3 hF) (Nat.le_of_ble_eq_true rfl) (c_openTerm _ (G := si G 3 4 1) hF (k := k) (by simp only [iv_si]; exact hk) k0 k1) (fun r1 G1 hR => ?_)
  obtain ⟨rfl, rfl⟩ := hR
  refine Ex.stk (st' := [.inl 0]) rfl ?_
  refine x_iret dX6_readCalledFunction_34 rfl ?_
  exact ⟨rfl, rfl⟩
theorem c_bc4 (d : Nat) {G : Hp} (hF : FC G) {pb : Nat} (hpb : pb = 7 ∨ pb = 11) (hpr : rv G 3 6 = some pb) {n : Int} (hn : iv G 3 5 = n) (n3 : 3 ≤ n) : CX (d + 1) 62 [.inr (.inr (some 3))] G (fun r G1 => r = some (.inl 4) ∧ G1 = G) := by
  refine CX.of (d := d + 0) m_X6_beginCall (Nat.le_of_ble_eq_true rfl) ?_
  refine Ex.lcl (ls' := [some (.inr (.inr (some 3)))]) rfl ?_
  refine x_aload_n (q := 1) dX6_beginCall_0 rfl rfl ?_
  refine x_getI (q := 4) dX6_beginCall_1 rfl f_6_67 rfl (ft3 hF) ?_
  refine Ex.stk (st' := [.inl n]) (by rw [show iv G 3 5 = n from hn]) ?_
  refine x_iconst (q := 5) dX6_beginCall_4 rfl (by decide) ?_
  refine x_icmp_lt (q := 8) (t := 10) dX6_beginCall_5 rfl (by decide) (fun h5 => by exfalso; omega) (fun h5 => ?_)
  refine x_iconst (q := 9) dX6_beginCall_8 rfl (by decide) ?_
  refine x_iret dX6_beginCall_9 rfl ?_
  exact ⟨rfl, rfl⟩
theorem c_bc0 (d : Nat) {G : Hp} (hF : FC G) {pb : Nat} (hpb : pb = 7 ∨ pb = 11) (hpr : rv G 3 6 = some pb) {n : Int} (hn : iv G 3 5 = n) (n0 : 0 ≤ n) (n3 : n < 3) : CX (d + 1) 62 [.inr (.inr (some 3))] G (fun r G1 => r = some (.inl 0) ∧ G1 = si (si G 3 5 (n + 1)) 3 4 2) := by
  refine CX.of (d := d + 0) m_X6_beginCall (Nat.le_of_ble_eq_true rfl) ?_
  refine Ex.lcl (ls' := [some (.inr (.inr (some 3)))]) rfl ?_
  refine x_aload_n (q := 1) dX6_beginCall_0 rfl rfl ?_
  refine x_getI (q := 4) dX6_beginCall_1 rfl f_6_67 rfl (ft3 hF) ?_
  refine Ex.stk (st' := [.inl n]) (by rw [show iv G 3 5 = n from hn]) ?_
  refine x_iconst (q := 5) dX6_beginCall_4 rfl (by decide) ?_
  refine x_icmp_lt (q := 8) (t := 10) dX6_beginCall_5 rfl (by decide) (fun h5 => ?_) (fun h5 => by exfalso; omega)
  refine x_aload_n (q := 11) dX6_beginCall_10 rfl rfl ?_
  refine x_dup (q := 12) dX6_beginCall_11 rfl rfl ?_
  refine x_getI (q := 15) dX6_beginCall_12 rfl f_6_67 rfl (ft3 hF) ?_
  refine Ex.stk (st' := [.inl n, .inr (.inr (some 3))]) (by rw [show iv G 3 5 = n from hn]) ?_
  refine x_iconst (q := 16) dX6_beginCall_15 rfl (by decide) ?_
  refine x_iadd (q := 17) (z := n + 1) dX6_beginCall_16 rfl (wr_id ⟨by omega, by omega⟩) ?_
  refine x_putI (q := 20) dX6_beginCall_17 rfl f_6_67 rfl (fun h => by cases h) (fun h => by cases h) (ft3 hF) ?_
  have hF := FX_si hF 3 5 (n + 1)
  refine x_aload_n (q := 21) dX6_beginCall_20 rfl rfl ?_
  refine x_iconst (q := 22) dX6_beginCall_21 rfl (by decide) ?_
  refine x_putI (q := 25) dX6_beginCall_22 rfl f_6_30 rfl (fun h => by cases h) (fun h => by cases h) (ft3 hF) ?_
  have hF := FX_si hF 3 4 2
  refine x_iconst (q := 26) dX6_beginCall_25 rfl (by decide) ?_
  refine x_iret dX6_beginCall_26 rfl ?_
  exact ⟨rfl, rfl⟩
/-- what a leaf leaves -/
def LfP (pb : Nat) (cd : Int → Int) (A0 P0 b lim : Int) (F : Frs) (G G' : Hp) : Prop := RcI pb G G' ∧ (∀ i, i < P0 → iv G' (pb + 1) i = iv G (pb + 1) i ∧ iv G' (pb + 2) i = iv G (pb + 2) i) ∧ ((∃ F' : Frs, iv G' 3 4 = iv G 3 4 ∧ FrAt G' (F'.length : Int) F' ∧ iv G' 3 3 = (F'.length : Int) ∧ F'.length ≤ F.length ∧ Opn (iv G' (pb + 1)) (iv G' (pb + 2)) cd A0 P0 F' b (iv G' pb 3) ∧ sumw F' + 1 = sumw F ∧ iv G' pb 3 + pend F' ≤ lim) ∨ (iv G' 3 4 = 3 ∧ sumw F = 0 ∧ Cq (iv G' (pb + 1)) (iv G' (pb + 2)) cd A0 b P0 (iv G' pb 3) ∧ iv G' pb 3 ≤ lim))
theorem c_readLeafC (d : Nat) {G : Hp} (hF : FC G) {pb : Nat} (hpb : pb = 7 ∨ pb = 11) (hpr : rv G 3 6 = some pb) {cd : Int → Int} {A0 P0 k sp a b s v : Int} {F : Frs} (P00 : 0 ≤ P0) (hs : iv G pb 3 = sp) (s0 : 0 ≤ sp) (s1 : sp < 320) (hfr : FrAt G k F) (hop : iv G 3 3 = k) (k0 : 0 ≤ k) (k1 : k ≤ 160) (hO : Opn (iv G (pb + 1)) (iv G (pb + 2)) cd A0 P0 F a sp) (hC : ∀ st' vl' : Int → Int, st' sp = s → vl' sp = v → Cq st' vl' cd a b sp (sp + 1)) (hp : sp + 1 + pend F ≤ 320) : CX (d + 3) 65 [.inr (.inr (some 3)), .inl s, .inl v] G (fun r G' => r = some (.inl 0) ∧ LfP pb cd A0 P0 b (sp + 1 + pend F) F G G') := by
  refine CX.of (d := d + 2) m_X6_readLeaf (Nat.le_of_ble_eq_true rfl) ?_
  refine Ex.lcl (ls' := [some (.inr (.inr (some 3))), some (.inl s), some (.inl v), none]) rfl ?_
  refine x_aload_n (q := 1) dX6_readLeaf_0 rfl rfl ?_
  refine x_getR (q := 4) dX6_readLeaf_1 rfl f_6_21 rfl (ft3 hF) ?_
  refine Ex.stk (st' := [.inr (.inr (some pb))]) (by rw [show rv G 3 6 = some pb from hpr]) ?_
  refine x_iload_n (q := 5) dX6_readLeaf_4 rfl rfl ?_
  refine x_iload_n (q := 6) dX6_readLeaf_5 rfl rfl ?_
  refine x_invV (q := 9) (as := [.inr (.inr (some pb)), .inl s, .inl v]) (rest := []) dX6_readLeaf_6 rfl l_6_87 m_X5_addStep rfl rfl (PGs_FC hF hpb).1 (Nat.le_of_ble_eq_true rfl) (CX.up (d := 0 + 1) (by omega) (c_addStep 0 (PGs_FC hF hpb) hs s0 s1)) (fun r1 G1 hR => ?_)
  obtain ⟨rfl, rfl⟩ := hR
  have hF : FC (si (si (si G (pb + 1) sp s) (pb + 2) sp v) pb 3 (sp + 1)) := hF
  refine Ex.stk (st' := [.inl sp]) rfl ?_
  refine x_pop (q := 10) dX6_readLeaf_9 rfl rfl ?_
  refine x_aload_n (q := 11) dX6_readLeaf_10 rfl rfl ?_
  refine x_getI (q := 14) dX6_readLeaf_11 rfl f_6_64 rfl (ft3 hF) ?_
  refine Ex.stk (st' := [.inl k]) (by rw [show iv (si (si (si G (pb + 1) sp s) (pb + 2) sp v) pb 3 (sp + 1)) 3 3 = k from (by simp only [iv_si]; rw [if_neg (by omega), if_neg (by omega), if_neg (by omega)]; exact hop)]) ?_
  refine x_iconst (q := 15) dX6_readLeaf_14 rfl (by decide) ?_
  refine x_isub (q := 16) (z := k - 1) dX6_readLeaf_15 rfl (wr_id ⟨by omega, by omega⟩) ?_
  refine x_istore_n (q := 17) (ls' := [some (.inr (.inr (some 3))), some (.inl s), some (.inl v), some (.inl (k - 1))]) dX6_readLeaf_16 rfl (Nat.le_of_ble_eq_true rfl) (by first | rfl | exact hnl | exact hnl2 _) rfl ?_
  have e1 : ∀ i, i ≠ sp → iv (si (si (si G (pb + 1) sp s) (pb + 2) sp v) pb 3 (sp + 1)) (pb + 1) i = iv G (pb + 1) i := fun i hi => by simp only [iv_si]; rw [if_neg (by omega), if_neg (by omega), if_neg (by omega)]
  have e2 : ∀ i, i ≠ sp → iv (si (si (si G (pb + 1) sp s) (pb + 2) sp v) pb 3 (sp + 1)) (pb + 2) i = iv G (pb + 2) i := fun i hi => by simp only [iv_si]; rw [if_neg (by omega), if_neg (by omega), if_neg (by omega)]
  have e3 : iv (si (si (si G (pb + 1) sp s) (pb + 2) sp v) pb 3 (sp + 1)) (pb + 1) sp = s := by simp only [iv_si]; rw [if_neg (by omega), if_neg (by omega), if_pos (by simp)]
  have e4 : iv (si (si (si G (pb + 1) sp s) (pb + 2) sp v) pb 3 (sp + 1)) (pb + 2) sp = v := by simp only [iv_si]; rw [if_neg (by omega), if_pos (by simp)]
  have e5 : iv (si (si (si G (pb + 1) sp s) (pb + 2) sp v) pb 3 (sp + 1)) pb 3 = sp + 1 := by simp only [iv_si]; rw [if_pos (by simp)]
  have e6 : iv (si (si (si G (pb + 1) sp s) (pb + 2) sp v) pb 3 (sp + 1)) 3 3 = k := by simp only [iv_si]; rw [if_neg (by omega), if_neg (by omega), if_neg (by omega)]; exact hop
  have e7 : iv (si (si (si G (pb + 1) sp s) (pb + 2) sp v) pb 3 (sp + 1)) 3 4 = iv G 3 4 := by simp only [iv_si]; rw [if_neg (by omega), if_neg (by omega), if_neg (by omega)]
  have e8 : FrAt (si (si (si G (pb + 1) sp s) (pb + 2) sp v) pb 3 (sp + 1)) k F := FrAt_kept F _ hfr (fun x i x0 x1 hi => by simp only [iv_si]; rw [if_neg (by omega), if_neg (by omega), if_neg (by omega)])
  have e9 : RcI pb G (si (si (si G (pb + 1) sp s) (pb + 2) sp v) pb 3 (sp + 1)) := (((RcI.rf pb G).si hpb _ (by omega)).si hpb _ (by omega)).si hpb _ (by omega)
  have hge := Opn_ge _ _ _ hO
  refine leaf_loop (d := d) hpb P00 F _ k (sp + 1) a b sp hF hpr e5 e8 e6 k1 (Opn_congr F a sp hO (fun i hi => ⟨e1 i (by omega), e2 i (by omega)⟩) (fun i hi => rfl)) (hC _ _ e3 e4) hp (fun G' r1 r2 r3 => ⟨rfl, e9.trans r1, fun i hi => ⟨(r2 i hi).1.trans (e1 i (by omega)), (r2 i hi).2.trans (e2 i (by omega))⟩, ?_⟩)
  rcases r3 with ⟨F', y1, y2, y3, y4, y5, y6, y7⟩ | y
  · exact Or.inl ⟨F', y1.trans e7, y2, y3, y4, y5, y6, y7⟩
  · exact Or.inr y
theorem bt_n (d : Nat) {G : Hp} (hF : FC G) {pb : Nat} (hpb : pb = 7 ∨ pb = 11) (hpr : rv G 3 6 = some pb) {c : Int} (hc : c = 110) {R : Hp → Prop} {z : Int} (hC : CX (d + 3) 65 [.inr (.inr (some 3)), .inl 1, .inl 0] G (fun r G1 => r = some (.inl z) ∧ R G1)) : CX (d + 4) 61 [.inr (.inr (some 3)), .inl c] G (fun r G1 => r = some (.inl z) ∧ R G1) := by
  refine CX.of (d := d + 3) m_X6_beginTerm (Nat.le_of_ble_eq_true rfl) ?_
  refine Ex.lcl (ls' := [some (.inr (.inr (some 3))), some (.inl c)]) rfl ?_
  refine x_iload_n (q := 1) dX6_beginTerm_0 rfl rfl ?_
  refine x_invS (q := 4) (as := [.inl c]) (rest := []) dX6_beginTerm_1 rfl l_6_72 m_X6_isFigure rfl rfl (Nat.le_of_ble_eq_true rfl) (Nat.le_of_ble_eq_true rfl) (c_isFigure _) (fun r1 G1 hR => ?_)
  obtain ⟨hG1, z1, rfl, z1a, z1b⟩ := hR
  replace hG1 := hG1.symm
  subst hG1
  refine Ex.stk (st' := [.inl z1]) rfl ?_
  refine x_if_eq (q := 7) (t := 17) dX6_beginTerm_4 rfl (by decide) (fun h4 => ?_) (fun h4 => by exfalso; (have := z1b.mp (by omega); omega))
  refine x_iload_n (q := 18) dX6_beginTerm_17 rfl rfl ?_
  refine x_lookup (off := 74) (t := 92) dX6_beginTerm_18 (by decide) (by rw [hc]; rfl) (by decide) ?_
  refine x_aload_n (q := 93) dX6_beginTerm_92 rfl rfl ?_
  refine x_iconst (q := 94) dX6_beginTerm_93 rfl (by decide) ?_
  refine x_iconst (q := 95) dX6_beginTerm_94 rfl (by decide) ?_
  refine x_invV (q := 98) (as := [.inr (.inr (some 3)), .inl 1, .inl 0]) (rest := []) dX6_beginTerm_95 rfl l_6_76 m_X6_readLeaf rfl rfl (ft3 hF) (Nat.le_of_ble_eq_true rfl) hC (fun r1 G1 hR => ?_)
  obtain ⟨rfl, hR⟩ := hR
  refine Ex.stk (st' := [.inl z]) rfl ?_
  refine x_iret dX6_beginTerm_98 rfl ?_
  exact ⟨rfl, hR⟩
theorem bt_x (d : Nat) {G : Hp} (hF : FC G) {pb : Nat} (hpb : pb = 7 ∨ pb = 11) (hpr : rv G 3 6 = some pb) {c : Int} (hc : c = 120) {R : Hp → Prop} {z : Int} (hC : CX (d + 3) 64 [.inr (.inr (some 3)), .inl 2, .inl 0, .inl 1] G (fun r G1 => r = some (.inl z) ∧ R G1)) : CX (d + 4) 61 [.inr (.inr (some 3)), .inl c] G (fun r G1 => r = some (.inl z) ∧ R G1) := by
  refine CX.of (d := d + 3) m_X6_beginTerm (Nat.le_of_ble_eq_true rfl) ?_
  refine Ex.lcl (ls' := [some (.inr (.inr (some 3))), some (.inl c)]) rfl ?_
  refine x_iload_n (q := 1) dX6_beginTerm_0 rfl rfl ?_
  refine x_invS (q := 4) (as := [.inl c]) (rest := []) dX6_beginTerm_1 rfl l_6_72 m_X6_isFigure rfl rfl (Nat.le_of_ble_eq_true rfl) (Nat.le_of_ble_eq_true rfl) (c_isFigure _) (fun r1 G1 hR => ?_)
  obtain ⟨hG1, z1, rfl, z1a, z1b⟩ := hR
  replace hG1 := hG1.symm
  subst hG1
  refine Ex.stk (st' := [.inl z1]) rfl ?_
  refine x_if_eq (q := 7) (t := 17) dX6_beginTerm_4 rfl (by decide) (fun h4 => ?_) (fun h4 => by exfalso; (have := z1b.mp (by omega); omega))
  refine x_iload_n (q := 18) dX6_beginTerm_17 rfl rfl ?_
  refine x_lookup (off := 81) (t := 99) dX6_beginTerm_18 (by decide) (by rw [hc]; rfl) (by decide) ?_
  refine x_aload_n (q := 100) dX6_beginTerm_99 rfl rfl ?_
  refine x_iconst (q := 101) dX6_beginTerm_100 rfl (by decide) ?_
  refine x_iconst (q := 102) dX6_beginTerm_101 rfl (by decide) ?_
  refine x_iconst (q := 103) dX6_beginTerm_102 rfl (by decide) ?_
  refine x_invV (q := 106) (as := [.inr (.inr (some 3)), .inl 2, .inl 0, .inl 1]) (rest := []) dX6_beginTerm_103 rfl l_6_79 m_X6_openTerm rfl rfl (ft3 hF) (Nat.le_of_ble_eq_true rfl) hC (fun r1 G1 hR => ?_)
  obtain ⟨rfl, hR⟩ := hR
  refine Ex.stk (st' := [.inl z]) rfl ?_
  refine x_iret dX6_beginTerm_106 rfl ?_
  exact ⟨rfl, hR⟩
theorem bt_add (d : Nat) {G : Hp} (hF : FC G) {pb : Nat} (hpb : pb = 7 ∨ pb = 11) (hpr : rv G 3 6 = some pb) {c : Int} (hc : c = 43) {R : Hp → Prop} {z : Int} (hC : CX (d + 3) 64 [.inr (.inr (some 3)), .inl 4, .inl 0, .inl 2] G (fun r G1 => r = some (.inl z) ∧ R G1)) : CX (d + 4) 61 [.inr (.inr (some 3)), .inl c] G (fun r G1 => r = some (.inl z) ∧ R G1) := by
  refine CX.of (d := d + 3) m_X6_beginTerm (Nat.le_of_ble_eq_true rfl) ?_
  refine Ex.lcl (ls' := [some (.inr (.inr (some 3))), some (.inl c)]) rfl ?_
  refine x_iload_n (q := 1) dX6_beginTerm_0 rfl rfl ?_
  refine x_invS (q := 4) (as := [.inl c]) (rest := []) dX6_beginTerm_1 rfl l_6_72 m_X6_isFigure rfl rfl (Nat.le_of_ble_eq_true rfl) (Nat.le_of_ble_eq_true rfl) (c_isFigure _) (fun r1 G1 hR => ?_)
  obtain ⟨hG1, z1, rfl, z1a, z1b⟩ := hR
  replace hG1 := hG1.symm
  subst hG1
  refine Ex.stk (st' := [.inl z1]) rfl ?_
  refine x_if_eq (q := 7) (t := 17) dX6_beginTerm_4 rfl (by decide) (fun h4 => ?_) (fun h4 => by exfalso; (have := z1b.mp (by omega); omega))
  refine x_iload_n (q := 18) dX6_beginTerm_17 rfl rfl ?_
  refine x_lookup (off := 94) (t := 112) dX6_beginTerm_18 (by decide) (by rw [hc]; rfl) (by decide) ?_
  refine x_aload_n (q := 113) dX6_beginTerm_112 rfl rfl ?_
  refine x_iconst (q := 114) dX6_beginTerm_113 rfl (by decide) ?_
  refine x_iconst (q := 115) dX6_beginTerm_114 rfl (by decide) ?_
  refine x_iconst (q := 116) dX6_beginTerm_115 rfl (by decide) ?_
  refine x_invV (q := 119) (as := [.inr (.inr (some 3)), .inl 4, .inl 0, .inl 2]) (rest := []) dX6_beginTerm_116 rfl l_6_79 m_X6_openTerm rfl rfl (ft3 hF) (Nat.le_of_ble_eq_true rfl) hC (fun r1 G1 hR => ?_)
  obtain ⟨rfl, hR⟩ := hR
  refine Ex.stk (st' := [.inl z]) rfl ?_
  refine x_iret dX6_beginTerm_119 rfl ?_
  exact ⟨rfl, hR⟩
theorem bt_sub (d : Nat) {G : Hp} (hF : FC G) {pb : Nat} (hpb : pb = 7 ∨ pb = 11) (hpr : rv G 3 6 = some pb) {c : Int} (hc : c = 45) {R : Hp → Prop} {z : Int} (hC : CX (d + 3) 64 [.inr (.inr (some 3)), .inl 5, .inl 0, .inl 2] G (fun r G1 => r = some (.inl z) ∧ R G1)) : CX (d + 4) 61 [.inr (.inr (some 3)), .inl c] G (fun r G1 => r = some (.inl z) ∧ R G1) := by
  refine CX.of (d := d + 3) m_X6_beginTerm (Nat.le_of_ble_eq_true rfl) ?_
  refine Ex.lcl (ls' := [some (.inr (.inr (some 3))), some (.inl c)]) rfl ?_
  refine x_iload_n (q := 1) dX6_beginTerm_0 rfl rfl ?_
  refine x_invS (q := 4) (as := [.inl c]) (rest := []) dX6_beginTerm_1 rfl l_6_72 m_X6_isFigure rfl rfl (Nat.le_of_ble_eq_true rfl) (Nat.le_of_ble_eq_true rfl) (c_isFigure _) (fun r1 G1 hR => ?_)
  obtain ⟨hG1, z1, rfl, z1a, z1b⟩ := hR
  replace hG1 := hG1.symm
  subst hG1
  refine Ex.stk (st' := [.inl z1]) rfl ?_
  refine x_if_eq (q := 7) (t := 17) dX6_beginTerm_4 rfl (by decide) (fun h4 => ?_) (fun h4 => by exfalso; (have := z1b.mp (by omega); omega))
  refine x_iload_n (q := 18) dX6_beginTerm_17 rfl rfl ?_
  refine x_lookup (off := 102) (t := 120) dX6_beginTerm_18 (by decide) (by rw [hc]; rfl) (by decide) ?_
  refine x_aload_n (q := 121) dX6_beginTerm_120 rfl rfl ?_
  refine x_iconst (q := 122) dX6_beginTerm_121 rfl (by decide) ?_
  refine x_iconst (q := 123) dX6_beginTerm_122 rfl (by decide) ?_
  refine x_iconst (q := 124) dX6_beginTerm_123 rfl (by decide) ?_
  refine x_invV (q := 127) (as := [.inr (.inr (some 3)), .inl 5, .inl 0, .inl 2]) (rest := []) dX6_beginTerm_124 rfl l_6_79 m_X6_openTerm rfl rfl (ft3 hF) (Nat.le_of_ble_eq_true rfl) hC (fun r1 G1 hR => ?_)
  obtain ⟨rfl, hR⟩ := hR
  refine Ex.stk (st' := [.inl z]) rfl ?_
  refine x_iret dX6_beginTerm_127 rfl ?_
  exact ⟨rfl, hR⟩
theorem bt_mul (d : Nat) {G : Hp} (hF : FC G) {pb : Nat} (hpb : pb = 7 ∨ pb = 11) (hpr : rv G 3 6 = some pb) {c : Int} (hc : c = 42) {R : Hp → Prop} {z : Int} (hC : CX (d + 3) 64 [.inr (.inr (some 3)), .inl 6, .inl 0, .inl 2] G (fun r G1 => r = some (.inl z) ∧ R G1)) : CX (d + 4) 61 [.inr (.inr (some 3)), .inl c] G (fun r G1 => r = some (.inl z) ∧ R G1) := by
  refine CX.of (d := d + 3) m_X6_beginTerm (Nat.le_of_ble_eq_true rfl) ?_
  refine Ex.lcl (ls' := [some (.inr (.inr (some 3))), some (.inl c)]) rfl ?_
  refine x_iload_n (q := 1) dX6_beginTerm_0 rfl rfl ?_
  refine x_invS (q := 4) (as := [.inl c]) (rest := []) dX6_beginTerm_1 rfl l_6_72 m_X6_isFigure rfl rfl (Nat.le_of_ble_eq_true rfl) (Nat.le_of_ble_eq_true rfl) (c_isFigure _) (fun r1 G1 hR => ?_)
  obtain ⟨hG1, z1, rfl, z1a, z1b⟩ := hR
  replace hG1 := hG1.symm
  subst hG1
  refine Ex.stk (st' := [.inl z1]) rfl ?_
  refine x_if_eq (q := 7) (t := 17) dX6_beginTerm_4 rfl (by decide) (fun h4 => ?_) (fun h4 => by exfalso; (have := z1b.mp (by omega); omega))
  refine x_iload_n (q := 18) dX6_beginTerm_17 rfl rfl ?_
  refine x_lookup (off := 110) (t := 128) dX6_beginTerm_18 (by decide) (by rw [hc]; rfl) (by decide) ?_
  refine x_aload_n (q := 129) dX6_beginTerm_128 rfl rfl ?_
  refine x_bipush (q := 131) dX6_beginTerm_129 rfl (by decide) ?_
  refine x_iconst (q := 132) dX6_beginTerm_131 rfl (by decide) ?_
  refine x_iconst (q := 133) dX6_beginTerm_132 rfl (by decide) ?_
  refine x_invV (q := 136) (as := [.inr (.inr (some 3)), .inl 6, .inl 0, .inl 2]) (rest := []) dX6_beginTerm_133 rfl l_6_79 m_X6_openTerm rfl rfl (ft3 hF) (Nat.le_of_ble_eq_true rfl) hC (fun r1 G1 hR => ?_)
  obtain ⟨rfl, hR⟩ := hR
  refine Ex.stk (st' := [.inl z]) rfl ?_
  refine x_iret dX6_beginTerm_136 rfl ?_
  exact ⟨rfl, hR⟩
theorem bt_lt (d : Nat) {G : Hp} (hF : FC G) {pb : Nat} (hpb : pb = 7 ∨ pb = 11) (hpr : rv G 3 6 = some pb) {c : Int} (hc : c = 60) {R : Hp → Prop} {z : Int} (hC : CX (d + 3) 64 [.inr (.inr (some 3)), .inl 7, .inl 0, .inl 2] G (fun r G1 => r = some (.inl z) ∧ R G1)) : CX (d + 4) 61 [.inr (.inr (some 3)), .inl c] G (fun r G1 => r = some (.inl z) ∧ R G1) := by
  refine CX.of (d := d + 3) m_X6_beginTerm (Nat.le_of_ble_eq_true rfl) ?_
  refine Ex.lcl (ls' := [some (.inr (.inr (some 3))), some (.inl c)]) rfl ?_
  refine x_iload_n (q := 1) dX6_beginTerm_0 rfl rfl ?_
  refine x_invS (q := 4) (as := [.inl c]) (rest := []) dX6_beginTerm_1 rfl l_6_72 m_X6_isFigure rfl rfl (Nat.le_of_ble_eq_true rfl) (Nat.le_of_ble_eq_true rfl) (c_isFigure _) (fun r1 G1 hR => ?_)
  obtain ⟨hG1, z1, rfl, z1a, z1b⟩ := hR
  replace hG1 := hG1.symm
  subst hG1
  refine Ex.stk (st' := [.inl z1]) rfl ?_
  refine x_if_eq (q := 7) (t := 17) dX6_beginTerm_4 rfl (by decide) (fun h4 => ?_) (fun h4 => by exfalso; (have := z1b.mp (by omega); omega))
  refine x_iload_n (q := 18) dX6_beginTerm_17 rfl rfl ?_
  refine x_lookup (off := 119) (t := 137) dX6_beginTerm_18 (by decide) (by rw [hc]; rfl) (by decide) ?_
  refine x_aload_n (q := 138) dX6_beginTerm_137 rfl rfl ?_
  refine x_bipush (q := 140) dX6_beginTerm_138 rfl (by decide) ?_
  refine x_iconst (q := 141) dX6_beginTerm_140 rfl (by decide) ?_
  refine x_iconst (q := 142) dX6_beginTerm_141 rfl (by decide) ?_
  refine x_invV (q := 145) (as := [.inr (.inr (some 3)), .inl 7, .inl 0, .inl 2]) (rest := []) dX6_beginTerm_142 rfl l_6_79 m_X6_openTerm rfl rfl (ft3 hF) (Nat.le_of_ble_eq_true rfl) hC (fun r1 G1 hR => ?_)
  obtain ⟨rfl, hR⟩ := hR
  refine Ex.stk (st' := [.inl z]) rfl ?_
  refine x_iret dX6_beginTerm_145 rfl ?_
  exact ⟨rfl, hR⟩
theorem bt_q (d : Nat) {G : Hp} (hF : FC G) {pb : Nat} (hpb : pb = 7 ∨ pb = 11) (hpr : rv G 3 6 = some pb) {c : Int} (hc : c = 63) {R : Hp → Prop} {z : Int} (hC : CX (d + 3) 64 [.inr (.inr (some 3)), .inl 8, .inl (-1), .inl 3] G (fun r G1 => r = some (.inl z) ∧ R G1)) : CX (d + 4) 61 [.inr (.inr (some 3)), .inl c] G (fun r G1 => r = some (.inl z) ∧ R G1) := by
  refine CX.of (d := d + 3) m_X6_beginTerm (Nat.le_of_ble_eq_true rfl) ?_
  refine Ex.lcl (ls' := [some (.inr (.inr (some 3))), some (.inl c)]) rfl ?_
  refine x_iload_n (q := 1) dX6_beginTerm_0 rfl rfl ?_
  refine x_invS (q := 4) (as := [.inl c]) (rest := []) dX6_beginTerm_1 rfl l_6_72 m_X6_isFigure rfl rfl (Nat.le_of_ble_eq_true rfl) (Nat.le_of_ble_eq_true rfl) (c_isFigure _) (fun r1 G1 hR => ?_)
  obtain ⟨hG1, z1, rfl, z1a, z1b⟩ := hR
  replace hG1 := hG1.symm
  subst hG1
  refine Ex.stk (st' := [.inl z1]) rfl ?_
  refine x_if_eq (q := 7) (t := 17) dX6_beginTerm_4 rfl (by decide) (fun h4 => ?_) (fun h4 => by exfalso; (have := z1b.mp (by omega); omega))
  refine x_iload_n (q := 18) dX6_beginTerm_17 rfl rfl ?_
  refine x_lookup (off := 128) (t := 146) dX6_beginTerm_18 (by decide) (by rw [hc]; rfl) (by decide) ?_
  refine x_aload_n (q := 147) dX6_beginTerm_146 rfl rfl ?_
  refine x_bipush (q := 149) dX6_beginTerm_147 rfl (by decide) ?_
  refine x_iconst (q := 150) dX6_beginTerm_149 rfl (by decide) ?_
  refine x_iconst (q := 151) dX6_beginTerm_150 rfl (by decide) ?_
  refine x_invV (q := 154) (as := [.inr (.inr (some 3)), .inl 8, .inl (-1), .inl 3]) (rest := []) dX6_beginTerm_151 rfl l_6_79 m_X6_openTerm rfl rfl (ft3 hF) (Nat.le_of_ble_eq_true rfl) hC (fun r1 G1 hR => ?_)
  obtain ⟨rfl, hR⟩ := hR
  refine Ex.stk (st' := [.inl z]) rfl ?_
  refine x_iret dX6_beginTerm_154 rfl ?_
  exact ⟨rfl, hR⟩
theorem bt_f (d : Nat) {G : Hp} (hF : FC G) {pb : Nat} (hpb : pb = 7 ∨ pb = 11) (hpr : rv G 3 6 = some pb) {c : Int} (hc : c = 102) {R : Hp → Prop} {z : Int} (hC : CX (d + 3) 62 [.inr (.inr (some 3))] G (fun r G1 => r = some (.inl z) ∧ R G1)) : CX (d + 4) 61 [.inr (.inr (some 3)), .inl c] G (fun r G1 => r = some (.inl z) ∧ R G1) := by
  refine CX.of (d := d + 3) m_X6_beginTerm (Nat.le_of_ble_eq_true rfl) ?_
  refine Ex.lcl (ls' := [some (.inr (.inr (some 3))), some (.inl c)]) rfl ?_
  refine x_iload_n (q := 1) dX6_beginTerm_0 rfl rfl ?_
  refine x_invS (q := 4) (as := [.inl c]) (rest := []) dX6_beginTerm_1 rfl l_6_72 m_X6_isFigure rfl rfl (Nat.le_of_ble_eq_true rfl) (Nat.le_of_ble_eq_true rfl) (c_isFigure _) (fun r1 G1 hR => ?_)
  obtain ⟨hG1, z1, rfl, z1a, z1b⟩ := hR
  replace hG1 := hG1.symm
  subst hG1
  refine Ex.stk (st' := [.inl z1]) rfl ?_
  refine x_if_eq (q := 7) (t := 17) dX6_beginTerm_4 rfl (by decide) (fun h4 => ?_) (fun h4 => by exfalso; (have := z1b.mp (by omega); omega))
  refine x_iload_n (q := 18) dX6_beginTerm_17 rfl rfl ?_
  refine x_lookup (off := 89) (t := 107) dX6_beginTerm_18 (by decide) (by rw [hc]; rfl) (by decide) ?_
  refine x_aload_n (q := 108) dX6_beginTerm_107 rfl rfl ?_
  refine x_invV (q := 111) (as := [.inr (.inr (some 3))]) (rest := []) dX6_beginTerm_108 rfl l_6_83 m_X6_beginCall rfl rfl (ft3 hF) (Nat.le_of_ble_eq_true rfl) hC (fun r1 G1 hR => ?_)
  obtain ⟨rfl, hR⟩ := hR
  refine Ex.stk (st' := [.inl z]) rfl ?_
  refine x_iret dX6_beginTerm_111 rfl ?_
  exact ⟨rfl, hR⟩
theorem bt_bad (d : Nat) {G : Hp} (hF : FC G) {pb : Nat} (hpb : pb = 7 ∨ pb = 11) (hpr : rv G 3 6 = some pb) {c : Int} (hc : ¬ (48 ≤ c ∧ c ≤ 57) ∧ c ≠ 110 ∧ c ≠ 120 ∧ c ≠ 43 ∧ c ≠ 45 ∧ c ≠ 42 ∧ c ≠ 60 ∧ c ≠ 63 ∧ c ≠ 102) : CX (d + 4) 61 [.inr (.inr (some 3)), .inl c] G (fun r G1 => r = some (.inl 1) ∧ G1 = G) := by
  refine CX.of (d := d + 3) m_X6_beginTerm (Nat.le_of_ble_eq_true rfl) ?_
  refine Ex.lcl (ls' := [some (.inr (.inr (some 3))), some (.inl c)]) rfl ?_
  refine x_iload_n (q := 1) dX6_beginTerm_0 rfl rfl ?_
  refine x_invS (q := 4) (as := [.inl c]) (rest := []) dX6_beginTerm_1 rfl l_6_72 m_X6_isFigure rfl rfl (Nat.le_of_ble_eq_true rfl) (Nat.le_of_ble_eq_true rfl) (c_isFigure _) (fun r1 G1 hR => ?_)
  obtain ⟨hG1, z1, rfl, z1a, z1b⟩ := hR
  replace hG1 := hG1.symm
  subst hG1
  refine Ex.stk (st' := [.inl z1]) rfl ?_
  refine x_if_eq (q := 7) (t := 17) dX6_beginTerm_4 rfl (by decide) (fun h4 => ?_) (fun h4 => by exfalso; (have := z1b.mp (by omega); omega))
  refine x_iload_n (q := 18) dX6_beginTerm_17 rfl rfl ?_
  refine x_lookup (off := 137) (t := 155) dX6_beginTerm_18 (by decide) (by show Op.lookupswitch.offset [(42, 110), (43, 94), (45, 102), (60, 119), (63, 128), (102, 89), (110, 74), (120, 81)] 137 c = 137; simp only [Op.lookupswitch.offset]; rw [if_neg (by omega), if_neg (by omega), if_neg (by omega), if_neg (by omega), if_neg (by omega), if_neg (by omega), if_neg (by omega), if_neg (by omega)]) (by decide) ?_
  refine x_iconst (q := 156) dX6_beginTerm_155 rfl (by decide) ?_
  refine x_iret dX6_beginTerm_156 rfl ?_
  exact ⟨rfl, rfl⟩
theorem bt_fig (d : Nat) {G : Hp} (hF : FC G) {pb : Nat} (hpb : pb = 7 ∨ pb = 11) (hpr : rv G 3 6 = some pb) {c : Int} (hc : 48 ≤ c ∧ c ≤ 57) {R : Hp → Prop} {z : Int} (hC : CX (d + 3) 65 [.inr (.inr (some 3)), .inl 0, .inl (c - 48)] G (fun r G1 => r = some (.inl z) ∧ R G1)) : CX (d + 4) 61 [.inr (.inr (some 3)), .inl c] G (fun r G1 => r = some (.inl z) ∧ R G1) := by
  refine CX.of (d := d + 3) m_X6_beginTerm (Nat.le_of_ble_eq_true rfl) ?_
  refine Ex.lcl (ls' := [some (.inr (.inr (some 3))), some (.inl c)]) rfl ?_
  refine x_iload_n (q := 1) dX6_beginTerm_0 rfl rfl ?_
  refine x_invS (q := 4) (as := [.inl c]) (rest := []) dX6_beginTerm_1 rfl l_6_72 m_X6_isFigure rfl rfl (Nat.le_of_ble_eq_true rfl) (Nat.le_of_ble_eq_true rfl) (c_isFigure _) (fun r1 G1 hR => ?_)
  obtain ⟨hG1, z1, rfl, z1a, z1b⟩ := hR
  replace hG1 := hG1.symm
  subst hG1
  refine Ex.stk (st' := [.inl z1]) rfl ?_
  refine x_if_eq (q := 7) (t := 17) dX6_beginTerm_4 rfl (by decide) (fun h4 => by exfalso; (have := z1b.mpr (by omega); omega)) (fun h4 => ?_)
  refine x_aload_n (q := 8) dX6_beginTerm_7 rfl rfl ?_
  refine x_iconst (q := 9) dX6_beginTerm_8 rfl (by decide) ?_
  refine x_iload_n (q := 10) dX6_beginTerm_9 rfl rfl ?_
  refine x_bipush (q := 12) dX6_beginTerm_10 rfl (by decide) ?_
  refine x_isub (q := 13) (z := c - 48) dX6_beginTerm_12 rfl (wr_id ⟨by omega, by omega⟩) ?_
  refine x_invV (q := 16) (as := [.inr (.inr (some 3)), .inl 0, .inl (c - 48)]) (rest := []) dX6_beginTerm_13 rfl l_6_76 m_X6_readLeaf rfl rfl (ft3 hF) (Nat.le_of_ble_eq_true rfl) hC (fun r1 G1 hR => ?_)
  obtain ⟨rfl, hR⟩ := hR
  refine Ex.stk (st' := [.inl z]) rfl ?_
  refine x_iret dX6_beginTerm_16 rfl ?_
  exact ⟨rfl, hR⟩
theorem rl_0 (d : Nat) {G : Hp} (hF : FC G) {pb : Nat} (hpb : pb = 7 ∨ pb = 11) (hpr : rv G 3 6 = some pb) {c z : Int} {R : Hp → Prop} (ha : iv G 3 4 = 0) (hC : CX (d + 4) 59 [.inr (.inr (some 3)), .inl c] G (fun r G1 => r = some (.inl z) ∧ R G1)) : CX (d + 5) 58 [.inr (.inr (some 3)), .inl c] G (fun r G1 => r = some (.inl z) ∧ R G1) := by
  refine CX.of (d := d + 4) m_X6_readLetter (Nat.le_of_ble_eq_true rfl) ?_
  refine Ex.lcl (ls' := [some (.inr (.inr (some 3))), some (.inl c)]) rfl ?_
  refine x_aload_n (q := 1) dX6_readLetter_0 rfl rfl ?_
  refine x_getI (q := 4) dX6_readLetter_1 rfl f_6_30 rfl (ft3 hF) ?_
  refine Ex.stk (st' := [.inl 0]) (by rw [show iv G 3 4 = 0 from ha]) ?_
  refine x_tableIn (t := 32) (off := 28) dX6_readLetter_4 (by decide) (by decide) rfl (by decide) ?_
  refine x_aload_n (q := 33) dX6_readLetter_32 rfl rfl ?_
  refine x_iload_n (q := 34) dX6_readLetter_33 rfl rfl ?_
  refine x_invV (q := 37) (as := [.inr (.inr (some 3)), .inl c]) (rest := []) dX6_readLetter_34 rfl l_6_50 m_X6_beginFunction rfl rfl (ft3 hF) (Nat.le_of_ble_eq_true rfl) hC (fun r1 G1 hR => ?_)
  obtain ⟨rfl, hR⟩ := hR
  refine Ex.stk (st' := [.inl z]) rfl ?_
  refine x_iret dX6_readLetter_37 rfl ?_
  exact ⟨rfl, hR⟩
theorem rl_1 (d : Nat) {G : Hp} (hF : FC G) {pb : Nat} (hpb : pb = 7 ∨ pb = 11) (hpr : rv G 3 6 = some pb) {c z : Int} {R : Hp → Prop} (ha : iv G 3 4 = 1) (hC : CX (d + 4) 61 [.inr (.inr (some 3)), .inl c] G (fun r G1 => r = some (.inl z) ∧ R G1)) : CX (d + 5) 58 [.inr (.inr (some 3)), .inl c] G (fun r G1 => r = some (.inl z) ∧ R G1) := by
  refine CX.of (d := d + 4) m_X6_readLetter (Nat.le_of_ble_eq_true rfl) ?_
  refine Ex.lcl (ls' := [some (.inr (.inr (some 3))), some (.inl c)]) rfl ?_
  refine x_aload_n (q := 1) dX6_readLetter_0 rfl rfl ?_
  refine x_getI (q := 4) dX6_readLetter_1 rfl f_6_30 rfl (ft3 hF) ?_
  refine Ex.stk (st' := [.inl 1]) (by rw [show iv G 3 4 = 1 from ha]) ?_
  refine x_tableIn (t := 38) (off := 34) dX6_readLetter_4 (by decide) (by decide) rfl (by decide) ?_
  refine x_aload_n (q := 39) dX6_readLetter_38 rfl rfl ?_
  refine x_iload_n (q := 40) dX6_readLetter_39 rfl rfl ?_
  refine x_invV (q := 43) (as := [.inr (.inr (some 3)), .inl c]) (rest := []) dX6_readLetter_40 rfl l_6_53 m_X6_beginTerm rfl rfl (ft3 hF) (Nat.le_of_ble_eq_true rfl) hC (fun r1 G1 hR => ?_)
  obtain ⟨rfl, hR⟩ := hR
  refine Ex.stk (st' := [.inl z]) rfl ?_
  refine x_iret dX6_readLetter_43 rfl ?_
  exact ⟨rfl, hR⟩
theorem rl_2 (d : Nat) {G : Hp} (hF : FC G) {pb : Nat} (hpb : pb = 7 ∨ pb = 11) (hpr : rv G 3 6 = some pb) {c z : Int} {R : Hp → Prop} (ha : iv G 3 4 = 2) (hC : CX (d + 4) 63 [.inr (.inr (some 3)), .inl c] G (fun r G1 => r = some (.inl z) ∧ R G1)) : CX (d + 5) 58 [.inr (.inr (some 3)), .inl c] G (fun r G1 => r = some (.inl z) ∧ R G1) := by
  refine CX.of (d := d + 4) m_X6_readLetter (Nat.le_of_ble_eq_true rfl) ?_
  refine Ex.lcl (ls' := [some (.inr (.inr (some 3))), some (.inl c)]) rfl ?_
  refine x_aload_n (q := 1) dX6_readLetter_0 rfl rfl ?_
  refine x_getI (q := 4) dX6_readLetter_1 rfl f_6_30 rfl (ft3 hF) ?_
  refine Ex.stk (st' := [.inl 2]) (by rw [show iv G 3 4 = 2 from ha]) ?_
  refine x_tableIn (t := 44) (off := 40) dX6_readLetter_4 (by decide) (by decide) rfl (by decide) ?_
  refine x_aload_n (q := 45) dX6_readLetter_44 rfl rfl ?_
  refine x_iload_n (q := 46) dX6_readLetter_45 rfl rfl ?_
  refine x_invV (q := 49) (as := [.inr (.inr (some 3)), .inl c]) (rest := []) dX6_readLetter_46 rfl l_6_56 m_X6_readCalledFunction rfl rfl (ft3 hF) (Nat.le_of_ble_eq_true rfl) hC (fun r1 G1 hR => ?_)
  obtain ⟨rfl, hR⟩ := hR
  refine Ex.stk (st' := [.inl z]) rfl ?_
  refine x_iret dX6_readLetter_49 rfl ?_
  exact ⟨rfl, hR⟩
theorem rl_3 (d : Nat) {G : Hp} (hF : FC G) {pb : Nat} (hpb : pb = 7 ∨ pb = 11) (hpr : rv G 3 6 = some pb) {c z : Int} {R : Hp → Prop} (ha : iv G 3 4 = 3) (hC : CX (d + 4) 60 [.inr (.inr (some 3)), .inl c] G (fun r G1 => r = some (.inl z) ∧ R G1)) : CX (d + 5) 58 [.inr (.inr (some 3)), .inl c] G (fun r G1 => r = some (.inl z) ∧ R G1) := by
  refine CX.of (d := d + 4) m_X6_readLetter (Nat.le_of_ble_eq_true rfl) ?_
  refine Ex.lcl (ls' := [some (.inr (.inr (some 3))), some (.inl c)]) rfl ?_
  refine x_aload_n (q := 1) dX6_readLetter_0 rfl rfl ?_
  refine x_getI (q := 4) dX6_readLetter_1 rfl f_6_30 rfl (ft3 hF) ?_
  refine Ex.stk (st' := [.inl 3]) (by rw [show iv G 3 4 = 3 from ha]) ?_
  refine x_tableOut (t := 50) dX6_readLetter_4 (by decide) (by decide) ?_
  refine x_aload_n (q := 51) dX6_readLetter_50 rfl rfl ?_
  refine x_iload_n (q := 52) dX6_readLetter_51 rfl rfl ?_
  refine x_invV (q := 55) (as := [.inr (.inr (some 3)), .inl c]) (rest := []) dX6_readLetter_52 rfl l_6_59 m_X6_endFunction rfl rfl (ft3 hF) (Nat.le_of_ble_eq_true rfl) hC (fun r1 G1 hR => ?_)
  obtain ⟨rfl, hR⟩ := hR
  refine Ex.stk (st' := [.inl z]) rfl ?_
  refine x_iret dX6_readLetter_55 rfl ?_
  exact ⟨rfl, hR⟩
