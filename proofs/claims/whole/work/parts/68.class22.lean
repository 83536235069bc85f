/-! THE CLASS: set, aim, drift, undo -/
theorem cc_set (d : Nat) {n : Int} {s : Sg} {G : Hp} (hR0 : RC n s G) (i v : Int) (hl : s.2.2.1.2.1.length ≤ 16) : CX (d + 5) 88 [.inr (.inr (some 1)), .inl i, .inl v] G (fun r G' => r = some (.inl (o_set i v s).1) ∧ RC n (o_set i v s).2 G' ∧ Sm isM G G') := by
  have hC1 := hR0
  obtain ⟨hF, h2, h3, h4, h5, h6⟩ := hR0
  refine CX.of (d := d + 4) m_X9_set (Nat.le_of_ble_eq_true rfl) ?_
  refine Ex.lcl (ls' := [some (.inr (.inr (some 1))), some (.inl i), some (.inl v)]) rfl ?_
  refine x_iload_n (q := 1) dX9_set_0 rfl rfl ?_
  refine x_invS (q := 4) (as := [.inl i]) (rest := []) dX9_set_1 rfl l_9_151 m_X9_isCell rfl rfl (Nat.le_of_ble_eq_true rfl) (Nat.le_of_ble_eq_true rfl) (c_isCell _) (fun r1 G1 hR => ?_)
  obtain ⟨hG1, z1, rfl, z1a, z1b⟩ := hR
  replace hG1 := hG1.symm
  subst hG1
  refine Ex.stk (st' := [.inl z1]) rfl ?_
  refine x_if_ne (q := 7) (t := 10) dX9_set_4 rfl (by decide) (fun h4 => ?_) (fun h4 => ?_)
  · refine x_iload_n (q := 11) dX9_set_10 rfl rfl ?_
    refine x_invS (q := 14) (as := [.inl v]) (rest := []) dX9_set_11 rfl l_9_199 m_X9_isNumber rfl rfl (Nat.le_of_ble_eq_true rfl) (Nat.le_of_ble_eq_true rfl) (c_isNumber _) (fun r1 G1 hR => ?_)
    obtain ⟨hG1, z11, rfl, z11a, z11b⟩ := hR
    replace hG1 := hG1.symm
    subst hG1
    refine Ex.stk (st' := [.inl z11]) rfl ?_
    refine x_if_ne (q := 17) (t := 20) dX9_set_14 rfl (by decide) (fun h14 => ?_) (fun h14 => ?_)
    · refine x_aload_n (q := 21) dX9_set_20 rfl rfl ?_
      refine x_iload_n (q := 22) dX9_set_21 rfl rfl ?_
      refine x_iload_n (q := 23) dX9_set_22 rfl rfl ?_
      refine x_invV (q := 26) (as := [.inr (.inr (some 1)), .inl i, .inl v]) (rest := []) dX9_set_23 rfl l_9_202 m_X9_changeCell rfl rfl (ft1 hF) (Nat.le_of_ble_eq_true rfl) (cc_change (d + 0) hC1 i v (by have := z1b.mp (by omega); omega) (by have := z1b.mp (by omega); omega) hl) (fun r1 G1 hR => ?_)
      obtain ⟨rfl, hR1, hS1⟩ := hR
      refine Ex.stk (st' := [.inl (s.2.2.1.1 i)]) rfl ?_
      refine x_iret dX9_set_26 rfl ?_
      have e : o_set i v s = (s.2.2.1.1 i, s.1, s.2.1, remR s.2.2.1 (upi s.2.2.1.1 i v), s.2.2.2) := by rw [o_set, if_pos (z1b.mp (by omega)), if_pos (z11b.mp (by omega))]
      rw [e]; exact ⟨rfl, hR1, hS1⟩
    · refine x_ldc (q := 19) dX9_set_17 rfl k_9_89 ?_
      refine x_iret dX9_set_19 rfl ?_
      have e : o_set i v s = (-1000000002, s) := by rw [o_set, if_pos (z1b.mp (by omega)), if_neg (fun q => by have := z11b.mpr q; omega)]
      rw [e]; exact ⟨rfl, hC1, Sm.rf⟩
  · refine x_ldc (q := 9) dX9_set_7 rfl k_9_154 ?_
    refine x_iret dX9_set_9 rfl ?_
    have e : o_set i v s = (-1000000001, s) := if_neg (fun q => by have := z1b.mpr q; omega)
    rw [e]; exact ⟨rfl, hC1, Sm.rf⟩
theorem aim_ok {n : Int} {s : Sg} {G : Hp} (f x : Int) (hC1 : RC n s G) (hl : s.2.2.1.2.1.length ≤ 16) : RC n (s.1, s.2.1, remR s.2.2.1 (upi (upi s.2.2.1.1 8 f) 9 x), s.2.2.2) (si (si (ntD G (iv G 19 3) (s.2.2.1.2.1.length : Int) (-1) (s.2.2.1.1 8) (s.2.2.1.1 9)) 15 1 f) 15 2 x) := by
  have hi : LoI G (si (si (ntD G (iv G 19 3) (s.2.2.1.2.1.length : Int) (-1) (s.2.2.1.1 8) (s.2.2.1.1 9)) 15 1 f) 15 2 x) := ((ntD_lo G _ _ _ _ _).si _ _ (by omega)).si _ _ (by omega)
  have ho : ∀ (c : Nat) (k : Int), (c < 15 ∨ c = 16 ∨ c = 17 ∨ c = 18 ∨ 22 < c ∨ (c = 15 ∧ k = 3)) → iv (si (si (ntD G (iv G 19 3) (s.2.2.1.2.1.length : Int) (-1) (s.2.2.1.1 8) (s.2.2.1.1 9)) 15 1 f) 15 2 x) c k = iv G c k := fun c k hc => by rw [iv_si, if_neg (by omega), iv_si, if_neg (by omega), ntD_o (by omega)]
  have hh := hC1
  obtain ⟨hF, h2, h3, hrow, h5, h6⟩ := hh
  refine RC_lo (t := s.1) (P := s.2.1) (r := s.2.2.1) (b := s.2.2.2.1) (c := s.2.2.2.2) hC1 hi (RCt_k h2 (fun k => ho _ k (by omega)) (ho _ _ (by omega)) (ho _ _ (by omega))) ⟨fun k k0 k1 => ?_, ?_, ?_, (ho 15 3 (by omega)).trans hrow.2.2.2.1, ?_, RCi_lo hrow.2.2.2.2.2 hi⟩ (RCb_k h5 (ho _ _ (by omega)) (fun k => ho _ k (by omega)) (fun k => ho _ k (by omega)) (fun k => ho _ k (by omega)))
  · show _ = upi (upi s.2.2.1.1 8 f) 9 x k
    unfold upi
    rw [if_neg (by omega), if_neg (by omega), ho 16 k (by omega)]; exact hrow.1 k k0 k1
  · show _ = upi (upi s.2.2.1.1 8 f) 9 x 8
    simp [upi, iv_si]
  · show _ = upi (upi s.2.2.1.1 8 f) 9 x 9
    simp [upi, iv_si]
  · refine RCd_note (wh := -1) (a := s.2.2.1.1 8) (b := s.2.2.1.1 9) hrow.2.2.2.2.1 hl (by omega) (fun k k0 k1 => ?_) (fun c k c0 c1 => by rw [iv_si, if_neg (by omega), iv_si, if_neg (by omega), hrow.2.2.2.2.1.2.2.1])
    unfold undo1; rw [if_pos rfl]
    show _ = upi (upi (upi (upi s.2.2.1.1 8 f) 9 x) 8 (s.2.2.1.1 8)) 9 (s.2.2.1.1 9) k
    unfold upi
    by_cases hk : k = 9
    · rw [if_pos hk, hk]
    · rw [if_neg hk]
      by_cases hk2 : k = 8
      · rw [if_pos hk2, hk2]
      · rw [if_neg hk2, if_neg hk, if_neg hk2]
theorem cc_aim (d : Nat) {n : Int} {s : Sg} {G : Hp} (hR0 : RC n s G) (f x : Int) (hl : s.2.2.1.2.1.length ≤ 16) : CX (d + 4) 89 [.inr (.inr (some 1)), .inl f, .inl x] G (fun r G' => r = some (.inl (o_aim f x s).1) ∧ RC n (o_aim f x s).2 G' ∧ Sm isM G G') := by
  have hC1 := hR0
  obtain ⟨hF, h2, h3, h4, h5, h6⟩ := hR0
  have hrow := h4
  obtain ⟨L0, L1, hn, hdd⟩ := h4.2.2.2.2.1
  have hL : iv G 19 3 = iv G 19 3 := rfl
  have n0 : (0 : Int) ≤ (s.2.2.1.2.1.length : Int) := by omega
  have n1 : (s.2.2.1.2.1.length : Int) ≤ 16 := by omega
  obtain ⟨pa, p1, p2, p3, p4, p5, p6⟩ := h3
  refine CX.of (d := d + 3) m_X9_aim (Nat.le_of_ble_eq_true rfl) ?_
  refine Ex.lcl (ls' := [some (.inr (.inr (some 1))), some (.inl f), some (.inl x), none]) rfl ?_
  refine x_aload_n (q := 1) dX9_aim_0 rfl rfl ?_
  refine x_getR (q := 4) dX9_aim_1 rfl f_9_27 rfl (ft1 hF) ?_
  refine Ex.stk (st' := [.inr (.inr (some pa))]) (by rw [show rv G 1 4 = some pa from p2]) ?_
  refine x_iload_n (q := 5) dX9_aim_4 rfl rfl ?_
  refine x_invV (q := 8) (as := [.inr (.inr (some pa)), .inl f]) (rest := []) dX9_aim_5 rfl l_9_205 m_X5_tellsOf rfl rfl (PGs_FC hF p1).1 (Nat.le_of_ble_eq_true rfl) (c_tellsOf _ (PGs_FC hF p1) p6.1) (fun r1 G1 hR => ?_)
  obtain ⟨hG1, z5, rfl, z5a, z5b⟩ := hR
  replace hG1 := hG1.symm
  subst hG1
  refine Ex.stk (st' := [.inl z5]) rfl ?_
  refine x_if_ne (q := 11) (t := 14) dX9_aim_8 rfl (by decide) (fun h8 => ?_) (fun h8 => ?_)
  · refine x_iload_n (q := 15) dX9_aim_14 rfl rfl ?_
    refine x_invS (q := 18) (as := [.inl x]) (rest := []) dX9_aim_15 rfl l_9_199 m_X9_isNumber rfl rfl (Nat.le_of_ble_eq_true rfl) (Nat.le_of_ble_eq_true rfl) (c_isNumber _) (fun r1 G1 hR => ?_)
    obtain ⟨hG1, z15, rfl, z15a, z15b⟩ := hR
    replace hG1 := hG1.symm
    subst hG1
    refine Ex.stk (st' := [.inl z15]) rfl ?_
    refine x_if_ne (q := 21) (t := 24) dX9_aim_18 rfl (by decide) (fun h18 => ?_) (fun h18 => ?_)
    · refine x_iload_n (q := 25) dX9_aim_24 rfl rfl ?_
      refine x_aload_n (q := 26) dX9_aim_25 rfl rfl ?_
      refine x_getR (q := 29) dX9_aim_26 rfl f_9_37 rfl (ft1 hF) ?_
      refine Ex.stk (st' := [.inr (.inr (some 15)), .inl f]) (by rw [fr1_6 hF]) ?_
      refine x_getI (q := 32) dX9_aim_29 rfl f_9_103 rfl (ft15 hF) ?_
      refine Ex.stk (st' := [.inl (s.2.2.1.1 8), .inl f]) (by rw [show iv G 15 1 = s.2.2.1.1 8 from hrow.2.1]) ?_
      refine x_icmp_ne (q := 35) (t := 46) dX9_aim_32 rfl (by decide) (fun h32 => ?_) (fun h32 => ?_)
      · refine x_iconst (q := 47) dX9_aim_46 rfl (by decide) ?_
        refine x_goto (t := 51) dX9_aim_47 (by decide) ?_
        refine x_istore_n (q := 52) (ls' := [some (.inr (.inr (some 1))), some (.inl f), some (.inl x), some (.inl 1)]) dX9_aim_51 rfl (Nat.le_of_ble_eq_true rfl) (by first | rfl | exact hnl | exact hnl2 _) rfl ?_
        refine x_aload_n (q := 53) dX9_aim_52 rfl rfl ?_
        refine x_getR (q := 56) dX9_aim_53 rfl f_9_51 rfl (ft1 hF) ?_
        refine Ex.stk (st' := [.inr (.inr (some 19))]) (by rw [fr1_10 hF]) ?_
        refine x_aload_n (q := 57) dX9_aim_56 rfl rfl ?_
        refine x_getR (q := 60) dX9_aim_57 rfl f_9_37 rfl (ft1 hF) ?_
        refine Ex.stk (st' := [.inr (.inr (some 15)), .inr (.inr (some 19))]) (by rw [fr1_6 hF]) ?_
        refine x_getI (q := 63) dX9_aim_60 rfl f_9_103 rfl (ft15 hF) ?_
        refine Ex.stk (st' := [.inl (s.2.2.1.1 8), .inr (.inr (some 19))]) (by rw [show iv G 15 1 = s.2.2.1.1 8 from hrow.2.1]) ?_
        refine x_aload_n (q := 64) dX9_aim_63 rfl rfl ?_
        refine x_getR (q := 67) dX9_aim_64 rfl f_9_37 rfl (ft1 hF) ?_
        refine Ex.stk (st' := [.inr (.inr (some 15)), .inl (s.2.2.1.1 8), .inr (.inr (some 19))]) (by rw [fr1_6 hF]) ?_
        refine x_getI (q := 70) dX9_aim_67 rfl f_9_106 rfl (ft15 hF) ?_
        refine Ex.stk (st' := [.inl (s.2.2.1.1 9), .inl (s.2.2.1.1 8), .inr (.inr (some 19))]) (by rw [show iv G 15 2 = s.2.2.1.1 9 from hrow.2.2.1]) ?_
        refine x_invV (q := 73) (as := [.inr (.inr (some 19)), .inl (s.2.2.1.1 8), .inl (s.2.2.1.1 9)]) (rest := []) dX9_aim_70 rfl l_9_208 m_X2_noteAim rfl rfl (ft19 hF) (Nat.le_of_ble_eq_true rfl) (c_noteAm _ hF hL hn L0 L1 n0 n1) (fun r1 G1 hR => ?_)
        obtain ⟨rfl, rfl⟩ := hR
        have hF : FC (ntD G (iv G 19 3) (s.2.2.1.2.1.length : Int) (-1) (s.2.2.1.1 8) (s.2.2.1.1 9)) := FX_Io hF (ntD_lo G _ _ _ _ _).1
        refine Ex.stk (st' := []) rfl ?_
        refine x_aload_n (q := 74) dX9_aim_73 rfl rfl ?_
        refine x_getR (q := 77) dX9_aim_74 rfl f_9_37 rfl (ft1 hF) ?_
        refine Ex.stk (st' := [.inr (.inr (some 15))]) (by rw [fr1_6 hF]) ?_
        refine x_iload_n (q := 78) dX9_aim_77 rfl rfl ?_
        refine x_putI (q := 81) dX9_aim_78 rfl f_9_103 rfl (fun h => by cases h) (fun h => by cases h) (ft15 hF) ?_
        have hF := FX_si hF 15 1 f
        refine x_aload_n (q := 82) dX9_aim_81 rfl rfl ?_
        refine x_getR (q := 85) dX9_aim_82 rfl f_9_37 rfl (ft1 hF) ?_
        refine Ex.stk (st' := [.inr (.inr (some 15))]) (by rw [fr1_6 hF]) ?_
        refine x_iload_n (q := 86) dX9_aim_85 rfl rfl ?_
        refine x_putI (q := 89) dX9_aim_86 rfl f_9_106 rfl (fun h => by cases h) (fun h => by cases h) (ft15 hF) ?_
        have hF := FX_si hF 15 2 x
        refine x_iload_n (q := 90) dX9_aim_89 rfl rfl ?_
        refine x_if_eq (q := 93) (t := 97) dX9_aim_90 rfl (by decide) (fun h90 => ?_) (fun h90 => ?_)
        · refine x_iconst (q := 98) dX9_aim_97 rfl (by decide) ?_
          refine x_iret dX9_aim_98 rfl ?_
          have e : o_aim f x s = (0, s.1, s.2.1, remR s.2.2.1 (upi (upi s.2.2.1.1 8 f) 9 x), s.2.2.2) := by rw [o_aim, if_pos (z5b.mp (by omega)), if_pos (z15b.mp (by omega)), if_pos (by omega)]
          rw [e]; exact ⟨rfl, aim_ok f x hC1 hl, ((ntD_lo G _ _ _ _ _).si _ _ (by omega) |>.si _ _ (by omega)).M⟩
        · refine x_iconst (q := 94) dX9_aim_93 rfl (by decide) ?_
          refine x_goto (t := 98) dX9_aim_94 (by decide) ?_
          refine x_iret dX9_aim_98 rfl ?_
          have e : o_aim f x s = (1, s.1, s.2.1, remR s.2.2.1 (upi (upi s.2.2.1.1 8 f) 9 x), s.2.2.2) := by rw [o_aim, if_pos (z5b.mp (by omega)), if_pos (z15b.mp (by omega)), if_neg (by omega)]
          rw [e]; exact ⟨rfl, aim_ok f x hC1 hl, ((ntD_lo G _ _ _ _ _).si _ _ (by omega) |>.si _ _ (by omega)).M⟩
      · refine x_iload_n (q := 36) dX9_aim_35 rfl rfl ?_
        refine x_aload_n (q := 37) dX9_aim_36 rfl rfl ?_
        refine x_getR (q := 40) dX9_aim_37 rfl f_9_37 rfl (ft1 hF) ?_
        refine Ex.stk (st' := [.inr (.inr (some 15)), .inl x]) (by rw [fr1_6 hF]) ?_
        refine x_getI (q := 43) dX9_aim_40 rfl f_9_106 rfl (ft15 hF) ?_
        refine Ex.stk (st' := [.inl (s.2.2.1.1 9), .inl x]) (by rw [show iv G 15 2 = s.2.2.1.1 9 from hrow.2.2.1]) ?_
        refine x_icmp_eq (q := 46) (t := 50) dX9_aim_43 rfl (by decide) (fun h43 => ?_) (fun h43 => ?_)
        · refine x_iconst (q := 51) dX9_aim_50 rfl (by decide) ?_
          refine x_istore_n (q := 52) (ls' := [some (.inr (.inr (some 1))), some (.inl f), some (.inl x), some (.inl 0)]) dX9_aim_51 rfl (Nat.le_of_ble_eq_true rfl) (by first | rfl | exact hnl | exact hnl2 _) rfl ?_
          refine x_aload_n (q := 53) dX9_aim_52 rfl rfl ?_
          refine x_getR (q := 56) dX9_aim_53 rfl f_9_51 rfl (ft1 hF) ?_
          refine Ex.stk (st' := [.inr (.inr (some 19))]) (by rw [fr1_10 hF]) ?_
          refine x_aload_n (q := 57) dX9_aim_56 rfl rfl ?_
          refine x_getR (q := 60) dX9_aim_57 rfl f_9_37 rfl (ft1 hF) ?_
          refine Ex.stk (st' := [.inr (.inr (some 15)), .inr (.inr (some 19))]) (by rw [fr1_6 hF]) ?_
          refine x_getI (q := 63) dX9_aim_60 rfl f_9_103 rfl (ft15 hF) ?_
          refine Ex.stk (st' := [.inl (s.2.2.1.1 8), .inr (.inr (some 19))]) (by rw [show iv G 15 1 = s.2.2.1.1 8 from hrow.2.1]) ?_
          refine x_aload_n (q := 64) dX9_aim_63 rfl rfl ?_
          refine x_getR (q := 67) dX9_aim_64 rfl f_9_37 rfl (ft1 hF) ?_
          refine Ex.stk (st' := [.inr (.inr (some 15)), .inl (s.2.2.1.1 8), .inr (.inr (some 19))]) (by rw [fr1_6 hF]) ?_
          refine x_getI (q := 70) dX9_aim_67 rfl f_9_106 rfl (ft15 hF) ?_
          refine Ex.stk (st' := [.inl (s.2.2.1.1 9), .inl (s.2.2.1.1 8), .inr (.inr (some 19))]) (by rw [show iv G 15 2 = s.2.2.1.1 9 from hrow.2.2.1]) ?_
          refine x_invV (q := 73) (as := [.inr (.inr (some 19)), .inl (s.2.2.1.1 8), .inl (s.2.2.1.1 9)]) (rest := []) dX9_aim_70 rfl l_9_208 m_X2_noteAim rfl rfl (ft19 hF) (Nat.le_of_ble_eq_true rfl) (c_noteAm _ hF hL hn L0 L1 n0 n1) (fun r1 G1 hR => ?_)
          obtain ⟨rfl, rfl⟩ := hR
          have hF : FC (ntD G (iv G 19 3) (s.2.2.1.2.1.length : Int) (-1) (s.2.2.1.1 8) (s.2.2.1.1 9)) := FX_Io hF (ntD_lo G _ _ _ _ _).1
          refine Ex.stk (st' := []) rfl ?_
          refine x_aload_n (q := 74) dX9_aim_73 rfl rfl ?_
          refine x_getR (q := 77) dX9_aim_74 rfl f_9_37 rfl (ft1 hF) ?_
          refine Ex.stk (st' := [.inr (.inr (some 15))]) (by rw [fr1_6 hF]) ?_
          refine x_iload_n (q := 78) dX9_aim_77 rfl rfl ?_
          refine x_putI (q := 81) dX9_aim_78 rfl f_9_103 rfl (fun h => by cases h) (fun h => by cases h) (ft15 hF) ?_
          have hF := FX_si hF 15 1 f
          refine x_aload_n (q := 82) dX9_aim_81 rfl rfl ?_
          refine x_getR (q := 85) dX9_aim_82 rfl f_9_37 rfl (ft1 hF) ?_
          refine Ex.stk (st' := [.inr (.inr (some 15))]) (by rw [fr1_6 hF]) ?_
          refine x_iload_n (q := 86) dX9_aim_85 rfl rfl ?_
          refine x_putI (q := 89) dX9_aim_86 rfl f_9_106 rfl (fun h => by cases h) (fun h => by cases h) (ft15 hF) ?_
          have hF := FX_si hF 15 2 x
          refine x_iload_n (q := 90) dX9_aim_89 rfl rfl ?_
          refine x_if_eq (q := 93) (t := 97) dX9_aim_90 rfl (by decide) (fun h90 => ?_) (fun h90 => ?_)
          · refine x_iconst (q := 98) dX9_aim_97 rfl (by decide) ?_
            refine x_iret dX9_aim_98 rfl ?_
            have e : o_aim f x s = (0, s.1, s.2.1, remR s.2.2.1 (upi (upi s.2.2.1.1 8 f) 9 x), s.2.2.2) := by rw [o_aim, if_pos (z5b.mp (by omega)), if_pos (z15b.mp (by omega)), if_pos (by omega)]
            rw [e]; exact ⟨rfl, aim_ok f x hC1 hl, ((ntD_lo G _ _ _ _ _).si _ _ (by omega) |>.si _ _ (by omega)).M⟩
          · refine x_iconst (q := 94) dX9_aim_93 rfl (by decide) ?_
            refine x_goto (t := 98) dX9_aim_94 (by decide) ?_
            refine x_iret dX9_aim_98 rfl ?_
            have e : o_aim f x s = (1, s.1, s.2.1, remR s.2.2.1 (upi (upi s.2.2.1.1 8 f) 9 x), s.2.2.2) := by rw [o_aim, if_pos (z5b.mp (by omega)), if_pos (z15b.mp (by omega)), if_neg (by omega)]
            rw [e]; exact ⟨rfl, aim_ok f x hC1 hl, ((ntD_lo G _ _ _ _ _).si _ _ (by omega) |>.si _ _ (by omega)).M⟩
        · refine x_iconst (q := 47) dX9_aim_46 rfl (by decide) ?_
          refine x_goto (t := 51) dX9_aim_47 (by decide) ?_
          refine x_istore_n (q := 52) (ls' := [some (.inr (.inr (some 1))), some (.inl f), some (.inl x), some (.inl 1)]) dX9_aim_51 rfl (Nat.le_of_ble_eq_true rfl) (by first | rfl | exact hnl | exact hnl2 _) rfl ?_
          refine x_aload_n (q := 53) dX9_aim_52 rfl rfl ?_
          refine x_getR (q := 56) dX9_aim_53 rfl f_9_51 rfl (ft1 hF) ?_
          refine Ex.stk (st' := [.inr (.inr (some 19))]) (by rw [fr1_10 hF]) ?_
          refine x_aload_n (q := 57) dX9_aim_56 rfl rfl ?_
          refine x_getR (q := 60) dX9_aim_57 rfl f_9_37 rfl (ft1 hF) ?_
          refine Ex.stk (st' := [.inr (.inr (some 15)), .inr (.inr (some 19))]) (by rw [fr1_6 hF]) ?_
          refine x_getI (q := 63) dX9_aim_60 rfl f_9_103 rfl (ft15 hF) ?_
          refine Ex.stk (st' := [.inl (s.2.2.1.1 8), .inr (.inr (some 19))]) (by rw [show iv G 15 1 = s.2.2.1.1 8 from hrow.2.1]) ?_
          refine x_aload_n (q := 64) dX9_aim_63 rfl rfl ?_
          refine x_getR (q := 67) dX9_aim_64 rfl f_9_37 rfl (ft1 hF) ?_
          refine Ex.stk (st' := [.inr (.inr (some 15)), .inl (s.2.2.1.1 8), .inr (.inr (some 19))]) (by rw [fr1_6 hF]) ?_
          refine x_getI (q := 70) dX9_aim_67 rfl f_9_106 rfl (ft15 hF) ?_
          refine Ex.stk (st' := [.inl (s.2.2.1.1 9), .inl (s.2.2.1.1 8), .inr (.inr (some 19))]) (by rw [show iv G 15 2 = s.2.2.1.1 9 from hrow.2.2.1]) ?_
          refine x_invV (q := 73) (as := [.inr (.inr (some 19)), .inl (s.2.2.1.1 8), .inl (s.2.2.1.1 9)]) (rest := []) dX9_aim_70 rfl l_9_208 m_X2_noteAim rfl rfl (ft19 hF) (Nat.le_of_ble_eq_true rfl) (c_noteAm _ hF hL hn L0 L1 n0 n1) (fun r1 G1 hR => ?_)
          obtain ⟨rfl, rfl⟩ := hR
          have hF : FC (ntD G (iv G 19 3) (s.2.2.1.2.1.length : Int) (-1) (s.2.2.1.1 8) (s.2.2.1.1 9)) := FX_Io hF (ntD_lo G _ _ _ _ _).1
          refine Ex.stk (st' := []) rfl ?_
          refine x_aload_n (q := 74) dX9_aim_73 rfl rfl ?_
          refine x_getR (q := 77) dX9_aim_74 rfl f_9_37 rfl (ft1 hF) ?_
          refine Ex.stk (st' := [.inr (.inr (some 15))]) (by rw [fr1_6 hF]) ?_
          refine x_iload_n (q := 78) dX9_aim_77 rfl rfl ?_
          refine x_putI (q := 81) dX9_aim_78 rfl f_9_103 rfl (fun h => by cases h) (fun h => by cases h) (ft15 hF) ?_
          have hF := FX_si hF 15 1 f
          refine x_aload_n (q := 82) dX9_aim_81 rfl rfl ?_
          refine x_getR (q := 85) dX9_aim_82 rfl f_9_37 rfl (ft1 hF) ?_
          refine Ex.stk (st' := [.inr (.inr (some 15))]) (by rw [fr1_6 hF]) ?_
          refine x_iload_n (q := 86) dX9_aim_85 rfl rfl ?_
          refine x_putI (q := 89) dX9_aim_86 rfl f_9_106 rfl (fun h => by cases h) (fun h => by cases h) (ft15 hF) ?_
          have hF := FX_si hF 15 2 x
          refine x_iload_n (q := 90) dX9_aim_89 rfl rfl ?_
          refine x_if_eq (q := 93) (t := 97) dX9_aim_90 rfl (by decide) (fun h90 => ?_) (fun h90 => ?_)
          · refine x_iconst (q := 98) dX9_aim_97 rfl (by decide) ?_
            refine x_iret dX9_aim_98 rfl ?_
            have e : o_aim f x s = (0, s.1, s.2.1, remR s.2.2.1 (upi (upi s.2.2.1.1 8 f) 9 x), s.2.2.2) := by rw [o_aim, if_pos (z5b.mp (by omega)), if_pos (z15b.mp (by omega)), if_pos (by omega)]
            rw [e]; exact ⟨rfl, aim_ok f x hC1 hl, ((ntD_lo G _ _ _ _ _).si _ _ (by omega) |>.si _ _ (by omega)).M⟩
          · refine x_iconst (q := 94) dX9_aim_93 rfl (by decide) ?_
            refine x_goto (t := 98) dX9_aim_94 (by decide) ?_
            refine x_iret dX9_aim_98 rfl ?_
            have e : o_aim f x s = (1, s.1, s.2.1, remR s.2.2.1 (upi (upi s.2.2.1.1 8 f) 9 x), s.2.2.2) := by rw [o_aim, if_pos (z5b.mp (by omega)), if_pos (z15b.mp (by omega)), if_neg (by omega)]
            rw [e]; exact ⟨rfl, aim_ok f x hC1 hl, ((ntD_lo G _ _ _ _ _).si _ _ (by omega) |>.si _ _ (by omega)).M⟩
    · refine x_ldc (q := 23) dX9_aim_21 rfl k_9_89 ?_
      refine x_iret dX9_aim_23 rfl ?_
      have e : o_aim f x s = (-1000000002, s) := by rw [o_aim, if_pos (z5b.mp (by omega)), if_neg (fun q => by have := z15b.mpr q; omega)]
      rw [e]; exact ⟨rfl, hC1, Sm.rf⟩
  · refine x_ldc (q := 13) dX9_aim_11 rfl k_9_154 ?_
    refine x_iret dX9_aim_13 rfl ?_
    have e : o_aim f x s = (-1000000001, s) := if_neg (fun q => by have := z5b.mpr q; omega)
    rw [e]; exact ⟨rfl, hC1, Sm.rf⟩
