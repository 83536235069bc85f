/-! THE CLASS: keep -/
theorem c_initSc (d : Nat) {G : Hp} {a : Nat} (ht : tg G a = 7) (ha : a ≤ sz G) : CX (d + 1) 68 [.inr (.inr (some a))] G (fun r G1 => r = none ∧ G1 = sr (nw G 20 8 8) a 0 (some (sz G + 1))) := by
  refine CX.of (d := d + 0) m_X7_init (Nat.le_of_ble_eq_true rfl) ?_
  refine Ex.lcl (ls' := [some (.inr (.inr (some a)))]) rfl ?_
  refine x_aload_n (q := 1) dX7_init_0 rfl rfl ?_
  refine x_objI (q := 4) dX7_init_1 rfl l_7_3 (Nat.le_of_ble_eq_true rfl) ?_
  refine x_aload_n (q := 5) dX7_init_4 rfl rfl ?_
  refine x_bipush (q := 7) dX7_init_5 rfl (by decide) ?_
  refine x_newarray (q := 9) dX7_init_7 rfl (by decide) ?_
  refine x_putR (q := 12) dX7_init_9 rfl f_7_9 rfl (fun _ => ⟨rfl, rfl⟩) (show tg (nw G 20 8 8) a = 7 by rw [tg_nw, if_neg (by omega)]; exact ht) ?_
  refine x_vret dX7_init_12 rfl ?_
  exact ⟨rfl, rfl⟩
theorem cc_keep0 (d : Nat) {n : Int} {s : Sg} {G : Hp} (hR0 : RC n s G) (i : Int) (hz : ¬ (0 ≤ i ∧ i ≤ 1)) : CX (d + 2) 96 [.inr (.inr (some 1)), .inl i] G (fun r G' => r = some (.inl (o_keep i s).1) ∧ RC (n + 1) (o_keep i s).2 G' ∧ Sm isM G G') := by
  have hC1 := hR0
  obtain ⟨hF, h2, h3, h4, h5, h6⟩ := hR0
  refine CX.of (d := d + 1) m_X9_keep (Nat.le_of_ble_eq_true rfl) ?_
  refine Ex.lcl (ls' := [some (.inr (.inr (some 1))), some (.inl i), none]) rfl ?_
  refine x_iload_n (q := 1) dX9_keep_0 rfl rfl ?_
  refine x_invS (q := 4) (as := [.inl i]) (rest := []) dX9_keep_1 rfl l_9_239 m_X9_isImage rfl rfl (Nat.le_of_ble_eq_true rfl) (Nat.le_of_ble_eq_true rfl) (c_isImage _) (fun r1 G1 hR => ?_)
  obtain ⟨hG1, z1, rfl, z1a, z1b⟩ := hR
  replace hG1 := hG1.symm
  subst hG1
  refine Ex.stk (st' := [.inl z1]) rfl ?_
  refine x_if_ne (q := 7) (t := 10) dX9_keep_4 rfl (by decide) (fun h4 => by exfalso; exact hz (z1b.mp (by omega))) (fun h4 => ?_)
  refine x_ldc (q := 9) dX9_keep_7 rfl k_9_154 ?_
  refine x_iret dX9_keep_9 rfl ?_
  have e : o_keep i s = (-1000000001, s) := if_neg hz
  rw [e]; exact ⟨rfl, RC_mono (by omega) hC1, Sm.rf⟩
theorem bc_o {G : Hp} {a : Nat} {x : Nat} {k : Int} (hx : x ≠ 19 ∨ k ≠ 4) (h1 : x ≠ a) (h2 : x ≠ a + 1) : iv (si (bcD G a 15 (a + 1) 16) 19 4 0) x k = iv G x k := by
  unfold bcD; simp only [iv_si, iv_cp]
  rw [if_neg (by omega), if_neg (by omega), if_neg (by omega), if_neg (by omega), if_neg (by omega)]
theorem bc_im {r : Rw} {G : Hp} {a : Nat} (a1 : 63 ≤ a) (a2 : a + 1 ≤ sz G) (a3 : tg G a = 7) (a4 : rv G a 0 = some (a + 1)) (a5 : tg G (a + 1) = 20) (a6 : ln G (a + 1) = 8) (k1 : ∀ k, 0 ≤ k → k < 8 → iv G 16 k = r.1 k) (k2 : iv G 15 1 = r.1 8) (k3 : iv G 15 2 = r.1 9) (k4 : iv G 15 3 = r.2.2.2) : ImAt (si (bcD G a 15 (a + 1) 16) 19 4 0) a (r.1, r.2.2.2) := by
  have h19 : a ≠ 19 := by omega
  refine ⟨a1, a2, a3, a4, a5, a6, ?_, ?_, ?_, fun k k0 k9 => ?_⟩
  · rw [← k2]; simp [bcD, iv_si, h19]
  · rw [← k3]; simp [bcD, iv_si, h19]
  · rw [← k4]; simp [bcD, iv_si, h19]
  · rw [← k1 k k0 k9]
    unfold bcD; simp only [iv_si, iv_cp]
    rw [if_neg (by omega), if_neg (by omega), if_neg (by omega), if_neg (by omega), if_pos ⟨by trivial, by omega, by omega⟩]
    congr 1; omega
theorem cc_keep1 (d : Nat) {n : Int} {s : Sg} {G : Hp} (hR0 : RC n s G) (i : Int) (hz : 0 ≤ i ∧ i ≤ 1) {q : (Int → Int) × Int} {a : Nat} (hr : rv G 27 i = some a) (him : ImAt G a q) : CX (d + 2) 96 [.inr (.inr (some 1)), .inl i] G (fun r G' => r = some (.inl (o_keep i s).1) ∧ RC (n + 1) (o_keep i s).2 G' ∧ Sm isM G G') := by
  have hC1 := hR0
  obtain ⟨hF, h2, h3, h4, h5, h6⟩ := hR0
  have hrow := h4
  obtain ⟨a1, a2, a3, a4, a5, a6, a7, a8, a9, a10⟩ := id him
  refine CX.of (d := d + 1) m_X9_keep (Nat.le_of_ble_eq_true rfl) ?_
  refine Ex.lcl (ls' := [some (.inr (.inr (some 1))), some (.inl i), none]) rfl ?_
  refine x_iload_n (q := 1) dX9_keep_0 rfl rfl ?_
  refine x_invS (q := 4) (as := [.inl i]) (rest := []) dX9_keep_1 rfl l_9_239 m_X9_isImage rfl rfl (Nat.le_of_ble_eq_true rfl) (Nat.le_of_ble_eq_true rfl) (c_isImage _) (fun r1 G1 hR => ?_)
  obtain ⟨hG1, z1, rfl, z1a, z1b⟩ := hR
  replace hG1 := hG1.symm
  subst hG1
  refine Ex.stk (st' := [.inl z1]) rfl ?_
  refine x_if_ne (q := 7) (t := 10) dX9_keep_4 rfl (by decide) (fun h4 => ?_) (fun h4 => by exfalso; have := z1b.mpr hz; omega)
  refine x_aload_n (q := 11) dX9_keep_10 rfl rfl ?_
  refine x_getR (q := 14) dX9_keep_11 rfl f_9_62 rfl (ft1 hF) ?_
  refine Ex.stk (st' := [.inr (.inr (some 27))]) (by rw [fr1_12 hF]) ?_
  refine x_iload_n (q := 15) dX9_keep_14 rfl rfl ?_
  refine x_aaload (q := 16) dX9_keep_15 rfl (Or.inr (ft27 hF)) (by omega) (by rw [fl27 hF]; omega) ?_
  refine Ex.stk (st' := [.inr (.inr (some a))]) (by rw [show rv G 27 i = some a from hr]) ?_
  refine x_astore_n (q := 17) (ls' := [some (.inr (.inr (some 1))), some (.inl i), some (.inr (.inr (some a)))]) dX9_keep_16 rfl (Nat.le_of_ble_eq_true rfl) (by first | rfl | exact hnl | exact hnl2 _) rfl ?_
  refine x_aload_n (q := 18) dX9_keep_17 rfl rfl ?_
  refine x_ifnonnull (q := 21) (t := 36) dX9_keep_18 rfl (by decide) (fun a18 h18 => ?_) (fun h18 => by exfalso; cases h18)
  refine x_aload_n (q := 37) dX9_keep_36 rfl rfl ?_
  refine x_aload_n (q := 38) dX9_keep_37 rfl rfl ?_
  refine x_getR (q := 41) dX9_keep_38 rfl f_9_37 rfl (ft1 hF) ?_
  refine Ex.stk (st' := [.inr (.inr (some 15)), .inr (.inr (some a))]) (by rw [fr1_6 hF]) ?_
  refine x_invV (q := 44) (as := [.inr (.inr (some a)), .inr (.inr (some 15))]) (rest := []) dX9_keep_41 rfl l_9_242 m_X7_become rfl rfl a3 (Nat.le_of_ble_eq_true rfl) (CX.up (d := 0 + 1) (by omega) (c_become 0 (ft15 hF) a3 a5 (ft16 hF) (fr15_0 hF) a4 a6 (fl16 hF) (by omega))) (fun r1 G1 hR => ?_)
  obtain ⟨rfl, rfl⟩ := hR
  have hF : FC (bcD G a 15 (a + 1) 16) := hF
  refine Ex.stk (st' := []) rfl ?_
  refine x_aload_n (q := 45) dX9_keep_44 rfl rfl ?_
  refine x_getR (q := 48) dX9_keep_45 rfl f_9_51 rfl (ft1 hF) ?_
  refine Ex.stk (st' := [.inr (.inr (some 19))]) (by rw [fr1_10 hF]) ?_
  refine x_invV (q := 51) (as := [.inr (.inr (some 19))]) (rest := []) dX9_keep_48 rfl l_9_245 m_X2_forget rfl rfl (ft19 hF) (Nat.le_of_ble_eq_true rfl) (CX.up (d := 0 + 1) (by omega) (c_forget 0 hF)) (fun r1 G1 hR => ?_)
  obtain ⟨rfl, rfl⟩ := hR
  have hF : FC (si (bcD G a 15 (a + 1) 16) 19 4 0) := hF
  refine Ex.stk (st' := []) rfl ?_
  refine x_iconst (q := 52) dX9_keep_51 rfl (by decide) ?_
  refine x_iret dX9_keep_52 rfl ?_
  have e : o_keep i s = (1, s.1, s.2.1, (s.2.2.1.1, [], (fun j => if j = i then some (s.2.2.1.1, s.2.2.1.2.2.2) else s.2.2.1.2.2.1 j), s.2.2.1.2.2.2), s.2.2.2) := if_pos hz
  rw [e]
  have hk := keep_ok (t := s.1) (P := s.2.1) (r := s.2.2.1) (b := s.2.2.2.1) (c := s.2.2.2.2) (G' := si (bcD G a 15 (a + 1) 16) 19 4 0) hC1 hz (a := a) (fun x _ => ⟨rfl, rfl⟩) (fun x k _ _ => rfl) (fun x k _ hx h1 h2 => bc_o hx h1 h2) ⟨Nat.le_refl _, Nat.le_add_right _ _, Nat.le_add_right _ _⟩ (Or.inr ⟨hr, a1, a2, a3, a5⟩) (by simp [iv_si]) hr (bc_im a1 a2 a3 a4 a5 a6 hrow.1 hrow.2.1 hrow.2.2.1 hrow.2.2.2.1)
  exact ⟨rfl, hk.1, hk.2⟩
def kG (G : Hp) (i : Int) : Hp := sr (sr (nw (nw G 7 0 (cN 7)) 20 8 8) (sz G + 1) 0 (some (sz G + 1 + 1))) 27 i (some (sz G + 1))
theorem kG_f1 (G : Hp) (i : Int) {x : Nat} (hx : x ≤ sz G) : tg (kG G i) x = tg G x ∧ ln (kG G i) x = ln G x := by
  have h1 : ¬ x = sz G + 1 := by omega
  have h2 : ¬ x = sz G + 1 + 1 := by omega
  constructor
  · show (if x = sz G + 1 + 1 then 20 else if x = sz G + 1 then 7 else tg G x) = tg G x
    rw [if_neg h2, if_neg h1]
  · show (if x = sz G + 1 + 1 then 8 else if x = sz G + 1 then 0 else ln G x) = ln G x
    rw [if_neg h2, if_neg h1]
theorem kG_f2 (G : Hp) (i : Int) {x : Nat} {k : Int} (hx : x ≤ sz G) (hk : x ≠ 27 ∨ k ≠ i) : rv (kG G i) x k = rv G x k := by
  show (if x = 27 ∧ k = i then some (sz G + 1) else if x = sz G + 1 ∧ k = 0 then some (sz G + 1 + 1) else if x = sz G + 1 + 1 then none else if x = sz G + 1 then none else rv G x k) = rv G x k
  rw [if_neg (by omega), if_neg (by omega), if_neg (by omega), if_neg (by omega)]
theorem kG_f3 (G : Hp) (i : Int) {x : Nat} {k : Int} (hx : x ≤ sz G) : iv (kG G i) x k = iv G x k := by
  show (if x = sz G + 1 + 1 then 0 else if x = sz G + 1 then 0 else iv G x k) = iv G x k
  rw [if_neg (by omega), if_neg (by omega)]
theorem kG_sz (G : Hp) (i : Int) : sz (kG G i) = sz G + 2 := rfl
theorem kG_sl (G : Hp) (i : Int) : sl (kG G i) = sl G + 12 := rfl
theorem kG_t (G : Hp) (i : Int) : tg (kG G i) (sz G + 1) = 7 := by
  show (if sz G + 1 = sz G + 1 + 1 then 20 else if sz G + 1 = sz G + 1 then 7 else tg G _) = 7
  rw [if_neg (by omega), if_pos rfl]
theorem kG_t2 (G : Hp) (i : Int) : tg (kG G i) (sz G + 1 + 1) = 20 ∧ ln (kG G i) (sz G + 1 + 1) = 8 := by
  constructor
  · show (if sz G + 1 + 1 = sz G + 1 + 1 then 20 else if sz G + 1 + 1 = sz G + 1 then 7 else tg G _) = 20
    rw [if_pos rfl]
  · show (if sz G + 1 + 1 = sz G + 1 + 1 then 8 else if sz G + 1 + 1 = sz G + 1 then 0 else ln G _) = 8
    rw [if_pos rfl]
theorem kG_r (G : Hp) (i : Int) (h : 62 ≤ sz G) : rv (kG G i) (sz G + 1) 0 = some (sz G + 1 + 1) := by
  show (if sz G + 1 = 27 ∧ (0 : Int) = i then some (sz G + 1) else if sz G + 1 = sz G + 1 ∧ (0 : Int) = 0 then some (sz G + 1 + 1) else _) = _
  rw [if_neg (by omega), if_pos ⟨rfl, rfl⟩]
theorem kG_r27 (G : Hp) (i : Int) : rv (kG G i) 27 i = some (sz G + 1) := by
  show (if 27 = 27 ∧ i = i then some (sz G + 1) else _) = _
  rw [if_pos ⟨rfl, rfl⟩]
theorem kG_F {G : Hp} (i : Int) (hF : FC G) (h : 62 ≤ sz G) : FC (kG G i) := FC_up hF (fun x hx => kG_f1 G i (by omega)) (fun x k hx h27 => kG_f2 G i (by omega) (Or.inl h27))
theorem kK_F {G : Hp} (i : Int) (hF : FC G) (h : 62 ≤ sz G) : FC (sr (nw (nw G 7 0 (cN 7)) 20 8 8) (sz G + 1) 0 (some (sz G + 1 + 1))) := FC_up hF (fun x hx => kG_f1 G i (by omega)) (fun x k hx h27 => (show rv (sr (nw (nw G 7 0 (cN 7)) 20 8 8) (sz G + 1) 0 (some (sz G + 1 + 1))) x k = rv (kG G i) x k from (if_neg (fun q => h27 q.1)).symm).trans (kG_f2 G i (by omega) (Or.inl h27)))
theorem cc_keep2 (d : Nat) {n : Int} {s : Sg} {G : Hp} (hR0 : RC n s G) (i : Int) (hz : 0 ≤ i ∧ i ≤ 1) (hr : rv G 27 i = none) : CX (d + 2) 96 [.inr (.inr (some 1)), .inl i] G (fun r G' => r = some (.inl (o_keep i s).1) ∧ RC (n + 1) (o_keep i s).2 G' ∧ Sm isM G G') := by
  have hC1 := hR0
  obtain ⟨hF, h2, h3, h4, h5, h6⟩ := hR0
  have hF0 := hF
  have hrow := h4
  have h62 : 62 ≤ sz G := by
    obtain ⟨T, fs, κ, c1, c2, c3, c4, c5, c6, c7, c8, c9, c10, c11, c12, c13, c14, c15, -⟩ := h6
    exact c15
  refine CX.of (d := d + 1) m_X9_keep (Nat.le_of_ble_eq_true rfl) ?_
  refine Ex.lcl (ls' := [some (.inr (.inr (some 1))), some (.inl i), none]) rfl ?_
  refine x_iload_n (q := 1) dX9_keep_0 rfl rfl ?_
  refine x_invS (q := 4) (as := [.inl i]) (rest := []) dX9_keep_1 rfl l_9_239 m_X9_isImage rfl rfl (Nat.le_of_ble_eq_true rfl) (Nat.le_of_ble_eq_true rfl) (c_isImage _) (fun r1 G1 hR => ?_)
  obtain ⟨hG1, z1, rfl, z1a, z1b⟩ := hR
  replace hG1 := hG1.symm
  subst hG1
  refine Ex.stk (st' := [.inl z1]) rfl ?_
  refine x_if_ne (q := 7) (t := 10) dX9_keep_4 rfl (by decide) (fun h4 => ?_) (fun h4 => by exfalso; have := z1b.mpr hz; omega)
  refine x_aload_n (q := 11) dX9_keep_10 rfl rfl ?_
  refine x_getR (q := 14) dX9_keep_11 rfl f_9_62 rfl (ft1 hF) ?_
  refine Ex.stk (st' := [.inr (.inr (some 27))]) (by rw [fr1_12 hF]) ?_
  refine x_iload_n (q := 15) dX9_keep_14 rfl rfl ?_
  refine x_aaload (q := 16) dX9_keep_15 rfl (Or.inr (ft27 hF)) (by omega) (by rw [fl27 hF]; omega) ?_
  refine Ex.stk (st' := [.inr (.inr none)]) (by rw [show rv G 27 i = none from hr]) ?_
  refine x_astore_n (q := 17) (ls' := [some (.inr (.inr (some 1))), some (.inl i), some (.inr (.inr none))]) dX9_keep_16 rfl (Nat.le_of_ble_eq_true rfl) (by first | rfl | exact hnl | exact hnl2 _) rfl ?_
  refine x_aload_n (q := 18) dX9_keep_17 rfl rfl ?_
  refine x_ifnonnull (q := 21) (t := 36) dX9_keep_18 rfl (by decide) (fun a18 h18 => by exfalso; cases h18) (fun h18 => ?_)
  refine x_new (q := 24) dX9_keep_21 rfl n_9_34 ?_
  refine x_dup (q := 25) dX9_keep_24 rfl rfl ?_
  refine x_invI (q := 28) (as := [.inr (.inr (some (sz G + 1)))]) (rest := [.inr (.inr (some (sz G + 1)))]) dX9_keep_25 rfl l_9_36 m_X7_init rfl rfl (Nat.le_of_ble_eq_true rfl) (CX.up (d := 0 + 1) (by omega) (c_initSc 0 (show tg (nw G 7 0 (cN 7)) (sz G + 1) = 7 by rw [tg_nw, if_pos rfl]) (Nat.le_refl _))) (fun r1 G1 hR => ?_)
  obtain ⟨rfl, hG1⟩ := hR
  replace hG1 : G1 = sr (nw (nw G 7 0 (cN 7)) 20 8 8) (sz G + 1) 0 (some (sz G + 1 + 1)) := hG1
  subst hG1
  refine Ex.stk (st' := [.inr (.inr (some (sz G + 1)))]) rfl ?_
  have hF : FC (sr (nw (nw G 7 0 (cN 7)) 20 8 8) (sz G + 1) 0 (some (sz G + 1 + 1))) := kK_F i hF0 h62
  refine x_astore_n (q := 29) (ls' := [some (.inr (.inr (some 1))), some (.inl i), some (.inr (.inr (some (sz G + 1))))]) dX9_keep_28 rfl (Nat.le_of_ble_eq_true rfl) (by first | rfl | exact hnl | exact hnl2 _) rfl ?_
  refine x_aload_n (q := 30) dX9_keep_29 rfl rfl ?_
  refine x_getR (q := 33) dX9_keep_30 rfl f_9_62 rfl (ft1 hF) ?_
  refine Ex.stk (st' := [.inr (.inr (some 27))]) (by rw [fr1_12 hF]) ?_
  refine x_iload_n (q := 34) dX9_keep_33 rfl rfl ?_
  refine x_aload_n (q := 35) dX9_keep_34 rfl rfl ?_
  refine x_aastore (q := 36) dX9_keep_35 rfl (Or.inr ⟨(ft27 hF), (kG_t G i)⟩) (by omega) (by rw [fl27 hF]; omega) ?_
  clear hF
  have hF : FC (kG G i) := kG_F i hF0 h62
  show Ex (d + 1) (some .int) 9 false cX9_keep 36 [some (.inr (.inr (some 1))), some (.inl i), some (.inr (.inr (some (sz G + 1))))] [] (kG G i) _
  refine x_aload_n (q := 37) dX9_keep_36 rfl rfl ?_
  refine x_aload_n (q := 38) dX9_keep_37 rfl rfl ?_
  refine x_getR (q := 41) dX9_keep_38 rfl f_9_37 rfl (ft1 hF) ?_
  refine Ex.stk (st' := [.inr (.inr (some 15)), .inr (.inr (some (sz G + 1)))]) (by rw [fr1_6 hF]) ?_
  refine x_invV (q := 44) (as := [.inr (.inr (some (sz G + 1))), .inr (.inr (some 15))]) (rest := []) dX9_keep_41 rfl l_9_242 m_X7_become rfl rfl (kG_t G i) (Nat.le_of_ble_eq_true rfl) (CX.up (d := 0 + 1) (by omega) (c_become 0 (a := 15) (b := sz G + 1) (a' := 16) (b' := sz G + 1 + 1) (ft15 hF) (kG_t G i) (kG_t2 G i).1 (ft16 hF) (fr15_0 hF) (kG_r G i h62) (kG_t2 G i).2 (fl16 hF) (by omega))) (fun r1 G1 hR => ?_)
  obtain ⟨rfl, rfl⟩ := hR
  replace hF : FC (bcD (kG G i) (sz G + 1) 15 (sz G + 1 + 1) 16) := hF
  refine Ex.stk (st' := []) rfl ?_
  refine x_aload_n (q := 45) dX9_keep_44 rfl rfl ?_
  refine x_getR (q := 48) dX9_keep_45 rfl f_9_51 rfl (ft1 hF) ?_
  refine Ex.stk (st' := [.inr (.inr (some 19))]) (by rw [fr1_10 hF]) ?_
  refine x_invV (q := 51) (as := [.inr (.inr (some 19))]) (rest := []) dX9_keep_48 rfl l_9_245 m_X2_forget rfl rfl (ft19 hF) (Nat.le_of_ble_eq_true rfl) (CX.up (d := 0 + 1) (by omega) (c_forget 0 hF)) (fun r1 G1 hR => ?_)
  obtain ⟨rfl, rfl⟩ := hR
  have hF : FC (si (bcD (kG G i) (sz G + 1) 15 (sz G + 1 + 1) 16) 19 4 0) := hF
  refine Ex.stk (st' := []) rfl ?_
  refine x_iconst (q := 52) dX9_keep_51 rfl (by decide) ?_
  refine x_iret dX9_keep_52 rfl ?_
  have e : o_keep i s = (1, s.1, s.2.1, (s.2.2.1.1, [], (fun j => if j = i then some (s.2.2.1.1, s.2.2.1.2.2.2) else s.2.2.1.2.2.1 j), s.2.2.1.2.2.2), s.2.2.2) := if_pos hz
  rw [e]
  have hk := keep_ok (t := s.1) (P := s.2.1) (r := s.2.2.1) (b := s.2.2.2.1) (c := s.2.2.2.2) (G' := si (bcD (kG G i) (sz G + 1) 15 (sz G + 1 + 1) 16) 19 4 0) hC1 hz (a := sz G + 1) (fun x hx => kG_f1 G i hx) (fun x k hx hk => kG_f2 G i hx hk) (fun x k hx hx2 h1 h2 => (bc_o hx2 h1 h2).trans (kG_f3 G i hx)) ⟨Nat.le_add_right _ 2, Nat.le_refl _, Nat.le_refl _⟩ (Or.inl rfl) (by simp [iv_si]) (kG_r27 G i) (bc_im (G := kG G i) (by omega) (by rw [kG_sz]; omega) (kG_t G i) (kG_r G i h62) (kG_t2 G i).1 (kG_t2 G i).2 (fun k k0 k9 => (kG_f3 G i (by omega)).trans (hrow.1 k k0 k9)) ((kG_f3 G i (by omega)).trans hrow.2.1) ((kG_f3 G i (by omega)).trans hrow.2.2.1) ((kG_f3 G i (by omega)).trans hrow.2.2.2.1))
  exact ⟨rfl, hk.1, hk.2⟩
theorem cc_keep (d : Nat) {n : Int} {s : Sg} {G : Hp} (hR0 : RC n s G) (i : Int) : CX (d + 2) 96 [.inr (.inr (some 1)), .inl i] G (fun r G' => r = some (.inl (o_keep i s).1) ∧ RC (n + 1) (o_keep i s).2 G' ∧ Sm isM G G') := by
  by_cases hz : 0 ≤ i ∧ i ≤ 1
  · have hi := hR0.2.2.2.1.2.2.2.2.2.1 i (by omega) (by omega)
    cases hn : s.2.2.1.2.2.1 i with
    | none => rw [hn] at hi; exact cc_keep2 d hR0 i hz hi
    | some q =>
      rw [hn] at hi
      obtain ⟨a, e1, e2⟩ := hi
      exact cc_keep1 d hR0 i hz e1 e2
  · exact cc_keep0 d hR0 i hz
