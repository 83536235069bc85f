/-! THE CLASS: its constructor -/
theorem cc_init (d : Nat) {G0 G1 : Hp} (hM1 : CI G0 G1 1 13 [(1, 9, 0)] []) : CX (d + 15) 80 [.inr (.inr (some 1))] G1 (fun r G' => r = none ∧ sz G' = 34 ∧ sl G' = sl G0 + 4423 ∧ Sm (fun a => a = 0) G0 G' ∧ (∀ (a : Nat) (k : Int), 35 ≤ a → iv G' a k = 0) ∧ ∀ G'', Sm (fun a => a ≤ 34) G' G'' → sz G'' = 62 → (sl G'' : Int) ≤ 30000 → RC 0 s00 G'') := by
  refine CX.of (d := d + 14) m_X9_init (Nat.le_of_ble_eq_true rfl) ?_
  refine Ex.lcl (ls' := [some (.inr (.inr (some 1))), none]) rfl ?_
  refine x_aload_n (q := 1) dX9_init_0 rfl rfl ?_
  refine x_objI (q := 4) dX9_init_1 rfl l_9_3 (Nat.le_of_ble_eq_true rfl) ?_
  refine x_aload_n (q := 5) dX9_init_4 rfl rfl ?_
  refine x_sipush (q := 8) dX9_init_5 rfl (by decide) ?_
  refine x_newarray (q := 10) dX9_init_8 rfl (by decide) ?_
  refine Ex.stk (st' := [.inr (.inr (some 2)), .inr (.inr (some 1))]) (by rw [hM1.1]) ?_
  have hM2 : CI G0 (nw G1 20 160 (160 : Int).toNat) 2 173 [(1, 9, 0), (2, 20, 160)] [] := CI_new hM1 (by decide) 20 160 (160 : Int).toNat
  generalize nw G1 20 160 (160 : Int).toNat = G2 at hM2 ⊢
  clear hM1
  refine x_putR (q := 13) dX9_init_10 rfl f_9_9 rfl (fun _ => ⟨rfl, rfl⟩) (hM2.2.2.1 (1, 9, 0) (by decide)).1 ?_
  have hM3 : CI G0 (sr G2 1 0 (some 2)) 2 173 [(1, 9, 0), (2, 20, 160)] [(1, 0, 2)] := CI_put hM2 1 0 2 (by decide) (by decide)
  generalize sr G2 1 0 (some 2) = G3 at hM3 ⊢
  clear hM2
  refine x_aload_n (q := 14) dX9_init_13 rfl rfl ?_
  refine x_iconst (q := 15) dX9_init_14 rfl (by decide) ?_
  refine x_putI (q := 18) dX9_init_15 rfl f_9_13 rfl (fun h => by cases h) (fun h => by cases h) (hM3.2.2.1 (1, 9, 0) (by decide)).1 ?_
  have hM4 : CI G0 (si G3 1 2 (-1)) 2 173 [(1, 9, 0), (2, 20, 160)] [(1, 0, 2)] := CI_flt hM3 (-1)
  generalize si G3 1 2 (-1) = G4 at hM4 ⊢
  clear hM3
  refine x_aload_n (q := 19) dX9_init_18 rfl rfl ?_
  refine x_new (q := 22) dX9_init_19 rfl n_9_17 ?_
  refine Ex.stk (st' := [.inr (.inr (some 3)), .inr (.inr (some 1))]) (by rw [hM4.1]) ?_
  have hM5 : CI G0 (nw G4 6 0 (cN 6)) 3 181 [(1, 9, 0), (2, 20, 160), (3, 6, 0)] [(1, 0, 2)] := CI_new hM4 (by decide) 6 0 (cN 6)
  generalize nw G4 6 0 (cN 6) = G5 at hM5 ⊢
  clear hM4
  refine x_dup (q := 23) dX9_init_22 rfl rfl ?_
  refine x_invI (q := 26) (as := [.inr (.inr (some 3))]) (rest := [.inr (.inr (some 3)), .inr (.inr (some 1))]) dX9_init_23 rfl l_9_19 m_X6_init rfl rfl (Nat.le_of_ble_eq_true rfl) (CX.of m_X6_init (Nat.le_of_ble_eq_true rfl) ?_) (fun _ _ h => h)
  refine Ex.lcl (ls' := [some (.inr (.inr (some 3)))]) rfl ?_
  refine x_aload_n (q := 1) dX6_init_0 rfl rfl ?_
  refine x_objI (q := 4) dX6_init_1 rfl l_6_3 (Nat.le_of_ble_eq_true rfl) ?_
  refine x_aload_n (q := 5) dX6_init_4 rfl rfl ?_
  refine x_sipush (q := 8) dX6_init_5 rfl (by decide) ?_
  refine x_newarray (q := 10) dX6_init_8 rfl (by decide) ?_
  refine Ex.stk (st' := [.inr (.inr (some 4)), .inr (.inr (some 3))]) (by rw [hM5.1]) ?_
  have hM6 : CI G0 (nw G5 20 160 (160 : Int).toNat) 4 341 [(1, 9, 0), (2, 20, 160), (3, 6, 0), (4, 20, 160)] [(1, 0, 2)] := CI_new hM5 (by decide) 20 160 (160 : Int).toNat
  generalize nw G5 20 160 (160 : Int).toNat = G6 at hM6 ⊢
  clear hM5
  refine x_putR (q := 13) dX6_init_10 rfl f_6_9 rfl (fun _ => ⟨rfl, rfl⟩) (hM6.2.2.1 (3, 6, 0) (by decide)).1 ?_
  have hM7 : CI G0 (sr G6 3 0 (some 4)) 4 341 [(1, 9, 0), (2, 20, 160), (3, 6, 0), (4, 20, 160)] [(1, 0, 2), (3, 0, 4)] := CI_put hM6 3 0 4 (by decide) (by decide)
  generalize sr G6 3 0 (some 4) = G7 at hM7 ⊢
  clear hM6
  refine x_aload_n (q := 14) dX6_init_13 rfl rfl ?_
  refine x_sipush (q := 17) dX6_init_14 rfl (by decide) ?_
  refine x_newarray (q := 19) dX6_init_17 rfl (by decide) ?_
  refine Ex.stk (st' := [.inr (.inr (some 5)), .inr (.inr (some 3))]) (by rw [hM7.1]) ?_
  have hM8 : CI G0 (nw G7 20 160 (160 : Int).toNat) 5 501 [(1, 9, 0), (2, 20, 160), (3, 6, 0), (4, 20, 160), (5, 20, 160)] [(1, 0, 2), (3, 0, 4)] := CI_new hM7 (by decide) 20 160 (160 : Int).toNat
  generalize nw G7 20 160 (160 : Int).toNat = G8 at hM8 ⊢
  clear hM7
  refine x_putR (q := 22) dX6_init_19 rfl f_6_15 rfl (fun _ => ⟨rfl, rfl⟩) (hM8.2.2.1 (3, 6, 0) (by decide)).1 ?_
  have hM9 : CI G0 (sr G8 3 1 (some 5)) 5 501 [(1, 9, 0), (2, 20, 160), (3, 6, 0), (4, 20, 160), (5, 20, 160)] [(1, 0, 2), (3, 0, 4), (3, 1, 5)] := CI_put hM8 3 1 5 (by decide) (by decide)
  generalize sr G8 3 1 (some 5) = G9 at hM9 ⊢
  clear hM8
  refine x_aload_n (q := 23) dX6_init_22 rfl rfl ?_
  refine x_sipush (q := 26) dX6_init_23 rfl (by decide) ?_
  refine x_newarray (q := 28) dX6_init_26 rfl (by decide) ?_
  refine Ex.stk (st' := [.inr (.inr (some 6)), .inr (.inr (some 3))]) (by rw [hM9.1]) ?_
  have hM10 : CI G0 (nw G9 20 160 (160 : Int).toNat) 6 661 [(1, 9, 0), (2, 20, 160), (3, 6, 0), (4, 20, 160), (5, 20, 160), (6, 20, 160)] [(1, 0, 2), (3, 0, 4), (3, 1, 5)] := CI_new hM9 (by decide) 20 160 (160 : Int).toNat
  generalize nw G9 20 160 (160 : Int).toNat = G10 at hM10 ⊢
  clear hM9
  refine x_putR (q := 31) dX6_init_28 rfl f_6_18 rfl (fun _ => ⟨rfl, rfl⟩) (hM10.2.2.1 (3, 6, 0) (by decide)).1 ?_
  have hM11 : CI G0 (sr G10 3 2 (some 6)) 6 661 [(1, 9, 0), (2, 20, 160), (3, 6, 0), (4, 20, 160), (5, 20, 160), (6, 20, 160)] [(1, 0, 2), (3, 0, 4), (3, 1, 5), (3, 2, 6)] := CI_put hM10 3 2 6 (by decide) (by decide)
  generalize sr G10 3 2 (some 6) = G11 at hM11 ⊢
  clear hM10
  refine x_vret dX6_init_31 rfl ?_
  refine Ex.stk (st' := [.inr (.inr (some 3)), .inr (.inr (some 1))]) rfl ?_
  refine x_putR (q := 29) dX9_init_26 rfl f_9_20 rfl (fun _ => ⟨rfl, rfl⟩) (hM11.2.2.1 (1, 9, 0) (by decide)).1 ?_
  have hM12 : CI G0 (sr G11 1 3 (some 3)) 6 661 [(1, 9, 0), (2, 20, 160), (3, 6, 0), (4, 20, 160), (5, 20, 160), (6, 20, 160)] [(1, 0, 2), (3, 0, 4), (3, 1, 5), (3, 2, 6), (1, 3, 3)] := CI_put hM11 1 3 3 (by decide) (by decide)
  generalize sr G11 1 3 (some 3) = G12 at hM12 ⊢
  clear hM11
  refine x_aload_n (q := 30) dX9_init_29 rfl rfl ?_
  refine x_new (q := 33) dX9_init_30 rfl n_9_24 ?_
  refine Ex.stk (st' := [.inr (.inr (some 7)), .inr (.inr (some 1))]) (by rw [hM12.1]) ?_
  have hM13 : CI G0 (nw G12 5 0 (cN 5)) 7 666 [(1, 9, 0), (2, 20, 160), (3, 6, 0), (4, 20, 160), (5, 20, 160), (6, 20, 160), (7, 5, 0)] [(1, 0, 2), (3, 0, 4), (3, 1, 5), (3, 2, 6), (1, 3, 3)] := CI_new hM12 (by decide) 5 0 (cN 5)
  generalize nw G12 5 0 (cN 5) = G13 at hM13 ⊢
  clear hM12
  refine x_dup (q := 34) dX9_init_33 rfl rfl ?_
  refine x_invI (q := 37) (as := [.inr (.inr (some 7))]) (rest := [.inr (.inr (some 7)), .inr (.inr (some 1))]) dX9_init_34 rfl l_9_26 m_X5_init rfl rfl (Nat.le_of_ble_eq_true rfl) (CX.of m_X5_init (Nat.le_of_ble_eq_true rfl) ?_) (fun _ _ h => h)
  refine Ex.lcl (ls' := [some (.inr (.inr (some 7)))]) rfl ?_
  refine x_aload_n (q := 1) dX5_init_0 rfl rfl ?_
  refine x_objI (q := 4) dX5_init_1 rfl l_5_3 (Nat.le_of_ble_eq_true rfl) ?_
  refine x_aload_n (q := 5) dX5_init_4 rfl rfl ?_
  refine x_sipush (q := 8) dX5_init_5 rfl (by decide) ?_
  refine x_newarray (q := 10) dX5_init_8 rfl (by decide) ?_
  refine Ex.stk (st' := [.inr (.inr (some 8)), .inr (.inr (some 7))]) (by rw [hM13.1]) ?_
  have hM14 : CI G0 (nw G13 20 320 (320 : Int).toNat) 8 986 [(1, 9, 0), (2, 20, 160), (3, 6, 0), (4, 20, 160), (5, 20, 160), (6, 20, 160), (7, 5, 0), (8, 20, 320)] [(1, 0, 2), (3, 0, 4), (3, 1, 5), (3, 2, 6), (1, 3, 3)] := CI_new hM13 (by decide) 20 320 (320 : Int).toNat
  generalize nw G13 20 320 (320 : Int).toNat = G14 at hM14 ⊢
  clear hM13
  refine x_putR (q := 13) dX5_init_10 rfl f_5_9 rfl (fun _ => ⟨rfl, rfl⟩) (hM14.2.2.1 (7, 5, 0) (by decide)).1 ?_
  have hM15 : CI G0 (sr G14 7 0 (some 8)) 8 986 [(1, 9, 0), (2, 20, 160), (3, 6, 0), (4, 20, 160), (5, 20, 160), (6, 20, 160), (7, 5, 0), (8, 20, 320)] [(1, 0, 2), (3, 0, 4), (3, 1, 5), (3, 2, 6), (1, 3, 3), (7, 0, 8)] := CI_put hM14 7 0 8 (by decide) (by decide)
  generalize sr G14 7 0 (some 8) = G15 at hM15 ⊢
  clear hM14
  refine x_aload_n (q := 14) dX5_init_13 rfl rfl ?_
  refine x_sipush (q := 17) dX5_init_14 rfl (by decide) ?_
  refine x_newarray (q := 19) dX5_init_17 rfl (by decide) ?_
  refine Ex.stk (st' := [.inr (.inr (some 9)), .inr (.inr (some 7))]) (by rw [hM15.1]) ?_
  have hM16 : CI G0 (nw G15 20 320 (320 : Int).toNat) 9 1306 [(1, 9, 0), (2, 20, 160), (3, 6, 0), (4, 20, 160), (5, 20, 160), (6, 20, 160), (7, 5, 0), (8, 20, 320), (9, 20, 320)] [(1, 0, 2), (3, 0, 4), (3, 1, 5), (3, 2, 6), (1, 3, 3), (7, 0, 8)] := CI_new hM15 (by decide) 20 320 (320 : Int).toNat
  generalize nw G15 20 320 (320 : Int).toNat = G16 at hM16 ⊢
  clear hM15
  refine x_putR (q := 22) dX5_init_19 rfl f_5_15 rfl (fun _ => ⟨rfl, rfl⟩) (hM16.2.2.1 (7, 5, 0) (by decide)).1 ?_
  have hM17 : CI G0 (sr G16 7 1 (some 9)) 9 1306 [(1, 9, 0), (2, 20, 160), (3, 6, 0), (4, 20, 160), (5, 20, 160), (6, 20, 160), (7, 5, 0), (8, 20, 320), (9, 20, 320)] [(1, 0, 2), (3, 0, 4), (3, 1, 5), (3, 2, 6), (1, 3, 3), (7, 0, 8), (7, 1, 9)] := CI_put hM16 7 1 9 (by decide) (by decide)
  generalize sr G16 7 1 (some 9) = G17 at hM17 ⊢
  clear hM16
  refine x_aload_n (q := 23) dX5_init_22 rfl rfl ?_
  refine x_iconst (q := 24) dX5_init_23 rfl (by decide) ?_
  refine x_newarray (q := 26) dX5_init_24 rfl (by decide) ?_
  refine Ex.stk (st' := [.inr (.inr (some 10)), .inr (.inr (some 7))]) (by rw [hM17.1]) ?_
  have hM18 : CI G0 (nw G17 20 5 (5 : Int).toNat) 10 1311 [(1, 9, 0), (2, 20, 160), (3, 6, 0), (4, 20, 160), (5, 20, 160), (6, 20, 160), (7, 5, 0), (8, 20, 320), (9, 20, 320), (10, 20, 5)] [(1, 0, 2), (3, 0, 4), (3, 1, 5), (3, 2, 6), (1, 3, 3), (7, 0, 8), (7, 1, 9)] := CI_new hM17 (by decide) 20 5 (5 : Int).toNat
  generalize nw G17 20 5 (5 : Int).toNat = G18 at hM18 ⊢
  clear hM17
  refine x_putR (q := 29) dX5_init_26 rfl f_5_18 rfl (fun _ => ⟨rfl, rfl⟩) (hM18.2.2.1 (7, 5, 0) (by decide)).1 ?_
  have hM19 : CI G0 (sr G18 7 2 (some 10)) 10 1311 [(1, 9, 0), (2, 20, 160), (3, 6, 0), (4, 20, 160), (5, 20, 160), (6, 20, 160), (7, 5, 0), (8, 20, 320), (9, 20, 320), (10, 20, 5)] [(1, 0, 2), (3, 0, 4), (3, 1, 5), (3, 2, 6), (1, 3, 3), (7, 0, 8), (7, 1, 9), (7, 2, 10)] := CI_put hM18 7 2 10 (by decide) (by decide)
  generalize sr G18 7 2 (some 10) = G19 at hM19 ⊢
  clear hM18
  refine x_vret dX5_init_29 rfl ?_
  refine Ex.stk (st' := [.inr (.inr (some 7)), .inr (.inr (some 1))]) rfl ?_
  refine x_putR (q := 40) dX9_init_37 rfl f_9_27 rfl (fun h => by cases h) (hM19.2.2.1 (1, 9, 0) (by decide)).1 ?_
  have hM20 : CI G0 (sr G19 1 4 (some 7)) 10 1311 [(1, 9, 0), (2, 20, 160), (3, 6, 0), (4, 20, 160), (5, 20, 160), (6, 20, 160), (7, 5, 0), (8, 20, 320), (9, 20, 320), (10, 20, 5)] [(1, 0, 2), (3, 0, 4), (3, 1, 5), (3, 2, 6), (1, 3, 3), (7, 0, 8), (7, 1, 9), (7, 2, 10), (1, 4, 7)] := CI_put hM19 1 4 7 (by decide) (by decide)
  generalize sr G19 1 4 (some 7) = G20 at hM20 ⊢
  clear hM19
  refine x_aload_n (q := 41) dX9_init_40 rfl rfl ?_
  refine x_new (q := 44) dX9_init_41 rfl n_9_24 ?_
  refine Ex.stk (st' := [.inr (.inr (some 11)), .inr (.inr (some 1))]) (by rw [hM20.1]) ?_
  have hM21 : CI G0 (nw G20 5 0 (cN 5)) 11 1316 [(1, 9, 0), (2, 20, 160), (3, 6, 0), (4, 20, 160), (5, 20, 160), (6, 20, 160), (7, 5, 0), (8, 20, 320), (9, 20, 320), (10, 20, 5), (11, 5, 0)] [(1, 0, 2), (3, 0, 4), (3, 1, 5), (3, 2, 6), (1, 3, 3), (7, 0, 8), (7, 1, 9), (7, 2, 10), (1, 4, 7)] := CI_new hM20 (by decide) 5 0 (cN 5)
  generalize nw G20 5 0 (cN 5) = G21 at hM21 ⊢
  clear hM20
  refine x_dup (q := 45) dX9_init_44 rfl rfl ?_
  refine x_invI (q := 48) (as := [.inr (.inr (some 11))]) (rest := [.inr (.inr (some 11)), .inr (.inr (some 1))]) dX9_init_45 rfl l_9_26 m_X5_init rfl rfl (Nat.le_of_ble_eq_true rfl) (CX.of m_X5_init (Nat.le_of_ble_eq_true rfl) ?_) (fun _ _ h => h)
  refine Ex.lcl (ls' := [some (.inr (.inr (some 11)))]) rfl ?_
  refine x_aload_n (q := 1) dX5_init_0 rfl rfl ?_
  refine x_objI (q := 4) dX5_init_1 rfl l_5_3 (Nat.le_of_ble_eq_true rfl) ?_
  refine x_aload_n (q := 5) dX5_init_4 rfl rfl ?_
  refine x_sipush (q := 8) dX5_init_5 rfl (by decide) ?_
  refine x_newarray (q := 10) dX5_init_8 rfl (by decide) ?_
  refine Ex.stk (st' := [.inr (.inr (some 12)), .inr (.inr (some 11))]) (by rw [hM21.1]) ?_
  have hM22 : CI G0 (nw G21 20 320 (320 : Int).toNat) 12 1636 [(1, 9, 0), (2, 20, 160), (3, 6, 0), (4, 20, 160), (5, 20, 160), (6, 20, 160), (7, 5, 0), (8, 20, 320), (9, 20, 320), (10, 20, 5), (11, 5, 0), (12, 20, 320)] [(1, 0, 2), (3, 0, 4), (3, 1, 5), (3, 2, 6), (1, 3, 3), (7, 0, 8), (7, 1, 9), (7, 2, 10), (1, 4, 7)] := CI_new hM21 (by decide) 20 320 (320 : Int).toNat
  generalize nw G21 20 320 (320 : Int).toNat = G22 at hM22 ⊢
  clear hM21
  refine x_putR (q := 13) dX5_init_10 rfl f_5_9 rfl (fun _ => ⟨rfl, rfl⟩) (hM22.2.2.1 (11, 5, 0) (by decide)).1 ?_
  have hM23 : CI G0 (sr G22 11 0 (some 12)) 12 1636 [(1, 9, 0), (2, 20, 160), (3, 6, 0), (4, 20, 160), (5, 20, 160), (6, 20, 160), (7, 5, 0), (8, 20, 320), (9, 20, 320), (10, 20, 5), (11, 5, 0), (12, 20, 320)] [(1, 0, 2), (3, 0, 4), (3, 1, 5), (3, 2, 6), (1, 3, 3), (7, 0, 8), (7, 1, 9), (7, 2, 10), (1, 4, 7), (11, 0, 12)] := CI_put hM22 11 0 12 (by decide) (by decide)
  generalize sr G22 11 0 (some 12) = G23 at hM23 ⊢
  clear hM22
  refine x_aload_n (q := 14) dX5_init_13 rfl rfl ?_
  refine x_sipush (q := 17) dX5_init_14 rfl (by decide) ?_
  refine x_newarray (q := 19) dX5_init_17 rfl (by decide) ?_
  refine Ex.stk (st' := [.inr (.inr (some 13)), .inr (.inr (some 11))]) (by rw [hM23.1]) ?_
  have hM24 : CI G0 (nw G23 20 320 (320 : Int).toNat) 13 1956 [(1, 9, 0), (2, 20, 160), (3, 6, 0), (4, 20, 160), (5, 20, 160), (6, 20, 160), (7, 5, 0), (8, 20, 320), (9, 20, 320), (10, 20, 5), (11, 5, 0), (12, 20, 320), (13, 20, 320)] [(1, 0, 2), (3, 0, 4), (3, 1, 5), (3, 2, 6), (1, 3, 3), (7, 0, 8), (7, 1, 9), (7, 2, 10), (1, 4, 7), (11, 0, 12)] := CI_new hM23 (by decide) 20 320 (320 : Int).toNat
  generalize nw G23 20 320 (320 : Int).toNat = G24 at hM24 ⊢
  clear hM23
  refine x_putR (q := 22) dX5_init_19 rfl f_5_15 rfl (fun _ => ⟨rfl, rfl⟩) (hM24.2.2.1 (11, 5, 0) (by decide)).1 ?_
  have hM25 : CI G0 (sr G24 11 1 (some 13)) 13 1956 [(1, 9, 0), (2, 20, 160), (3, 6, 0), (4, 20, 160), (5, 20, 160), (6, 20, 160), (7, 5, 0), (8, 20, 320), (9, 20, 320), (10, 20, 5), (11, 5, 0), (12, 20, 320), (13, 20, 320)] [(1, 0, 2), (3, 0, 4), (3, 1, 5), (3, 2, 6), (1, 3, 3), (7, 0, 8), (7, 1, 9), (7, 2, 10), (1, 4, 7), (11, 0, 12), (11, 1, 13)] := CI_put hM24 11 1 13 (by decide) (by decide)
  generalize sr G24 11 1 (some 13) = G25 at hM25 ⊢
  clear hM24
  refine x_aload_n (q := 23) dX5_init_22 rfl rfl ?_
  refine x_iconst (q := 24) dX5_init_23 rfl (by decide) ?_
  refine x_newarray (q := 26) dX5_init_24 rfl (by decide) ?_
  refine Ex.stk (st' := [.inr (.inr (some 14)), .inr (.inr (some 11))]) (by rw [hM25.1]) ?_
  have hM26 : CI G0 (nw G25 20 5 (5 : Int).toNat) 14 1961 [(1, 9, 0), (2, 20, 160), (3, 6, 0), (4, 20, 160), (5, 20, 160), (6, 20, 160), (7, 5, 0), (8, 20, 320), (9, 20, 320), (10, 20, 5), (11, 5, 0), (12, 20, 320), (13, 20, 320), (14, 20, 5)] [(1, 0, 2), (3, 0, 4), (3, 1, 5), (3, 2, 6), (1, 3, 3), (7, 0, 8), (7, 1, 9), (7, 2, 10), (1, 4, 7), (11, 0, 12), (11, 1, 13)] := CI_new hM25 (by decide) 20 5 (5 : Int).toNat
  generalize nw G25 20 5 (5 : Int).toNat = G26 at hM26 ⊢
  clear hM25
  refine x_putR (q := 29) dX5_init_26 rfl f_5_18 rfl (fun _ => ⟨rfl, rfl⟩) (hM26.2.2.1 (11, 5, 0) (by decide)).1 ?_
  have hM27 : CI G0 (sr G26 11 2 (some 14)) 14 1961 [(1, 9, 0), (2, 20, 160), (3, 6, 0), (4, 20, 160), (5, 20, 160), (6, 20, 160), (7, 5, 0), (8, 20, 320), (9, 20, 320), (10, 20, 5), (11, 5, 0), (12, 20, 320), (13, 20, 320), (14, 20, 5)] [(1, 0, 2), (3, 0, 4), (3, 1, 5), (3, 2, 6), (1, 3, 3), (7, 0, 8), (7, 1, 9), (7, 2, 10), (1, 4, 7), (11, 0, 12), (11, 1, 13), (11, 2, 14)] := CI_put hM26 11 2 14 (by decide) (by decide)
  generalize sr G26 11 2 (some 14) = G27 at hM27 ⊢
  clear hM26
  refine x_vret dX5_init_29 rfl ?_
  refine Ex.stk (st' := [.inr (.inr (some 11)), .inr (.inr (some 1))]) rfl ?_
  refine x_putR (q := 51) dX9_init_48 rfl f_9_31 rfl (fun h => by cases h) (hM27.2.2.1 (1, 9, 0) (by decide)).1 ?_
  have hM28 : CI G0 (sr G27 1 5 (some 11)) 14 1961 [(1, 9, 0), (2, 20, 160), (3, 6, 0), (4, 20, 160), (5, 20, 160), (6, 20, 160), (7, 5, 0), (8, 20, 320), (9, 20, 320), (10, 20, 5), (11, 5, 0), (12, 20, 320), (13, 20, 320), (14, 20, 5)] [(1, 0, 2), (3, 0, 4), (3, 1, 5), (3, 2, 6), (1, 3, 3), (7, 0, 8), (7, 1, 9), (7, 2, 10), (1, 4, 7), (11, 0, 12), (11, 1, 13), (11, 2, 14), (1, 5, 11)] := CI_put hM27 1 5 11 (by decide) (by decide)
  generalize sr G27 1 5 (some 11) = G28 at hM28 ⊢
  clear hM27
  refine x_aload_n (q := 52) dX9_init_51 rfl rfl ?_
  refine x_new (q := 55) dX9_init_52 rfl n_9_34 ?_
  refine Ex.stk (st' := [.inr (.inr (some 15)), .inr (.inr (some 1))]) (by rw [hM28.1]) ?_
  have hM29 : CI G0 (nw G28 7 0 (cN 7)) 15 1965 [(1, 9, 0), (2, 20, 160), (3, 6, 0), (4, 20, 160), (5, 20, 160), (6, 20, 160), (7, 5, 0), (8, 20, 320), (9, 20, 320), (10, 20, 5), (11, 5, 0), (12, 20, 320), (13, 20, 320), (14, 20, 5), (15, 7, 0)] [(1, 0, 2), (3, 0, 4), (3, 1, 5), (3, 2, 6), (1, 3, 3), (7, 0, 8), (7, 1, 9), (7, 2, 10), (1, 4, 7), (11, 0, 12), (11, 1, 13), (11, 2, 14), (1, 5, 11)] := CI_new hM28 (by decide) 7 0 (cN 7)
  generalize nw G28 7 0 (cN 7) = G29 at hM29 ⊢
  clear hM28
  refine x_dup (q := 56) dX9_init_55 rfl rfl ?_
  refine x_invI (q := 59) (as := [.inr (.inr (some 15))]) (rest := [.inr (.inr (some 15)), .inr (.inr (some 1))]) dX9_init_56 rfl l_9_36 m_X7_init rfl rfl (Nat.le_of_ble_eq_true rfl) (CX.of m_X7_init (Nat.le_of_ble_eq_true rfl) ?_) (fun _ _ h => h)
  refine Ex.lcl (ls' := [some (.inr (.inr (some 15)))]) rfl ?_
  refine x_aload_n (q := 1) dX7_init_0 rfl rfl ?_
  refine x_objI (q := 4) dX7_init_1 rfl l_7_3 (Nat.le_of_ble_eq_true rfl) ?_
  refine x_aload_n (q := 5) dX7_init_4 rfl rfl ?_
  refine x_bipush (q := 7) dX7_init_5 rfl (by decide) ?_
  refine x_newarray (q := 9) dX7_init_7 rfl (by decide) ?_
  refine Ex.stk (st' := [.inr (.inr (some 16)), .inr (.inr (some 15))]) (by rw [hM29.1]) ?_
  have hM30 : CI G0 (nw G29 20 8 (8 : Int).toNat) 16 1973 [(1, 9, 0), (2, 20, 160), (3, 6, 0), (4, 20, 160), (5, 20, 160), (6, 20, 160), (7, 5, 0), (8, 20, 320), (9, 20, 320), (10, 20, 5), (11, 5, 0), (12, 20, 320), (13, 20, 320), (14, 20, 5), (15, 7, 0), (16, 20, 8)] [(1, 0, 2), (3, 0, 4), (3, 1, 5), (3, 2, 6), (1, 3, 3), (7, 0, 8), (7, 1, 9), (7, 2, 10), (1, 4, 7), (11, 0, 12), (11, 1, 13), (11, 2, 14), (1, 5, 11)] := CI_new hM29 (by decide) 20 8 (8 : Int).toNat
  generalize nw G29 20 8 (8 : Int).toNat = G30 at hM30 ⊢
  clear hM29
  refine x_putR (q := 12) dX7_init_9 rfl f_7_9 rfl (fun _ => ⟨rfl, rfl⟩) (hM30.2.2.1 (15, 7, 0) (by decide)).1 ?_
  have hM31 : CI G0 (sr G30 15 0 (some 16)) 16 1973 [(1, 9, 0), (2, 20, 160), (3, 6, 0), (4, 20, 160), (5, 20, 160), (6, 20, 160), (7, 5, 0), (8, 20, 320), (9, 20, 320), (10, 20, 5), (11, 5, 0), (12, 20, 320), (13, 20, 320), (14, 20, 5), (15, 7, 0), (16, 20, 8)] [(1, 0, 2), (3, 0, 4), (3, 1, 5), (3, 2, 6), (1, 3, 3), (7, 0, 8), (7, 1, 9), (7, 2, 10), (1, 4, 7), (11, 0, 12), (11, 1, 13), (11, 2, 14), (1, 5, 11), (15, 0, 16)] := CI_put hM30 15 0 16 (by decide) (by decide)
  generalize sr G30 15 0 (some 16) = G31 at hM31 ⊢
  clear hM30
  refine x_vret dX7_init_12 rfl ?_
  refine Ex.stk (st' := [.inr (.inr (some 15)), .inr (.inr (some 1))]) rfl ?_
  refine x_putR (q := 62) dX9_init_59 rfl f_9_37 rfl (fun _ => ⟨rfl, rfl⟩) (hM31.2.2.1 (1, 9, 0) (by decide)).1 ?_
  have hM32 : CI G0 (sr G31 1 6 (some 15)) 16 1973 [(1, 9, 0), (2, 20, 160), (3, 6, 0), (4, 20, 160), (5, 20, 160), (6, 20, 160), (7, 5, 0), (8, 20, 320), (9, 20, 320), (10, 20, 5), (11, 5, 0), (12, 20, 320), (13, 20, 320), (14, 20, 5), (15, 7, 0), (16, 20, 8)] [(1, 0, 2), (3, 0, 4), (3, 1, 5), (3, 2, 6), (1, 3, 3), (7, 0, 8), (7, 1, 9), (7, 2, 10), (1, 4, 7), (11, 0, 12), (11, 1, 13), (11, 2, 14), (1, 5, 11), (15, 0, 16), (1, 6, 15)] := CI_put hM31 1 6 15 (by decide) (by decide)
  generalize sr G31 1 6 (some 15) = G32 at hM32 ⊢
  clear hM31
  refine x_aload_n (q := 63) dX9_init_62 rfl rfl ?_
  refine x_new (q := 66) dX9_init_63 rfl n_9_41 ?_
  refine Ex.stk (st' := [.inr (.inr (some 17)), .inr (.inr (some 1))]) (by rw [hM32.1]) ?_
  have hM33 : CI G0 (nw G32 8 0 (cN 8)) 17 1976 [(1, 9, 0), (2, 20, 160), (3, 6, 0), (4, 20, 160), (5, 20, 160), (6, 20, 160), (7, 5, 0), (8, 20, 320), (9, 20, 320), (10, 20, 5), (11, 5, 0), (12, 20, 320), (13, 20, 320), (14, 20, 5), (15, 7, 0), (16, 20, 8), (17, 8, 0)] [(1, 0, 2), (3, 0, 4), (3, 1, 5), (3, 2, 6), (1, 3, 3), (7, 0, 8), (7, 1, 9), (7, 2, 10), (1, 4, 7), (11, 0, 12), (11, 1, 13), (11, 2, 14), (1, 5, 11), (15, 0, 16), (1, 6, 15)] := CI_new hM32 (by decide) 8 0 (cN 8)
  generalize nw G32 8 0 (cN 8) = G33 at hM33 ⊢
  clear hM32
  refine x_dup (q := 67) dX9_init_66 rfl rfl ?_
  refine x_invI (q := 70) (as := [.inr (.inr (some 17))]) (rest := [.inr (.inr (some 17)), .inr (.inr (some 1))]) dX9_init_67 rfl l_9_43 m_X8_init rfl rfl (Nat.le_of_ble_eq_true rfl) (CX.of m_X8_init (Nat.le_of_ble_eq_true rfl) ?_) (fun _ _ h => h)
  refine Ex.lcl (ls' := [some (.inr (.inr (some 17)))]) rfl ?_
  refine x_aload_n (q := 1) dX8_init_0 rfl rfl ?_
  refine x_objI (q := 4) dX8_init_1 rfl l_8_3 (Nat.le_of_ble_eq_true rfl) ?_
  refine x_aload_n (q := 5) dX8_init_4 rfl rfl ?_
  refine x_sipush (q := 8) dX8_init_5 rfl (by decide) ?_
  refine x_anewC (q := 11) dX8_init_8 rfl n_8_9 (by decide) ?_
  refine Ex.stk (st' := [.inr (.inr (some 18)), .inr (.inr (some 17))]) (by rw [hM33.1]) ?_
  have hM34 : CI G0 (nw G33 21 364 (364 : Int).toNat) 18 2340 [(1, 9, 0), (2, 20, 160), (3, 6, 0), (4, 20, 160), (5, 20, 160), (6, 20, 160), (7, 5, 0), (8, 20, 320), (9, 20, 320), (10, 20, 5), (11, 5, 0), (12, 20, 320), (13, 20, 320), (14, 20, 5), (15, 7, 0), (16, 20, 8), (17, 8, 0), (18, 21, 364)] [(1, 0, 2), (3, 0, 4), (3, 1, 5), (3, 2, 6), (1, 3, 3), (7, 0, 8), (7, 1, 9), (7, 2, 10), (1, 4, 7), (11, 0, 12), (11, 1, 13), (11, 2, 14), (1, 5, 11), (15, 0, 16), (1, 6, 15)] := CI_new hM33 (by decide) 21 364 (364 : Int).toNat
  generalize nw G33 21 364 (364 : Int).toNat = G34 at hM34 ⊢
  clear hM33
  refine x_putR (q := 14) dX8_init_11 rfl f_8_11 rfl (fun _ => ⟨rfl, rfl⟩) (hM34.2.2.1 (17, 8, 0) (by decide)).1 ?_
  have hM35 : CI G0 (sr G34 17 0 (some 18)) 18 2340 [(1, 9, 0), (2, 20, 160), (3, 6, 0), (4, 20, 160), (5, 20, 160), (6, 20, 160), (7, 5, 0), (8, 20, 320), (9, 20, 320), (10, 20, 5), (11, 5, 0), (12, 20, 320), (13, 20, 320), (14, 20, 5), (15, 7, 0), (16, 20, 8), (17, 8, 0), (18, 21, 364)] [(1, 0, 2), (3, 0, 4), (3, 1, 5), (3, 2, 6), (1, 3, 3), (7, 0, 8), (7, 1, 9), (7, 2, 10), (1, 4, 7), (11, 0, 12), (11, 1, 13), (11, 2, 14), (1, 5, 11), (15, 0, 16), (1, 6, 15), (17, 0, 18)] := CI_put hM34 17 0 18 (by decide) (by decide)
  generalize sr G34 17 0 (some 18) = G35 at hM35 ⊢
  clear hM34
  refine x_vret dX8_init_14 rfl ?_
  refine Ex.stk (st' := [.inr (.inr (some 17)), .inr (.inr (some 1))]) rfl ?_
  refine x_putR (q := 73) dX9_init_70 rfl f_9_44 rfl (fun _ => ⟨rfl, rfl⟩) (hM35.2.2.1 (1, 9, 0) (by decide)).1 ?_
  have hM36 : CI G0 (sr G35 1 9 (some 17)) 18 2340 [(1, 9, 0), (2, 20, 160), (3, 6, 0), (4, 20, 160), (5, 20, 160), (6, 20, 160), (7, 5, 0), (8, 20, 320), (9, 20, 320), (10, 20, 5), (11, 5, 0), (12, 20, 320), (13, 20, 320), (14, 20, 5), (15, 7, 0), (16, 20, 8), (17, 8, 0), (18, 21, 364)] [(1, 0, 2), (3, 0, 4), (3, 1, 5), (3, 2, 6), (1, 3, 3), (7, 0, 8), (7, 1, 9), (7, 2, 10), (1, 4, 7), (11, 0, 12), (11, 1, 13), (11, 2, 14), (1, 5, 11), (15, 0, 16), (1, 6, 15), (17, 0, 18), (1, 9, 17)] := CI_put hM35 1 9 17 (by decide) (by decide)
  generalize sr G35 1 9 (some 17) = G36 at hM36 ⊢
  clear hM35
  refine x_aload_n (q := 74) dX9_init_73 rfl rfl ?_
  refine x_new (q := 77) dX9_init_74 rfl n_9_48 ?_
  refine Ex.stk (st' := [.inr (.inr (some 19)), .inr (.inr (some 1))]) (by rw [hM36.1]) ?_
  have hM37 : CI G0 (nw G36 2 0 (cN 2)) 19 2345 [(1, 9, 0), (2, 20, 160), (3, 6, 0), (4, 20, 160), (5, 20, 160), (6, 20, 160), (7, 5, 0), (8, 20, 320), (9, 20, 320), (10, 20, 5), (11, 5, 0), (12, 20, 320), (13, 20, 320), (14, 20, 5), (15, 7, 0), (16, 20, 8), (17, 8, 0), (18, 21, 364), (19, 2, 0)] [(1, 0, 2), (3, 0, 4), (3, 1, 5), (3, 2, 6), (1, 3, 3), (7, 0, 8), (7, 1, 9), (7, 2, 10), (1, 4, 7), (11, 0, 12), (11, 1, 13), (11, 2, 14), (1, 5, 11), (15, 0, 16), (1, 6, 15), (17, 0, 18), (1, 9, 17)] := CI_new hM36 (by decide) 2 0 (cN 2)
  generalize nw G36 2 0 (cN 2) = G37 at hM37 ⊢
  clear hM36
  refine x_dup (q := 78) dX9_init_77 rfl rfl ?_
  refine x_invI (q := 81) (as := [.inr (.inr (some 19))]) (rest := [.inr (.inr (some 19)), .inr (.inr (some 1))]) dX9_init_78 rfl l_9_50 m_X2_init rfl rfl (Nat.le_of_ble_eq_true rfl) (CX.of m_X2_init (Nat.le_of_ble_eq_true rfl) ?_) (fun _ _ h => h)
  refine Ex.lcl (ls' := [some (.inr (.inr (some 19)))]) rfl ?_
  refine x_aload_n (q := 1) dX2_init_0 rfl rfl ?_
  refine x_objI (q := 4) dX2_init_1 rfl l_2_3 (Nat.le_of_ble_eq_true rfl) ?_
  refine x_aload_n (q := 5) dX2_init_4 rfl rfl ?_
  refine x_bipush (q := 7) dX2_init_5 rfl (by decide) ?_
  refine x_newarray (q := 9) dX2_init_7 rfl (by decide) ?_
  refine Ex.stk (st' := [.inr (.inr (some 20)), .inr (.inr (some 19))]) (by rw [hM37.1]) ?_
  have hM38 : CI G0 (nw G37 20 16 (16 : Int).toNat) 20 2361 [(1, 9, 0), (2, 20, 160), (3, 6, 0), (4, 20, 160), (5, 20, 160), (6, 20, 160), (7, 5, 0), (8, 20, 320), (9, 20, 320), (10, 20, 5), (11, 5, 0), (12, 20, 320), (13, 20, 320), (14, 20, 5), (15, 7, 0), (16, 20, 8), (17, 8, 0), (18, 21, 364), (19, 2, 0), (20, 20, 16)] [(1, 0, 2), (3, 0, 4), (3, 1, 5), (3, 2, 6), (1, 3, 3), (7, 0, 8), (7, 1, 9), (7, 2, 10), (1, 4, 7), (11, 0, 12), (11, 1, 13), (11, 2, 14), (1, 5, 11), (15, 0, 16), (1, 6, 15), (17, 0, 18), (1, 9, 17)] := CI_new hM37 (by decide) 20 16 (16 : Int).toNat
  generalize nw G37 20 16 (16 : Int).toNat = G38 at hM38 ⊢
  clear hM37
  refine x_putR (q := 12) dX2_init_9 rfl f_2_9 rfl (fun _ => ⟨rfl, rfl⟩) (hM38.2.2.1 (19, 2, 0) (by decide)).1 ?_
  have hM39 : CI G0 (sr G38 19 0 (some 20)) 20 2361 [(1, 9, 0), (2, 20, 160), (3, 6, 0), (4, 20, 160), (5, 20, 160), (6, 20, 160), (7, 5, 0), (8, 20, 320), (9, 20, 320), (10, 20, 5), (11, 5, 0), (12, 20, 320), (13, 20, 320), (14, 20, 5), (15, 7, 0), (16, 20, 8), (17, 8, 0), (18, 21, 364), (19, 2, 0), (20, 20, 16)] [(1, 0, 2), (3, 0, 4), (3, 1, 5), (3, 2, 6), (1, 3, 3), (7, 0, 8), (7, 1, 9), (7, 2, 10), (1, 4, 7), (11, 0, 12), (11, 1, 13), (11, 2, 14), (1, 5, 11), (15, 0, 16), (1, 6, 15), (17, 0, 18), (1, 9, 17), (19, 0, 20)] := CI_put hM38 19 0 20 (by decide) (by decide)
  generalize sr G38 19 0 (some 20) = G39 at hM39 ⊢
  clear hM38
  refine x_aload_n (q := 13) dX2_init_12 rfl rfl ?_
  refine x_bipush (q := 15) dX2_init_13 rfl (by decide) ?_
  refine x_newarray (q := 17) dX2_init_15 rfl (by decide) ?_
  refine Ex.stk (st' := [.inr (.inr (some 21)), .inr (.inr (some 19))]) (by rw [hM39.1]) ?_
  have hM40 : CI G0 (nw G39 20 16 (16 : Int).toNat) 21 2377 [(1, 9, 0), (2, 20, 160), (3, 6, 0), (4, 20, 160), (5, 20, 160), (6, 20, 160), (7, 5, 0), (8, 20, 320), (9, 20, 320), (10, 20, 5), (11, 5, 0), (12, 20, 320), (13, 20, 320), (14, 20, 5), (15, 7, 0), (16, 20, 8), (17, 8, 0), (18, 21, 364), (19, 2, 0), (20, 20, 16), (21, 20, 16)] [(1, 0, 2), (3, 0, 4), (3, 1, 5), (3, 2, 6), (1, 3, 3), (7, 0, 8), (7, 1, 9), (7, 2, 10), (1, 4, 7), (11, 0, 12), (11, 1, 13), (11, 2, 14), (1, 5, 11), (15, 0, 16), (1, 6, 15), (17, 0, 18), (1, 9, 17), (19, 0, 20)] := CI_new hM39 (by decide) 20 16 (16 : Int).toNat
  generalize nw G39 20 16 (16 : Int).toNat = G40 at hM40 ⊢
  clear hM39
  refine x_putR (q := 20) dX2_init_17 rfl f_2_15 rfl (fun _ => ⟨rfl, rfl⟩) (hM40.2.2.1 (19, 2, 0) (by decide)).1 ?_
  have hM41 : CI G0 (sr G40 19 1 (some 21)) 21 2377 [(1, 9, 0), (2, 20, 160), (3, 6, 0), (4, 20, 160), (5, 20, 160), (6, 20, 160), (7, 5, 0), (8, 20, 320), (9, 20, 320), (10, 20, 5), (11, 5, 0), (12, 20, 320), (13, 20, 320), (14, 20, 5), (15, 7, 0), (16, 20, 8), (17, 8, 0), (18, 21, 364), (19, 2, 0), (20, 20, 16), (21, 20, 16)] [(1, 0, 2), (3, 0, 4), (3, 1, 5), (3, 2, 6), (1, 3, 3), (7, 0, 8), (7, 1, 9), (7, 2, 10), (1, 4, 7), (11, 0, 12), (11, 1, 13), (11, 2, 14), (1, 5, 11), (15, 0, 16), (1, 6, 15), (17, 0, 18), (1, 9, 17), (19, 0, 20), (19, 1, 21)] := CI_put hM40 19 1 21 (by decide) (by decide)
  generalize sr G40 19 1 (some 21) = G41 at hM41 ⊢
  clear hM40
  refine x_aload_n (q := 21) dX2_init_20 rfl rfl ?_
  refine x_bipush (q := 23) dX2_init_21 rfl (by decide) ?_
  refine x_newarray (q := 25) dX2_init_23 rfl (by decide) ?_
  refine Ex.stk (st' := [.inr (.inr (some 22)), .inr (.inr (some 19))]) (by rw [hM41.1]) ?_
  have hM42 : CI G0 (nw G41 20 16 (16 : Int).toNat) 22 2393 [(1, 9, 0), (2, 20, 160), (3, 6, 0), (4, 20, 160), (5, 20, 160), (6, 20, 160), (7, 5, 0), (8, 20, 320), (9, 20, 320), (10, 20, 5), (11, 5, 0), (12, 20, 320), (13, 20, 320), (14, 20, 5), (15, 7, 0), (16, 20, 8), (17, 8, 0), (18, 21, 364), (19, 2, 0), (20, 20, 16), (21, 20, 16), (22, 20, 16)] [(1, 0, 2), (3, 0, 4), (3, 1, 5), (3, 2, 6), (1, 3, 3), (7, 0, 8), (7, 1, 9), (7, 2, 10), (1, 4, 7), (11, 0, 12), (11, 1, 13), (11, 2, 14), (1, 5, 11), (15, 0, 16), (1, 6, 15), (17, 0, 18), (1, 9, 17), (19, 0, 20), (19, 1, 21)] := CI_new hM41 (by decide) 20 16 (16 : Int).toNat
  generalize nw G41 20 16 (16 : Int).toNat = G42 at hM42 ⊢
  clear hM41
  refine x_putR (q := 28) dX2_init_25 rfl f_2_18 rfl (fun _ => ⟨rfl, rfl⟩) (hM42.2.2.1 (19, 2, 0) (by decide)).1 ?_
  have hM43 : CI G0 (sr G42 19 2 (some 22)) 22 2393 [(1, 9, 0), (2, 20, 160), (3, 6, 0), (4, 20, 160), (5, 20, 160), (6, 20, 160), (7, 5, 0), (8, 20, 320), (9, 20, 320), (10, 20, 5), (11, 5, 0), (12, 20, 320), (13, 20, 320), (14, 20, 5), (15, 7, 0), (16, 20, 8), (17, 8, 0), (18, 21, 364), (19, 2, 0), (20, 20, 16), (21, 20, 16), (22, 20, 16)] [(1, 0, 2), (3, 0, 4), (3, 1, 5), (3, 2, 6), (1, 3, 3), (7, 0, 8), (7, 1, 9), (7, 2, 10), (1, 4, 7), (11, 0, 12), (11, 1, 13), (11, 2, 14), (1, 5, 11), (15, 0, 16), (1, 6, 15), (17, 0, 18), (1, 9, 17), (19, 0, 20), (19, 1, 21), (19, 2, 22)] := CI_put hM42 19 2 22 (by decide) (by decide)
  generalize sr G42 19 2 (some 22) = G43 at hM43 ⊢
  clear hM42
  refine x_vret dX2_init_28 rfl ?_
  refine Ex.stk (st' := [.inr (.inr (some 19)), .inr (.inr (some 1))]) rfl ?_
  refine x_putR (q := 84) dX9_init_81 rfl f_9_51 rfl (fun _ => ⟨rfl, rfl⟩) (hM43.2.2.1 (1, 9, 0) (by decide)).1 ?_
  have hM44 : CI G0 (sr G43 1 10 (some 19)) 22 2393 [(1, 9, 0), (2, 20, 160), (3, 6, 0), (4, 20, 160), (5, 20, 160), (6, 20, 160), (7, 5, 0), (8, 20, 320), (9, 20, 320), (10, 20, 5), (11, 5, 0), (12, 20, 320), (13, 20, 320), (14, 20, 5), (15, 7, 0), (16, 20, 8), (17, 8, 0), (18, 21, 364), (19, 2, 0), (20, 20, 16), (21, 20, 16), (22, 20, 16)] [(1, 0, 2), (3, 0, 4), (3, 1, 5), (3, 2, 6), (1, 3, 3), (7, 0, 8), (7, 1, 9), (7, 2, 10), (1, 4, 7), (11, 0, 12), (11, 1, 13), (11, 2, 14), (1, 5, 11), (15, 0, 16), (1, 6, 15), (17, 0, 18), (1, 9, 17), (19, 0, 20), (19, 1, 21), (19, 2, 22), (1, 10, 19)] := CI_put hM43 1 10 19 (by decide) (by decide)
  generalize sr G43 1 10 (some 19) = G44 at hM44 ⊢
  clear hM43
  refine x_aload_n (q := 85) dX9_init_84 rfl rfl ?_
  refine x_new (q := 88) dX9_init_85 rfl n_9_55 ?_
  refine Ex.stk (st' := [.inr (.inr (some 23)), .inr (.inr (some 1))]) (by rw [hM44.1]) ?_
  have hM45 : CI G0 (nw G44 0 0 (cN 0)) 23 2397 [(1, 9, 0), (2, 20, 160), (3, 6, 0), (4, 20, 160), (5, 20, 160), (6, 20, 160), (7, 5, 0), (8, 20, 320), (9, 20, 320), (10, 20, 5), (11, 5, 0), (12, 20, 320), (13, 20, 320), (14, 20, 5), (15, 7, 0), (16, 20, 8), (17, 8, 0), (18, 21, 364), (19, 2, 0), (20, 20, 16), (21, 20, 16), (22, 20, 16), (23, 0, 0)] [(1, 0, 2), (3, 0, 4), (3, 1, 5), (3, 2, 6), (1, 3, 3), (7, 0, 8), (7, 1, 9), (7, 2, 10), (1, 4, 7), (11, 0, 12), (11, 1, 13), (11, 2, 14), (1, 5, 11), (15, 0, 16), (1, 6, 15), (17, 0, 18), (1, 9, 17), (19, 0, 20), (19, 1, 21), (19, 2, 22), (1, 10, 19)] := CI_new hM44 (by decide) 0 0 (cN 0)
  generalize nw G44 0 0 (cN 0) = G45 at hM45 ⊢
  clear hM44
  refine x_dup (q := 89) dX9_init_88 rfl rfl ?_
  refine x_invI (q := 92) (as := [.inr (.inr (some 23))]) (rest := [.inr (.inr (some 23)), .inr (.inr (some 1))]) dX9_init_89 rfl l_9_57 m_X0_init rfl rfl (Nat.le_of_ble_eq_true rfl) (CX.of m_X0_init (Nat.le_of_ble_eq_true rfl) ?_) (fun _ _ h => h)
  refine Ex.lcl (ls' := [some (.inr (.inr (some 23)))]) rfl ?_
  refine x_aload_n (q := 1) dX0_init_0 rfl rfl ?_
  refine x_objI (q := 4) dX0_init_1 rfl l_0_3 (Nat.le_of_ble_eq_true rfl) ?_
  refine x_aload_n (q := 5) dX0_init_4 rfl rfl ?_
  refine x_bipush (q := 7) dX0_init_5 rfl (by decide) ?_
  refine x_newarray (q := 9) dX0_init_7 rfl (by decide) ?_
  refine Ex.stk (st' := [.inr (.inr (some 24)), .inr (.inr (some 23))]) (by rw [hM45.1]) ?_
  have hM46 : CI G0 (nw G45 20 20 (20 : Int).toNat) 24 2417 [(1, 9, 0), (2, 20, 160), (3, 6, 0), (4, 20, 160), (5, 20, 160), (6, 20, 160), (7, 5, 0), (8, 20, 320), (9, 20, 320), (10, 20, 5), (11, 5, 0), (12, 20, 320), (13, 20, 320), (14, 20, 5), (15, 7, 0), (16, 20, 8), (17, 8, 0), (18, 21, 364), (19, 2, 0), (20, 20, 16), (21, 20, 16), (22, 20, 16), (23, 0, 0), (24, 20, 20)] [(1, 0, 2), (3, 0, 4), (3, 1, 5), (3, 2, 6), (1, 3, 3), (7, 0, 8), (7, 1, 9), (7, 2, 10), (1, 4, 7), (11, 0, 12), (11, 1, 13), (11, 2, 14), (1, 5, 11), (15, 0, 16), (1, 6, 15), (17, 0, 18), (1, 9, 17), (19, 0, 20), (19, 1, 21), (19, 2, 22), (1, 10, 19)] := CI_new hM45 (by decide) 20 20 (20 : Int).toNat
  generalize nw G45 20 20 (20 : Int).toNat = G46 at hM46 ⊢
  clear hM45
  refine x_putR (q := 12) dX0_init_9 rfl f_0_9 rfl (fun _ => ⟨rfl, rfl⟩) (hM46.2.2.1 (23, 0, 0) (by decide)).1 ?_
  have hM47 : CI G0 (sr G46 23 0 (some 24)) 24 2417 [(1, 9, 0), (2, 20, 160), (3, 6, 0), (4, 20, 160), (5, 20, 160), (6, 20, 160), (7, 5, 0), (8, 20, 320), (9, 20, 320), (10, 20, 5), (11, 5, 0), (12, 20, 320), (13, 20, 320), (14, 20, 5), (15, 7, 0), (16, 20, 8), (17, 8, 0), (18, 21, 364), (19, 2, 0), (20, 20, 16), (21, 20, 16), (22, 20, 16), (23, 0, 0), (24, 20, 20)] [(1, 0, 2), (3, 0, 4), (3, 1, 5), (3, 2, 6), (1, 3, 3), (7, 0, 8), (7, 1, 9), (7, 2, 10), (1, 4, 7), (11, 0, 12), (11, 1, 13), (11, 2, 14), (1, 5, 11), (15, 0, 16), (1, 6, 15), (17, 0, 18), (1, 9, 17), (19, 0, 20), (19, 1, 21), (19, 2, 22), (1, 10, 19), (23, 0, 24)] := CI_put hM46 23 0 24 (by decide) (by decide)
  generalize sr G46 23 0 (some 24) = G47 at hM47 ⊢
  clear hM46
  refine x_aload_n (q := 13) dX0_init_12 rfl rfl ?_
  refine x_bipush (q := 15) dX0_init_13 rfl (by decide) ?_
  refine x_newarray (q := 17) dX0_init_15 rfl (by decide) ?_
  refine Ex.stk (st' := [.inr (.inr (some 25)), .inr (.inr (some 23))]) (by rw [hM47.1]) ?_
  have hM48 : CI G0 (nw G47 20 20 (20 : Int).toNat) 25 2437 [(1, 9, 0), (2, 20, 160), (3, 6, 0), (4, 20, 160), (5, 20, 160), (6, 20, 160), (7, 5, 0), (8, 20, 320), (9, 20, 320), (10, 20, 5), (11, 5, 0), (12, 20, 320), (13, 20, 320), (14, 20, 5), (15, 7, 0), (16, 20, 8), (17, 8, 0), (18, 21, 364), (19, 2, 0), (20, 20, 16), (21, 20, 16), (22, 20, 16), (23, 0, 0), (24, 20, 20), (25, 20, 20)] [(1, 0, 2), (3, 0, 4), (3, 1, 5), (3, 2, 6), (1, 3, 3), (7, 0, 8), (7, 1, 9), (7, 2, 10), (1, 4, 7), (11, 0, 12), (11, 1, 13), (11, 2, 14), (1, 5, 11), (15, 0, 16), (1, 6, 15), (17, 0, 18), (1, 9, 17), (19, 0, 20), (19, 1, 21), (19, 2, 22), (1, 10, 19), (23, 0, 24)] := CI_new hM47 (by decide) 20 20 (20 : Int).toNat
  generalize nw G47 20 20 (20 : Int).toNat = G48 at hM48 ⊢
  clear hM47
  refine x_putR (q := 20) dX0_init_17 rfl f_0_15 rfl (fun _ => ⟨rfl, rfl⟩) (hM48.2.2.1 (23, 0, 0) (by decide)).1 ?_
  have hM49 : CI G0 (sr G48 23 1 (some 25)) 25 2437 [(1, 9, 0), (2, 20, 160), (3, 6, 0), (4, 20, 160), (5, 20, 160), (6, 20, 160), (7, 5, 0), (8, 20, 320), (9, 20, 320), (10, 20, 5), (11, 5, 0), (12, 20, 320), (13, 20, 320), (14, 20, 5), (15, 7, 0), (16, 20, 8), (17, 8, 0), (18, 21, 364), (19, 2, 0), (20, 20, 16), (21, 20, 16), (22, 20, 16), (23, 0, 0), (24, 20, 20), (25, 20, 20)] [(1, 0, 2), (3, 0, 4), (3, 1, 5), (3, 2, 6), (1, 3, 3), (7, 0, 8), (7, 1, 9), (7, 2, 10), (1, 4, 7), (11, 0, 12), (11, 1, 13), (11, 2, 14), (1, 5, 11), (15, 0, 16), (1, 6, 15), (17, 0, 18), (1, 9, 17), (19, 0, 20), (19, 1, 21), (19, 2, 22), (1, 10, 19), (23, 0, 24), (23, 1, 25)] := CI_put hM48 23 1 25 (by decide) (by decide)
  generalize sr G48 23 1 (some 25) = G49 at hM49 ⊢
  clear hM48
  refine x_aload_n (q := 21) dX0_init_20 rfl rfl ?_
  refine x_bipush (q := 23) dX0_init_21 rfl (by decide) ?_
  refine x_newarray (q := 25) dX0_init_23 rfl (by decide) ?_
  refine Ex.stk (st' := [.inr (.inr (some 26)), .inr (.inr (some 23))]) (by rw [hM49.1]) ?_
  have hM50 : CI G0 (nw G49 20 20 (20 : Int).toNat) 26 2457 [(1, 9, 0), (2, 20, 160), (3, 6, 0), (4, 20, 160), (5, 20, 160), (6, 20, 160), (7, 5, 0), (8, 20, 320), (9, 20, 320), (10, 20, 5), (11, 5, 0), (12, 20, 320), (13, 20, 320), (14, 20, 5), (15, 7, 0), (16, 20, 8), (17, 8, 0), (18, 21, 364), (19, 2, 0), (20, 20, 16), (21, 20, 16), (22, 20, 16), (23, 0, 0), (24, 20, 20), (25, 20, 20), (26, 20, 20)] [(1, 0, 2), (3, 0, 4), (3, 1, 5), (3, 2, 6), (1, 3, 3), (7, 0, 8), (7, 1, 9), (7, 2, 10), (1, 4, 7), (11, 0, 12), (11, 1, 13), (11, 2, 14), (1, 5, 11), (15, 0, 16), (1, 6, 15), (17, 0, 18), (1, 9, 17), (19, 0, 20), (19, 1, 21), (19, 2, 22), (1, 10, 19), (23, 0, 24), (23, 1, 25)] := CI_new hM49 (by decide) 20 20 (20 : Int).toNat
  generalize nw G49 20 20 (20 : Int).toNat = G50 at hM50 ⊢
  clear hM49
  refine x_putR (q := 28) dX0_init_25 rfl f_0_18 rfl (fun _ => ⟨rfl, rfl⟩) (hM50.2.2.1 (23, 0, 0) (by decide)).1 ?_
  have hM51 : CI G0 (sr G50 23 2 (some 26)) 26 2457 [(1, 9, 0), (2, 20, 160), (3, 6, 0), (4, 20, 160), (5, 20, 160), (6, 20, 160), (7, 5, 0), (8, 20, 320), (9, 20, 320), (10, 20, 5), (11, 5, 0), (12, 20, 320), (13, 20, 320), (14, 20, 5), (15, 7, 0), (16, 20, 8), (17, 8, 0), (18, 21, 364), (19, 2, 0), (20, 20, 16), (21, 20, 16), (22, 20, 16), (23, 0, 0), (24, 20, 20), (25, 20, 20), (26, 20, 20)] [(1, 0, 2), (3, 0, 4), (3, 1, 5), (3, 2, 6), (1, 3, 3), (7, 0, 8), (7, 1, 9), (7, 2, 10), (1, 4, 7), (11, 0, 12), (11, 1, 13), (11, 2, 14), (1, 5, 11), (15, 0, 16), (1, 6, 15), (17, 0, 18), (1, 9, 17), (19, 0, 20), (19, 1, 21), (19, 2, 22), (1, 10, 19), (23, 0, 24), (23, 1, 25), (23, 2, 26)] := CI_put hM50 23 2 26 (by decide) (by decide)
  generalize sr G50 23 2 (some 26) = G51 at hM51 ⊢
  clear hM50
  refine x_vret dX0_init_28 rfl ?_
  refine Ex.stk (st' := [.inr (.inr (some 23)), .inr (.inr (some 1))]) rfl ?_
  refine x_putR (q := 95) dX9_init_92 rfl f_9_58 rfl (fun _ => ⟨rfl, rfl⟩) (hM51.2.2.1 (1, 9, 0) (by decide)).1 ?_
  have hM52 : CI G0 (sr G51 1 11 (some 23)) 26 2457 [(1, 9, 0), (2, 20, 160), (3, 6, 0), (4, 20, 160), (5, 20, 160), (6, 20, 160), (7, 5, 0), (8, 20, 320), (9, 20, 320), (10, 20, 5), (11, 5, 0), (12, 20, 320), (13, 20, 320), (14, 20, 5), (15, 7, 0), (16, 20, 8), (17, 8, 0), (18, 21, 364), (19, 2, 0), (20, 20, 16), (21, 20, 16), (22, 20, 16), (23, 0, 0), (24, 20, 20), (25, 20, 20), (26, 20, 20)] [(1, 0, 2), (3, 0, 4), (3, 1, 5), (3, 2, 6), (1, 3, 3), (7, 0, 8), (7, 1, 9), (7, 2, 10), (1, 4, 7), (11, 0, 12), (11, 1, 13), (11, 2, 14), (1, 5, 11), (15, 0, 16), (1, 6, 15), (17, 0, 18), (1, 9, 17), (19, 0, 20), (19, 1, 21), (19, 2, 22), (1, 10, 19), (23, 0, 24), (23, 1, 25), (23, 2, 26), (1, 11, 23)] := CI_put hM51 1 11 23 (by decide) (by decide)
  generalize sr G51 1 11 (some 23) = G52 at hM52 ⊢
  clear hM51
  refine x_aload_n (q := 96) dX9_init_95 rfl rfl ?_
  refine x_iconst (q := 97) dX9_init_96 rfl (by decide) ?_
  refine x_anewS (q := 100) dX9_init_97 rfl n_9_34 (by decide) ?_
  refine Ex.stk (st' := [.inr (.inr (some 27)), .inr (.inr (some 1))]) (by rw [hM52.1]) ?_
  have hM53 : CI G0 (nw G52 22 2 (2 : Int).toNat) 27 2459 [(1, 9, 0), (2, 20, 160), (3, 6, 0), (4, 20, 160), (5, 20, 160), (6, 20, 160), (7, 5, 0), (8, 20, 320), (9, 20, 320), (10, 20, 5), (11, 5, 0), (12, 20, 320), (13, 20, 320), (14, 20, 5), (15, 7, 0), (16, 20, 8), (17, 8, 0), (18, 21, 364), (19, 2, 0), (20, 20, 16), (21, 20, 16), (22, 20, 16), (23, 0, 0), (24, 20, 20), (25, 20, 20), (26, 20, 20), (27, 22, 2)] [(1, 0, 2), (3, 0, 4), (3, 1, 5), (3, 2, 6), (1, 3, 3), (7, 0, 8), (7, 1, 9), (7, 2, 10), (1, 4, 7), (11, 0, 12), (11, 1, 13), (11, 2, 14), (1, 5, 11), (15, 0, 16), (1, 6, 15), (17, 0, 18), (1, 9, 17), (19, 0, 20), (19, 1, 21), (19, 2, 22), (1, 10, 19), (23, 0, 24), (23, 1, 25), (23, 2, 26), (1, 11, 23)] := CI_new hM52 (by decide) 22 2 (2 : Int).toNat
  generalize nw G52 22 2 (2 : Int).toNat = G53 at hM53 ⊢
  clear hM52
  refine x_putR (q := 103) dX9_init_100 rfl f_9_62 rfl (fun _ => ⟨rfl, rfl⟩) (hM53.2.2.1 (1, 9, 0) (by decide)).1 ?_
  have hM54 : CI G0 (sr G53 1 12 (some 27)) 27 2459 [(1, 9, 0), (2, 20, 160), (3, 6, 0), (4, 20, 160), (5, 20, 160), (6, 20, 160), (7, 5, 0), (8, 20, 320), (9, 20, 320), (10, 20, 5), (11, 5, 0), (12, 20, 320), (13, 20, 320), (14, 20, 5), (15, 7, 0), (16, 20, 8), (17, 8, 0), (18, 21, 364), (19, 2, 0), (20, 20, 16), (21, 20, 16), (22, 20, 16), (23, 0, 0), (24, 20, 20), (25, 20, 20), (26, 20, 20), (27, 22, 2)] [(1, 0, 2), (3, 0, 4), (3, 1, 5), (3, 2, 6), (1, 3, 3), (7, 0, 8), (7, 1, 9), (7, 2, 10), (1, 4, 7), (11, 0, 12), (11, 1, 13), (11, 2, 14), (1, 5, 11), (15, 0, 16), (1, 6, 15), (17, 0, 18), (1, 9, 17), (19, 0, 20), (19, 1, 21), (19, 2, 22), (1, 10, 19), (23, 0, 24), (23, 1, 25), (23, 2, 26), (1, 11, 23), (1, 12, 27)] := CI_put hM53 1 12 27 (by decide) (by decide)
  generalize sr G53 1 12 (some 27) = G54 at hM54 ⊢
  clear hM53
  refine x_new (q := 106) dX9_init_103 rfl n_9_66 ?_
  refine Ex.stk (st' := [.inr (.inr (some 28))]) (by rw [hM54.1]) ?_
  have hM55 : CI G0 (nw G54 4 0 (cN 4)) 28 2460 [(1, 9, 0), (2, 20, 160), (3, 6, 0), (4, 20, 160), (5, 20, 160), (6, 20, 160), (7, 5, 0), (8, 20, 320), (9, 20, 320), (10, 20, 5), (11, 5, 0), (12, 20, 320), (13, 20, 320), (14, 20, 5), (15, 7, 0), (16, 20, 8), (17, 8, 0), (18, 21, 364), (19, 2, 0), (20, 20, 16), (21, 20, 16), (22, 20, 16), (23, 0, 0), (24, 20, 20), (25, 20, 20), (26, 20, 20), (27, 22, 2), (28, 4, 0)] [(1, 0, 2), (3, 0, 4), (3, 1, 5), (3, 2, 6), (1, 3, 3), (7, 0, 8), (7, 1, 9), (7, 2, 10), (1, 4, 7), (11, 0, 12), (11, 1, 13), (11, 2, 14), (1, 5, 11), (15, 0, 16), (1, 6, 15), (17, 0, 18), (1, 9, 17), (19, 0, 20), (19, 1, 21), (19, 2, 22), (1, 10, 19), (23, 0, 24), (23, 1, 25), (23, 2, 26), (1, 11, 23), (1, 12, 27)] := CI_new hM54 (by decide) 4 0 (cN 4)
  generalize nw G54 4 0 (cN 4) = G55 at hM55 ⊢
  clear hM54
  refine x_dup (q := 107) dX9_init_106 rfl rfl ?_
  refine x_invI (q := 110) (as := [.inr (.inr (some 28))]) (rest := [.inr (.inr (some 28))]) dX9_init_107 rfl l_9_68 m_X4_init rfl rfl (Nat.le_of_ble_eq_true rfl) (CX.of m_X4_init (Nat.le_of_ble_eq_true rfl) ?_) (fun _ _ h => h)
  refine Ex.lcl (ls' := [some (.inr (.inr (some 28)))]) rfl ?_
  refine x_aload_n (q := 1) dX4_init_0 rfl rfl ?_
  refine x_objI (q := 4) dX4_init_1 rfl l_4_1 (Nat.le_of_ble_eq_true rfl) ?_
  refine x_vret dX4_init_4 rfl ?_
  refine Ex.stk (st' := [.inr (.inr (some 28))]) rfl ?_
  refine x_astore_n (q := 111) (ls' := [some (.inr (.inr (some 1))), some (.inr (.inr (some 28)))]) dX9_init_110 rfl (Nat.le_of_ble_eq_true rfl) (by first | rfl | exact hnl | exact hnl2 _) rfl ?_
  refine x_aload_n (q := 112) dX9_init_111 rfl rfl ?_
  refine x_new (q := 115) dX9_init_112 rfl n_9_69 ?_
  refine Ex.stk (st' := [.inr (.inr (some 29)), .inr (.inr (some 1))]) (by rw [hM55.1]) ?_
  have hM56 : CI G0 (nw G55 3 0 (cN 3)) 29 2470 [(1, 9, 0), (2, 20, 160), (3, 6, 0), (4, 20, 160), (5, 20, 160), (6, 20, 160), (7, 5, 0), (8, 20, 320), (9, 20, 320), (10, 20, 5), (11, 5, 0), (12, 20, 320), (13, 20, 320), (14, 20, 5), (15, 7, 0), (16, 20, 8), (17, 8, 0), (18, 21, 364), (19, 2, 0), (20, 20, 16), (21, 20, 16), (22, 20, 16), (23, 0, 0), (24, 20, 20), (25, 20, 20), (26, 20, 20), (27, 22, 2), (28, 4, 0), (29, 3, 0)] [(1, 0, 2), (3, 0, 4), (3, 1, 5), (3, 2, 6), (1, 3, 3), (7, 0, 8), (7, 1, 9), (7, 2, 10), (1, 4, 7), (11, 0, 12), (11, 1, 13), (11, 2, 14), (1, 5, 11), (15, 0, 16), (1, 6, 15), (17, 0, 18), (1, 9, 17), (19, 0, 20), (19, 1, 21), (19, 2, 22), (1, 10, 19), (23, 0, 24), (23, 1, 25), (23, 2, 26), (1, 11, 23), (1, 12, 27)] := CI_new hM55 (by decide) 3 0 (cN 3)
  generalize nw G55 3 0 (cN 3) = G56 at hM56 ⊢
  clear hM55
  refine x_dup (q := 116) dX9_init_115 rfl rfl ?_
  refine x_aload_n (q := 117) dX9_init_116 rfl rfl ?_
  refine x_getR (q := 120) dX9_init_117 rfl f_9_37 rfl (hM56.2.2.1 (1, 9, 0) (by decide)).1 ?_
  refine Ex.stk (st' := [.inr (.inr (some 15)), .inr (.inr (some 29)), .inr (.inr (some 29)), .inr (.inr (some 1))]) (by rw [show rv G56 1 6 = some 15 from hM56.2.2.2.1 (1, 6, 15) (by decide)]) ?_
  refine x_aload_n (q := 121) dX9_init_120 rfl rfl ?_
  refine x_aload_n (q := 122) dX9_init_121 rfl rfl ?_
  refine x_getR (q := 125) dX9_init_122 rfl f_9_27 rfl (hM56.2.2.1 (1, 9, 0) (by decide)).1 ?_
  refine Ex.stk (st' := [.inr (.inr (some 7)), .inr (.inr (some 28)), .inr (.inr (some 15)), .inr (.inr (some 29)), .inr (.inr (some 29)), .inr (.inr (some 1))]) (by rw [show rv G56 1 4 = some 7 from hM56.2.2.2.1 (1, 4, 7) (by decide)]) ?_
  refine x_invI (q := 128) (as := [.inr (.inr (some 29)), .inr (.inr (some 15)), .inr (.inr (some 28)), .inr (.inr (some 7))]) (rest := [.inr (.inr (some 29)), .inr (.inr (some 1))]) dX9_init_125 rfl l_9_71 m_X3_init rfl rfl (Nat.le_of_ble_eq_true rfl) (CX.of m_X3_init (Nat.le_of_ble_eq_true rfl) ?_) (fun _ _ h => h)
  refine Ex.lcl (ls' := [some (.inr (.inr (some 29))), some (.inr (.inr (some 15))), some (.inr (.inr (some 28))), some (.inr (.inr (some 7)))]) rfl ?_
  refine x_aload_n (q := 1) dX3_init_0 rfl rfl ?_
  refine x_objI (q := 4) dX3_init_1 rfl l_3_3 (Nat.le_of_ble_eq_true rfl) ?_
  refine x_aload_n (q := 5) dX3_init_4 rfl rfl ?_
  refine x_sipush (q := 8) dX3_init_5 rfl (by decide) ?_
  refine x_newarray (q := 10) dX3_init_8 rfl (by decide) ?_
  refine Ex.stk (st' := [.inr (.inr (some 30)), .inr (.inr (some 29))]) (by rw [hM56.1]) ?_
  have hM57 : CI G0 (nw G56 20 960 (960 : Int).toNat) 30 3430 [(1, 9, 0), (2, 20, 160), (3, 6, 0), (4, 20, 160), (5, 20, 160), (6, 20, 160), (7, 5, 0), (8, 20, 320), (9, 20, 320), (10, 20, 5), (11, 5, 0), (12, 20, 320), (13, 20, 320), (14, 20, 5), (15, 7, 0), (16, 20, 8), (17, 8, 0), (18, 21, 364), (19, 2, 0), (20, 20, 16), (21, 20, 16), (22, 20, 16), (23, 0, 0), (24, 20, 20), (25, 20, 20), (26, 20, 20), (27, 22, 2), (28, 4, 0), (29, 3, 0), (30, 20, 960)] [(1, 0, 2), (3, 0, 4), (3, 1, 5), (3, 2, 6), (1, 3, 3), (7, 0, 8), (7, 1, 9), (7, 2, 10), (1, 4, 7), (11, 0, 12), (11, 1, 13), (11, 2, 14), (1, 5, 11), (15, 0, 16), (1, 6, 15), (17, 0, 18), (1, 9, 17), (19, 0, 20), (19, 1, 21), (19, 2, 22), (1, 10, 19), (23, 0, 24), (23, 1, 25), (23, 2, 26), (1, 11, 23), (1, 12, 27)] := CI_new hM56 (by decide) 20 960 (960 : Int).toNat
  generalize nw G56 20 960 (960 : Int).toNat = G57 at hM57 ⊢
  clear hM56
  refine x_putR (q := 13) dX3_init_10 rfl f_3_9 rfl (fun _ => ⟨rfl, rfl⟩) (hM57.2.2.1 (29, 3, 0) (by decide)).1 ?_
  have hM58 : CI G0 (sr G57 29 2 (some 30)) 30 3430 [(1, 9, 0), (2, 20, 160), (3, 6, 0), (4, 20, 160), (5, 20, 160), (6, 20, 160), (7, 5, 0), (8, 20, 320), (9, 20, 320), (10, 20, 5), (11, 5, 0), (12, 20, 320), (13, 20, 320), (14, 20, 5), (15, 7, 0), (16, 20, 8), (17, 8, 0), (18, 21, 364), (19, 2, 0), (20, 20, 16), (21, 20, 16), (22, 20, 16), (23, 0, 0), (24, 20, 20), (25, 20, 20), (26, 20, 20), (27, 22, 2), (28, 4, 0), (29, 3, 0), (30, 20, 960)] [(1, 0, 2), (3, 0, 4), (3, 1, 5), (3, 2, 6), (1, 3, 3), (7, 0, 8), (7, 1, 9), (7, 2, 10), (1, 4, 7), (11, 0, 12), (11, 1, 13), (11, 2, 14), (1, 5, 11), (15, 0, 16), (1, 6, 15), (17, 0, 18), (1, 9, 17), (19, 0, 20), (19, 1, 21), (19, 2, 22), (1, 10, 19), (23, 0, 24), (23, 1, 25), (23, 2, 26), (1, 11, 23), (1, 12, 27), (29, 2, 30)] := CI_put hM57 29 2 30 (by decide) (by decide)
  generalize sr G57 29 2 (some 30) = G58 at hM58 ⊢
  clear hM57
  refine x_aload_n (q := 14) dX3_init_13 rfl rfl ?_
  refine x_aload_n (q := 15) dX3_init_14 rfl rfl ?_
  refine x_putR (q := 18) dX3_init_15 rfl f_3_15 rfl (fun _ => ⟨rfl, rfl⟩) (hM58.2.2.1 (29, 3, 0) (by decide)).1 ?_
  have hM59 : CI G0 (sr G58 29 0 (some 15)) 30 3430 [(1, 9, 0), (2, 20, 160), (3, 6, 0), (4, 20, 160), (5, 20, 160), (6, 20, 160), (7, 5, 0), (8, 20, 320), (9, 20, 320), (10, 20, 5), (11, 5, 0), (12, 20, 320), (13, 20, 320), (14, 20, 5), (15, 7, 0), (16, 20, 8), (17, 8, 0), (18, 21, 364), (19, 2, 0), (20, 20, 16), (21, 20, 16), (22, 20, 16), (23, 0, 0), (24, 20, 20), (25, 20, 20), (26, 20, 20), (27, 22, 2), (28, 4, 0), (29, 3, 0), (30, 20, 960)] [(1, 0, 2), (3, 0, 4), (3, 1, 5), (3, 2, 6), (1, 3, 3), (7, 0, 8), (7, 1, 9), (7, 2, 10), (1, 4, 7), (11, 0, 12), (11, 1, 13), (11, 2, 14), (1, 5, 11), (15, 0, 16), (1, 6, 15), (17, 0, 18), (1, 9, 17), (19, 0, 20), (19, 1, 21), (19, 2, 22), (1, 10, 19), (23, 0, 24), (23, 1, 25), (23, 2, 26), (1, 11, 23), (1, 12, 27), (29, 2, 30), (29, 0, 15)] := CI_put hM58 29 0 15 (by decide) (by decide)
  generalize sr G58 29 0 (some 15) = G59 at hM59 ⊢
  clear hM58
  refine x_aload_n (q := 19) dX3_init_18 rfl rfl ?_
  refine x_aload_n (q := 20) dX3_init_19 rfl rfl ?_
  refine x_putR (q := 23) dX3_init_20 rfl f_3_19 rfl (fun _ => ⟨rfl, rfl⟩) (hM59.2.2.1 (29, 3, 0) (by decide)).1 ?_
  have hM60 : CI G0 (sr G59 29 1 (some 28)) 30 3430 [(1, 9, 0), (2, 20, 160), (3, 6, 0), (4, 20, 160), (5, 20, 160), (6, 20, 160), (7, 5, 0), (8, 20, 320), (9, 20, 320), (10, 20, 5), (11, 5, 0), (12, 20, 320), (13, 20, 320), (14, 20, 5), (15, 7, 0), (16, 20, 8), (17, 8, 0), (18, 21, 364), (19, 2, 0), (20, 20, 16), (21, 20, 16), (22, 20, 16), (23, 0, 0), (24, 20, 20), (25, 20, 20), (26, 20, 20), (27, 22, 2), (28, 4, 0), (29, 3, 0), (30, 20, 960)] [(1, 0, 2), (3, 0, 4), (3, 1, 5), (3, 2, 6), (1, 3, 3), (7, 0, 8), (7, 1, 9), (7, 2, 10), (1, 4, 7), (11, 0, 12), (11, 1, 13), (11, 2, 14), (1, 5, 11), (15, 0, 16), (1, 6, 15), (17, 0, 18), (1, 9, 17), (19, 0, 20), (19, 1, 21), (19, 2, 22), (1, 10, 19), (23, 0, 24), (23, 1, 25), (23, 2, 26), (1, 11, 23), (1, 12, 27), (29, 2, 30), (29, 0, 15), (29, 1, 28)] := CI_put hM59 29 1 28 (by decide) (by decide)
  generalize sr G59 29 1 (some 28) = G60 at hM60 ⊢
  clear hM59
  refine x_aload_n (q := 24) dX3_init_23 rfl rfl ?_
  refine x_aload_n (q := 25) dX3_init_24 rfl rfl ?_
  refine x_putR (q := 28) dX3_init_25 rfl f_3_23 rfl (fun h => by cases h) (hM60.2.2.1 (29, 3, 0) (by decide)).1 ?_
  have hM61 : CI G0 (sr G60 29 4 (some 7)) 30 3430 [(1, 9, 0), (2, 20, 160), (3, 6, 0), (4, 20, 160), (5, 20, 160), (6, 20, 160), (7, 5, 0), (8, 20, 320), (9, 20, 320), (10, 20, 5), (11, 5, 0), (12, 20, 320), (13, 20, 320), (14, 20, 5), (15, 7, 0), (16, 20, 8), (17, 8, 0), (18, 21, 364), (19, 2, 0), (20, 20, 16), (21, 20, 16), (22, 20, 16), (23, 0, 0), (24, 20, 20), (25, 20, 20), (26, 20, 20), (27, 22, 2), (28, 4, 0), (29, 3, 0), (30, 20, 960)] [(1, 0, 2), (3, 0, 4), (3, 1, 5), (3, 2, 6), (1, 3, 3), (7, 0, 8), (7, 1, 9), (7, 2, 10), (1, 4, 7), (11, 0, 12), (11, 1, 13), (11, 2, 14), (1, 5, 11), (15, 0, 16), (1, 6, 15), (17, 0, 18), (1, 9, 17), (19, 0, 20), (19, 1, 21), (19, 2, 22), (1, 10, 19), (23, 0, 24), (23, 1, 25), (23, 2, 26), (1, 11, 23), (1, 12, 27), (29, 2, 30), (29, 0, 15), (29, 1, 28), (29, 4, 7)] := CI_put hM60 29 4 7 (by decide) (by decide)
  generalize sr G60 29 4 (some 7) = G61 at hM61 ⊢
  clear hM60
  refine x_vret dX3_init_28 rfl ?_
  refine Ex.stk (st' := [.inr (.inr (some 29)), .inr (.inr (some 1))]) rfl ?_
  refine x_putR (q := 131) dX9_init_128 rfl f_9_74 rfl (fun _ => ⟨rfl, rfl⟩) (hM61.2.2.1 (1, 9, 0) (by decide)).1 ?_
  have hM62 : CI G0 (sr G61 1 7 (some 29)) 30 3430 [(1, 9, 0), (2, 20, 160), (3, 6, 0), (4, 20, 160), (5, 20, 160), (6, 20, 160), (7, 5, 0), (8, 20, 320), (9, 20, 320), (10, 20, 5), (11, 5, 0), (12, 20, 320), (13, 20, 320), (14, 20, 5), (15, 7, 0), (16, 20, 8), (17, 8, 0), (18, 21, 364), (19, 2, 0), (20, 20, 16), (21, 20, 16), (22, 20, 16), (23, 0, 0), (24, 20, 20), (25, 20, 20), (26, 20, 20), (27, 22, 2), (28, 4, 0), (29, 3, 0), (30, 20, 960)] [(1, 0, 2), (3, 0, 4), (3, 1, 5), (3, 2, 6), (1, 3, 3), (7, 0, 8), (7, 1, 9), (7, 2, 10), (1, 4, 7), (11, 0, 12), (11, 1, 13), (11, 2, 14), (1, 5, 11), (15, 0, 16), (1, 6, 15), (17, 0, 18), (1, 9, 17), (19, 0, 20), (19, 1, 21), (19, 2, 22), (1, 10, 19), (23, 0, 24), (23, 1, 25), (23, 2, 26), (1, 11, 23), (1, 12, 27), (29, 2, 30), (29, 0, 15), (29, 1, 28), (29, 4, 7), (1, 7, 29)] := CI_put hM61 1 7 29 (by decide) (by decide)
  generalize sr G61 1 7 (some 29) = G62 at hM62 ⊢
  clear hM61
  refine x_aload_n (q := 132) dX9_init_131 rfl rfl ?_
  refine x_new (q := 135) dX9_init_132 rfl n_9_69 ?_
  refine Ex.stk (st' := [.inr (.inr (some 31)), .inr (.inr (some 1))]) (by rw [hM62.1]) ?_
  have hM63 : CI G0 (nw G62 3 0 (cN 3)) 31 3440 [(1, 9, 0), (2, 20, 160), (3, 6, 0), (4, 20, 160), (5, 20, 160), (6, 20, 160), (7, 5, 0), (8, 20, 320), (9, 20, 320), (10, 20, 5), (11, 5, 0), (12, 20, 320), (13, 20, 320), (14, 20, 5), (15, 7, 0), (16, 20, 8), (17, 8, 0), (18, 21, 364), (19, 2, 0), (20, 20, 16), (21, 20, 16), (22, 20, 16), (23, 0, 0), (24, 20, 20), (25, 20, 20), (26, 20, 20), (27, 22, 2), (28, 4, 0), (29, 3, 0), (30, 20, 960), (31, 3, 0)] [(1, 0, 2), (3, 0, 4), (3, 1, 5), (3, 2, 6), (1, 3, 3), (7, 0, 8), (7, 1, 9), (7, 2, 10), (1, 4, 7), (11, 0, 12), (11, 1, 13), (11, 2, 14), (1, 5, 11), (15, 0, 16), (1, 6, 15), (17, 0, 18), (1, 9, 17), (19, 0, 20), (19, 1, 21), (19, 2, 22), (1, 10, 19), (23, 0, 24), (23, 1, 25), (23, 2, 26), (1, 11, 23), (1, 12, 27), (29, 2, 30), (29, 0, 15), (29, 1, 28), (29, 4, 7), (1, 7, 29)] := CI_new hM62 (by decide) 3 0 (cN 3)
  generalize nw G62 3 0 (cN 3) = G63 at hM63 ⊢
  clear hM62
  refine x_dup (q := 136) dX9_init_135 rfl rfl ?_
  refine x_aload_n (q := 137) dX9_init_136 rfl rfl ?_
  refine x_getR (q := 140) dX9_init_137 rfl f_9_37 rfl (hM63.2.2.1 (1, 9, 0) (by decide)).1 ?_
  refine Ex.stk (st' := [.inr (.inr (some 15)), .inr (.inr (some 31)), .inr (.inr (some 31)), .inr (.inr (some 1))]) (by rw [show rv G63 1 6 = some 15 from hM63.2.2.2.1 (1, 6, 15) (by decide)]) ?_
  refine x_aload_n (q := 141) dX9_init_140 rfl rfl ?_
  refine x_aload_n (q := 142) dX9_init_141 rfl rfl ?_
  refine x_getR (q := 145) dX9_init_142 rfl f_9_27 rfl (hM63.2.2.1 (1, 9, 0) (by decide)).1 ?_
  refine Ex.stk (st' := [.inr (.inr (some 7)), .inr (.inr (some 28)), .inr (.inr (some 15)), .inr (.inr (some 31)), .inr (.inr (some 31)), .inr (.inr (some 1))]) (by rw [show rv G63 1 4 = some 7 from hM63.2.2.2.1 (1, 4, 7) (by decide)]) ?_
  refine x_invI (q := 148) (as := [.inr (.inr (some 31)), .inr (.inr (some 15)), .inr (.inr (some 28)), .inr (.inr (some 7))]) (rest := [.inr (.inr (some 31)), .inr (.inr (some 1))]) dX9_init_145 rfl l_9_71 m_X3_init rfl rfl (Nat.le_of_ble_eq_true rfl) (CX.of m_X3_init (Nat.le_of_ble_eq_true rfl) ?_) (fun _ _ h => h)
  refine Ex.lcl (ls' := [some (.inr (.inr (some 31))), some (.inr (.inr (some 15))), some (.inr (.inr (some 28))), some (.inr (.inr (some 7)))]) rfl ?_
  refine x_aload_n (q := 1) dX3_init_0 rfl rfl ?_
  refine x_objI (q := 4) dX3_init_1 rfl l_3_3 (Nat.le_of_ble_eq_true rfl) ?_
  refine x_aload_n (q := 5) dX3_init_4 rfl rfl ?_
  refine x_sipush (q := 8) dX3_init_5 rfl (by decide) ?_
  refine x_newarray (q := 10) dX3_init_8 rfl (by decide) ?_
  refine Ex.stk (st' := [.inr (.inr (some 32)), .inr (.inr (some 31))]) (by rw [hM63.1]) ?_
  have hM64 : CI G0 (nw G63 20 960 (960 : Int).toNat) 32 4400 [(1, 9, 0), (2, 20, 160), (3, 6, 0), (4, 20, 160), (5, 20, 160), (6, 20, 160), (7, 5, 0), (8, 20, 320), (9, 20, 320), (10, 20, 5), (11, 5, 0), (12, 20, 320), (13, 20, 320), (14, 20, 5), (15, 7, 0), (16, 20, 8), (17, 8, 0), (18, 21, 364), (19, 2, 0), (20, 20, 16), (21, 20, 16), (22, 20, 16), (23, 0, 0), (24, 20, 20), (25, 20, 20), (26, 20, 20), (27, 22, 2), (28, 4, 0), (29, 3, 0), (30, 20, 960), (31, 3, 0), (32, 20, 960)] [(1, 0, 2), (3, 0, 4), (3, 1, 5), (3, 2, 6), (1, 3, 3), (7, 0, 8), (7, 1, 9), (7, 2, 10), (1, 4, 7), (11, 0, 12), (11, 1, 13), (11, 2, 14), (1, 5, 11), (15, 0, 16), (1, 6, 15), (17, 0, 18), (1, 9, 17), (19, 0, 20), (19, 1, 21), (19, 2, 22), (1, 10, 19), (23, 0, 24), (23, 1, 25), (23, 2, 26), (1, 11, 23), (1, 12, 27), (29, 2, 30), (29, 0, 15), (29, 1, 28), (29, 4, 7), (1, 7, 29)] := CI_new hM63 (by decide) 20 960 (960 : Int).toNat
  generalize nw G63 20 960 (960 : Int).toNat = G64 at hM64 ⊢
  clear hM63
  refine x_putR (q := 13) dX3_init_10 rfl f_3_9 rfl (fun _ => ⟨rfl, rfl⟩) (hM64.2.2.1 (31, 3, 0) (by decide)).1 ?_
  have hM65 : CI G0 (sr G64 31 2 (some 32)) 32 4400 [(1, 9, 0), (2, 20, 160), (3, 6, 0), (4, 20, 160), (5, 20, 160), (6, 20, 160), (7, 5, 0), (8, 20, 320), (9, 20, 320), (10, 20, 5), (11, 5, 0), (12, 20, 320), (13, 20, 320), (14, 20, 5), (15, 7, 0), (16, 20, 8), (17, 8, 0), (18, 21, 364), (19, 2, 0), (20, 20, 16), (21, 20, 16), (22, 20, 16), (23, 0, 0), (24, 20, 20), (25, 20, 20), (26, 20, 20), (27, 22, 2), (28, 4, 0), (29, 3, 0), (30, 20, 960), (31, 3, 0), (32, 20, 960)] [(1, 0, 2), (3, 0, 4), (3, 1, 5), (3, 2, 6), (1, 3, 3), (7, 0, 8), (7, 1, 9), (7, 2, 10), (1, 4, 7), (11, 0, 12), (11, 1, 13), (11, 2, 14), (1, 5, 11), (15, 0, 16), (1, 6, 15), (17, 0, 18), (1, 9, 17), (19, 0, 20), (19, 1, 21), (19, 2, 22), (1, 10, 19), (23, 0, 24), (23, 1, 25), (23, 2, 26), (1, 11, 23), (1, 12, 27), (29, 2, 30), (29, 0, 15), (29, 1, 28), (29, 4, 7), (1, 7, 29), (31, 2, 32)] := CI_put hM64 31 2 32 (by decide) (by decide)
  generalize sr G64 31 2 (some 32) = G65 at hM65 ⊢
  clear hM64
  refine x_aload_n (q := 14) dX3_init_13 rfl rfl ?_
  refine x_aload_n (q := 15) dX3_init_14 rfl rfl ?_
  refine x_putR (q := 18) dX3_init_15 rfl f_3_15 rfl (fun _ => ⟨rfl, rfl⟩) (hM65.2.2.1 (31, 3, 0) (by decide)).1 ?_
  have hM66 : CI G0 (sr G65 31 0 (some 15)) 32 4400 [(1, 9, 0), (2, 20, 160), (3, 6, 0), (4, 20, 160), (5, 20, 160), (6, 20, 160), (7, 5, 0), (8, 20, 320), (9, 20, 320), (10, 20, 5), (11, 5, 0), (12, 20, 320), (13, 20, 320), (14, 20, 5), (15, 7, 0), (16, 20, 8), (17, 8, 0), (18, 21, 364), (19, 2, 0), (20, 20, 16), (21, 20, 16), (22, 20, 16), (23, 0, 0), (24, 20, 20), (25, 20, 20), (26, 20, 20), (27, 22, 2), (28, 4, 0), (29, 3, 0), (30, 20, 960), (31, 3, 0), (32, 20, 960)] [(1, 0, 2), (3, 0, 4), (3, 1, 5), (3, 2, 6), (1, 3, 3), (7, 0, 8), (7, 1, 9), (7, 2, 10), (1, 4, 7), (11, 0, 12), (11, 1, 13), (11, 2, 14), (1, 5, 11), (15, 0, 16), (1, 6, 15), (17, 0, 18), (1, 9, 17), (19, 0, 20), (19, 1, 21), (19, 2, 22), (1, 10, 19), (23, 0, 24), (23, 1, 25), (23, 2, 26), (1, 11, 23), (1, 12, 27), (29, 2, 30), (29, 0, 15), (29, 1, 28), (29, 4, 7), (1, 7, 29), (31, 2, 32), (31, 0, 15)] := CI_put hM65 31 0 15 (by decide) (by decide)
  generalize sr G65 31 0 (some 15) = G66 at hM66 ⊢
  clear hM65
  refine x_aload_n (q := 19) dX3_init_18 rfl rfl ?_
  refine x_aload_n (q := 20) dX3_init_19 rfl rfl ?_
  refine x_putR (q := 23) dX3_init_20 rfl f_3_19 rfl (fun _ => ⟨rfl, rfl⟩) (hM66.2.2.1 (31, 3, 0) (by decide)).1 ?_
  have hM67 : CI G0 (sr G66 31 1 (some 28)) 32 4400 [(1, 9, 0), (2, 20, 160), (3, 6, 0), (4, 20, 160), (5, 20, 160), (6, 20, 160), (7, 5, 0), (8, 20, 320), (9, 20, 320), (10, 20, 5), (11, 5, 0), (12, 20, 320), (13, 20, 320), (14, 20, 5), (15, 7, 0), (16, 20, 8), (17, 8, 0), (18, 21, 364), (19, 2, 0), (20, 20, 16), (21, 20, 16), (22, 20, 16), (23, 0, 0), (24, 20, 20), (25, 20, 20), (26, 20, 20), (27, 22, 2), (28, 4, 0), (29, 3, 0), (30, 20, 960), (31, 3, 0), (32, 20, 960)] [(1, 0, 2), (3, 0, 4), (3, 1, 5), (3, 2, 6), (1, 3, 3), (7, 0, 8), (7, 1, 9), (7, 2, 10), (1, 4, 7), (11, 0, 12), (11, 1, 13), (11, 2, 14), (1, 5, 11), (15, 0, 16), (1, 6, 15), (17, 0, 18), (1, 9, 17), (19, 0, 20), (19, 1, 21), (19, 2, 22), (1, 10, 19), (23, 0, 24), (23, 1, 25), (23, 2, 26), (1, 11, 23), (1, 12, 27), (29, 2, 30), (29, 0, 15), (29, 1, 28), (29, 4, 7), (1, 7, 29), (31, 2, 32), (31, 0, 15), (31, 1, 28)] := CI_put hM66 31 1 28 (by decide) (by decide)
  generalize sr G66 31 1 (some 28) = G67 at hM67 ⊢
  clear hM66
  refine x_aload_n (q := 24) dX3_init_23 rfl rfl ?_
  refine x_aload_n (q := 25) dX3_init_24 rfl rfl ?_
  refine x_putR (q := 28) dX3_init_25 rfl f_3_23 rfl (fun h => by cases h) (hM67.2.2.1 (31, 3, 0) (by decide)).1 ?_
  have hM68 : CI G0 (sr G67 31 4 (some 7)) 32 4400 [(1, 9, 0), (2, 20, 160), (3, 6, 0), (4, 20, 160), (5, 20, 160), (6, 20, 160), (7, 5, 0), (8, 20, 320), (9, 20, 320), (10, 20, 5), (11, 5, 0), (12, 20, 320), (13, 20, 320), (14, 20, 5), (15, 7, 0), (16, 20, 8), (17, 8, 0), (18, 21, 364), (19, 2, 0), (20, 20, 16), (21, 20, 16), (22, 20, 16), (23, 0, 0), (24, 20, 20), (25, 20, 20), (26, 20, 20), (27, 22, 2), (28, 4, 0), (29, 3, 0), (30, 20, 960), (31, 3, 0), (32, 20, 960)] [(1, 0, 2), (3, 0, 4), (3, 1, 5), (3, 2, 6), (1, 3, 3), (7, 0, 8), (7, 1, 9), (7, 2, 10), (1, 4, 7), (11, 0, 12), (11, 1, 13), (11, 2, 14), (1, 5, 11), (15, 0, 16), (1, 6, 15), (17, 0, 18), (1, 9, 17), (19, 0, 20), (19, 1, 21), (19, 2, 22), (1, 10, 19), (23, 0, 24), (23, 1, 25), (23, 2, 26), (1, 11, 23), (1, 12, 27), (29, 2, 30), (29, 0, 15), (29, 1, 28), (29, 4, 7), (1, 7, 29), (31, 2, 32), (31, 0, 15), (31, 1, 28), (31, 4, 7)] := CI_put hM67 31 4 7 (by decide) (by decide)
  generalize sr G67 31 4 (some 7) = G68 at hM68 ⊢
  clear hM67
  refine x_vret dX3_init_28 rfl ?_
  refine Ex.stk (st' := [.inr (.inr (some 31)), .inr (.inr (some 1))]) rfl ?_
  refine x_putR (q := 151) dX9_init_148 rfl f_9_78 rfl (fun _ => ⟨rfl, rfl⟩) (hM68.2.2.1 (1, 9, 0) (by decide)).1 ?_
  have hM69 : CI G0 (sr G68 1 8 (some 31)) 32 4400 [(1, 9, 0), (2, 20, 160), (3, 6, 0), (4, 20, 160), (5, 20, 160), (6, 20, 160), (7, 5, 0), (8, 20, 320), (9, 20, 320), (10, 20, 5), (11, 5, 0), (12, 20, 320), (13, 20, 320), (14, 20, 5), (15, 7, 0), (16, 20, 8), (17, 8, 0), (18, 21, 364), (19, 2, 0), (20, 20, 16), (21, 20, 16), (22, 20, 16), (23, 0, 0), (24, 20, 20), (25, 20, 20), (26, 20, 20), (27, 22, 2), (28, 4, 0), (29, 3, 0), (30, 20, 960), (31, 3, 0), (32, 20, 960)] [(1, 0, 2), (3, 0, 4), (3, 1, 5), (3, 2, 6), (1, 3, 3), (7, 0, 8), (7, 1, 9), (7, 2, 10), (1, 4, 7), (11, 0, 12), (11, 1, 13), (11, 2, 14), (1, 5, 11), (15, 0, 16), (1, 6, 15), (17, 0, 18), (1, 9, 17), (19, 0, 20), (19, 1, 21), (19, 2, 22), (1, 10, 19), (23, 0, 24), (23, 1, 25), (23, 2, 26), (1, 11, 23), (1, 12, 27), (29, 2, 30), (29, 0, 15), (29, 1, 28), (29, 4, 7), (1, 7, 29), (31, 2, 32), (31, 0, 15), (31, 1, 28), (31, 4, 7), (1, 8, 31)] := CI_put hM68 1 8 31 (by decide) (by decide)
  generalize sr G68 1 8 (some 31) = G69 at hM69 ⊢
  clear hM68
  have hM := hM69
  clear hM69
  have hF : FC G69 := ⟨fun e he => hM.2.2.1 e ((by decide : ∀ e ∈ fcT, e ∈ [(1, 9, 0), (2, 20, 160), (3, 6, 0), (4, 20, 160), (5, 20, 160), (6, 20, 160), (7, 5, 0), (8, 20, 320), (9, 20, 320), (10, 20, 5), (11, 5, 0), (12, 20, 320), (13, 20, 320), (14, 20, 5), (15, 7, 0), (16, 20, 8), (17, 8, 0), (18, 21, 364), (19, 2, 0), (20, 20, 16), (21, 20, 16), (22, 20, 16), (23, 0, 0), (24, 20, 20), (25, 20, 20), (26, 20, 20), (27, 22, 2), (28, 4, 0), (29, 3, 0), (30, 20, 960), (31, 3, 0), (32, 20, 960)]) e he), fun e he => hM.2.2.2.1 e ((by decide : ∀ e ∈ fcR, e ∈ [(1, 0, 2), (3, 0, 4), (3, 1, 5), (3, 2, 6), (1, 3, 3), (7, 0, 8), (7, 1, 9), (7, 2, 10), (1, 4, 7), (11, 0, 12), (11, 1, 13), (11, 2, 14), (1, 5, 11), (15, 0, 16), (1, 6, 15), (17, 0, 18), (1, 9, 17), (19, 0, 20), (19, 1, 21), (19, 2, 22), (1, 10, 19), (23, 0, 24), (23, 1, 25), (23, 2, 26), (1, 11, 23), (1, 12, 27), (29, 2, 30), (29, 0, 15), (29, 1, 28), (29, 4, 7), (1, 7, 29), (31, 2, 32), (31, 0, 15), (31, 1, 28), (31, 4, 7), (1, 8, 31)]) e he)⟩
  have hiv := hM.2.2.2.2.1
  have r14 : rv G69 1 4 = some 7 := hM.2.2.2.1 (1, 4, 7) (by decide)
  have r15 : rv G69 1 5 = some 11 := hM.2.2.2.1 (1, 5, 11) (by decide)
  have r17 : rv G69 17 1 = none := hM.2.2.2.2.2.1 17 1 (by decide) (by decide)
  have r28 : rv G69 28 0 = none := hM.2.2.2.2.2.1 28 0 (by decide) (by decide)
  have r27 : ∀ i : Int, rv G69 27 i = none := fun i => hM.2.2.2.2.2.1 27 i (by decide) (fun e he q => absurd q.1 ((by decide : ∀ e ∈ ([(1, 0, 2), (3, 0, 4), (3, 1, 5), (3, 2, 6), (1, 3, 3), (7, 0, 8), (7, 1, 9), (7, 2, 10), (1, 4, 7), (11, 0, 12), (11, 1, 13), (11, 2, 14), (1, 5, 11), (15, 0, 16), (1, 6, 15), (17, 0, 18), (1, 9, 17), (19, 0, 20), (19, 1, 21), (19, 2, 22), (1, 10, 19), (23, 0, 24), (23, 1, 25), (23, 2, 26), (1, 11, 23), (1, 12, 27), (29, 2, 30), (29, 0, 15), (29, 1, 28), (29, 4, 7), (1, 7, 29), (31, 2, 32), (31, 0, 15), (31, 1, 28), (31, 4, 7), (1, 8, 31)] : List (Nat × Int × Nat)), e.1 ≠ 27) e he))
  have hsz : sz G69 = 32 := hM.1
  have hsl : sl G69 = sl G0 + 4400 := hM.2.1
  have hS0 : Sm (fun a => a = 0) G0 G69 := hM.2.2.2.2.2.2.1
  clear hM
  generalize G69 = Gk at *
  refine x_aload_n (q := 152) dX9_init_151 rfl rfl ?_
  refine x_bipush (q := 154) dX9_init_152 rfl (by decide) ?_
  refine x_invV (q := 157) (as := [.inr (.inr (some 1)), .inl 100]) (rest := []) dX9_init_154 rfl l_9_81 m_X9_addLetter rfl rfl (ft1 hF) (Nat.le_of_ble_eq_true rfl) (CX.up (d := 0 + 1) (by omega) (c_addL1 0 hF (n := 0) (hiv 1 1 (by decide) (by decide)) (by decide) (by decide))) (fun r1 Gx hZ => ?_)
  obtain ⟨rfl, hGx⟩ := hZ
  subst hGx
  have hF := FX_si (FX_si hF 2 (0) 100) 1 1 (0 + 1)
  refine Ex.stk (st' := [.inl 1]) rfl ?_
  refine x_pop (q := 158) dX9_init_157 rfl rfl ?_
  refine x_aload_n (q := 159) dX9_init_158 rfl rfl ?_
  refine x_bipush (q := 161) dX9_init_159 rfl (by decide) ?_
  refine x_invV (q := 164) (as := [.inr (.inr (some 1)), .inl 48]) (rest := []) dX9_init_161 rfl l_9_81 m_X9_addLetter rfl rfl (ft1 hF) (Nat.le_of_ble_eq_true rfl) (CX.up (d := 0 + 1) (by omega) (c_addL1 0 hF (n := 0 + 1) (by simp [iv_si]) (by decide) (by decide))) (fun r1 Gx hZ => ?_)
  obtain ⟨rfl, hGx⟩ := hZ
  subst hGx
  have hF := FX_si (FX_si hF 2 (0 + 1) 48) 1 1 (0 + 1 + 1)
  refine Ex.stk (st' := [.inl 1]) rfl ?_
  refine x_pop (q := 165) dX9_init_164 rfl rfl ?_
  refine x_aload_n (q := 166) dX9_init_165 rfl rfl ?_
  refine x_bipush (q := 168) dX9_init_166 rfl (by decide) ?_
  refine x_invV (q := 171) (as := [.inr (.inr (some 1)), .inl 59]) (rest := []) dX9_init_168 rfl l_9_81 m_X9_addLetter rfl rfl (ft1 hF) (Nat.le_of_ble_eq_true rfl) (CX.up (d := 0 + 1) (by omega) (c_addL1 0 hF (n := 0 + 1 + 1) (by simp [iv_si]) (by decide) (by decide))) (fun r1 Gx hZ => ?_)
  obtain ⟨rfl, hGx⟩ := hZ
  subst hGx
  have hF := FX_si (FX_si hF 2 (0 + 1 + 1) 59) 1 1 (0 + 1 + 1 + 1)
  refine Ex.stk (st' := [.inl 1]) rfl ?_
  refine x_pop (q := 172) dX9_init_171 rfl rfl ?_
  obtain ⟨Gt, hGt⟩ : ∃ Gt, Gt = (si (si (si (si (si (si Gk 2 (0) 100) 1 1 (0 + 1)) 2 (0 + 1) 48) 1 1 (0 + 1 + 1)) 2 (0 + 1 + 1) 59) 1 1 (0 + 1 + 1 + 1)) := ⟨_, rfl⟩
  rw [← hGt] at hF
  rw [← hGt]
  have t1 : ∀ (a : Nat) (k : Int), a ≠ 1 → a ≠ 2 → iv Gt a k = iv Gk a k := fun a k x y => by
    subst hGt
    rw [iv_si, if_neg (by omega), iv_si, if_neg (by omega), iv_si, if_neg (by omega), iv_si, if_neg (by omega), iv_si, if_neg (by omega), iv_si, if_neg (by omega)]
  have t2 : (∀ a, tg Gt a = tg Gk a ∧ ln Gt a = ln Gk a) ∧ (∀ (a : Nat) (k : Int), rv Gt a k = rv Gk a k) ∧ sz Gt = sz Gk ∧ sl Gt = sl Gk := by subst hGt; exact ⟨fun _ => ⟨rfl, rfl⟩, fun _ _ => rfl, rfl, rfl⟩
  have t3 : iv Gt 1 1 = 3 := by subst hGt; rw [iv_si, if_pos ⟨rfl, rfl⟩]; rfl
  have t4 : ∀ i : Int, 0 ≤ i → i < 3 → iv Gt 2 i = tx0 i := fun i i0 i1 => by
    subst hGt
    obtain h | h | h : i = 0 ∨ i = 1 ∨ i = 2 := by omega
    · subst h; simp [iv_si, tx0]
    · subst h; simp [iv_si, tx0]
    · subst h; simp [iv_si, tx0]
  clear hGt
  refine x_aload_n (q := 173) dX9_init_172 rfl rfl ?_
  refine x_invV (q := 176) (as := [.inr (.inr (some 1))]) (rest := []) dX9_init_173 rfl l_9_85 m_X9_takeText rfl rfl (ft1 hF) (Nat.le_of_ble_eq_true rfl) (CX.of m_X9_takeText (Nat.le_of_ble_eq_true rfl) ?_) (fun _ _ h => h)
  refine Ex.lcl (ls' := [some (.inr (.inr (some 1))), none, none]) rfl ?_
  refine x_aload_n (q := 1) dX9_takeText_0 rfl rfl ?_
  refine x_getR (q := 4) dX9_takeText_1 rfl f_9_20 rfl (ft1 hF) ?_
  refine Ex.stk (st' := [.inr (.inr (some 3))]) (by rw [fr1_3 hF]) ?_
  refine x_aload_n (q := 5) dX9_takeText_4 rfl rfl ?_
  refine x_getR (q := 8) dX9_takeText_5 rfl f_9_31 rfl (ft1 hF) ?_
  refine Ex.stk (st' := [.inr (.inr (some 11)), .inr (.inr (some 3))]) (by rw [show rv Gt 1 5 = some 11 from (by first | exact (t2.2.1 1 5).trans r15 | exact (q2 1 5 (by omega)).trans ((t2.2.1 1 5).trans r15) | (simp only [rv_si, rv_sr]; exact (q2 1 5 (by omega)).trans ((t2.2.1 1 5).trans r15)))]) ?_
  refine x_aload_n (q := 9) dX9_takeText_8 rfl rfl ?_
  refine x_getR (q := 12) dX9_takeText_9 rfl f_9_9 rfl (ft1 hF) ?_
  refine Ex.stk (st' := [.inr (.inr (some 2)), .inr (.inr (some 11)), .inr (.inr (some 3))]) (by rw [fr1_0 hF]) ?_
  refine x_aload_n (q := 13) dX9_takeText_12 rfl rfl ?_
  refine x_getI (q := 16) dX9_takeText_13 rfl f_9_90 rfl (ft1 hF) ?_
  refine Ex.stk (st' := [.inl 3, .inr (.inr (some 2)), .inr (.inr (some 11)), .inr (.inr (some 3))]) (by rw [show iv Gt 1 1 = 3 from t3]) ?_
  refine x_invV (q := 19) (as := [.inr (.inr (some 3)), .inr (.inr (some 11)), .inr (.inr (some 2)), .inl 3]) (rest := []) dX9_takeText_16 rfl l_9_248 m_X6_readInto rfl rfl (ft3 hF) (Nat.le_of_ble_eq_true rfl) (CX.up (d := 0 + 7) (by omega) (c_readInto 0 hF (pb := 11) (Or.inr rfl) (N := 3) (tx := tx0) (by decide) (by decide) t4 (fun _ => 0) (fun _ => 0))) (fun r1 Gr hZ => ?_)
  obtain ⟨rfl, w1, w2, w3⟩ := hZ
  replace w3 : RdOk 11 (lcL tx0 3 0 0 0 (fun _ => 0) (fun _ => 0)) Gr := w3 rd_tx0
  obtain ⟨p, hp⟩ := PF_of w3
  have hx1 := TxI_RcT (Or.inr rfl) w1
  have q1 : ∀ (a : Nat) (k : Int), (a ≤ 2 ∨ 15 ≤ a) → iv Gr a k = iv Gt a k := fun a k ha => by rw [w1.2 a k (by omega) (by omega) (by omega) (by omega) (by omega) (by omega) (by omega) (by omega), iv_sr]
  have q2 : ∀ (a : Nat) (k : Int), ¬ (a = 3 ∧ k = 6) → rv Gr a k = rv Gt a k := fun a k ha => by rw [w1.1.2.2.1, rv_sr, if_neg ha]
  have q3 : ∀ a, tg Gr a = tg Gt a ∧ ln Gr a = ln Gt a := fun a => ⟨hx1.1 a, hx1.2.1 a⟩
  have hFr : FC Gr := FC_tx hx1 hF
  clear hF
  have hF := hFr
  refine Ex.stk (st' := [.inl 0]) (by rw [show (rdL tx0 (3 : Int).toNat 0 (0, 0, 0, 0, 0)).1 = 0 from rd_tx0]; rfl) ?_
  refine x_istore_n (q := 20) (ls' := [some (.inr (.inr (some 1))), some (.inl 0), none]) dX9_takeText_19 rfl (Nat.le_of_ble_eq_true rfl) (by first | rfl | exact hnl | exact hnl2 _) rfl ?_
  refine x_aload_n (q := 21) dX9_takeText_20 rfl rfl ?_
  refine x_iconst (q := 22) dX9_takeText_21 rfl (by decide) ?_
  refine x_putI (q := 25) dX9_takeText_22 rfl f_9_90 rfl (fun h => by cases h) (fun h => by cases h) (ft1 hF) ?_
  have hF := FX_si hF 1 1 0
  refine x_iload_n (q := 26) dX9_takeText_25 rfl rfl ?_
  refine x_if_eq (q := 29) (t := 42) dX9_takeText_26 rfl (by decide) (fun h26 => ?_) (fun h26 => by exfalso; omega)
  refine x_aload_n (q := 43) dX9_takeText_42 rfl rfl ?_
  refine x_iconst (q := 44) dX9_takeText_43 rfl (by decide) ?_
  refine x_putI (q := 47) dX9_takeText_44 rfl f_9_13 rfl (fun h => by cases h) (fun h => by cases h) (ft1 hF) ?_
  have hF := FX_si hF 1 2 (-1)
  refine x_aload_n (q := 48) dX9_takeText_47 rfl rfl ?_
  refine x_getR (q := 51) dX9_takeText_48 rfl f_9_27 rfl (ft1 hF) ?_
  refine Ex.stk (st' := [.inr (.inr (some 7))]) (by rw [show rv (si (si Gr 1 1 0) 1 2 (-1)) 1 4 = some 7 from (by simp only [rv_si, rv_sr]; exact (q2 1 4 (by omega)).trans ((t2.2.1 1 4).trans r14))]) ?_
  refine x_astore_n (q := 52) (ls' := [some (.inr (.inr (some 1))), some (.inl 0), some (.inr (.inr (some 7)))]) dX9_takeText_51 rfl (Nat.le_of_ble_eq_true rfl) (by first | rfl | exact hnl | exact hnl2 _) rfl ?_
  refine x_aload_n (q := 53) dX9_takeText_52 rfl rfl ?_
  refine x_aload_n (q := 54) dX9_takeText_53 rfl rfl ?_
  refine x_getR (q := 57) dX9_takeText_54 rfl f_9_31 rfl (ft1 hF) ?_
  refine Ex.stk (st' := [.inr (.inr (some 11)), .inr (.inr (some 1))]) (by rw [show rv (si (si Gr 1 1 0) 1 2 (-1)) 1 5 = some 11 from (by first | exact (t2.2.1 1 5).trans r15 | exact (q2 1 5 (by omega)).trans ((t2.2.1 1 5).trans r15) | (simp only [rv_si, rv_sr]; exact (q2 1 5 (by omega)).trans ((t2.2.1 1 5).trans r15)))]) ?_
  refine x_putR (q := 60) dX9_takeText_57 rfl f_9_27 rfl (fun h => by cases h) (ft1 hF) ?_
  have hF := FX_sr hF (a := 1) (k := 4) (some 11) (by decide)
  refine x_aload_n (q := 61) dX9_takeText_60 rfl rfl ?_
  refine x_aload_n (q := 62) dX9_takeText_61 rfl rfl ?_
  refine x_putR (q := 65) dX9_takeText_62 rfl f_9_31 rfl (fun h => by cases h) (ft1 hF) ?_
  have hF := FX_sr hF (a := 1) (k := 5) (some 7) (by decide)
  refine x_aload_n (q := 66) dX9_takeText_65 rfl rfl ?_
  refine x_invV (q := 69) (as := [.inr (.inr (some 1))]) (rest := []) dX9_takeText_66 rfl l_9_255 m_X9_startAnew rfl rfl (ft1 hF) (Nat.le_of_ble_eq_true rfl) (CX.of m_X9_startAnew (Nat.le_of_ble_eq_true rfl) ?_) (fun _ _ h => h)
  refine Ex.lcl (ls' := [some (.inr (.inr (some 1)))]) rfl ?_
  refine x_aload_n (q := 1) dX9_startAnew_0 rfl rfl ?_
  refine x_getR (q := 4) dX9_startAnew_1 rfl f_9_37 rfl (ft1 hF) ?_
  refine Ex.stk (st' := [.inr (.inr (some 15))]) (by rw [fr1_6 hF]) ?_
  refine x_iconst (q := 5) dX9_startAnew_4 rfl (by decide) ?_
  refine x_putI (q := 8) dX9_startAnew_5 rfl f_9_103 rfl (fun h => by cases h) (fun h => by cases h) (ft15 hF) ?_
  have hF := FX_si hF 15 1 0
  refine x_aload_n (q := 9) dX9_startAnew_8 rfl rfl ?_
  refine x_getR (q := 12) dX9_startAnew_9 rfl f_9_37 rfl (ft1 hF) ?_
  refine Ex.stk (st' := [.inr (.inr (some 15))]) (by rw [fr1_6 hF]) ?_
  refine x_iconst (q := 13) dX9_startAnew_12 rfl (by decide) ?_
  refine x_putI (q := 16) dX9_startAnew_13 rfl f_9_106 rfl (fun h => by cases h) (fun h => by cases h) (ft15 hF) ?_
  have hF := FX_si hF 15 2 0
  refine x_aload_n (q := 17) dX9_startAnew_16 rfl rfl ?_
  refine x_getR (q := 20) dX9_startAnew_17 rfl f_9_51 rfl (ft1 hF) ?_
  refine Ex.stk (st' := [.inr (.inr (some 19))]) (by rw [fr1_10 hF]) ?_
  refine x_invV (q := 23) (as := [.inr (.inr (some 19))]) (rest := []) dX9_startAnew_20 rfl l_9_245 m_X2_forget rfl rfl (ft19 hF) (Nat.le_of_ble_eq_true rfl) (CX.up (d := 0 + 1) (by omega) (c_forget 0 hF)) (fun r1 Gx hZ => ?_)
  obtain ⟨rfl, hGx⟩ := hZ
  subst hGx
  have hF := FX_si hF 19 4 0
  refine Ex.stk (st' := []) rfl ?_
  refine x_aload_n (q := 24) dX9_startAnew_23 rfl rfl ?_
  refine x_getR (q := 27) dX9_startAnew_24 rfl f_9_78 rfl (ft1 hF) ?_
  refine Ex.stk (st' := [.inr (.inr (some 31))]) (by rw [fr1_8 hF]) ?_
  refine x_aload_n (q := 28) dX9_startAnew_27 rfl rfl ?_
  refine x_getR (q := 31) dX9_startAnew_28 rfl f_9_27 rfl (ft1 hF) ?_
  refine Ex.stk (st' := [.inr (.inr (some 11)), .inr (.inr (some 31))]) (by rw [show rv (si (si (si (sr (sr (si (si Gr 1 1 0) 1 2 (-1)) 1 4 (some 11)) 1 5 (some 7)) 15 1 0) 15 2 0) 19 4 0) 1 4 = some 11 from (by simp [rv_si, rv_sr])]) ?_
  refine x_invV (q := 34) (as := [.inr (.inr (some 31)), .inr (.inr (some 11))]) (rest := []) dX9_startAnew_31 rfl l_9_258 m_X3_takeProgram rfl rfl (ft31 hF) (Nat.le_of_ble_eq_true rfl) (CX.of m_X3_takeProgram (Nat.le_of_ble_eq_true rfl) ?_) (fun _ _ h => h)
  refine Ex.lcl (ls' := [some (.inr (.inr (some 31))), some (.inr (.inr (some 11)))]) rfl ?_
  refine x_aload_n (q := 1) dX3_takeProgram_0 rfl rfl ?_
  refine x_aload_n (q := 2) dX3_takeProgram_1 rfl rfl ?_
  refine x_putR (q := 5) dX3_takeProgram_2 rfl f_3_23 rfl (fun h => by cases h) (ft31 hF) ?_
  have hF := FX_sr hF (a := 31) (k := 4) (some 11) (by decide)
  refine x_vret dX3_takeProgram_5 rfl ?_
  refine Ex.stk (st' := []) rfl ?_
  refine x_aload_n (q := 35) dX9_startAnew_34 rfl rfl ?_
  refine x_getR (q := 38) dX9_startAnew_35 rfl f_9_74 rfl (ft1 hF) ?_
  refine Ex.stk (st' := [.inr (.inr (some 29))]) (by rw [fr1_7 hF]) ?_
  refine x_aload_n (q := 39) dX9_startAnew_38 rfl rfl ?_
  refine x_getR (q := 42) dX9_startAnew_39 rfl f_9_27 rfl (ft1 hF) ?_
  refine Ex.stk (st' := [.inr (.inr (some 11)), .inr (.inr (some 29))]) (by rw [show rv (sr (si (si (si (sr (sr (si (si Gr 1 1 0) 1 2 (-1)) 1 4 (some 11)) 1 5 (some 7)) 15 1 0) 15 2 0) 19 4 0) 31 4 (some 11)) 1 4 = some 11 from (by simp [rv_si, rv_sr])]) ?_
  refine x_invV (q := 45) (as := [.inr (.inr (some 29)), .inr (.inr (some 11))]) (rest := []) dX9_startAnew_42 rfl l_9_258 m_X3_takeProgram rfl rfl (ft29 hF) (Nat.le_of_ble_eq_true rfl) (CX.of m_X3_takeProgram (Nat.le_of_ble_eq_true rfl) ?_) (fun _ _ h => h)
  refine Ex.lcl (ls' := [some (.inr (.inr (some 29))), some (.inr (.inr (some 11)))]) rfl ?_
  refine x_aload_n (q := 1) dX3_takeProgram_0 rfl rfl ?_
  refine x_aload_n (q := 2) dX3_takeProgram_1 rfl rfl ?_
  refine x_putR (q := 5) dX3_takeProgram_2 rfl f_3_23 rfl (fun h => by cases h) (ft29 hF) ?_
  have hF := FX_sr hF (a := 29) (k := 4) (some 11) (by decide)
  refine x_vret dX3_takeProgram_5 rfl ?_
  refine Ex.stk (st' := []) rfl ?_
  obtain ⟨Gs, hGs⟩ : ∃ Gs, Gs = (sr (sr (si (si (si (sr (sr (si (si Gr 1 1 0) 1 2 (-1)) 1 4 (some 11)) 1 5 (some 7)) 15 1 0) 15 2 0) 19 4 0) 31 4 (some 11)) 29 4 (some 11)) := ⟨_, rfl⟩
  rw [← hGs] at hF
  rw [← hGs]
  have s1 : ∀ (a : Nat) (k : Int), a ≠ 1 → a ≠ 15 → ¬ (a = 19 ∧ k = 4) → iv Gs a k = iv Gr a k := fun a k x y z => by
    subst hGs
    rw [iv_sr, iv_sr, iv_si, if_neg z, iv_si, if_neg (by omega), iv_si, if_neg (by omega), iv_sr, iv_sr, iv_si, if_neg (by omega), iv_si, if_neg (by omega)]
  have s2 : ∀ (a : Nat) (k : Int), ¬ (a = 1 ∧ (k = 4 ∨ k = 5)) → ¬ ((a = 29 ∨ a = 31) ∧ k = 4) → rv Gs a k = rv Gr a k := fun a k x y => by
    subst hGs
    rw [rv_sr, if_neg (by omega), rv_sr, if_neg (by omega), rv_si, rv_si, rv_si, rv_sr, if_neg (by omega), rv_sr, if_neg (by omega), rv_si, rv_si]
  have s3 : (∀ a, tg Gs a = tg Gr a ∧ ln Gs a = ln Gr a) ∧ sz Gs = sz Gr ∧ sl Gs = sl Gr := by subst hGs; exact ⟨fun _ => ⟨rfl, rfl⟩, rfl, rfl⟩
  have s4 : rv Gs 1 4 = some 11 ∧ rv Gs 1 5 = some 7 ∧ rv Gs 29 4 = some 11 ∧ rv Gs 31 4 = some 11 := by subst hGs; simp [rv_si, rv_sr]
  have s5 : iv Gs 1 1 = 0 ∧ iv Gs 1 2 = -1 := by subst hGs; simp [iv_si, iv_sr]
  have z0 : ∀ (a : Nat) (k : Int), 15 ≤ a → iv Gr a k = 0 := fun a k ha => (q1 a k (by omega)).trans ((t1 a k (by omega) (by omega)).trans (hiv a k (by omega) (by omega)))
  have s6 : ∀ (a : Nat) (k : Int), 15 ≤ a → iv Gs a k = 0 := fun a k ha => by
    by_cases c15 : a = 15
    · subst hGs; subst c15
      rw [iv_sr, iv_sr, iv_si, if_neg (by omega), iv_si]
      split
      · rfl
      · rw [iv_si]
        split
        · rfl
        · rw [iv_sr, iv_sr, iv_si, if_neg (by omega), iv_si, if_neg (by omega)]; exact z0 15 k (by omega)
    · by_cases c19 : a = 19 ∧ k = 4
      · subst hGs; rw [iv_sr, iv_sr, iv_si, if_pos c19]
      · rw [s1 a k (by omega) c15 c19]; exact z0 a k ha
  have s7 : PF p Gs := PF_k hp (fun a k x y => s1 a k (by omega) (by omega) (by omega))
  have s8 : sz Gs = 32 := s3.2.1.trans (hx1.2.2.2.1.trans (t2.2.2.1.trans hsz))
  have s9 : sl Gs = sl Gk := s3.2.2.trans (hx1.2.2.2.2.1.trans t2.2.2.2)
  have s10 : rv Gs 17 1 = none := (s2 17 1 (by omega) (by omega)).trans ((q2 17 1 (by omega)).trans ((t2.2.1 17 1).trans r17))
  have s11 : rv Gs 28 0 = none := (s2 28 0 (by omega) (by omega)).trans ((q2 28 0 (by omega)).trans ((t2.2.1 28 0).trans r28))
  have s12 : ∀ i : Int, rv Gs 27 i = none := fun i => (s2 27 i (by omega) (by omega)).trans ((q2 27 i (by omega)).trans ((t2.2.1 27 i).trans (r27 i)))
  have s13 : Sm (fun a => a = 0) G0 Gs := hS0.trans (fun a ha => by
    subst ha
    exact ⟨(s3.1 0).1.trans ((q3 0).1.trans (t2.1 0).1), (s3.1 0).2.trans ((q3 0).2.trans (t2.1 0).2), fun k => (s1 0 k (by omega) (by omega) (by omega)).trans ((q1 0 k (by omega)).trans (t1 0 k (by omega) (by omega))), fun k => (s2 0 k (by omega) (by omega)).trans ((q2 0 k (by omega)).trans (t2.2.1 0 k))⟩)
  refine x_aload_n (q := 46) dX9_startAnew_45 rfl rfl ?_
  refine x_getR (q := 49) dX9_startAnew_46 rfl f_9_74 rfl (ft1 hF) ?_
  refine Ex.stk (st' := [.inr (.inr (some 29))]) (by rw [fr1_7 hF]) ?_
  refine x_aload_n (q := 50) dX9_startAnew_49 rfl rfl ?_
  refine x_getR (q := 53) dX9_startAnew_50 rfl f_9_44 rfl (ft1 hF) ?_
  refine Ex.stk (st' := [.inr (.inr (some 17)), .inr (.inr (some 29))]) (by rw [fr1_9 hF]) ?_
  refine x_getR (q := 56) dX9_startAnew_53 rfl f_9_212 rfl (ft17 hF) ?_
  refine Ex.stk (st' := [.inr (.inr none), .inr (.inr (some 29))]) (by rw [show rv Gs 17 1 = none from s10]) ?_
  refine x_invV (q := 59) (as := [.inr (.inr (some 29)), .inr (.inr none)]) (rest := []) dX9_startAnew_56 rfl l_9_262 m_X3_letGoWithAll rfl rfl (ft29 hF) (Nat.le_of_ble_eq_true rfl) (CX.of m_X3_letGoWithAll (Nat.le_of_ble_eq_true rfl) ?_) (fun _ _ h => h)
  refine Ex.lcl (ls' := [some (.inr (.inr (some 29))), some (.inr (.inr none))]) rfl ?_
  refine x_aload_n (q := 1) dX3_letGoWithAll_0 rfl rfl ?_
  refine x_ifnull (q := 4) (t := 9) dX3_letGoWithAll_1 rfl (by decide) (fun h1 => ?_) (fun a1 h1 => by exfalso; cases h1)
  refine x_vret dX3_letGoWithAll_9 rfl ?_
  refine Ex.stk (st' := []) rfl ?_
  refine x_aload_n (q := 60) dX9_startAnew_59 rfl rfl ?_
  refine x_getR (q := 63) dX9_startAnew_60 rfl f_9_44 rfl (ft1 hF) ?_
  refine Ex.stk (st' := [.inr (.inr (some 17))]) (by rw [fr1_9 hF]) ?_
  refine x_aload_n (q := 64) dX9_startAnew_63 rfl rfl ?_
  refine x_getR (q := 67) dX9_startAnew_64 rfl f_9_74 rfl (ft1 hF) ?_
  refine Ex.stk (st' := [.inr (.inr (some 29)), .inr (.inr (some 17))]) (by rw [fr1_7 hF]) ?_
  refine x_invV (q := 70) (as := [.inr (.inr (some 29))]) (rest := [.inr (.inr (some 17))]) dX9_startAnew_67 rfl l_9_265 m_X3_firstRoot rfl rfl (ft29 hF) (Nat.le_of_ble_eq_true rfl) (CX.of m_X3_firstRoot (Nat.le_of_ble_eq_true rfl) ?_) (fun _ _ h => h)
  refine Ex.lcl (ls' := [some (.inr (.inr (some 29))), none]) rfl ?_
  refine x_aload_n (q := 1) dX3_firstRoot_0 rfl rfl ?_
  refine x_iconst (q := 2) dX3_firstRoot_1 rfl (by decide) ?_
  refine x_putI (q := 5) dX3_firstRoot_2 rfl f_3_27 rfl (fun h => by cases h) (fun h => by cases h) (ft29 hF) ?_
  have hF := FX_si hF 29 6 0
  refine x_aload_n (q := 6) dX3_firstRoot_5 rfl rfl ?_
  refine x_iconst (q := 7) dX3_firstRoot_6 rfl (by decide) ?_
  refine x_iconst (q := 8) dX3_firstRoot_7 rfl (by decide) ?_
  refine x_iconst (q := 9) dX3_firstRoot_8 rfl (by decide) ?_
  refine x_invV (q := 12) (as := [.inr (.inr (some 29)), .inl 0, .inl 0, .inl 1]) (rest := []) dX3_firstRoot_9 rfl l_3_31 m_X3_make rfl rfl (ft29 hF) (Nat.le_of_ble_eq_true rfl) (CX.up (d := 0 + 8) (by omega) (c_make0 0 hF (show sz Gs = 32 from s8) (show rv Gs 28 0 = none from s11) (show rv Gs 29 4 = some 11 from s4.2.2.1) (PF_k s7 (fun a k x y => by rw [iv_si, if_neg (by omega)])) (by rw [iv_si, if_neg (by omega)]; exact s6 29 3 (by omega)) (by rw [iv_si, if_pos ⟨rfl, rfl⟩]) (by rw [iv_si, if_neg (by omega)]; exact s6 29 7 (by omega)))) (fun r1 Gm hZ => ?_)
  obtain ⟨rfl, m1, m2, m3, m4, m5, m6, m7, m8, m9, m10, m11⟩ := hZ
  have hF0 := hF
  clear hF
  have hF : FC Gm := ⟨fun e he => by
    have q1 : ∀ e ∈ fcT, e.1 ≤ 32 := by decide
    rw [(m3 _ (q1 e he)).1, (m3 _ (q1 e he)).2]; exact hF0.1 e he, fun e he => by
    have q1 : ∀ e ∈ fcR, e.1 ≤ 32 := by decide
    rw [m4 _ _ (q1 e he)]; exact hF0.2 e he⟩
  refine Ex.stk (st' := [.inr (.inr (some 33))]) rfl ?_
  refine x_astore_n (q := 13) (ls' := [some (.inr (.inr (some 29))), some (.inr (.inr (some 33)))]) dX3_firstRoot_12 rfl (Nat.le_of_ble_eq_true rfl) (by first | rfl | exact hnl | exact hnl2 _) rfl ?_
  refine x_aload_n (q := 14) dX3_firstRoot_13 rfl rfl ?_
  refine x_invV (q := 17) (as := [.inr (.inr (some 29))]) (rest := []) dX3_firstRoot_14 rfl l_3_35 m_X3_clearCounts rfl rfl (ft29 hF) (Nat.le_of_ble_eq_true rfl) (CX.up (d := 0 + 1) (by omega) (c_clrC 0 hF)) (fun r1 Gc hZ => ?_)
  obtain ⟨rfl, hGc⟩ := hZ
  have n1 : ∀ (a : Nat) (k : Int), ¬ (a = 29 ∧ (k = 7 ∨ k = 8 ∨ k = 9)) → iv Gc a k = iv Gm a k := fun a k x => by rw [hGc, iv_si, if_neg (by omega), iv_si, if_neg (by omega), iv_si, if_neg (by omega)]
  have n2 : iv Gc 29 7 = 0 ∧ iv Gc 29 8 = 0 ∧ iv Gc 29 9 = 0 := by rw [hGc]; simp [iv_si]
  have n3 : (∀ a, tg Gc a = tg Gm a ∧ ln Gc a = ln Gm a) ∧ (∀ (a : Nat) (k : Int), rv Gc a k = rv Gm a k) ∧ sz Gc = sz Gm ∧ sl Gc = sl Gm := by rw [hGc]; exact ⟨fun _ => ⟨rfl, rfl⟩, fun _ _ => rfl, rfl, rfl⟩
  have n4 : CO Gc 33 := ⟨(n3.1 33).1.trans m8.1, (n3.2.1 33 7).trans m8.2.1, (n3.1 34).1.trans m8.2.2.1, (n3.1 34).2.trans m8.2.2.2⟩
  have hF0 := hF
  clear hF
  have hF : FC Gc := by rw [hGc]; exact FX_si (FX_si (FX_si hF0 29 7 0) 29 8 0) 29 9 0
  have hTS : TS Gc 6 1 (mkN 5 (33, 0, 0, 0, 0, 0, 1) [] : Tr 6) := ⟨n4, (n1 33 5 (by omega)).trans m9.2.2.2.2.2.1, by rw [show rv Gc (nAd ((mkN 5 (33, 0, 0, 0, 0, 0, 1) [] : Tr 6)).1) 8 = none from (n3.2.1 33 8).trans m10]; exact rfl, fun p hp => by cases hp⟩
  refine Ex.stk (st' := []) rfl ?_
  refine x_aload_n (q := 18) dX3_firstRoot_17 rfl rfl ?_
  refine x_aret dX3_firstRoot_18 rfl ?_
  refine Ex.stk (st' := [.inr (.inr (some 33)), .inr (.inr (some 17))]) rfl ?_
  refine x_invV (q := 73) (as := [.inr (.inr (some 17)), .inr (.inr (some 33))]) (rest := []) dX9_startAnew_70 rfl l_9_220 m_X8_list rfl rfl (ft17 hF) (Nat.le_of_ble_eq_true rfl) (CX.up (d := 0 + 8) (by omega) (c_list 0 hF hTS (by decide) (by decide) (by decide))) (fun r1 Gl hZ => ?_)
  obtain ⟨rfl, g1, g2, g3⟩ := hZ
  refine Ex.stk (st' := []) rfl ?_
  refine x_vret dX9_startAnew_73 rfl ?_
  refine Ex.stk (st' := []) rfl ?_
  refine x_iconst (q := 70) dX9_takeText_69 rfl (by decide) ?_
  refine x_iret dX9_takeText_70 rfl ?_
  refine Ex.stk (st' := [.inl 0]) rfl ?_
  refine x_pop (q := 177) dX9_init_176 rfl rfl ?_
  refine x_vret dX9_init_177 rfl ?_
  have l1 : ∀ (a : Nat) (k : Int), ¬ (a = 17 ∧ k = 2) → ¬ (a = 33 ∧ (k = 13 ∨ k = 14)) → iv Gl a k = iv Gm a k ∨ (a = 29 ∧ (k = 7 ∨ k = 8 ∨ k = 9)) := fun a k x y => by
    rw [LsI_iv g1 x (by rcases Decidable.em (a = 33) with z | z; exact Or.inr ⟨by omega, by omega⟩; exact Or.inl (fun m => z (by simpa [adL, adLs, mkN, nAd] using m))), iv_si, if_neg x, iv_sr]
    by_cases c : a = 29 ∧ (k = 7 ∨ k = 8 ∨ k = 9)
    · exact Or.inr c
    · exact Or.inl (n1 a k c)
  have l2 : ∀ (a : Nat) (k : Int), a ≠ 18 → ¬ (a = 17 ∧ k = 1) → rv Gl a k = rv Gm a k := fun a k x y => by
    rw [LsI_rv g1 x, rv_si, rv_sr, if_neg y]; exact n3.2.1 a k
  have l3 : ∀ (a : Nat) (k : Int), a ≠ 17 → a ≠ 33 → a ≠ 29 → a ≠ 30 → a ≤ 32 → iv Gl a k = iv Gs a k := fun a k x y z u v => by
    rcases l1 a k (by omega) (by omega) with q | q
    · rw [q, m5 a k v u (by omega), iv_si, if_neg (by omega)]
    · omega
  have l4 : ∀ (a : Nat) (k : Int), a ≠ 18 → ¬ (a = 17 ∧ k = 1) → a ≤ 32 → rv Gl a k = rv Gs a k := fun a k x y z => (l2 a k x y).trans (m4 a k z)
  have l5 : ∀ a, a ≤ 32 → tg Gl a = tg Gs a ∧ ln Gl a = ln Gs a := fun a ha => ⟨(g1.2.2.1 a).1.trans ((n3.1 a).1.trans (m3 a ha).1), (g1.2.2.1 a).2.trans ((n3.1 a).2.trans (m3 a ha).2)⟩
  have l6 : sz Gl = 34 := g1.1.trans (n3.2.2.1.trans m1)
  have l7 : sl Gl = sl Gk + 23 := g1.2.1.trans (n3.2.2.2.trans (m2.trans (by rw [show sl (si Gs 29 6 0) = sl Gs from rfl, s9])))
  have l33 : ∀ k : Int, k < 13 → iv Gl 33 k = iv Gm 33 k := fun k hk => by
    rcases l1 33 k (by omega) (by omega) with q | q
    · exact q
    · omega
  have l29 : ∀ k : Int, k ≠ 7 → k ≠ 8 → k ≠ 9 → iv Gl 29 k = iv Gm 29 k := fun k x y z => by
    rcases l1 29 k (by omega) (by omega) with q | q
    · exact q
    · omega
  have l29b : ∀ k : Int, (k = 7 ∨ k = 8 ∨ k = 9) → iv Gl 29 k = 0 := fun k hk => by
    rw [LsI_iv g1 (by omega) (Or.inl (by decide)), iv_si, if_neg (by omega), iv_sr]
    rcases hk with h | h | h
    · subst h; exact n2.1
    · subst h; exact n2.2.1
    · subst h; exact n2.2.2
  have lF : FC Gl := FC_LsI g1 (FX_si (FX_sr hF (a := 17) (k := 1) _ (by decide)) 17 2 0)
  refine ⟨rfl, l6, by rw [l7, hsl], s13.trans (fun a ha => ?_), fun a k ha => ?_, fun G'' hS h62 hsl'' => ?_⟩
  · subst ha
    exact ⟨(l5 0 (by omega)).1, (l5 0 (by omega)).2, fun k => l3 0 k (by omega) (by omega) (by omega) (by omega) (by omega), fun k => l4 0 k (by omega) (by omega) (by omega)⟩
  · rcases l1 a k (by omega) (by omega) with q | q
    · rw [q, m11 a k (by omega), iv_si, if_neg (by omega)]; exact s6 a k (by omega)
    · omega
  have ei : ∀ (a : Nat) (k : Int), a ≤ 34 → iv G'' a k = iv Gl a k := fun a k ha => (hS a ha).2.2.1 k
  have er : ∀ (a : Nat) (k : Int), a ≤ 34 → rv G'' a k = rv Gl a k := fun a k ha => (hS a ha).2.2.2 k
  have z : ∀ (a : Nat) (k : Int), 15 ≤ a → a ≤ 32 → a ≠ 17 → a ≠ 29 → a ≠ 30 → iv G'' a k = 0 := fun a k x y u v q => (ei a k (by omega)).trans ((l3 a k u (by omega) v q y).trans (s6 a k x))
  have e33 : ∀ k : Int, k < 13 → iv G'' 33 k = iv Gm 33 k := fun k hk => (ei 33 k (by omega)).trans (l33 k hk)
  have e29 : ∀ k : Int, k ≠ 7 → k ≠ 8 → k ≠ 9 → iv G'' 29 k = iv Gm 29 k := fun k x y z => (ei 29 k (by omega)).trans (l29 k x y z)
  have e29b : ∀ k : Int, (k = 7 ∨ k = 8 ∨ k = 9) → iv G'' 29 k = 0 := fun k hk => (ei 29 k (by omega)).trans (l29b k hk)
  have e295 : iv G'' 29 5 = 0 := (e29 5 (by omega) (by omega) (by omega)).trans ((m5 29 5 (by omega) (by omega) (by omega)).trans (by rw [iv_si, if_neg (by omega)]; exact s6 29 5 (by omega)))
  have hco : CO G'' 33 := ⟨((hS 33 (by omega)).1).trans ((g1.2.2.1 33).1.trans n4.1), (er 33 7 (by omega)).trans ((l2 33 7 (by omega) (by omega)).trans m8.2.1), ((hS 34 (by omega)).1).trans ((g1.2.2.1 34).1.trans n4.2.2.1), ((hS 34 (by omega)).2.1).trans ((g1.2.2.1 34).2.trans n4.2.2.2)⟩
  have hfr : ∀ e ∈ fcR, e.1 ≤ 32 := by decide
  have hft : ∀ e ∈ fcT, e.1 ≤ 32 := by decide
  refine ⟨⟨fun e he => ?_, fun e he => ?_⟩, ⟨fun k k0 k1 => ?_, ?_, ?_⟩, ⟨11, Or.inr rfl, ?_, ?_, ?_, ?_, PF_RdOk (p := p) (PF_k s7 (fun a k x y => ?_))⟩, ⟨fun k k0 k1 => ?_, ?_, ?_, ?_, ⟨?_, ?_, ?_, fun i q p hq _ => ?_⟩, ⟨fun i i0 i1 => ?_, fun a ha => ?_⟩⟩, ⟨?_, fun i e he => ?_⟩, (mkN 5 (33, 0, 0, 0, 0, 0, 1) [] : Tr 6), [], (0, 0, 0, 0), ?_, ?_, ?_, ?_, ?_, ?_, ?_, ?_, ?_, ?_, ?_, ?_, ?_, ?_, ?_, ?_, ?_, ?_⟩
  · have := hft e he
    rw [(hS e.1 (by omega)).1, (hS e.1 (by omega)).2.1]; exact lF.1 e he
  · have := hfr e he
    rw [er e.1 _ (by omega)]; exact lF.2 e he
  · have h0 : s00.1.2.1 = 0 := rfl
    omega
  · exact (ei 1 1 (by omega)).trans ((l3 1 1 (by omega) (by omega) (by omega) (by omega) (by omega)).trans s5.1)
  · exact (ei 1 2 (by omega)).trans ((l3 1 2 (by omega) (by omega) (by omega) (by omega) (by omega)).trans s5.2)
  · exact (er 1 4 (by omega)).trans ((l4 1 4 (by omega) (by omega) (by omega)).trans s4.1)
  · exact (er 1 5 (by omega)).trans ((l4 1 5 (by omega) (by omega) (by omega)).trans s4.2.1)
  · exact (er 29 4 (by omega)).trans ((l4 29 4 (by omega) (by omega) (by omega)).trans s4.2.2.1)
  · exact (er 31 4 (by omega)).trans ((l4 31 4 (by omega) (by omega) (by omega)).trans s4.2.2.2)
  · exact (ei a k (by omega)).trans (l3 a k (by omega) (by omega) (by omega) (by omega) (by omega))
  · rw [z 16 k (by omega) (by omega) (by omega) (by omega) (by omega)]
    show (0 : Int) = fst0 (fun _ => 0) k
    rw [fst0_lo _ k1]
  · exact z 15 1 (by omega) (by omega) (by omega) (by omega) (by omega)
  · exact z 15 2 (by omega) (by omega) (by omega) (by omega) (by omega)
  · exact z 15 3 (by omega) (by omega) (by omega) (by omega) (by omega)
  · rw [z 19 3 (by omega) (by omega) (by omega) (by omega) (by omega)]; decide
  · rw [z 19 3 (by omega) (by omega) (by omega) (by omega) (by omega)]; decide
  · exact z 19 4 (by omega) (by omega) (by omega) (by omega) (by omega)
  · have hq : ([] : List (Int → Int))[i]? = some q := hq
    simp at hq
  · show rv G'' 27 i = none
    exact (er 27 i (by omega)).trans ((l4 27 i (by omega) (by omega) (by omega)).trans (s12 i))
  · rw [(er 27 0 (by omega)).trans ((l4 27 0 (by omega) (by omega) (by omega)).trans (s12 0))] at ha
    cases ha
  · exact z 23 3 (by omega) (by omega) (by omega) (by omega) (by omega)
  · have he : ([] : List (Int × Int × Int))[i]? = some e := he
    simp at he
  · show nad 6 (mkN 5 (33, 0, 0, 0, 0, 0, 1) [] : Tr 6) = (first P0 c00).1
    rw [first_P0]; rfl
  · rw [e295]
    refine ⟨⟨hco, (e33 0 (by omega)).trans m9.1, (e33 1 (by omega)).trans m9.2.1, (e33 2 (by omega)).trans m9.2.2.1, (e33 3 (by omega)).trans m9.2.2.2.1, (e33 4 (by omega)).trans m9.2.2.2.2.1, (e33 5 (by omega)).trans m9.2.2.2.2.2.1, (e33 6 (by omega)).trans m9.2.2.2.2.2.2.1, ?_, fun i i0 i1 hi => ?_⟩, ?_, fun q hq => by cases hq⟩
    · exact Int.le_of_eq ((e33 12 (by omega)).trans m9.2.2.2.2.2.2.2)
    · obtain h | h | h | h | h | h | h | h : i = 0 ∨ i = 1 ∨ i = 2 ∨ i = 3 ∨ i = 4 ∨ i = 5 ∨ i = 6 ∨ i = 7 := by omega
      all_goals (subst h; exact absurd hi (by decide))
    · rw [show rv G'' (nAd ((mkN 5 (33, 0, 0, 0, 0, 0, 1) [] : Tr 6)).1) 8 = none from (er 33 8 (by omega)).trans ((l2 33 8 (by omega) (by omega)).trans m10)]; rfl
  · exact (er 17 1 (by omega)).trans (by rw [LsI_rv g1 (by omega), rv_si, rv_sr, if_pos ⟨rfl, rfl⟩]; rfl)
  · exact (ei 17 2 (by omega)).trans g2
  · exact IA_kept _ _ g3 (fun j _ _ => er 18 j (by omega)) (fun e he => by
      have hm : nAd e.1 ∈ adL 6 (mkN 5 (33, 0, 0, 0, 0, 0, 1) [] : Tr 6) := by rw [← inf_adr 6 1 0 (-1) (mkN 5 (33, 0, 0, 0, 0, 0, 1) [] : Tr 6)]; exact List.mem_map.mpr ⟨e, he, rfl⟩
      have hm2 : nAd e.1 = 33 := by simpa [adL, adLs, mkN, nAd] using hm
      rw [hm2]; exact ⟨ei 33 13 (by omega), ei 33 14 (by omega)⟩)
  · show rv G'' 28 0 = none
    exact (er 28 0 (by omega)).trans ((l4 28 0 (by omega) (by omega) (by omega)).trans s11)
  · intro b hb
    have hb : b = 33 := by simpa [adL, adLs, mkN, nAd] using hb
    subst hb
    exact ⟨hco, Or.inl rfl, by omega⟩
  · decide
  · show Ct 29 ((first P0 c00).2.1, 0, 0, 0) G''
    rw [first_P0]
    exact ⟨(e29 6 (by omega) (by omega) (by omega)).trans m7, e29b 7 (by omega), e29b 8 (by omega), e29b 9 (by omega)⟩
  · exact ⟨z 31 6 (by omega) (by omega) (by omega) (by omega) (by omega), z 31 7 (by omega) (by omega) (by omega) (by omega) (by omega), z 31 8 (by omega) (by omega) (by omega) (by omega) (by omega), z 31 9 (by omega) (by omega) (by omega) (by omega) (by omega)⟩
  · exact (e29 3 (by omega) (by omega) (by omega)).trans m6
  · exact z 31 3 (by omega) (by omega) (by omega) (by omega) (by omega)
  · rw [e295]; decide
  · exact z 31 5 (by omega) (by omega) (by omega) (by omega) (by omega)
  · omega
  · show ((1 : Nat) : Int) ≤ _; omega
  · show _ ≤ 70 + 2 * ((1 : Nat) : Int) + _; omega
  · show _ ≤ 30000 + 23 * ((1 : Nat) : Int) + _; omega
