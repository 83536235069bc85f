/-! THE CLASS: going back to an image -/
def bcD (G : Hp) (b a b' a' : Nat) : Hp := si (si (si (cp G a' 0 b' 0 8) b 1 (iv G a 1)) b 2 (iv G a 2)) b 3 (iv G a 3)
theorem c_become (d : Nat) {G : Hp} {a b a' b' : Nat} (t1 : tg G a = 7) (t2 : tg G b = 7) (t3 : tg G b' = 20) (t4 : tg G a' = 20) (r1 : rv G a 0 = some a') (r2 : rv G b 0 = some b') (l1 : ln G b' = 8) (l2 : ln G a' = 8) (hab : a ≠ b') : CX (d + 1) 69 [.inr (.inr (some b)), .inr (.inr (some a))] G (fun r G1 => r = none ∧ G1 = bcD G b a b' a') := by
  refine CX.of (d := d + 0) m_X7_become (Nat.le_of_ble_eq_true rfl) ?_
  refine Ex.lcl (ls' := [some (.inr (.inr (some b))), some (.inr (.inr (some a)))]) rfl ?_
  refine x_aload_n (q := 1) dX7_become_0 rfl rfl ?_
  refine x_getR (q := 4) dX7_become_1 rfl f_7_9 rfl t1 ?_
  refine Ex.stk (st' := [.inr (.inr (some a'))]) (by rw [show rv G a 0 = some a' from r1]) ?_
  refine x_iconst (q := 5) dX7_become_4 rfl (by decide) ?_
  refine x_aload_n (q := 6) dX7_become_5 rfl rfl ?_
  refine x_getR (q := 9) dX7_become_6 rfl f_7_9 rfl t2 ?_
  refine Ex.stk (st' := [.inr (.inr (some b')), .inl 0, .inr (.inr (some a'))]) (by rw [show rv G b 0 = some b' from r2]) ?_
  refine x_iconst (q := 10) dX7_become_9 rfl (by decide) ?_
  refine x_bipush (q := 12) dX7_become_10 rfl (by decide) ?_
  refine x_copy (q := 15) dX7_become_12 rfl l_7_15 t4 t3 (by decide) (by decide) (by decide) (by omega) (by omega) (Nat.le_of_ble_eq_true rfl) ?_
  refine x_aload_n (q := 16) dX7_become_15 rfl rfl ?_
  refine x_aload_n (q := 17) dX7_become_16 rfl rfl ?_
  refine x_getI (q := 20) dX7_become_17 rfl f_7_21 rfl t1 ?_
  refine Ex.stk (st' := [.inl (iv G a 1), .inr (.inr (some b))]) (by rw [show iv (cp G a' 0 b' 0 8) a 1 = iv G a 1 from (by simp [iv_si, iv_cp, hab])]) ?_
  refine x_putI (q := 23) dX7_become_20 rfl f_7_21 rfl (fun h => by cases h) (fun h => by cases h) t2 ?_
  refine x_aload_n (q := 24) dX7_become_23 rfl rfl ?_
  refine x_aload_n (q := 25) dX7_become_24 rfl rfl ?_
  refine x_getI (q := 28) dX7_become_25 rfl f_7_25 rfl t1 ?_
  refine Ex.stk (st' := [.inl (iv G a 2), .inr (.inr (some b))]) (by rw [show iv (si (cp G a' 0 b' 0 8) b 1 (iv G a 1)) a 2 = iv G a 2 from (by simp [iv_si, iv_cp, hab])]) ?_
  refine x_putI (q := 31) dX7_become_28 rfl f_7_25 rfl (fun h => by cases h) (fun h => by cases h) t2 ?_
  refine x_aload_n (q := 32) dX7_become_31 rfl rfl ?_
  refine x_aload_n (q := 33) dX7_become_32 rfl rfl ?_
  refine x_getI (q := 36) dX7_become_33 rfl f_7_28 rfl t1 ?_
  refine Ex.stk (st' := [.inl (iv G a 3), .inr (.inr (some b))]) (by rw [show iv (si (si (cp G a' 0 b' 0 8) b 1 (iv G a 1)) b 2 (iv G a 2)) a 3 = iv G a 3 from (by simp [iv_si, iv_cp, hab])]) ?_
  refine x_putI (q := 39) dX7_become_36 rfl f_7_28 rfl (fun h => by cases h) (fun h => by cases h) t2 ?_
  refine x_vret dX7_become_39 rfl ?_
  exact ⟨rfl, rfl⟩
theorem c_forget (d : Nat) {G : Hp} (hF : FC G) : CX (d + 1) 21 [.inr (.inr (some 19))] G (fun r G1 => r = none ∧ G1 = si G 19 4 0) := by
  refine CX.of (d := d + 0) m_X2_forget (Nat.le_of_ble_eq_true rfl) ?_
  refine Ex.lcl (ls' := [some (.inr (.inr (some 19)))]) rfl ?_
  refine x_aload_n (q := 1) dX2_forget_0 rfl rfl ?_
  refine x_iconst (q := 2) dX2_forget_1 rfl (by decide) ?_
  refine x_putI (q := 5) dX2_forget_2 rfl f_2_29 rfl (fun h => by cases h) (fun h => by cases h) (ft19 hF) ?_
  have hF := FX_si hF 19 4 0
  refine x_vret dX2_forget_5 rfl ?_
  exact ⟨rfl, rfl⟩
theorem gb_ok {n : Int} {t : Tx} {P : Pg} {r : Rw} {b : Bk} {c : Tc} {G : Hp} (h : RC n (t, P, r, b, c) G) {a : Nat} {q : (Int → Int) × Int} (ha : ImAt G a q) : RC n (t, P, (q.1, [], r.2.2.1, q.2), b, c) (si (bcD G 15 a 16 (a + 1)) 19 4 0) ∧ LoI G (si (bcD G 15 a 16 (a + 1)) 19 4 0) := by
  have hC1 := h
  obtain ⟨hF, h2, h3, ⟨k1, k2, k3, k4, k5, k6⟩, h5, h6⟩ := h
  dsimp only at k1 k2 k3 k4 k5 k6 h2 h3 h5 h6
  obtain ⟨a1, a2, a3, a4, a5, a6, a7, a8, a9, a10⟩ := ha
  have ho : ∀ (x : Nat) (k : Int), (x ≠ 15 ∧ x ≠ 16 ∧ x ≠ 19 ∨ x = 19 ∧ k = 3) → iv (si (bcD G 15 a 16 (a + 1)) 19 4 0) x k = iv G x k := fun x k hx => by
    unfold bcD; simp only [iv_si, iv_cp]
    rw [if_neg (by omega), if_neg (by omega), if_neg (by omega), if_neg (by omega), if_neg (by omega)]
  have hi : LoI G (si (bcD G 15 a 16 (a + 1)) 19 4 0) := ⟨Io.rf G, fun x k g1 g2 g3 g4 g5 g6 g7 g8 g9 g10 g11 g12 => ho x k (by omega)⟩
  refine ⟨RC_lo hC1 hi (RCt_k h2 (fun k => ho _ k (by omega)) (ho _ _ (by omega)) (ho _ _ (by omega))) ⟨fun k k0 k9 => ?_, ?_, ?_, ?_, ⟨?_, ?_, ?_, fun i q' p' hq hp => by cases hq⟩, RCi_lo k6 hi⟩ (RCb_k h5 (ho _ _ (by omega)) (fun k => ho _ k (by omega)) (fun k => ho _ k (by omega)) (fun k => ho _ k (by omega))), hi⟩
  · show _ = q.1 k
    rw [← a10 k k0 k9]
    unfold bcD; simp only [iv_si, iv_cp]
    rw [if_neg (by omega), if_neg (by omega), if_neg (by omega), if_neg (by omega), if_pos ⟨by trivial, by omega, by omega⟩]
    congr 1; omega
  · show _ = q.1 8
    rw [← a7]; simp [bcD, iv_si]
  · show _ = q.1 9
    rw [← a8]; simp [bcD, iv_si]
  · show _ = q.2
    rw [← a9]; simp [bcD, iv_si]
  · rw [ho 19 3 (by omega)]; exact k5.1
  · rw [ho 19 3 (by omega)]; exact k5.2.1
  · simp [iv_si]
theorem cc_gb0 (d : Nat) {n : Int} {s : Sg} {G : Hp} (hR0 : RC n s G) (i : Int) (hz : ¬ (0 ≤ i ∧ i ≤ 1)) : CX (d + 2) 97 [.inr (.inr (some 1)), .inl i] G (fun r G' => r = some (.inl (o_goBack i s).1) ∧ RC n (o_goBack i s).2 G' ∧ Sm isM G G') := by
  have hC1 := hR0
  obtain ⟨hF, h2, h3, h4, h5, h6⟩ := hR0
  refine CX.of (d := d + 1) m_X9_goBack (Nat.le_of_ble_eq_true rfl) ?_
  refine Ex.lcl (ls' := [some (.inr (.inr (some 1))), some (.inl i), none]) rfl ?_
  refine x_iload_n (q := 1) dX9_goBack_0 rfl rfl ?_
  refine x_invS (q := 4) (as := [.inl i]) (rest := []) dX9_goBack_1 rfl l_9_239 m_X9_isImage rfl rfl (Nat.le_of_ble_eq_true rfl) (Nat.le_of_ble_eq_true rfl) (c_isImage _) (fun r1 G1 hR => ?_)
  obtain ⟨hG1, z1, rfl, z1a, z1b⟩ := hR
  replace hG1 := hG1.symm
  subst hG1
  refine Ex.stk (st' := [.inl z1]) rfl ?_
  refine x_if_ne (q := 7) (t := 10) dX9_goBack_4 rfl (by decide) (fun h4 => by exfalso; exact hz (z1b.mp (by omega))) (fun h4 => ?_)
  refine x_ldc (q := 9) dX9_goBack_7 rfl k_9_154 ?_
  refine x_iret dX9_goBack_9 rfl ?_
  have e : o_goBack i s = (-1000000001, s) := if_neg hz
  rw [e]; exact ⟨rfl, hC1, Sm.rf⟩
theorem cc_gb1 (d : Nat) {n : Int} {s : Sg} {G : Hp} (hR0 : RC n s G) (i : Int) (hz : 0 ≤ i ∧ i ≤ 1) (hn : s.2.2.1.2.2.1 i = none) (hr : rv G 27 i = none) : CX (d + 2) 97 [.inr (.inr (some 1)), .inl i] G (fun r G' => r = some (.inl (o_goBack i s).1) ∧ RC n (o_goBack i s).2 G' ∧ Sm isM G G') := by
  have hC1 := hR0
  obtain ⟨hF, h2, h3, h4, h5, h6⟩ := hR0
  refine CX.of (d := d + 1) m_X9_goBack (Nat.le_of_ble_eq_true rfl) ?_
  refine Ex.lcl (ls' := [some (.inr (.inr (some 1))), some (.inl i), none]) rfl ?_
  refine x_iload_n (q := 1) dX9_goBack_0 rfl rfl ?_
  refine x_invS (q := 4) (as := [.inl i]) (rest := []) dX9_goBack_1 rfl l_9_239 m_X9_isImage rfl rfl (Nat.le_of_ble_eq_true rfl) (Nat.le_of_ble_eq_true rfl) (c_isImage _) (fun r1 G1 hR => ?_)
  obtain ⟨hG1, z1, rfl, z1a, z1b⟩ := hR
  replace hG1 := hG1.symm
  subst hG1
  refine Ex.stk (st' := [.inl z1]) rfl ?_
  refine x_if_ne (q := 7) (t := 10) dX9_goBack_4 rfl (by decide) (fun h4 => ?_) (fun h4 => by exfalso; have := z1b.mpr hz; omega)
  refine x_aload_n (q := 11) dX9_goBack_10 rfl rfl ?_
  refine x_getR (q := 14) dX9_goBack_11 rfl f_9_62 rfl (ft1 hF) ?_
  refine Ex.stk (st' := [.inr (.inr (some 27))]) (by rw [fr1_12 hF]) ?_
  refine x_iload_n (q := 15) dX9_goBack_14 rfl rfl ?_
  refine x_aaload (q := 16) dX9_goBack_15 rfl (Or.inr (ft27 hF)) (by omega) (by rw [fl27 hF]; omega) ?_
  refine Ex.stk (st' := [.inr (.inr none)]) (by rw [show rv G 27 i = none from hr]) ?_
  refine x_astore_n (q := 17) (ls' := [some (.inr (.inr (some 1))), some (.inl i), some (.inr (.inr none))]) dX9_goBack_16 rfl (Nat.le_of_ble_eq_true rfl) (by first | rfl | exact hnl | exact hnl2 _) rfl ?_
  refine x_aload_n (q := 18) dX9_goBack_17 rfl rfl ?_
  refine x_ifnull (q := 21) (t := 35) dX9_goBack_18 rfl (by decide) (fun h18 => ?_) (fun a18 h18 => by exfalso; cases h18)
  refine x_ldc (q := 37) dX9_goBack_35 rfl k_9_230 ?_
  refine x_iret dX9_goBack_37 rfl ?_
  have e : o_goBack i s = (-1000000003, s) := by rw [o_goBack, if_pos hz, hn]
  rw [e]; exact ⟨rfl, hC1, Sm.rf⟩
theorem cc_gb2 (d : Nat) {n : Int} {s : Sg} {G : Hp} (hR0 : RC n s G) (i : Int) (hz : 0 ≤ i ∧ i ≤ 1) {q : (Int → Int) × Int} (hn : s.2.2.1.2.2.1 i = some q) (q8 : 0 ≤ q.1 8) {a : Nat} (hr : rv G 27 i = some a) (him : ImAt G a q) : CX (d + 2) 97 [.inr (.inr (some 1)), .inl i] G (fun r G' => r = some (.inl (o_goBack i s).1) ∧ RC n (o_goBack i s).2 G' ∧ Sm isM G G') := by
  have hC1 := hR0
  obtain ⟨hF, h2, h3, h4, h5, h6⟩ := hR0
  obtain ⟨pa, p1, p2, p3, p4, p5, p6⟩ := h3
  obtain ⟨a1, a2, a3, a4, a5, a6, a7, a8, a9, a10⟩ := id him
  refine CX.of (d := d + 1) m_X9_goBack (Nat.le_of_ble_eq_true rfl) ?_
  refine Ex.lcl (ls' := [some (.inr (.inr (some 1))), some (.inl i), none]) rfl ?_
  refine x_iload_n (q := 1) dX9_goBack_0 rfl rfl ?_
  refine x_invS (q := 4) (as := [.inl i]) (rest := []) dX9_goBack_1 rfl l_9_239 m_X9_isImage rfl rfl (Nat.le_of_ble_eq_true rfl) (Nat.le_of_ble_eq_true rfl) (c_isImage _) (fun r1 G1 hR => ?_)
  obtain ⟨hG1, z1, rfl, z1a, z1b⟩ := hR
  replace hG1 := hG1.symm
  subst hG1
  refine Ex.stk (st' := [.inl z1]) rfl ?_
  refine x_if_ne (q := 7) (t := 10) dX9_goBack_4 rfl (by decide) (fun h4 => ?_) (fun h4 => by exfalso; have := z1b.mpr hz; omega)
  refine x_aload_n (q := 11) dX9_goBack_10 rfl rfl ?_
  refine x_getR (q := 14) dX9_goBack_11 rfl f_9_62 rfl (ft1 hF) ?_
  refine Ex.stk (st' := [.inr (.inr (some 27))]) (by rw [fr1_12 hF]) ?_
  refine x_iload_n (q := 15) dX9_goBack_14 rfl rfl ?_
  refine x_aaload (q := 16) dX9_goBack_15 rfl (Or.inr (ft27 hF)) (by omega) (by rw [fl27 hF]; omega) ?_
  refine Ex.stk (st' := [.inr (.inr (some a))]) (by rw [show rv G 27 i = some a from hr]) ?_
  refine x_astore_n (q := 17) (ls' := [some (.inr (.inr (some 1))), some (.inl i), some (.inr (.inr (some a)))]) dX9_goBack_16 rfl (Nat.le_of_ble_eq_true rfl) (by first | rfl | exact hnl | exact hnl2 _) rfl ?_
  refine x_aload_n (q := 18) dX9_goBack_17 rfl rfl ?_
  refine x_ifnull (q := 21) (t := 35) dX9_goBack_18 rfl (by decide) (fun h18 => by exfalso; cases h18) (fun a18 h18 => ?_)
  refine x_aload_n (q := 22) dX9_goBack_21 rfl rfl ?_
  refine x_getR (q := 25) dX9_goBack_22 rfl f_9_27 rfl (ft1 hF) ?_
  refine Ex.stk (st' := [.inr (.inr (some pa))]) (by rw [show rv G 1 4 = some pa from p2]) ?_
  refine x_aload_n (q := 26) dX9_goBack_25 rfl rfl ?_
  refine x_getI (q := 29) dX9_goBack_26 rfl f_9_103 rfl a3 ?_
  refine Ex.stk (st' := [.inl (q.1 8), .inr (.inr (some pa))]) (by rw [show iv G a 1 = q.1 8 from a7]) ?_
  refine x_invV (q := 32) (as := [.inr (.inr (some pa)), .inl (q.1 8)]) (rest := []) dX9_goBack_29 rfl l_9_205 m_X5_tellsOf rfl rfl (PGs_FC hF p1).1 (Nat.le_of_ble_eq_true rfl) (c_tellsOf _ (PGs_FC hF p1) p6.1) (fun r1 G1 hR => ?_)
  obtain ⟨hG1, z29, rfl, z29a, z29b⟩ := hR
  replace hG1 := hG1.symm
  subst hG1
  refine Ex.stk (st' := [.inl z29]) rfl ?_
  refine x_if_ne (q := 35) (t := 38) dX9_goBack_32 rfl (by decide) (fun h32 => ?_) (fun h32 => ?_)
  · refine x_aload_n (q := 39) dX9_goBack_38 rfl rfl ?_
    refine x_getR (q := 42) dX9_goBack_39 rfl f_9_37 rfl (ft1 hF) ?_
    refine Ex.stk (st' := [.inr (.inr (some 15))]) (by rw [fr1_6 hF]) ?_
    refine x_aload_n (q := 43) dX9_goBack_42 rfl rfl ?_
    refine x_invV (q := 46) (as := [.inr (.inr (some 15)), .inr (.inr (some a))]) (rest := []) dX9_goBack_43 rfl l_9_242 m_X7_become rfl rfl (ft15 hF) (Nat.le_of_ble_eq_true rfl) (CX.up (d := 0 + 1) (by omega) (c_become 0 a3 (ft15 hF) (ft16 hF) a5 a4 (fr15_0 hF) (fl16 hF) a6 (by omega))) (fun r1 G1 hR => ?_)
    obtain ⟨rfl, rfl⟩ := hR
    have hF : FC (bcD G 15 a 16 (a + 1)) := hF
    refine Ex.stk (st' := []) rfl ?_
    refine x_aload_n (q := 47) dX9_goBack_46 rfl rfl ?_
    refine x_getR (q := 50) dX9_goBack_47 rfl f_9_51 rfl (ft1 hF) ?_
    refine Ex.stk (st' := [.inr (.inr (some 19))]) (by rw [fr1_10 hF]) ?_
    refine x_invV (q := 53) (as := [.inr (.inr (some 19))]) (rest := []) dX9_goBack_50 rfl l_9_245 m_X2_forget rfl rfl (ft19 hF) (Nat.le_of_ble_eq_true rfl) (CX.up (d := 0 + 1) (by omega) (c_forget 0 hF)) (fun r1 G1 hR => ?_)
    obtain ⟨rfl, rfl⟩ := hR
    have hF : FC (si (bcD G 15 a 16 (a + 1)) 19 4 0) := hF
    refine Ex.stk (st' := []) rfl ?_
    refine x_iconst (q := 54) dX9_goBack_53 rfl (by decide) ?_
    refine x_iret dX9_goBack_54 rfl ?_
    have e : o_goBack i s = (1, s.1, s.2.1, (q.1, [], s.2.2.1.2.2.1, q.2), s.2.2.2) := by rw [o_goBack, if_pos hz, hn]; exact if_pos (z29b.mp (by omega)).2
    rw [e]; exact ⟨rfl, (gb_ok (t := s.1) (P := s.2.1) (r := s.2.2.1) (b := s.2.2.2.1) (c := s.2.2.2.2) hC1 him).1, (gb_ok (t := s.1) (P := s.2.1) (r := s.2.2.1) (b := s.2.2.2.1) (c := s.2.2.2.2) hC1 him).2.M⟩
  · refine x_ldc (q := 37) dX9_goBack_35 rfl k_9_230 ?_
    refine x_iret dX9_goBack_37 rfl ?_
    have e : o_goBack i s = (-1000000003, s) := by rw [o_goBack, if_pos hz, hn]; exact if_neg (fun k => by have := z29b.mpr ⟨q8, k⟩; omega)
    rw [e]; exact ⟨rfl, hC1, Sm.rf⟩
theorem cc_goBack (d : Nat) {n : Int} {s : Sg} {G : Hp} (hR0 : RC n s G) (i : Int) (hq : ∀ j q, s.2.2.1.2.2.1 j = some q → 0 ≤ q.1 8) : CX (d + 2) 97 [.inr (.inr (some 1)), .inl i] G (fun r G' => r = some (.inl (o_goBack i s).1) ∧ RC n (o_goBack i s).2 G' ∧ Sm isM G G') := by
  by_cases hz : 0 ≤ i ∧ i ≤ 1
  · have hi := hR0.2.2.2.1.2.2.2.2.2.1 i (by omega) (by omega)
    cases hn : s.2.2.1.2.2.1 i with
    | none => rw [hn] at hi; exact cc_gb1 d hR0 i hz hn hi
    | some q =>
      rw [hn] at hi
      obtain ⟨a, e1, e2⟩ := hi
      exact cc_gb2 d hR0 i hz hn (hq i q hn) e1 e2
  · exact cc_gb0 d hR0 i hz
