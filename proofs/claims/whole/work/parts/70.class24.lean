/-! THE CLASS: drift -/
theorem and31 (x : Int) : (Int32.ofInt x &&& Int32.ofInt 2147483647).toInt = x % 2147483648 := by
  have h1 : (Int32.ofInt x &&& Int32.ofInt 2147483647).toInt = (BitVec.ofInt 32 x &&& 2147483647#32).toInt := rfl
  rw [h1]
  have h2 : (BitVec.ofInt 32 x &&& 2147483647#32).toNat = (BitVec.ofInt 32 x).toNat % 2147483648 := by
    rw [BitVec.toNat_and]
    exact Nat.and_two_pow_sub_one_eq_mod _ 31
  rw [BitVec.toInt_eq_toNat_of_lt (by rw [h2]; omega), h2, BitVec.toNat_ofInt]
  omega
theorem wr_m31 (x : Int) : wr x % 2147483648 = x % 2147483648 := by unfold wr; rw [Int.bmod_def]; split <;> omega
theorem c_drawC (d : Nat) {G : Hp} (hF : FC G) {z m : Int} (hz : iv G 15 3 = z) (m0 : 0 < m) : CX (d + 1) 70 [.inr (.inr (some 15)), .inl m] G (fun r G1 => r = some (.inl (drw z / 65536 % m)) ∧ G1 = si G 15 3 (drw z)) := by
  have hdr : 0 ≤ drw z ∧ drw z < 2147483648 := by unfold drw; omega
  refine CX.of (d := d + 0) m_X7_draw (Nat.le_of_ble_eq_true rfl) ?_
  refine Ex.lcl (ls' := [some (.inr (.inr (some 15))), some (.inl m)]) rfl ?_
  refine x_aload_n (q := 1) dX7_draw_0 rfl rfl ?_
  refine x_aload_n (q := 2) dX7_draw_1 rfl rfl ?_
  refine x_getI (q := 5) dX7_draw_2 rfl f_7_28 rfl (ft15 hF) ?_
  refine Ex.stk (st' := [.inl z, .inr (.inr (some 15))]) (by rw [show iv G 15 3 = z from hz]) ?_
  refine x_ldc (q := 7) dX7_draw_5 rfl k_7_31 ?_
  refine x_imul (q := 8) (z := wr (z * 1103515245)) dX7_draw_7 rfl rfl ?_
  refine x_sipush (q := 11) dX7_draw_8 rfl (by decide) ?_
  refine x_iadd (q := 12) (z := wr (wr (z * 1103515245) + 12345)) dX7_draw_11 rfl rfl ?_
  refine x_ldc (q := 14) dX7_draw_12 rfl k_7_32 ?_
  refine x_iand (q := 15) (z := drw z) dX7_draw_14 rfl (by rw [and31, wr_m31]; unfold drw; have := wr_m31 (z * 1103515245); omega) ?_
  refine x_putI (q := 18) dX7_draw_15 rfl f_7_28 rfl (fun h => by cases h) (fun h => by cases h) (ft15 hF) ?_
  have hF := FX_si hF 15 3 (drw z)
  refine x_iload_n (q := 19) dX7_draw_18 rfl rfl ?_
  refine x_if_le (q := 22) (t := 34) dX7_draw_19 rfl (by decide) (fun h19 => by exfalso; omega) (fun h19 => ?_)
  refine x_aload_n (q := 23) dX7_draw_22 rfl rfl ?_
  refine x_getI (q := 26) dX7_draw_23 rfl f_7_28 rfl (ft15 hF) ?_
  refine Ex.stk (st' := [.inl (drw z)]) (by rw [show iv (si G 15 3 (drw z)) 15 3 = drw z from (by simp [iv_si, iv_sr])]) ?_
  refine x_ldc (q := 28) dX7_draw_26 rfl k_7_33 ?_
  refine x_idiv (q := 29) (z := drw z / 65536) dX7_draw_28 rfl (by omega) (by rw [Int.tdiv_eq_ediv_of_nonneg (by omega)]; exact wr_id ⟨by omega, by omega⟩) ?_
  refine x_iload_n (q := 30) dX7_draw_29 rfl rfl ?_
  refine x_irem (q := 31) (z := drw z / 65536 % m) dX7_draw_30 rfl (by omega) (Int.tmod_eq_emod_of_nonneg (by omega)) ?_
  refine x_goto (t := 35) dX7_draw_31 (by decide) ?_
  refine x_iret dX7_draw_35 rfl ?_
  exact ⟨rfl, rfl⟩
theorem seed_ok {n : Int} {t : Tx} {P : Pg} {r0 : Int → Int} {hs : List (Int → Int)} {im : Int → Option ((Int → Int) × Int)} {z z' : Int} {b : Bk} {c : Tc} {G : Hp} (h : RC n (t, P, (r0, hs, im, z), b, c) G) : RC n (t, P, (r0, hs, im, z'), b, c) (si G 15 3 z') := by
  have hC1 := h
  obtain ⟨hF, h2, h3, ⟨k1, k2, k3, k4, k5, k6⟩, h5, h6⟩ := h
  have hi : LoI G (si G 15 3 z') := (LoI.rf G).si _ _ (by omega)
  exact RC_lo hC1 hi (RCt_k h2 (fun k => by simp [iv_si]) (by simp [iv_si]) (by simp [iv_si])) ⟨fun k k0 k9 => Eq.trans (by simp [iv_si]) (k1 k k0 k9), Eq.trans (by simp [iv_si]) k2, Eq.trans (by simp [iv_si]) k3, by simp [iv_si], RCd_k k5 (fun a k a0 a1 => by simp only [iv_si]; rw [if_neg (by omega)]), RCi_lo k6 hi⟩ (RCb_k h5 (by simp [iv_si]) (fun k => by simp [iv_si]) (fun k => by simp [iv_si]) (fun k => by simp [iv_si]))
theorem drift_loopC {d : Nat} {n N : Int} {t : Tx} {P : Pg} {b : Bk} {c : Tc} {Q : Option V → Hp → Prop} (N1 : N ≤ 12) : ∀ (m : Nat) (r : Rw) (i : Int) (G : Hp) (l3 l4 : Option V), isL l3 = false → isL l4 = false → 0 ≤ i → i + (m : Int) = N → r.2.1.length ≤ 16 → RC n (t, P, r, b, c) G → (∀ G', RC n (t, P, drN m r, b, c) G' → Sm isM G G' → Q (some (.inl (drN m r).2.2.2)) G') → Ex (d + 4) (some .int) 9 false cX9_drift 16 [some (.inr (.inr (some 1))), some (.inl N), some (.inl i), l3, l4] [] G Q := by
  intro m
  induction m with
  | zero =>
    intro r i G l3 l4 hn3 hn4 i0 i1 hl hR kk
    have hF := hR.1
    have hsd : iv G 15 3 = r.2.2.2 := hR.2.2.2.1.2.2.2.1
    refine x_iload_n (q := 17) dX9_drift_16 rfl rfl ?_
    refine x_iload_n (q := 18) dX9_drift_17 rfl rfl ?_
    refine x_icmp_ge (q := 21) (t := 56) dX9_drift_18 rfl (by decide) (fun h18 => ?_) (fun h18 => by exfalso; omega)
    refine x_aload_n (q := 57) dX9_drift_56 rfl rfl ?_
    refine x_getR (q := 60) dX9_drift_57 rfl f_9_37 rfl (ft1 hF) ?_
    refine Ex.stk (st' := [.inr (.inr (some 15))]) (by rw [fr1_6 hF]) ?_
    refine x_getI (q := 63) dX9_drift_60 rfl f_9_227 rfl (ft15 hF) ?_
    refine Ex.stk (st' := [.inl r.2.2.2]) (by rw [show iv G 15 3 = r.2.2.2 from hsd]) ?_
    refine x_iret dX9_drift_63 rfl ?_
    exact kk G hR Sm.rf
  | succ m ih =>
    intro r i G l3 l4 hn3 hn4 i0 i1 hl hR kk
    have hF := hR.1
    have hsd : iv G 15 3 = r.2.2.2 := hR.2.2.2.1.2.2.2.1
    have hnl : noL [some (.inr (.inr (some 1))), some (.inl N), some (.inl i), l3, l4] = true := by simp [noL, isL]; exact ⟨hn3, hn4⟩
    have hnl2 : ∀ x : Int, noL [some (.inr (.inr (some 1))), some (.inl N), some (.inl i), some (.inl x), l4] = true := fun x => by simp [noL, isL]; exact hn4
    have hS0 : Sm isM G (si (si G 15 3 (drw r.2.2.2)) 15 3 (drw (drw r.2.2.2))) := (((LoI.rf G).si _ _ (by omega)).si _ _ (by omega)).M
    refine x_iload_n (q := 17) dX9_drift_16 rfl rfl ?_
    refine x_iload_n (q := 18) dX9_drift_17 rfl rfl ?_
    refine x_icmp_ge (q := 21) (t := 56) dX9_drift_18 rfl (by decide) (fun h18 => by exfalso; omega) (fun h18 => ?_)
    refine x_aload_n (q := 22) dX9_drift_21 rfl rfl ?_
    refine x_getR (q := 25) dX9_drift_22 rfl f_9_37 rfl (ft1 hF) ?_
    refine Ex.stk (st' := [.inr (.inr (some 15))]) (by rw [fr1_6 hF]) ?_
    refine x_bipush (q := 27) dX9_drift_25 rfl (by decide) ?_
    refine x_invV (q := 30) (as := [.inr (.inr (some 15)), .inl 8]) (rest := []) dX9_drift_27 rfl l_9_224 m_X7_draw rfl rfl (ft15 hF) (Nat.le_of_ble_eq_true rfl) (CX.up (d := 0 + 1) (by omega) (c_drawC 0 hF (z := r.2.2.2) (m := 8) (hsd) (by decide))) (fun r1 G1 hR1 => ?_)
    obtain ⟨rfl, rfl⟩ := hR1
    have hF : FC (si G 15 3 (drw r.2.2.2)) := hF
    refine Ex.stk (st' := [.inl (drw r.2.2.2 / 65536 % 8)]) rfl ?_
    refine x_istore_n (q := 31) (ls' := [some (.inr (.inr (some 1))), some (.inl N), some (.inl i), some (.inl (drw r.2.2.2 / 65536 % 8)), l4]) dX9_drift_30 rfl (Nat.le_of_ble_eq_true rfl) (by first | rfl | exact hnl | exact hnl2 _) rfl ?_
    refine x_aload_n (q := 32) dX9_drift_31 rfl rfl ?_
    refine x_getR (q := 35) dX9_drift_32 rfl f_9_37 rfl (ft1 hF) ?_
    refine Ex.stk (st' := [.inr (.inr (some 15))]) (by rw [fr1_6 hF]) ?_
    refine x_bipush (q := 37) dX9_drift_35 rfl (by decide) ?_
    refine x_invV (q := 40) (as := [.inr (.inr (some 15)), .inl 10]) (rest := []) dX9_drift_37 rfl l_9_224 m_X7_draw rfl rfl (ft15 hF) (Nat.le_of_ble_eq_true rfl) (CX.up (d := 0 + 1) (by omega) (c_drawC 0 hF (z := drw r.2.2.2) (m := 10) (by simp [iv_si]) (by decide))) (fun r1 G1 hR1 => ?_)
    obtain ⟨rfl, rfl⟩ := hR1
    have hF : FC (si (si G 15 3 (drw r.2.2.2)) 15 3 (drw (drw r.2.2.2))) := hF
    refine Ex.stk (st' := [.inl (drw (drw r.2.2.2) / 65536 % 10)]) rfl ?_
    refine x_istore (q := 42) (ls' := [some (.inr (.inr (some 1))), some (.inl N), some (.inl i), some (.inl (drw r.2.2.2 / 65536 % 8)), some (.inl (drw (drw r.2.2.2) / 65536 % 10))]) dX9_drift_40 rfl (Nat.le_of_ble_eq_true rfl) (by first | rfl | exact hnl | exact hnl2 _) rfl ?_
    refine x_aload_n (q := 43) dX9_drift_42 rfl rfl ?_
    refine x_iload_n (q := 44) dX9_drift_43 rfl rfl ?_
    refine x_iload (q := 46) dX9_drift_44 rfl rfl ?_
    have hR2 := seed_ok (z' := drw (drw r.2.2.2)) (seed_ok (z' := drw r.2.2.2) hR)
    refine x_invV (q := 49) (as := [.inr (.inr (some 1)), .inl (drw r.2.2.2 / 65536 % 8), .inl (drw (drw r.2.2.2) / 65536 % 10)]) (rest := []) dX9_drift_46 rfl l_9_202 m_X9_changeCell rfl rfl (ft1 hF) (Nat.le_of_ble_eq_true rfl) (CX.up (d := 0 + 4) (by omega) (cc_change 0 hR2 (drw r.2.2.2 / 65536 % 8) (drw (drw r.2.2.2) / 65536 % 10) (by omega) (by omega) hl)) (fun r1 G1 hR1 => ?_)
    obtain ⟨rfl, hR1, hS1⟩ := hR1
    have hF : FC G1 := hR1.1
    refine Ex.stk (st' := [.inl (r.1 (drw r.2.2.2 / 65536 % 8))]) rfl ?_
    refine x_pop (q := 50) dX9_drift_49 rfl rfl ?_
    refine x_iinc (q := 53) (ls' := [some (.inr (.inr (some 1))), some (.inl N), some (.inl (i + 1)), some (.inl (drw r.2.2.2 / 65536 % 8)), some (.inl (drw (drw r.2.2.2) / 65536 % 10))]) dX9_drift_50 rfl rfl (by first | rfl | exact hnl | exact hnl2 _) (by rw [show wr (i + 1) = i + 1 from (wr_id ⟨by omega, by omega⟩)]; rfl) ?_
    refine x_goto (t := 16) dX9_drift_53 (by decide) ?_
    exact ih (dr1 r) _ G1 _ _ rfl rfl (by omega) (by omega) (by simp only [dr1, List.length_take]; omega) hR1 (fun G2 k1 k2 => kk G2 k1 ((hS0.trans hS1).trans k2))
theorem cc_drift (d : Nat) {n : Int} {s : Sg} {G : Hp} (hR0 : RC n s G) (N : Int) (hl : s.2.2.1.2.1.length ≤ 16) : CX (d + 5) 91 [.inr (.inr (some 1)), .inl N] G (fun r G' => r = some (.inl (o_drift N s).1) ∧ RC n (o_drift N s).2 G' ∧ Sm isM G G') := by
  have hC1 := hR0
  obtain ⟨hF, h2, h3, h4, h5, h6⟩ := hR0
  refine CX.of (d := d + 4) m_X9_drift (Nat.le_of_ble_eq_true rfl) ?_
  refine Ex.lcl (ls' := [some (.inr (.inr (some 1))), some (.inl N), none, none, none]) rfl ?_
  refine x_iload_n (q := 1) dX9_drift_0 rfl rfl ?_
  refine x_iconst (q := 2) dX9_drift_1 rfl (by decide) ?_
  refine x_icmp_lt (q := 5) (t := 11) dX9_drift_2 rfl (by decide) (fun h2 => ?_) (fun h2 => ?_)
  · refine x_ldc (q := 13) dX9_drift_11 rfl k_9_89 ?_
    refine x_iret dX9_drift_13 rfl ?_
    have e : o_drift N s = (-1000000002, s) := if_neg (by omega)
    rw [e]; exact ⟨rfl, hC1, Sm.rf⟩
  · refine x_iload_n (q := 6) dX9_drift_5 rfl rfl ?_
    refine x_bipush (q := 8) dX9_drift_6 rfl (by decide) ?_
    refine x_icmp_le (q := 11) (t := 14) dX9_drift_8 rfl (by decide) (fun h8 => ?_) (fun h8 => ?_)
    · refine x_iconst (q := 15) dX9_drift_14 rfl (by decide) ?_
      refine x_istore_n (q := 16) (ls' := [some (.inr (.inr (some 1))), some (.inl N), some (.inl 0), none, none]) dX9_drift_15 rfl (Nat.le_of_ble_eq_true rfl) (by first | rfl | exact hnl | exact hnl2 _) rfl ?_
      have e : o_drift N s = ((drN N.toNat s.2.2.1).2.2.2, s.1, s.2.1, drN N.toNat s.2.2.1, s.2.2.2) := by rw [o_drift, if_pos (by omega)]
      rw [e]
      exact drift_loopC (n := n) (t := s.1) (P := s.2.1) (b := s.2.2.2.1) (c := s.2.2.2.2) (by omega) N.toNat s.2.2.1 0 G _ _ rfl rfl (by omega) (by omega) hl hC1 (fun G2 k1 k2 => ⟨rfl, k1, k2⟩)
    · refine x_ldc (q := 13) dX9_drift_11 rfl k_9_89 ?_
      refine x_iret dX9_drift_13 rfl ?_
      have e : o_drift N s = (-1000000002, s) := if_neg (by omega)
      rw [e]; exact ⟨rfl, hC1, Sm.rf⟩
