/-! THE MODEL: draws, undoing, images, what is told -/
theorem drw_rng (z : Int) : 0 ≤ drw z ∧ drw z < 2147483648 := by unfold drw; omega
theorem c_draw (d : Nat) {G : Hp} (hF : FM G) {z n : Int} (hz : iv G 35 3 = z) (z0 : 0 ≤ z) (z1 : z < 2147483648) (n0 : 0 < n) : CX (d + 1) 155 [.inr (.inr (some 35)), .inl n] G (fun r G1 => r = some (.inl (drw z / 65536 % n)) ∧ G1 = si G 35 3 (drw z)) := by
  refine CX.of (d := d + 0) m_X10_draw (Nat.le_of_ble_eq_true rfl) ?_
  refine Ex.lcl (ls' := [some (.inr (.inr (some 35))), some (.inl n)]) rfl ?_
  refine x_aload_n (q := 1) dX10_draw_0 rfl rfl ?_
  refine x_aload_n (q := 2) dX10_draw_1 rfl rfl ?_
  refine x_getI (q := 5) dX10_draw_2 rfl f_10_283 rfl (ft35 hF) ?_
  refine Ex.stk (st' := [.inl z, .inr (.inr (some 35))]) (by rw [show iv G 35 3 = z from hz]) ?_
  refine x_i2l (q := 6) dX10_draw_5 rfl ?_
  refine x_ldc2_w (q := 9) dX10_draw_6 rfl j_10_286 ?_
  refine x_lmul (q := 10) (z := z * 1103515245) dX10_draw_9 rfl (wl_id ⟨by omega, by omega⟩) ?_
  refine x_ldc2_w (q := 13) dX10_draw_10 rfl j_10_288 ?_
  refine x_ladd (q := 14) (z := z * 1103515245 + 12345) dX10_draw_13 rfl (wl_id ⟨by omega, by omega⟩) ?_
  refine x_ldc2_w (q := 17) dX10_draw_14 rfl j_10_290 ?_
  refine x_lrem (q := 18) (z := drw z) dX10_draw_17 rfl (by omega) (Int.tmod_eq_emod_of_nonneg (by omega)) ?_
  refine x_l2i (q := 19) (z := drw z) dX10_draw_18 rfl (wr_id ⟨by have := drw_rng z; omega, by have := drw_rng z; omega⟩) ?_
  refine x_putI (q := 22) dX10_draw_19 rfl f_10_283 rfl (fun h => by cases h) (fun h => by cases h) (ft35 hF) ?_
  have hF := FX_si hF 35 3 (drw z)
  refine x_aload_n (q := 23) dX10_draw_22 rfl rfl ?_
  refine x_getI (q := 26) dX10_draw_23 rfl f_10_283 rfl (ft35 hF) ?_
  refine Ex.stk (st' := [.inl (drw z)]) (by rw [show iv (si G 35 3 (drw z)) 35 3 = drw z from (by simp [iv_si, iv_sr])]) ?_
  refine x_ldc_w (q := 29) dX10_draw_26 rfl k_10_292 ?_
  refine x_idiv (q := 30) (z := drw z / 65536) dX10_draw_29 rfl (by omega) (by rw [Int.tdiv_eq_ediv_of_nonneg (drw_rng z).1]; exact wr_id ⟨by have := drw_rng z; omega, by have := drw_rng z; omega⟩) ?_
  refine x_iload_n (q := 31) dX10_draw_30 rfl rfl ?_
  refine x_irem (q := 32) (z := drw z / 65536 % n) dX10_draw_31 rfl (by omega) (Int.tmod_eq_emod_of_nonneg (by have := drw_rng z; omega)) ?_
  refine x_iret dX10_draw_32 rfl ?_
  exact ⟨rfl, rfl⟩
theorem drift_loop {d : Nat} {t : Tx} {P : Pg} {b : Bk} {c : Tc} {G0 : Hp} {Q : Option V → Hp → Prop} {n : Int} (n1 : n ≤ 12) : ∀ (m : Nat) (k : Int) (r : Rw) (G : Hp) (l3 : Option V), isL l3 = false → RM (t, P, r, b, c) G → Mo G0 G → 0 ≤ r.2.2.2 → r.2.2.2 < 2147483648 → r.2.1.length ≤ 16 → 0 ≤ k → k + (m : Int) = n → (∀ G', RM (t, P, drN m r, b, c) G' → Mo G0 G' → Q (some (.inl (drN m r).2.2.2)) G') → Ex (d + 2) (some .int) 10 false cX10_drift 17 [some (.inr (.inr (some 35))), some (.inl n), some (.inl k), l3] [] G Q := by
  intro m
  induction m with
  | zero =>
    intro k r G l3 hl3 hR0 hM z0 z1 hl k0 k1 kk
    have hR1 := hR0
    obtain ⟨hF, h2, h3, h4, h5, h6⟩ := hR0
    refine x_iload_n (q := 18) dX10_drift_17 rfl rfl ?_
    refine x_iload_n (q := 19) dX10_drift_18 rfl rfl ?_
    refine x_icmp_ge (q := 22) (t := 51) dX10_drift_19 rfl (by decide) (fun h19 => ?_) (fun h19 => by exfalso; omega)
    refine x_aload_n (q := 52) dX10_drift_51 rfl rfl ?_
    refine x_getI (q := 55) dX10_drift_52 rfl f_10_283 rfl (ft35 hF) ?_
    refine Ex.stk (st' := [.inl r.2.2.2]) (by rw [show iv G 35 3 = r.2.2.2 from h4.2.2.2]) ?_
    refine x_iret dX10_drift_55 rfl ?_
    exact kk G hR1 hM
  | succ m ih =>
    intro k r G l3 hl3 hR0 hM z0 z1 hl k0 k1 kk
    have hnl : noL [some (.inr (.inr (some 35))), some (.inl n), some (.inl k), l3] = true := by simp [noL, isL] at hl3 ⊢; exact hl3
    obtain ⟨hF, h2, h3, h4, h5, h6⟩ := hR0
    refine x_iload_n (q := 18) dX10_drift_17 rfl rfl ?_
    refine x_iload_n (q := 19) dX10_drift_18 rfl rfl ?_
    refine x_icmp_ge (q := 22) (t := 51) dX10_drift_19 rfl (by decide) (fun h19 => by exfalso; omega) (fun h19 => ?_)
    refine x_aload_n (q := 23) dX10_drift_22 rfl rfl ?_
    refine x_invV (q := 26) (as := [.inr (.inr (some 35))]) (rest := []) dX10_drift_23 rfl l_10_280 m_X10_remember rfl rfl (ft35 hF) (Nat.le_of_ble_eq_true rfl) (c_remember _ hF (by rw [h4.2.1.1]; omega)) (fun r1 G1 hR => ?_)
    obtain ⟨rfl, rfl⟩ := hR
    have hF : FM (remG G) := hF
    have hsd : iv (remG G) 35 3 = r.2.2.2 := (remG_o G (by decide) (by decide)).trans h4.2.2.2
    refine Ex.stk (st' := []) rfl ?_
    refine x_aload_n (q := 27) dX10_drift_26 rfl rfl ?_
    refine x_bipush (q := 29) dX10_drift_27 rfl (by decide) ?_
    refine x_invV (q := 32) (as := [.inr (.inr (some 35)), .inl 8]) (rest := []) dX10_drift_29 rfl l_10_295 m_X10_draw rfl rfl (ft35 hF) (Nat.le_of_ble_eq_true rfl) (c_draw _ hF (z := r.2.2.2) hsd z0 z1 (by decide)) (fun r1 G1 hR => ?_)
    obtain ⟨rfl, rfl⟩ := hR
    have hF : FM (si (remG G) 35 3 (drw r.2.2.2)) := hF
    refine Ex.stk (st' := [.inl (drw r.2.2.2 / 65536 % 8)]) rfl ?_
    refine x_istore_n (q := 33) (ls' := [some (.inr (.inr (some 35))), some (.inl n), some (.inl k), some (.inl (drw r.2.2.2 / 65536 % 8))]) dX10_drift_32 rfl (Nat.le_of_ble_eq_true rfl) (by first | rfl | exact hnl | exact hnl2 _) rfl ?_
    refine x_aload_n (q := 34) dX10_drift_33 rfl rfl ?_
    refine x_getR (q := 37) dX10_drift_34 rfl f_10_7 rfl (ft35 hF) ?_
    refine Ex.stk (st' := [.inr (.inr (some 36))]) (by rw [fr35_0 hF]) ?_
    refine x_iload_n (q := 38) dX10_drift_37 rfl rfl ?_
    refine x_aload_n (q := 39) dX10_drift_38 rfl rfl ?_
    refine x_bipush (q := 41) dX10_drift_39 rfl (by decide) ?_
    refine x_invV (q := 44) (as := [.inr (.inr (some 35)), .inl 10]) (rest := [.inl (drw r.2.2.2 / 65536 % 8), .inr (.inr (some 36))]) dX10_drift_41 rfl l_10_295 m_X10_draw rfl rfl (ft35 hF) (Nat.le_of_ble_eq_true rfl) (c_draw _ hF (z := drw r.2.2.2) (by simp [iv_si]) (drw_rng _).1 (drw_rng _).2 (by decide)) (fun r1 G1 hR => ?_)
    obtain ⟨rfl, rfl⟩ := hR
    have hF : FM (si (si (remG G) 35 3 (drw r.2.2.2)) 35 3 (drw (drw r.2.2.2))) := hF
    refine Ex.stk (st' := [.inl (drw (drw r.2.2.2) / 65536 % 10), .inl (drw r.2.2.2 / 65536 % 8), .inr (.inr (some 36))]) rfl ?_
    refine x_iastore (q := 45) dX10_drift_44 rfl (ft36 hF) (by omega) (by rw [fl36 hF]; omega) ?_
    have hF := FX_si hF 36 (drw r.2.2.2 / 65536 % 8) (drw (drw r.2.2.2) / 65536 % 10)
    refine x_iinc (q := 48) (ls' := [some (.inr (.inr (some 35))), some (.inl n), some (.inl (k + 1)), some (.inl (drw r.2.2.2 / 65536 % 8))]) dX10_drift_45 rfl rfl (by first | rfl | exact hnl | exact hnl2 _) (by rw [show wr (k + 1) = k + 1 from (wr_id ⟨by omega, by omega⟩)]; rfl) ?_
    refine x_goto (t := 17) dX10_drift_48 (by decide) ?_
    refine ih (k + 1) (dr1 r) _ _ rfl ⟨hF, RMt_k h2 (fun k => by simp only [iv_si]; rw [if_neg (by omega)]; rw [if_neg (by omega)]; rw [if_neg (by omega)]; exact remG_o G (by decide) (by omega)) (by simp only [iv_si]; rw [if_neg (by omega)]; rw [if_neg (by omega)]; rw [if_neg (by omega)]; exact remG_o G (by decide) (by decide)) (by simp only [iv_si]; rw [if_neg (by omega)]; rw [if_neg (by omega)]; rw [if_neg (by omega)]; exact remG_o G (by decide) (by decide)), RMp_k h3 (fun k => by simp only [iv_si]; rw [if_neg (by omega)]; rw [if_neg (by omega)]; rw [if_neg (by omega)]; exact remG_o G (by decide) (by omega)) (fun k => by simp only [iv_si]; rw [if_neg (by omega)]; rw [if_neg (by omega)]; rw [if_neg (by omega)]; exact remG_o G (by decide) (by omega)) (by simp only [iv_si]; rw [if_neg (by omega)]; rw [if_neg (by omega)]; rw [if_neg (by omega)]; exact remG_o G (by decide) (by decide)), RMr_rem h4 hl (fun j j0 j1 => ?_) (fun j j0 => by simp only [iv_si]; rw [if_neg (by omega)]; rw [if_neg (by omega)]; rw [if_neg (by omega)]) (by simp only [iv_si]; rw [if_neg (by omega)]; rw [if_neg (by omega)]; rw [if_neg (by omega)]) (fun k => by simp only [iv_si]; rw [if_neg (by omega)]; rw [if_neg (by omega)]; rw [if_neg (by omega)]; exact remG_o G (by decide) (by omega)) (by simp only [iv_si]; rw [if_neg (by omega)]; rw [if_neg (by omega)]; rw [if_neg (by omega)]; exact remG_o G (by decide) (by decide)) (by simp only [iv_si]; rw [if_neg (by omega), if_pos (by simp)]), RMb_k h5 (fun k => by simp only [iv_si]; rw [if_neg (by omega)]; rw [if_neg (by omega)]; rw [if_neg (by omega)]; exact remG_o G (by decide) (by omega)) (fun k => by simp only [iv_si]; rw [if_neg (by omega)]; rw [if_neg (by omega)]; rw [if_neg (by omega)]; exact remG_o G (by decide) (by omega)) (fun k => by simp only [iv_si]; rw [if_neg (by omega)]; rw [if_neg (by omega)]; rw [if_neg (by omega)]; exact remG_o G (by decide) (by omega)) (by simp only [iv_si]; rw [if_neg (by omega)]; rw [if_neg (by omega)]; rw [if_neg (by omega)]; exact remG_o G (by decide) (by decide)), RMc_k h6 (fun a k g1 g2 => by simp only [iv_si]; rw [if_neg (by omega)]; rw [if_neg (by omega)]; rw [if_neg (by omega)]; exact remG_o G (by omega) (by omega)) (by simp only [iv_si]; rw [if_neg (by omega)]; rw [if_neg (by omega)]; rw [if_neg (by omega)]; exact remG_o G (by decide) (by decide)) (fun k g1 g2 => by simp only [iv_si]; rw [if_neg (by omega)]; rw [if_neg (by omega)]; rw [if_neg (by omega)]; exact remG_o G (by decide) (by omega))⟩ (hM.trans ((((Mo.rf G).rem.si _ _ (by decide) (by decide)).si _ _ (by decide) (by decide)).si _ _ (by decide) (by decide))) (drw_rng _).1 (drw_rng _).2 (by show ((r.1 :: r.2.1).take 16).length ≤ 16; rw [List.length_take]; omega) (by omega) (by omega) kk
    unfold upi
    simp only [iv_si]
    by_cases hk : j = drw r.2.2.2 / 65536 % 8
    · rw [if_pos ⟨by trivial, hk⟩, if_pos hk]
    · rw [if_neg (fun q => hk q.2), if_neg hk, if_neg (by omega), if_neg (by omega), remG_lo G (by omega)]; exact h4.1 j j0 j1
theorem cm_drift (d : Nat) {s : Sg} {G : Hp} (hR0 : RM s G) (n : Int) (hl : s.2.2.1.2.1.length ≤ 16) (z0 : 0 ≤ s.2.2.1.2.2.2) (z1 : s.2.2.1.2.2.2 < 2147483648) : CX (d + 3) 156 [.inr (.inr (some 35)), .inl n] G (fun r G' => r = some (.inl (o_drift n s).1) ∧ RM (o_drift n s).2 G' ∧ Mo G G') := by
  have hR1 := hR0
  obtain ⟨hF, h2, h3, h4, h5, h6⟩ := hR0
  refine CX.of (d := d + 2) m_X10_drift (Nat.le_of_ble_eq_true rfl) ?_
  refine Ex.lcl (ls' := [some (.inr (.inr (some 35))), some (.inl n), none, none]) rfl ?_
  refine x_iload_n (q := 1) dX10_drift_0 rfl rfl ?_
  refine x_i2l (q := 2) dX10_drift_1 rfl ?_
  refine x_lconst (q := 3) (x := 1) dX10_drift_2 rfl rfl ?_
  refine x_ldc2_w (q := 6) dX10_drift_3 rfl j_10_293 ?_
  refine x_invS (q := 9) (as := [.inr (.inl n), .inr (.inl 1), .inr (.inl 12)]) (rest := []) dX10_drift_6 rfl l_10_131 m_X10_in rfl rfl (Nat.le_of_ble_eq_true rfl) (Nat.le_of_ble_eq_true rfl) (c_in _) (fun r1 G1 hR => ?_)
  obtain ⟨hG1, z6, rfl, z6a, z6b⟩ := hR
  replace hG1 := hG1.symm
  subst hG1
  refine Ex.stk (st' := [.inl z6]) rfl ?_
  refine x_if_ne (q := 12) (t := 15) dX10_drift_9 rfl (by decide) (fun h9 => ?_) (fun h9 => ?_)
  · refine x_iconst (q := 16) dX10_drift_15 rfl (by decide) ?_
    refine x_istore_n (q := 17) (ls' := [some (.inr (.inr (some 35))), some (.inl n), some (.inl 0), none]) dX10_drift_16 rfl (Nat.le_of_ble_eq_true rfl) (by first | rfl | exact hnl | exact hnl2 _) rfl ?_
    have hz := z6b.mp (by omega)
    have e : o_drift n s = ((drN n.toNat s.2.2.1).2.2.2, s.1, s.2.1, drN n.toNat s.2.2.1, s.2.2.2) := if_pos hz
    rw [e]
    exact drift_loop (by omega) n.toNat 0 s.2.2.1 G none rfl hR1 (Mo.rf G) z0 z1 hl (by decide) (by omega) (fun G' g1 g2 => ⟨rfl, g1, g2⟩)
  · refine x_ldc (q := 14) dX10_drift_12 rfl k_10_239 ?_
    refine x_iret dX10_drift_14 rfl ?_
    have e : o_drift n s = (-1000000002, s) := if_neg (fun q => by have := z6b.mpr q; omega)
    rw [e]; exact ⟨rfl, hR1, Mo.rf G⟩
theorem cp36_dn (G : Hp) {n k : Int} (n0 : 1 ≤ n) (k0 : 0 ≤ k) : cp (cp G 36 (10 * n) 36 0 (10 * k)) 36 (10 * (k + n)) 36 (10 * k) 10 = cp G 36 (10 * n) 36 0 (10 * (k + 1)) := hp_ext (G := cp G 36 (10 * n) 36 0 (10 * (k + 1))) (Io.rf G) (fun a j => by
  simp only [iv_cp36]
  by_cases h1 : a = 36 ∧ 10 * k ≤ j ∧ j < 10 * k + 10
  · rw [if_pos h1, if_neg (by omega), if_pos (by omega)]; congr 1; omega
  · rw [if_neg h1]
    by_cases h2 : a = 36 ∧ 0 ≤ j ∧ j < 0 + 10 * k
    · rw [if_pos h2, if_pos (by omega)]
    · rw [if_neg h2, if_neg (by omega)])
theorem undo_loop {d : Nat} {G : Hp} {Q : Option V → Hp → Prop} (hF : FM G) {n : Int} (n0 : 1 ≤ n) (n1 : n ≤ 16) (kk : Ex (d + 1) (some .int) 10 false cX10_undo 57 [some (.inr (.inr (some 35))), some (.inl n), some (.inl (17 - n))] [] (cp G 36 (10 * n) 36 0 (10 * (17 - n))) Q) : ∀ (m : Nat) (k : Int), 0 ≤ k → k + (m : Int) = 17 - n → Ex (d + 1) (some .int) 10 false cX10_undo 29 [some (.inr (.inr (some 35))), some (.inl n), some (.inl k)] [] (cp G 36 (10 * n) 36 0 (10 * k)) Q := by
  intro m
  induction m with
  | zero =>
    intro k k0 k1
    have hk : k = 17 - n := by omega
    subst hk
    refine x_iload_n (q := 30) dX10_undo_29 rfl rfl ?_
    refine x_iload_n (q := 31) dX10_undo_30 rfl rfl ?_
    refine x_iadd (q := 32) (z := (17 - n) + n) dX10_undo_31 rfl (wr_id ⟨by omega, by omega⟩) ?_
    refine x_bipush (q := 34) dX10_undo_32 rfl (by decide) ?_
    refine x_icmp_gt (q := 37) (t := 57) dX10_undo_34 rfl (by decide) (fun h34 => ?_) (fun h34 => by exfalso; omega)
    exact kk
  | succ m ih =>
    intro k k0 k1
    have hF : FM (cp G 36 (10 * n) 36 0 (10 * k)) := hF
    refine x_iload_n (q := 30) dX10_undo_29 rfl rfl ?_
    refine x_iload_n (q := 31) dX10_undo_30 rfl rfl ?_
    refine x_iadd (q := 32) (z := k + n) dX10_undo_31 rfl (wr_id ⟨by omega, by omega⟩) ?_
    refine x_bipush (q := 34) dX10_undo_32 rfl (by decide) ?_
    refine x_icmp_gt (q := 37) (t := 57) dX10_undo_34 rfl (by decide) (fun h34 => by exfalso; omega) (fun h34 => ?_)
    refine x_aload_n (q := 38) dX10_undo_37 rfl rfl ?_
    refine x_bipush (q := 40) dX10_undo_38 rfl (by decide) ?_
    refine x_iload_n (q := 41) dX10_undo_40 rfl rfl ?_
    refine x_iload_n (q := 42) dX10_undo_41 rfl rfl ?_
    refine x_iadd (q := 43) (z := k + n) dX10_undo_42 rfl (wr_id ⟨by omega, by omega⟩) ?_
    refine x_imul (q := 44) (z := 10 * (k + n)) dX10_undo_43 rfl (wr_id ⟨by omega, by omega⟩) ?_
    refine x_bipush (q := 46) dX10_undo_44 rfl (by decide) ?_
    refine x_iload_n (q := 47) dX10_undo_46 rfl rfl ?_
    refine x_imul (q := 48) (z := 10 * k) dX10_undo_47 rfl (wr_id ⟨by omega, by omega⟩) ?_
    refine x_invV (q := 51) (as := [.inr (.inr (some 35)), .inl (10 * (k + n)), .inl (10 * k)]) (rest := []) dX10_undo_48 rfl l_10_101 m_X10_copyRow rfl rfl (ft35 hF) (Nat.le_of_ble_eq_true rfl) (c_copyRow _ hF (by omega) (by omega) (by omega) (by omega) (by omega)) (fun r1 G1 hR => ?_)
    obtain ⟨rfl, rfl⟩ := hR
    have hF : FM (cp (cp G 36 (10 * n) 36 0 (10 * k)) 36 (10 * (k + n)) 36 (10 * k) 10) := hF
    refine Ex.stk (st' := []) rfl ?_
    refine x_iinc (q := 54) (ls' := [some (.inr (.inr (some 35))), some (.inl n), some (.inl (k + 1))]) dX10_undo_51 rfl rfl (by first | rfl | exact hnl | exact hnl2 _) (by rw [show wr (k + 1) = k + 1 from (wr_id ⟨by omega, by omega⟩)]; rfl) ?_
    refine x_goto (t := 29) dX10_undo_54 (by decide) ?_
    rw [cp36_dn G n0 k0]
    exact ih (k + 1) (by omega) (by omega)
theorem cm_undo (d : Nat) {s : Sg} {G : Hp} (hR0 : RM s G) (n : Int) (hl : s.2.2.1.2.1.length ≤ 16) : CX (d + 2) 157 [.inr (.inr (some 35)), .inl n] G (fun r G' => r = some (.inl (o_undo n s).1) ∧ RM (o_undo n s).2 G' ∧ Mo G G') := by
  have hR1 := hR0
  obtain ⟨hF, h2, h3, h4, h5, h6⟩ := hR0
  refine CX.of (d := d + 1) m_X10_undo (Nat.le_of_ble_eq_true rfl) ?_
  refine Ex.lcl (ls' := [some (.inr (.inr (some 35))), some (.inl n), none]) rfl ?_
  refine x_iload_n (q := 1) dX10_undo_0 rfl rfl ?_
  refine x_i2l (q := 2) dX10_undo_1 rfl ?_
  refine x_lconst (q := 3) (x := 1) dX10_undo_2 rfl rfl ?_
  refine x_ldc2_w (q := 6) dX10_undo_3 rfl j_10_298 ?_
  refine x_invS (q := 9) (as := [.inr (.inl n), .inr (.inl 1), .inr (.inl 16)]) (rest := []) dX10_undo_6 rfl l_10_131 m_X10_in rfl rfl (Nat.le_of_ble_eq_true rfl) (Nat.le_of_ble_eq_true rfl) (c_in _) (fun r1 G1 hR => ?_)
  obtain ⟨hG1, z6, rfl, z6a, z6b⟩ := hR
  replace hG1 := hG1.symm
  subst hG1
  refine Ex.stk (st' := [.inl z6]) rfl ?_
  refine x_if_ne (q := 12) (t := 15) dX10_undo_9 rfl (by decide) (fun h9 => ?_) (fun h9 => ?_)
  · refine x_iload_n (q := 16) dX10_undo_15 rfl rfl ?_
    refine x_aload_n (q := 17) dX10_undo_16 rfl rfl ?_
    refine x_getI (q := 20) dX10_undo_17 rfl f_10_105 rfl (ft35 hF) ?_
    refine Ex.stk (st' := [.inl (s.2.2.1.2.1.length : Int), .inl n]) (by rw [show iv G 35 1 = (s.2.2.1.2.1.length : Int) from h4.2.1.1]) ?_
    refine x_icmp_le (q := 23) (t := 27) dX10_undo_20 rfl (by decide) (fun h20 => ?_) (fun h20 => ?_)
    · refine x_iconst (q := 28) dX10_undo_27 rfl (by decide) ?_
      refine x_istore_n (q := 29) (ls' := [some (.inr (.inr (some 35))), some (.inl n), some (.inl 0)]) dX10_undo_28 rfl (Nat.le_of_ble_eq_true rfl) (by first | rfl | exact hnl | exact hnl2 _) rfl ?_
      have hz := z6b.mp (by omega)
      have e : o_undo n s = ((s.2.2.1.2.1.length : Int) - n, s.1, s.2.1, (rowAt s.2.2.1 n.toNat, s.2.2.1.2.1.drop n.toNat, s.2.2.1.2.2), s.2.2.2) := by rw [o_undo, if_pos hz, if_neg (by omega)]
      rw [e]
      refine Ex.mem (show G = cp G 36 (10 * n) 36 0 (10 * 0) from Eq.symm (hp_ext (Io.rf G) (fun a k => by rw [iv_cp36, if_neg (by omega)]))) ?_
      refine undo_loop hF hz.1 hz.2 ?_ (17 - n).toNat 0 (by decide) (by omega)
      have hF : FM (cp G 36 (10 * n) 36 0 (10 * (17 - n))) := hF
      have hk1 : iv (cp G 36 (10 * n) 36 0 (10 * (17 - n))) 35 1 = (s.2.2.1.2.1.length : Int) := by rw [iv_cp36, if_neg (by omega)]; exact h4.2.1.1
      refine x_aload_n (q := 58) dX10_undo_57 rfl rfl ?_
      refine x_dup (q := 59) dX10_undo_58 rfl rfl ?_
      refine x_getI (q := 62) dX10_undo_59 rfl f_10_105 rfl (ft35 hF) ?_
      refine Ex.stk (st' := [.inl (s.2.2.1.2.1.length : Int), .inr (.inr (some 35))]) (by rw [show iv (cp G 36 (10 * n) 36 0 (10 * (17 - n))) 35 1 = (s.2.2.1.2.1.length : Int) from (by first | exact hk1 | simp [iv_si, iv_sr, iv_nw, hk1])]) ?_
      refine x_iload_n (q := 63) dX10_undo_62 rfl rfl ?_
      refine x_isub (q := 64) (z := (s.2.2.1.2.1.length : Int) - n) dX10_undo_63 rfl (wr_id ⟨by omega, by omega⟩) ?_
      refine x_putI (q := 67) dX10_undo_64 rfl f_10_105 rfl (fun h => by cases h) (fun h => by cases h) (ft35 hF) ?_
      have hF := FX_si hF 35 1 ((s.2.2.1.2.1.length : Int) - n)
      refine x_aload_n (q := 68) dX10_undo_67 rfl rfl ?_
      refine x_getI (q := 71) dX10_undo_68 rfl f_10_105 rfl (ft35 hF) ?_
      refine Ex.stk (st' := [.inl ((s.2.2.1.2.1.length : Int) - n)]) (by rw [show iv (si (cp G 36 (10 * n) 36 0 (10 * (17 - n))) 35 1 ((s.2.2.1.2.1.length : Int) - n)) 35 1 = (s.2.2.1.2.1.length : Int) - n from (by simp [iv_si, iv_sr])]) ?_
      refine x_iret dX10_undo_71 rfl ?_
      refine ⟨rfl, ⟨hF, RMt_k h2 (fun k => by simp [iv_si, iv_cp36]) (by simp [iv_si, iv_cp36]) (by simp [iv_si, iv_cp36]), RMp_k h3 (fun k => by simp [iv_si, iv_cp36]) (fun k => by simp [iv_si, iv_cp36]) (by simp [iv_si, iv_cp36]), ⟨fun k k0 k1 => ?_, ⟨?_, fun i q hq k k0 k1 => ?_⟩, RMi_k h4.2.2.1 (fun k g1 g2 => by simp only [iv_si, iv_cp36]; rw [if_neg (by omega), if_neg (by omega)]) (fun k => by simp [iv_si, iv_cp36]) (by simp [iv_si, iv_cp36]), Eq.trans (by simp [iv_si, iv_cp36]) h4.2.2.2⟩, RMb_k h5 (fun k => by simp [iv_si, iv_cp36]) (fun k => by simp [iv_si, iv_cp36]) (fun k => by simp [iv_si, iv_cp36]) (by simp [iv_si, iv_cp36]), RMc_k h6 (fun a k g1 g2 => by simp only [iv_si, iv_cp36]; rw [if_neg (by omega)]; rw [if_neg (by omega)]) (by simp [iv_si, iv_cp36]) (fun k g1 g2 => by simp only [iv_si, iv_cp36]; rw [if_neg (by omega)]; rw [if_neg (by omega)])⟩, ((Mo.rf G).cp36 _ _ _).si _ _ (by decide) (by decide)⟩
      · simp only [iv_si, iv_cp36]
        rw [if_neg (by omega), if_pos ⟨by trivial, by omega, by omega⟩]
        obtain ⟨m, hm⟩ : ∃ m : Nat, n.toNat = m + 1 := ⟨n.toNat - 1, by omega⟩
        have hlt : m < s.2.2.1.2.1.length := by omega
        have hg : s.2.2.1.2.1[m]? = some s.2.2.1.2.1[m] := List.getElem?_eq_getElem hlt
        have e2 : rowAt s.2.2.1 n.toNat = s.2.2.1.2.1[m] := by unfold rowAt; rw [hm, List.getElem?_cons_succ, hg]
        show _ = rowAt s.2.2.1 n.toNat k
        rw [e2, ← h4.2.1.2 m _ hg k k0 k1]; congr 1; omega
      · show iv _ 35 1 = ((s.2.2.1.2.1.drop n.toNat).length : Int)
        simp only [iv_si]
        rw [if_pos ⟨by trivial, by trivial⟩, List.length_drop]; omega
      · have hq : (s.2.2.1.2.1.drop n.toNat)[i]? = some q := hq
        rw [List.getElem?_drop] at hq
        have hlt := (List.getElem?_eq_some_iff.mp hq).1
        simp only [iv_si, iv_cp36]
        rw [if_neg (by omega), if_pos ⟨by trivial, by omega, by omega⟩, ← h4.2.1.2 _ q hq k k0 k1]; congr 1; omega
    · refine x_ldc_w (q := 26) dX10_undo_23 rfl k_10_300 ?_
      refine x_iret dX10_undo_26 rfl ?_
      have e : o_undo n s = (-1000000003, s) := by rw [o_undo, if_pos (z6b.mp (by omega)), if_pos h20]
      rw [e]; exact ⟨rfl, hR1, Mo.rf G⟩
  · refine x_ldc (q := 14) dX10_undo_12 rfl k_10_239 ?_
    refine x_iret dX10_undo_14 rfl ?_
    have e : o_undo n s = (-1000000002, s) := if_neg (fun q => by have := z6b.mpr q; omega)
    rw [e]; exact ⟨rfl, hR1, Mo.rf G⟩
theorem rb_bor {m i j : Int} (m0 : 0 ≤ m) (m1 : m ≤ 3) (i0 : 0 ≤ i) (i1 : i ≤ 1) (j0 : 0 ≤ j) (j1 : j ≤ 1) : (rb (bor m (bit i)) j = if j = i then 1 else rb m j) ∧ 0 ≤ bor m (bit i) ∧ bor m (bit i) ≤ 3 := by
  obtain h | h | h | h : m = 0 ∨ m = 1 ∨ m = 2 ∨ m = 3 := by omega
  all_goals
    obtain g | g : i = 0 ∨ i = 1 := by omega
    all_goals
      obtain f | f : j = 0 ∨ j = 1 := by omega
      all_goals subst h g f; decide
theorem cm_keepI (d : Nat) {s : Sg} {G : Hp} (hR0 : RM s G) (i : Int) : CX (d + 3) 161 [.inr (.inr (some 35)), .inl i] G (fun r G' => r = some (.inl (o_keep i s).1) ∧ RM (o_keep i s).2 G' ∧ Mo G G') := by
  have hR1 := hR0
  obtain ⟨hF, h2, h3, h4, h5, h6⟩ := hR0
  refine CX.of (d := d + 2) m_X10_keep (Nat.le_of_ble_eq_true rfl) ?_
  refine Ex.lcl (ls' := [some (.inr (.inr (some 35))), some (.inl i)]) rfl ?_
  refine x_iload_n (q := 1) dX10_keep_0 rfl rfl ?_
  refine x_i2l (q := 2) dX10_keep_1 rfl ?_
  refine x_lconst (q := 3) (x := 0) dX10_keep_2 rfl rfl ?_
  refine x_lconst (q := 4) (x := 1) dX10_keep_3 rfl rfl ?_
  refine x_invS (q := 7) (as := [.inr (.inl i), .inr (.inl 0), .inr (.inl 1)]) (rest := []) dX10_keep_4 rfl l_10_131 m_X10_in rfl rfl (Nat.le_of_ble_eq_true rfl) (Nat.le_of_ble_eq_true rfl) (c_in _) (fun r1 G1 hR => ?_)
  obtain ⟨hG1, z4, rfl, z4a, z4b⟩ := hR
  replace hG1 := hG1.symm
  subst hG1
  refine Ex.stk (st' := [.inl z4]) rfl ?_
  refine x_if_ne (q := 10) (t := 14) dX10_keep_7 rfl (by decide) (fun h7 => ?_) (fun h7 => ?_)
  · have hz := z4b.mp (by omega)
    clear z4b
    refine x_aload_n (q := 15) dX10_keep_14 rfl rfl ?_
    refine x_iconst (q := 16) dX10_keep_15 rfl (by decide) ?_
    refine x_sipush (q := 19) dX10_keep_16 rfl (by decide) ?_
    refine x_bipush (q := 21) dX10_keep_19 rfl (by decide) ?_
    refine x_iload_n (q := 22) dX10_keep_21 rfl rfl ?_
    refine x_imul (q := 23) (z := 10 * i) dX10_keep_22 rfl (wr_id ⟨by omega, by omega⟩) ?_
    refine x_iadd (q := 24) (z := 170 + (10 * i)) dX10_keep_23 rfl (wr_id ⟨by omega, by omega⟩) ?_
    refine x_invV (q := 27) (as := [.inr (.inr (some 35)), .inl 0, .inl (170 + (10 * i))]) (rest := []) dX10_keep_24 rfl l_10_101 m_X10_copyRow rfl rfl (ft35 hF) (Nat.le_of_ble_eq_true rfl) (c_copyRow _ hF (by omega) (by omega) (by omega) (by omega) (by omega)) (fun r1 G1 hR => ?_)
    obtain ⟨rfl, rfl⟩ := hR
    have hF : FM (cp G 36 0 36 (170 + (10 * i)) 10) := hF
    refine Ex.stk (st' := []) rfl ?_
    refine x_aload_n (q := 28) dX10_keep_27 rfl rfl ?_
    refine x_getR (q := 31) dX10_keep_28 rfl f_10_13 rfl (ft35 hF) ?_
    refine Ex.stk (st' := [.inr (.inr (some 37))]) (by rw [fr35_4 hF]) ?_
    refine x_iload_n (q := 32) dX10_keep_31 rfl rfl ?_
    refine x_aload_n (q := 33) dX10_keep_32 rfl rfl ?_
    refine x_getI (q := 36) dX10_keep_33 rfl f_10_283 rfl (ft35 hF) ?_
    refine Ex.stk (st' := [.inl s.2.2.1.2.2.2, .inl i, .inr (.inr (some 37))]) (by rw [show iv (cp G 36 0 36 (170 + (10 * i)) 10) 35 3 = s.2.2.1.2.2.2 from (by simp only [iv_si, iv_cp36]; rw [if_neg (by omega)]; exact h4.2.2.2)]) ?_
    refine x_iastore (q := 37) dX10_keep_36 rfl (ft37 hF) (by omega) (by rw [fl37 hF]; omega) ?_
    have hF := FX_si hF 37 i s.2.2.1.2.2.2
    refine x_aload_n (q := 38) dX10_keep_37 rfl rfl ?_
    refine x_dup (q := 39) dX10_keep_38 rfl rfl ?_
    refine x_getI (q := 42) dX10_keep_39 rfl f_10_301 rfl (ft35 hF) ?_
    refine Ex.stk (st' := [.inl (iv G 35 2), .inr (.inr (some 35))]) (by rw [show iv (si (cp G 36 0 36 (170 + (10 * i)) 10) 37 i s.2.2.1.2.2.2) 35 2 = iv G 35 2 from (by simp [iv_si, iv_cp36])]) ?_
    refine x_iconst (q := 43) dX10_keep_42 rfl (by decide) ?_
    refine x_iload_n (q := 44) dX10_keep_43 rfl rfl ?_
    refine x_ishl (q := 45) (z := bit i) dX10_keep_44 rfl rfl ?_
    refine x_ior (q := 46) (z := bor (iv G 35 2) (bit i)) dX10_keep_45 rfl rfl ?_
    refine x_putI (q := 49) dX10_keep_46 rfl f_10_301 rfl (fun h => by cases h) (fun h => by cases h) (ft35 hF) ?_
    have hF := FX_si hF 35 2 (bor (iv G 35 2) (bit i))
    refine x_aload_n (q := 50) dX10_keep_49 rfl rfl ?_
    refine x_iconst (q := 51) dX10_keep_50 rfl (by decide) ?_
    refine x_putI (q := 54) dX10_keep_51 rfl f_10_105 rfl (fun h => by cases h) (fun h => by cases h) (ft35 hF) ?_
    have hF := FX_si hF 35 1 0
    refine x_iconst (q := 55) dX10_keep_54 rfl (by decide) ?_
    refine x_iret dX10_keep_55 rfl ?_
    have e : o_keep i s = (1, s.1, s.2.1, (s.2.2.1.1, [], (fun j => if j = i then some (s.2.2.1.1, s.2.2.1.2.2.2) else s.2.2.1.2.2.1 j), s.2.2.1.2.2.2), s.2.2.2) := if_pos hz
    rw [e]
    have hb := h4.2.2.1.2
    refine ⟨rfl, ⟨hF, RMt_k h2 (fun k => by simp [iv_si, iv_cp36]) (by simp [iv_si, iv_cp36]) (by simp [iv_si, iv_cp36]), RMp_k h3 (fun k => by simp [iv_si, iv_cp36]) (fun k => by simp [iv_si, iv_cp36]) (by simp [iv_si, iv_cp36]), ⟨fun k k0 k1 => ?_, ⟨by simp [iv_si], fun i q hq => by cases hq⟩, ⟨fun j j0 j1 => ?_, ?_⟩, Eq.trans (by simp [iv_si, iv_cp36]) h4.2.2.2⟩, RMb_k h5 (fun k => by simp [iv_si, iv_cp36]) (fun k => by simp [iv_si, iv_cp36]) (fun k => by simp [iv_si, iv_cp36]) (by simp [iv_si, iv_cp36]), RMc_k h6 (fun a k g1 g2 => by simp only [iv_si, iv_cp36]; rw [if_neg (by omega)]; rw [if_neg (by omega)]; rw [if_neg (by omega)]; rw [if_neg (by omega)]) (by simp [iv_si, iv_cp36]) (fun k g1 g2 => by simp only [iv_si, iv_cp36]; rw [if_neg (by omega)]; rw [if_neg (by omega)]; rw [if_neg (by omega)]; rw [if_neg (by omega)])⟩, ((((Mo.rf G).cp36 _ _ _).si _ _ (by decide) (by decide)).si _ _ (by decide) (by decide)).si _ _ (by decide) (by decide)⟩
    · simp only [iv_si, iv_cp36]
      rw [if_neg (by omega), if_neg (by omega), if_neg (by omega), if_neg (by omega)]; exact h4.1 k k0 k1
    · have hrb := (rb_bor hb.1 hb.2 hz.1 hz.2 j0 (by omega)).1
      have hj := h4.2.2.1.1 j j0 j1
      by_cases hji : j = i
      · rw [if_pos hji] at hrb
        simp only [if_pos hji]
        refine ⟨by simp [iv_si]; exact hrb, ?_, fun k k0 k1 => ?_⟩
        · simp only [iv_si]; rw [if_neg (by omega), if_neg (by omega), if_pos ⟨by trivial, hji⟩]
        · simp only [iv_si, iv_cp36]
          rw [if_neg (by omega), if_neg (by omega), if_neg (by omega), if_pos ⟨by trivial, by omega, by omega⟩, ← h4.1 k k0 k1]; congr 1; omega
      · rw [if_neg hji] at hrb
        simp only [if_neg hji]
        cases hq : s.2.2.1.2.2.1 j with
        | none => rw [hq] at hj; simp [iv_si]; rw [hrb]; exact hj
        | some q =>
          rw [hq] at hj
          refine ⟨by simp [iv_si]; rw [hrb]; exact hj.1, ?_, fun k k0 k1 => ?_⟩
          · simp only [iv_si, iv_cp36]; rw [if_neg (by omega), if_neg (by omega), if_neg (by omega), if_neg (by omega)]; exact hj.2.1
          · simp only [iv_si, iv_cp36]
            rw [if_neg (by omega), if_neg (by omega), if_neg (by omega), if_neg (by omega)]; exact hj.2.2 k k0 k1
    · have := (rb_bor hb.1 hb.2 hz.1 hz.2 (j := 0) (by decide) (by decide)).2
      simp [iv_si]; exact this
  · refine x_ldc_w (q := 13) dX10_keep_10 rfl k_10_271 ?_
    refine x_iret dX10_keep_13 rfl ?_
    have e : o_keep i s = (-1000000001, s) := if_neg (fun q => by have := z4b.mpr q; omega)
    rw [e]; exact ⟨rfl, hR1, Mo.rf G⟩
theorem cm_goBack (d : Nat) {s : Sg} {G : Hp} (hR0 : RM s G) (i : Int) : CX (d + 3) 162 [.inr (.inr (some 35)), .inl i] G (fun r G' => r = some (.inl (o_goBack i s).1) ∧ RM (o_goBack i s).2 G' ∧ Mo G G') := by
  have hR1 := hR0
  obtain ⟨hF, h2, h3, h4, h5, h6⟩ := hR0
  refine CX.of (d := d + 2) m_X10_goBack (Nat.le_of_ble_eq_true rfl) ?_
  refine Ex.lcl (ls' := [some (.inr (.inr (some 35))), some (.inl i)]) rfl ?_
  refine x_iload_n (q := 1) dX10_goBack_0 rfl rfl ?_
  refine x_i2l (q := 2) dX10_goBack_1 rfl ?_
  refine x_lconst (q := 3) (x := 0) dX10_goBack_2 rfl rfl ?_
  refine x_lconst (q := 4) (x := 1) dX10_goBack_3 rfl rfl ?_
  refine x_invS (q := 7) (as := [.inr (.inl i), .inr (.inl 0), .inr (.inl 1)]) (rest := []) dX10_goBack_4 rfl l_10_131 m_X10_in rfl rfl (Nat.le_of_ble_eq_true rfl) (Nat.le_of_ble_eq_true rfl) (c_in _) (fun r1 G1 hR => ?_)
  obtain ⟨hG1, z4, rfl, z4a, z4b⟩ := hR
  replace hG1 := hG1.symm
  subst hG1
  refine Ex.stk (st' := [.inl z4]) rfl ?_
  refine x_if_ne (q := 10) (t := 14) dX10_goBack_7 rfl (by decide) (fun h7 => ?_) (fun h7 => ?_)
  · have hz := z4b.mp (by omega)
    clear z4b
    refine x_aload_n (q := 15) dX10_goBack_14 rfl rfl ?_
    refine x_getI (q := 18) dX10_goBack_15 rfl f_10_301 rfl (ft35 hF) ?_
    refine x_iload_n (q := 19) dX10_goBack_18 rfl rfl ?_
    refine x_invS (q := 22) (as := [.inl (iv G 35 2), .inl i]) (rest := []) dX10_goBack_19 rfl l_10_165 m_X10_has rfl rfl (Nat.le_of_ble_eq_true rfl) (Nat.le_of_ble_eq_true rfl) (c_has _) (fun r1 G1 hR => ?_)
    obtain ⟨hG1, z19, rfl, z19a, z19b⟩ := hR
    replace hG1 := hG1.symm
    subst hG1
    refine Ex.stk (st' := [.inl z19]) rfl ?_
    refine x_if_eq (q := 25) (t := 48) dX10_goBack_22 rfl (by decide) (fun h22 => ?_) (fun h22 => ?_)
    · refine x_ldc_w (q := 51) dX10_goBack_48 rfl k_10_300 ?_
      refine x_iret dX10_goBack_51 rfl ?_
      have e : o_goBack i s = (-1000000003, s) := by
        rw [o_goBack, if_pos hz]
        have hj := h4.2.2.1.1 i hz.1 (by omega)
        cases hq : s.2.2.1.2.2.1 i with
        | none => rfl
        | some q =>
          rw [hq] at hj
          first
            | (exfalso; have := z19b.mpr hj.1; omega)
            | (have h8 := hj.2.2 8 (by decide) (by decide); exact if_neg (by omega))
      rw [e]; exact ⟨rfl, hR1, Mo.rf G⟩
    · refine x_aload_n (q := 26) dX10_goBack_25 rfl rfl ?_
      refine x_getR (q := 29) dX10_goBack_26 rfl f_10_7 rfl (ft35 hF) ?_
      refine Ex.stk (st' := [.inr (.inr (some 36))]) (by rw [fr35_0 hF]) ?_
      refine x_sipush (q := 32) dX10_goBack_29 rfl (by decide) ?_
      refine x_bipush (q := 34) dX10_goBack_32 rfl (by decide) ?_
      refine x_iload_n (q := 35) dX10_goBack_34 rfl rfl ?_
      refine x_imul (q := 36) (z := 10 * i) dX10_goBack_35 rfl (wr_id ⟨by omega, by omega⟩) ?_
      refine x_iadd (q := 37) (z := 170 + (10 * i)) dX10_goBack_36 rfl (wr_id ⟨by omega, by omega⟩) ?_
      refine x_bipush (q := 39) dX10_goBack_37 rfl (by decide) ?_
      refine x_iadd (q := 40) (z := (170 + (10 * i)) + 8) dX10_goBack_39 rfl (wr_id ⟨by omega, by omega⟩) ?_
      refine x_iaload (q := 41) dX10_goBack_40 rfl (Or.inl (ft36 hF)) (by omega) (by rw [fl36 hF]; omega) ?_
      refine x_aload_n (q := 42) dX10_goBack_41 rfl rfl ?_
      refine x_getI (q := 45) dX10_goBack_42 rfl f_10_95 rfl (ft35 hF) ?_
      refine Ex.stk (st' := [.inl s.2.1.2.2, .inl (iv G 36 ((170 + (10 * i)) + 8))]) (by rw [show iv G 35 14 = s.2.1.2.2 from h3.2.2]) ?_
      refine x_icmp_lt (q := 48) (t := 52) dX10_goBack_45 rfl (by decide) (fun h45 => ?_) (fun h45 => ?_)
      · refine x_aload_n (q := 53) dX10_goBack_52 rfl rfl ?_
        refine x_sipush (q := 56) dX10_goBack_53 rfl (by decide) ?_
        refine x_bipush (q := 58) dX10_goBack_56 rfl (by decide) ?_
        refine x_iload_n (q := 59) dX10_goBack_58 rfl rfl ?_
        refine x_imul (q := 60) (z := 10 * i) dX10_goBack_59 rfl (wr_id ⟨by omega, by omega⟩) ?_
        refine x_iadd (q := 61) (z := 170 + (10 * i)) dX10_goBack_60 rfl (wr_id ⟨by omega, by omega⟩) ?_
        refine x_iconst (q := 62) dX10_goBack_61 rfl (by decide) ?_
        refine x_invV (q := 65) (as := [.inr (.inr (some 35)), .inl (170 + (10 * i)), .inl 0]) (rest := []) dX10_goBack_62 rfl l_10_101 m_X10_copyRow rfl rfl (ft35 hF) (Nat.le_of_ble_eq_true rfl) (c_copyRow _ hF (by omega) (by omega) (by omega) (by omega) (by omega)) (fun r1 G1 hR => ?_)
        obtain ⟨rfl, rfl⟩ := hR
        have hF : FM (cp G 36 (170 + (10 * i)) 36 0 10) := hF
        refine Ex.stk (st' := []) rfl ?_
        refine x_aload_n (q := 66) dX10_goBack_65 rfl rfl ?_
        refine x_aload_n (q := 67) dX10_goBack_66 rfl rfl ?_
        refine x_getR (q := 70) dX10_goBack_67 rfl f_10_13 rfl (ft35 hF) ?_
        refine Ex.stk (st' := [.inr (.inr (some 37)), .inr (.inr (some 35))]) (by rw [fr35_4 hF]) ?_
        refine x_iload_n (q := 71) dX10_goBack_70 rfl rfl ?_
        refine x_iaload (q := 72) dX10_goBack_71 rfl (Or.inl (ft37 hF)) (by omega) (by rw [fl37 hF]; omega) ?_
        refine Ex.stk (st' := [.inl (iv G 37 i), .inr (.inr (some 35))]) (by rw [show iv (cp G 36 (170 + (10 * i)) 36 0 10) 37 i = iv G 37 i from (by simp [iv_cp36])]) ?_
        refine x_putI (q := 75) dX10_goBack_72 rfl f_10_283 rfl (fun h => by cases h) (fun h => by cases h) (ft35 hF) ?_
        have hF := FX_si hF 35 3 (iv G 37 i)
        refine x_aload_n (q := 76) dX10_goBack_75 rfl rfl ?_
        refine x_iconst (q := 77) dX10_goBack_76 rfl (by decide) ?_
        refine x_putI (q := 80) dX10_goBack_77 rfl f_10_105 rfl (fun h => by cases h) (fun h => by cases h) (ft35 hF) ?_
        have hF := FX_si hF 35 1 0
        refine x_iconst (q := 81) dX10_goBack_80 rfl (by decide) ?_
        refine x_iret dX10_goBack_81 rfl ?_
        have hj := h4.2.2.1.1 i hz.1 (by omega)
        have hr1 := z19b.mp (by omega)
        cases hq : s.2.2.1.2.2.1 i with
        | none => rw [hq] at hj; dsimp only at hj; omega
        | some q =>
          rw [hq] at hj
          obtain ⟨j1, j2, j3⟩ := hj
          have h8 := j3 8 (by decide) (by decide)
          have e : o_goBack i s = (1, s.1, s.2.1, (q.1, [], s.2.2.1.2.2.1, q.2), s.2.2.2) := by
            rw [o_goBack, if_pos hz, hq]; exact if_pos (by omega)
          rw [e]
          refine ⟨rfl, ⟨hF, RMt_k h2 (fun k => by simp [iv_si, iv_cp36]) (by simp [iv_si, iv_cp36]) (by simp [iv_si, iv_cp36]), RMp_k h3 (fun k => by simp [iv_si, iv_cp36]) (fun k => by simp [iv_si, iv_cp36]) (by simp [iv_si, iv_cp36]), ⟨fun k k0 k1 => ?_, ⟨by simp [iv_si], fun i q hq => by cases hq⟩, RMi_k h4.2.2.1 (fun k g1 g2 => by simp only [iv_si, iv_cp36]; rw [if_neg (by omega), if_neg (by omega), if_neg (by omega)]) (fun k => by simp [iv_si, iv_cp36]) (by simp [iv_si, iv_cp36]), ?_⟩, RMb_k h5 (fun k => by simp [iv_si, iv_cp36]) (fun k => by simp [iv_si, iv_cp36]) (fun k => by simp [iv_si, iv_cp36]) (by simp [iv_si, iv_cp36]), RMc_k h6 (fun a k g1 g2 => by simp only [iv_si, iv_cp36]; rw [if_neg (by omega)]; rw [if_neg (by omega)]; rw [if_neg (by omega)]) (by simp [iv_si, iv_cp36]) (fun k g1 g2 => by simp only [iv_si, iv_cp36]; rw [if_neg (by omega)]; rw [if_neg (by omega)]; rw [if_neg (by omega)])⟩, (((Mo.rf G).cp36 _ _ _).si _ _ (by decide) (by decide)).si _ _ (by decide) (by decide)⟩
          · simp only [iv_si, iv_cp36]
            rw [if_neg (by omega), if_neg (by omega), if_pos ⟨by trivial, by omega, by omega⟩, ← j3 k k0 k1]; congr 1; omega
          · simp only [iv_si, iv_cp36]; rw [if_neg (by omega), if_pos (by simp)]; exact j2
      · refine x_ldc_w (q := 51) dX10_goBack_48 rfl k_10_300 ?_
        refine x_iret dX10_goBack_51 rfl ?_
        have e : o_goBack i s = (-1000000003, s) := by
          rw [o_goBack, if_pos hz]
          have hj := h4.2.2.1.1 i hz.1 (by omega)
          cases hq : s.2.2.1.2.2.1 i with
          | none => rfl
          | some q =>
            rw [hq] at hj
            first
              | (exfalso; have := z19b.mpr hj.1; omega)
              | (have h8 := hj.2.2 8 (by decide) (by decide); exact if_neg (by omega))
        rw [e]; exact ⟨rfl, hR1, Mo.rf G⟩
  · refine x_ldc_w (q := 13) dX10_goBack_10 rfl k_10_271 ?_
    refine x_iret dX10_goBack_13 rfl ?_
    have e : o_goBack i s = (-1000000001, s) := if_neg (fun q => by have := z4b.mpr q; omega)
    rw [e]; exact ⟨rfl, hR1, Mo.rf G⟩
def wrF (P : Pg) (c : Int → Int) : Bk → Int → Int
  | [], _ => -1
  | e :: l, k => if (if e.1 < P.2.2 then nV (rt 6 (fr P c 5 e.1 e.2.1)) else 0) = e.2.2 then wrF P c l (k + 1) else k
def o_told (wh : Int) (s : Sg) : Int := if wh = 0 then s.2.1.2.2 else if wh = 1 then s.1.2.1 else if wh = 2 then nV (rt 6 s.2.2.2.2.1) else if wh = 3 then (tsz 6 s.2.2.2.2.1 : Int) else if wh = 4 then nV (rt 6 (newN s)) else if wh = 5 then (if alkB s.2.2.2.2.1 (newN s) = true then 1 else 0) else if wh = 6 then s.2.2.2.2.2.2.2.1 else if wh = 7 then s.2.2.2.2.2.2.2.2.1 else if wh = 8 then s.2.2.2.2.2.2.2.2.2 else if wh = 9 then s.2.2.2.2.2.2.1 else if wh = 10 then dpF (flat 6 1 s.2.2.2.2.1) 0 else if wh = 11 then olF s.2.2.2.2.2.1 s.2.2.1.1 (flat 6 1 s.2.2.2.2.1) 0 else if wh = 12 then brF (flat 6 1 s.2.2.2.2.1) 0 else if wh = 13 then s.2.2.1.1 8 else if wh = 14 then s.2.2.1.1 9 else if wh = 15 then (s.2.2.2.1.length : Int) else if wh = 16 then wrF s.2.1 s.2.2.1.1 s.2.2.2.1 0 else if wh = 17 then (s.2.2.1.2.1.length : Int) else -1000000002
theorem wrong_loop {d : Nat} {s : Sg} {G0 : Hp} {Q : Option V → Hp → Prop} (hA : Aim s.2.1 s.2.2.1) (hb : s.2.2.2.1.length ≤ 20) (hbk : ∀ e ∈ s.2.2.2.1, 0 ≤ e.1 ∧ e.1 < 5 ∧ 0 ≤ e.2.1 ∧ e.2.1 ≤ 996) (kk : ∀ G', RM s G' → Mo G0 G' → Q (some (.inl (wrF s.2.1 s.2.2.1.1 s.2.2.2.1 0))) G') : ∀ (l : Bk) (i : Nat) (k : Int) (G : Hp), (i : Int) = k → s.2.2.2.1.drop i = l → i + l.length = s.2.2.2.1.length → RM s G → Mo G0 G → wrF s.2.1 s.2.2.1.1 l k = wrF s.2.1 s.2.2.1.1 s.2.2.2.1 0 → Ex (d + 5) (some .int) 10 false cX10_wrong 2 [some (.inr (.inr (some 35))), some (.inl k)] [] G Q := by
  intro l
  induction l with
  | nil =>
    intro i k G hi hd hl hR0 hM hw
    have hR1 := hR0
    obtain ⟨hF, h2, h3, h4, h5, h6⟩ := hR0
    simp only [List.length_nil] at hl
    refine x_iload_n (q := 3) dX10_wrong_2 rfl rfl ?_
    refine x_aload_n (q := 4) dX10_wrong_3 rfl rfl ?_
    refine x_getI (q := 7) dX10_wrong_4 rfl f_10_247 rfl (ft35 hF) ?_
    refine Ex.stk (st' := [.inl (s.2.2.2.1.length : Int), .inl k]) (by rw [show iv G 35 11 = (s.2.2.2.1.length : Int) from h5.1]) ?_
    refine x_icmp_ge (q := 10) (t := 43) dX10_wrong_7 rfl (by decide) (fun h7 => ?_) (fun h7 => by exfalso; omega)
    refine x_iconst (q := 44) dX10_wrong_43 rfl (by decide) ?_
    refine x_iret dX10_wrong_44 rfl ?_
    rw [show (-1 : Int) = wrF s.2.1 s.2.2.1.1 s.2.2.2.1 0 from hw]; exact kk G hR1 hM
  | cons e l ih =>
    intro i k G hi hd hl hR0 hM hw
    have hR1 := hR0
    obtain ⟨hF, h2, h3, h4, h5, h6⟩ := hR0
    rw [List.length_cons] at hl
    have hg : s.2.2.2.1[i]? = some e := by
      have h := List.getElem?_drop (xs := s.2.2.2.1) (i := i) (j := 0)
      rw [hd] at h; exact h.symm
    have he := hbk e (List.mem_of_getElem? hg)
    have hd2 : s.2.2.2.1.drop (i + 1) = l := by rw [← List.drop_drop, hd]; rfl
    have e1 := (h5.2 i e hg).1
    have e2 := (h5.2 i e hg).2.1
    have e3 := (h5.2 i e hg).2.2
    rw [hi] at e1 e2 e3
    simp only [wrF] at hw
    refine x_iload_n (q := 3) dX10_wrong_2 rfl rfl ?_
    refine x_aload_n (q := 4) dX10_wrong_3 rfl rfl ?_
    refine x_getI (q := 7) dX10_wrong_4 rfl f_10_247 rfl (ft35 hF) ?_
    refine Ex.stk (st' := [.inl (s.2.2.2.1.length : Int), .inl k]) (by rw [show iv G 35 11 = (s.2.2.2.1.length : Int) from h5.1]) ?_
    refine x_icmp_ge (q := 10) (t := 43) dX10_wrong_7 rfl (by decide) (fun h7 => by exfalso; omega) (fun h7 => ?_)
    refine x_aload_n (q := 11) dX10_wrong_10 rfl rfl ?_
    refine x_aload_n (q := 12) dX10_wrong_11 rfl rfl ?_
    refine x_getR (q := 15) dX10_wrong_12 rfl f_10_23 rfl (ft35 hF) ?_
    refine Ex.stk (st' := [.inr (.inr (some 39)), .inr (.inr (some 35))]) (by rw [fr35_8 hF]) ?_
    refine x_iload_n (q := 16) dX10_wrong_15 rfl rfl ?_
    refine x_iaload (q := 17) dX10_wrong_16 rfl (Or.inl (ft39 hF)) (by omega) (by rw [fl39 hF]; omega) ?_
    refine Ex.stk (st' := [.inl e.1, .inr (.inr (some 35))]) (by rw [show iv G 39 k = e.1 from e1]) ?_
    refine x_aload_n (q := 18) dX10_wrong_17 rfl rfl ?_
    refine x_getR (q := 21) dX10_wrong_18 rfl f_10_26 rfl (ft35 hF) ?_
    refine Ex.stk (st' := [.inr (.inr (some 40)), .inl e.1, .inr (.inr (some 35))]) (by rw [fr35_9 hF]) ?_
    refine x_iload_n (q := 22) dX10_wrong_21 rfl rfl ?_
    refine x_iaload (q := 23) dX10_wrong_22 rfl (Or.inl (ft40 hF)) (by omega) (by rw [fl40 hF]; omega) ?_
    refine Ex.stk (st' := [.inl e.2.1, .inl e.1, .inr (.inr (some 35))]) (by rw [show iv G 40 k = e.2.1 from e2]) ?_
    by_cases hm : e.1 < s.2.1.2.2
    · refine x_invV (q := 26) (as := [.inr (.inr (some 35)), .inl e.1, .inl e.2.1]) (rest := []) dX10_wrong_23 rfl l_10_162 m_X10_layNew rfl rfl (ft35 hF) (Nat.le_of_ble_eq_true rfl) (c_layNew hA.1 hA.2.1 _ (RM_MP hR1) he.1 hm he.2.2.1 he.2.2.2) (fun r1 G1 hR => ?_)
      obtain ⟨rfl, l1, -, -⟩ := hR
      have hR1 := RM_LayI hR1 l1
      have hM := hM.trans l1.Mo
      have hR2 := hR1
      obtain ⟨hF, h2, h3, h4, h5, h6⟩ := hR2
      have e3 := (h5.2 i e hg).2.2
      rw [hi] at e3
      refine Ex.stk (st' := [.inl (nV (rt 6 (fr s.2.1 s.2.2.1.1 5 e.1 e.2.1)))]) rfl ?_
      refine x_aload_n (q := 27) dX10_wrong_26 rfl rfl ?_
      refine x_getR (q := 30) dX10_wrong_27 rfl f_10_29 rfl (ft35 hF) ?_
      refine Ex.stk (st' := [.inr (.inr (some 41)), .inl (nV (rt 6 (fr s.2.1 s.2.2.1.1 5 e.1 e.2.1)))]) (by rw [fr35_10 hF]) ?_
      refine x_iload_n (q := 31) dX10_wrong_30 rfl rfl ?_
      refine x_iaload (q := 32) dX10_wrong_31 rfl (Or.inl (ft41 hF)) (by omega) (by rw [fl41 hF]; omega) ?_
      refine Ex.stk (st' := [.inl e.2.2, .inl (nV (rt 6 (fr s.2.1 s.2.2.1.1 5 e.1 e.2.1)))]) (by rw [show iv G1 41 k = e.2.2 from e3]) ?_
      refine x_icmp_eq (q := 35) (t := 37) dX10_wrong_32 rfl (by decide) (fun h32 => ?_) (fun h32 => ?_)
      · refine x_iinc (q := 40) (ls' := [some (.inr (.inr (some 35))), some (.inl (k + 1))]) dX10_wrong_37 rfl rfl (by first | rfl | exact hnl | exact hnl2 _) (by rw [show wr (k + 1) = k + 1 from (wr_id ⟨by omega, by omega⟩)]; rfl) ?_
        refine x_goto (t := 2) dX10_wrong_40 (by decide) ?_
        first | rw [if_pos hm] at hw | rw [if_neg hm] at hw
        rw [if_pos h32] at hw
        exact ih (i + 1) (k + 1) _ (by omega) hd2 (by omega) (by assumption) hM hw
      · refine x_iload_n (q := 36) dX10_wrong_35 rfl rfl ?_
        refine x_iret dX10_wrong_36 rfl ?_
        first | rw [if_pos hm] at hw | rw [if_neg hm] at hw
        rw [if_neg h32] at hw
        rw [hw]; exact kk _ (by assumption) hM
    · refine x_invV (q := 26) (as := [.inr (.inr (some 35)), .inl e.1, .inl e.2.1]) (rest := []) dX10_wrong_23 rfl l_10_162 m_X10_layNew rfl rfl (ft35 hF) (Nat.le_of_ble_eq_true rfl) (CX.up (Nat.le_add_left 1 _) (c_layNew0 0 hF h3.2.2 (by omega))) (fun r1 G1 hR => ?_)
      obtain ⟨rfl, rfl⟩ := hR
      have l1 : LayI G (si G 35 29 0) := ⟨Io.rf G, fun a k g1 g2 g3 => by rw [iv_si, if_neg (by omega)], fun k g1 g2 g3 g4 => by rw [iv_si, if_neg (by omega)]⟩
      have hR1 := RM_LayI hR1 l1
      have hM := hM.trans l1.Mo
      generalize si G 35 29 0 = G1 at *
      have hR2 := hR1
      obtain ⟨hF, h2, h3, h4, h5, h6⟩ := hR2
      have e3 := (h5.2 i e hg).2.2
      rw [hi] at e3
      refine Ex.stk (st' := [.inl 0]) rfl ?_
      refine x_aload_n (q := 27) dX10_wrong_26 rfl rfl ?_
      refine x_getR (q := 30) dX10_wrong_27 rfl f_10_29 rfl (ft35 hF) ?_
      refine Ex.stk (st' := [.inr (.inr (some 41)), .inl 0]) (by rw [fr35_10 hF]) ?_
      refine x_iload_n (q := 31) dX10_wrong_30 rfl rfl ?_
      refine x_iaload (q := 32) dX10_wrong_31 rfl (Or.inl (ft41 hF)) (by omega) (by rw [fl41 hF]; omega) ?_
      refine Ex.stk (st' := [.inl e.2.2, .inl 0]) (by rw [show iv G1 41 k = e.2.2 from e3]) ?_
      refine x_icmp_eq (q := 35) (t := 37) dX10_wrong_32 rfl (by decide) (fun h32 => ?_) (fun h32 => ?_)
      · refine x_iinc (q := 40) (ls' := [some (.inr (.inr (some 35))), some (.inl (k + 1))]) dX10_wrong_37 rfl rfl (by first | rfl | exact hnl | exact hnl2 _) (by rw [show wr (k + 1) = k + 1 from (wr_id ⟨by omega, by omega⟩)]; rfl) ?_
        refine x_goto (t := 2) dX10_wrong_40 (by decide) ?_
        first | rw [if_pos hm] at hw | rw [if_neg hm] at hw
        rw [if_pos h32] at hw
        exact ih (i + 1) (k + 1) _ (by omega) hd2 (by omega) (by assumption) hM hw
      · refine x_iload_n (q := 36) dX10_wrong_35 rfl rfl ?_
        refine x_iret dX10_wrong_36 rfl ?_
        first | rw [if_pos hm] at hw | rw [if_neg hm] at hw
        rw [if_neg h32] at hw
        rw [hw]; exact kk _ (by assumption) hM
theorem c_wrong (d : Nat) {s : Sg} {G : Hp} (hR0 : RM s G) (hA : Aim s.2.1 s.2.2.1) (hb : s.2.2.2.1.length ≤ 20) (hbk : ∀ e ∈ s.2.2.2.1, 0 ≤ e.1 ∧ e.1 < 5 ∧ 0 ≤ e.2.1 ∧ e.2.1 ≤ 996) : CX (d + 6) 144 [.inr (.inr (some 35))] G (fun r G' => r = some (.inl (wrF s.2.1 s.2.2.1.1 s.2.2.2.1 0)) ∧ RM s G' ∧ Mo G G') := by
  refine CX.of (d := d + 5) m_X10_wrong (Nat.le_of_ble_eq_true rfl) ?_
  refine Ex.lcl (ls' := [some (.inr (.inr (some 35))), none]) rfl ?_
  refine x_iconst (q := 1) dX10_wrong_0 rfl (by decide) ?_
  refine x_istore_n (q := 2) (ls' := [some (.inr (.inr (some 35))), some (.inl 0)]) dX10_wrong_1 rfl (Nat.le_of_ble_eq_true rfl) (by first | rfl | exact hnl | exact hnl2 _) rfl ?_
  exact wrong_loop hA hb hbk (fun G' g1 g2 => ⟨rfl, g1, g2⟩) s.2.2.2.1 0 0 G rfl rfl (by omega) hR0 (Mo.rf G) rfl
set_option maxHeartbeats 1000000 in
theorem c_toldMore (d : Nat) {s : Sg} {G : Hp} (hR0 : RM s G) (hA : Aim s.2.1 s.2.2.1) (c1 : tsz 6 s.2.2.2.2.1 ≤ 364) (hb : s.2.2.2.1.length ≤ 20) (hbk : ∀ e ∈ s.2.2.2.1, 0 ≤ e.1 ∧ e.1 < 5 ∧ 0 ≤ e.2.1 ∧ e.2.1 ≤ 996) (wh : Int) (hw : wh < 0 ∨ 9 ≤ wh) : CX (d + 8) 145 [.inr (.inr (some 35)), .inl wh] G (fun r G' => r = some (.inl (o_told wh s)) ∧ RM s G' ∧ Mo G G') := by
  have hR1 := hR0
  obtain ⟨hF, h2, h3, h4, h5, h6⟩ := hR0
  have hM := Mo.rf G
  have hcc : ∀ k, 0 ≤ k → k < 8 → iv G 36 k = s.2.2.1.1 k := fun k k0 k1 => hR1.2.2.2.1.1 k k0 (by omega)
  obtain ⟨⟨⟨-, -, hv0, -⟩, -⟩, -, -⟩ := OR_head (OR_root h6.1 rfl)
  refine CX.of (d := d + 7) m_X10_toldMore (Nat.le_of_ble_eq_true rfl) ?_
  refine Ex.lcl (ls' := [some (.inr (.inr (some 35))), some (.inl wh)]) rfl ?_
  refine x_iload_n (q := 1) dX10_toldMore_0 rfl rfl ?_
  rcases Decidable.em (wh < 9 ∨ 17 < wh) with hs1 | hs1
  · refine x_tableOut (t := 103) dX10_toldMore_1 hs1 (by decide) ?_
    refine x_ldc (q := 105) dX10_toldMore_103 rfl k_10_239 ?_
    refine x_iret dX10_toldMore_105 rfl ?_
    refine ⟨vi_eq ?_, hR1, hM⟩
    rw [o_told]
    iterate 18 rw [if_neg (by omega)]
  obtain hs1 | hs1 | hs1 | hs1 | hs1 | hs1 | hs1 | hs1 | hs1 : wh = 9 ∨ wh = 10 ∨ wh = 11 ∨ wh = 12 ∨ wh = 13 ∨ wh = 14 ∨ wh = 15 ∨ wh = 16 ∨ wh = 17 := by omega
  · refine x_tableIn (t := 52) (off := 51) dX10_toldMore_1 (by omega) (by omega) (by rw [hs1]; rfl) (by decide) ?_
    refine x_aload_n (q := 53) dX10_toldMore_52 rfl rfl ?_
    refine x_getI (q := 56) dX10_toldMore_53 rfl f_10_186 rfl (ft35 hF) ?_
    refine Ex.stk (st' := [.inl s.2.2.2.2.2.2.1]) (by rw [show iv G 35 33 = s.2.2.2.2.2.2.1 from h6.2.2.2.1]) ?_
    refine x_iret dX10_toldMore_56 rfl ?_
    refine ⟨vi_eq ?_, hR1, hM⟩
    rw [hs1]; simp [o_told]
  · refine x_tableIn (t := 57) (off := 56) dX10_toldMore_1 (by omega) (by omega) (by rw [hs1]; rfl) (by decide) ?_
    refine x_aload_n (q := 58) dX10_toldMore_57 rfl rfl ?_
    refine x_invV (q := 61) (as := [.inr (.inr (some 35))]) (rest := []) dX10_toldMore_58 rfl l_10_250 m_X10_deepest rfl rfl (ft35 hF) (Nat.le_of_ble_eq_true rfl) (c_deepest _ hF h6.1 h6.2.1 c1) (fun r1 G1 hR => ?_)
    obtain ⟨hG1, rfl⟩ := hR
    replace hG1 := hG1.symm
    subst hG1
    refine Ex.stk (st' := [.inl (dpF (flat 6 1 s.2.2.2.2.1) 0)]) rfl ?_
    refine x_iret dX10_toldMore_61 rfl ?_
    refine ⟨vi_eq ?_, hR1, hM⟩
    rw [hs1]; simp [o_told]
  · refine x_tableIn (t := 62) (off := 61) dX10_toldMore_1 (by omega) (by omega) (by rw [hs1]; rfl) (by decide) ?_
    refine x_aload_n (q := 63) dX10_toldMore_62 rfl rfl ?_
    refine x_invV (q := 66) (as := [.inr (.inr (some 35))]) (rest := []) dX10_toldMore_63 rfl l_10_253 m_X10_oldMany rfl rfl (ft35 hF) (Nat.le_of_ble_eq_true rfl) (c_oldMany _ hF h6.1 h6.2.1 c1 h6.2.2.1 hcc) (fun r1 G1 hR => ?_)
    obtain ⟨hG1, rfl⟩ := hR
    replace hG1 := hG1.symm
    subst hG1
    refine Ex.stk (st' := [.inl (olF s.2.2.2.2.2.1 s.2.2.1.1 (flat 6 1 s.2.2.2.2.1) 0)]) rfl ?_
    refine x_iret dX10_toldMore_66 rfl ?_
    refine ⟨vi_eq ?_, hR1, hM⟩
    rw [hs1]; simp [o_told]
  · refine x_tableIn (t := 67) (off := 66) dX10_toldMore_1 (by omega) (by omega) (by rw [hs1]; rfl) (by decide) ?_
    refine x_aload_n (q := 68) dX10_toldMore_67 rfl rfl ?_
    refine x_invV (q := 71) (as := [.inr (.inr (some 35))]) (rest := []) dX10_toldMore_68 rfl l_10_256 m_X10_bears rfl rfl (ft35 hF) (Nat.le_of_ble_eq_true rfl) (c_bears _ hF h6.1 h6.2.1 c1) (fun r1 G1 hR => ?_)
    obtain ⟨hG1, rfl⟩ := hR
    replace hG1 := hG1.symm
    subst hG1
    refine Ex.stk (st' := [.inl (brF (flat 6 1 s.2.2.2.2.1) 0)]) rfl ?_
    refine x_iret dX10_toldMore_71 rfl ?_
    refine ⟨vi_eq ?_, hR1, hM⟩
    rw [hs1]; simp [o_told]
  · refine x_tableIn (t := 72) (off := 71) dX10_toldMore_1 (by omega) (by omega) (by rw [hs1]; rfl) (by decide) ?_
    refine x_aload_n (q := 73) dX10_toldMore_72 rfl rfl ?_
    refine x_getR (q := 76) dX10_toldMore_73 rfl f_10_7 rfl (ft35 hF) ?_
    refine Ex.stk (st' := [.inr (.inr (some 36))]) (by rw [fr35_0 hF]) ?_
    refine x_bipush (q := 78) dX10_toldMore_76 rfl (by decide) ?_
    refine x_iaload (q := 79) dX10_toldMore_78 rfl (Or.inl (ft36 hF)) (by omega) (by rw [fl36 hF]; omega) ?_
    refine Ex.stk (st' := [.inl (s.2.2.1.1 8)]) (by rw [show iv G 36 8 = s.2.2.1.1 8 from (h4.1 8 (by decide) (by decide))]) ?_
    refine x_iret dX10_toldMore_79 rfl ?_
    refine ⟨vi_eq ?_, hR1, hM⟩
    rw [hs1]; simp [o_told]
  · refine x_tableIn (t := 80) (off := 79) dX10_toldMore_1 (by omega) (by omega) (by rw [hs1]; rfl) (by decide) ?_
    refine x_aload_n (q := 81) dX10_toldMore_80 rfl rfl ?_
    refine x_getR (q := 84) dX10_toldMore_81 rfl f_10_7 rfl (ft35 hF) ?_
    refine Ex.stk (st' := [.inr (.inr (some 36))]) (by rw [fr35_0 hF]) ?_
    refine x_bipush (q := 86) dX10_toldMore_84 rfl (by decide) ?_
    refine x_iaload (q := 87) dX10_toldMore_86 rfl (Or.inl (ft36 hF)) (by omega) (by rw [fl36 hF]; omega) ?_
    refine Ex.stk (st' := [.inl (s.2.2.1.1 9)]) (by rw [show iv G 36 9 = s.2.2.1.1 9 from (h4.1 9 (by decide) (by decide))]) ?_
    refine x_iret dX10_toldMore_87 rfl ?_
    refine ⟨vi_eq ?_, hR1, hM⟩
    rw [hs1]; simp [o_told]
  · refine x_tableIn (t := 88) (off := 87) dX10_toldMore_1 (by omega) (by omega) (by rw [hs1]; rfl) (by decide) ?_
    refine x_aload_n (q := 89) dX10_toldMore_88 rfl rfl ?_
    refine x_getI (q := 92) dX10_toldMore_89 rfl f_10_247 rfl (ft35 hF) ?_
    refine Ex.stk (st' := [.inl (s.2.2.2.1.length : Int)]) (by rw [show iv G 35 11 = (s.2.2.2.1.length : Int) from h5.1]) ?_
    refine x_iret dX10_toldMore_92 rfl ?_
    refine ⟨vi_eq ?_, hR1, hM⟩
    rw [hs1]; simp [o_told]
  · refine x_tableIn (t := 93) (off := 92) dX10_toldMore_1 (by omega) (by omega) (by rw [hs1]; rfl) (by decide) ?_
    refine x_aload_n (q := 94) dX10_toldMore_93 rfl rfl ?_
    refine x_invV (q := 97) (as := [.inr (.inr (some 35))]) (rest := []) dX10_toldMore_94 rfl l_10_259 m_X10_wrong rfl rfl (ft35 hF) (Nat.le_of_ble_eq_true rfl) (c_wrong _ hR1 hA hb hbk) (fun r1 G1 hR => ?_)
    obtain ⟨rfl, hR1, hM⟩ := hR
    refine Ex.stk (st' := [.inl (wrF s.2.1 s.2.2.1.1 s.2.2.2.1 0)]) rfl ?_
    refine x_iret dX10_toldMore_97 rfl ?_
    refine ⟨vi_eq ?_, hR1, hM⟩
    rw [hs1]; simp [o_told]
  · refine x_tableIn (t := 98) (off := 97) dX10_toldMore_1 (by omega) (by omega) (by rw [hs1]; rfl) (by decide) ?_
    refine x_aload_n (q := 99) dX10_toldMore_98 rfl rfl ?_
    refine x_getI (q := 102) dX10_toldMore_99 rfl f_10_105 rfl (ft35 hF) ?_
    refine Ex.stk (st' := [.inl (s.2.2.1.2.1.length : Int)]) (by rw [show iv G 35 1 = (s.2.2.1.2.1.length : Int) from h4.2.1.1]) ?_
    refine x_iret dX10_toldMore_102 rfl ?_
    refine ⟨vi_eq ?_, hR1, hM⟩
    rw [hs1]; simp [o_told]
set_option maxHeartbeats 1000000 in
theorem cm_told (d : Nat) {s : Sg} {G : Hp} (hR0 : RM s G) (hA : Aim s.2.1 s.2.2.1) (c1 : tsz 6 s.2.2.2.2.1 ≤ 364) (hb : s.2.2.2.1.length ≤ 20) (hbk : ∀ e ∈ s.2.2.2.1, 0 ≤ e.1 ∧ e.1 < 5 ∧ 0 ≤ e.2.1 ∧ e.2.1 ≤ 996) (wh : Int) : CX (d + 10) 146 [.inr (.inr (some 35)), .inl wh] G (fun r G' => r = some (.inl (o_told wh s)) ∧ RM s G' ∧ Mo G G') := by
  have hR1 := hR0
  obtain ⟨hF, h2, h3, h4, h5, h6⟩ := hR0
  have hM := Mo.rf G
  have hcc : ∀ k, 0 ≤ k → k < 8 → iv G 36 k = s.2.2.1.1 k := fun k k0 k1 => hR1.2.2.2.1.1 k k0 (by omega)
  obtain ⟨⟨⟨-, -, hv0, -⟩, -⟩, -, -⟩ := OR_head (OR_root h6.1 rfl)
  refine CX.of (d := d + 9) m_X10_told (Nat.le_of_ble_eq_true rfl) ?_
  refine Ex.lcl (ls' := [some (.inr (.inr (some 35))), some (.inl wh)]) rfl ?_
  refine x_iload_n (q := 1) dX10_told_0 rfl rfl ?_
  rcases Decidable.em (wh < 0 ∨ 8 < wh) with hs1 | hs1
  · refine x_tableOut (t := 107) dX10_told_1 hs1 (by decide) ?_
    refine x_aload_n (q := 108) dX10_told_107 rfl rfl ?_
    refine x_iload_n (q := 109) dX10_told_108 rfl rfl ?_
    refine x_invV (q := 112) (as := [.inr (.inr (some 35)), .inl wh]) (rest := []) dX10_told_109 rfl l_10_266 m_X10_toldMore rfl rfl (ft35 hF) (Nat.le_of_ble_eq_true rfl) (c_toldMore _ hR1 hA c1 hb hbk wh (by omega)) (fun r1 G1 hR => ?_)
    obtain ⟨rfl, hR1, hM⟩ := hR
    refine Ex.stk (st' := [.inl (o_told wh s)]) rfl ?_
    refine x_iret dX10_told_112 rfl ?_
    exact ⟨rfl, hR1, hM⟩
  obtain hs1 | hs1 | hs1 | hs1 | hs1 | hs1 | hs1 | hs1 | hs1 : wh = 0 ∨ wh = 1 ∨ wh = 2 ∨ wh = 3 ∨ wh = 4 ∨ wh = 5 ∨ wh = 6 ∨ wh = 7 ∨ wh = 8 := by omega
  · refine x_tableIn (t := 52) (off := 51) dX10_told_1 (by omega) (by omega) (by rw [hs1]; rfl) (by decide) ?_
    refine x_aload_n (q := 53) dX10_told_52 rfl rfl ?_
    refine x_getI (q := 56) dX10_told_53 rfl f_10_95 rfl (ft35 hF) ?_
    refine Ex.stk (st' := [.inl s.2.1.2.2]) (by rw [show iv G 35 14 = s.2.1.2.2 from h3.2.2]) ?_
    refine x_iret dX10_told_56 rfl ?_
    refine ⟨vi_eq ?_, hR1, hM⟩
    rw [hs1]; simp [o_told]
  · refine x_tableIn (t := 57) (off := 56) dX10_told_1 (by omega) (by omega) (by rw [hs1]; rfl) (by decide) ?_
    refine x_aload_n (q := 58) dX10_told_57 rfl rfl ?_
    refine x_getI (q := 61) dX10_told_58 rfl f_10_227 rfl (ft35 hF) ?_
    refine Ex.stk (st' := [.inl s.1.2.1]) (by rw [show iv G 35 6 = s.1.2.1 from h2.2.1]) ?_
    refine x_iret dX10_told_61 rfl ?_
    refine ⟨vi_eq ?_, hR1, hM⟩
    rw [hs1]; simp [o_told]
  · refine x_tableIn (t := 62) (off := 61) dX10_told_1 (by omega) (by omega) (by rw [hs1]; rfl) (by decide) ?_
    refine x_aload_n (q := 63) dX10_told_62 rfl rfl ?_
    refine x_getR (q := 66) dX10_told_63 rfl f_10_44 rfl (ft35 hF) ?_
    refine Ex.stk (st' := [.inr (.inr (some 46))]) (by rw [fr35_17 hF]) ?_
    refine x_iconst (q := 67) dX10_told_66 rfl (by decide) ?_
    refine x_iaload (q := 68) dX10_told_67 rfl (Or.inl (ft46 hF)) (by omega) (by rw [fl46 hF]; omega) ?_
    refine Ex.stk (st' := [.inl (nV (rt 6 s.2.2.2.2.1))]) (by rw [show iv G 46 0 = nV (rt 6 s.2.2.2.2.1) from hv0]) ?_
    refine x_iret dX10_told_68 rfl ?_
    refine ⟨vi_eq ?_, hR1, hM⟩
    rw [hs1]; simp [o_told]
  · refine x_tableIn (t := 69) (off := 68) dX10_told_1 (by omega) (by omega) (by rw [hs1]; rfl) (by decide) ?_
    refine x_aload_n (q := 70) dX10_told_69 rfl rfl ?_
    refine x_getI (q := 73) dX10_told_70 rfl f_10_173 rfl (ft35 hF) ?_
    refine Ex.stk (st' := [.inl (tsz 6 s.2.2.2.2.1 : Int)]) (by rw [show iv G 35 22 = (tsz 6 s.2.2.2.2.1 : Int) from h6.2.1]) ?_
    refine x_iret dX10_told_73 rfl ?_
    refine ⟨vi_eq ?_, hR1, hM⟩
    rw [hs1]; simp [o_told]
  · refine x_tableIn (t := 74) (off := 73) dX10_told_1 (by omega) (by omega) (by rw [hs1]; rfl) (by decide) ?_
    refine x_aload_n (q := 75) dX10_told_74 rfl rfl ?_
    refine x_invV (q := 78) (as := [.inr (.inr (some 35))]) (rest := []) dX10_told_75 rfl l_10_198 m_X10_layNow rfl rfl (ft35 hF) (Nat.le_of_ble_eq_true rfl) (c_layNow hA.1 hA.2.1 _ (RM_MP hR1) (h4.1 8 (by decide) (by decide)) (h4.1 9 (by decide) (by decide)) hA.2.2.1 hA.2.2.2.1 hA.2.2.2.2.1 hA.2.2.2.2.2) (fun r1 G1 hR => ?_)
    obtain ⟨rfl, l1, -, -⟩ := hR
    have hR1 := RM_LayI hR1 l1
    have hM := l1.Mo
    refine Ex.stk (st' := [.inl (nV (rt 6 (newN s)))]) rfl ?_
    refine x_iret dX10_told_78 rfl ?_
    refine ⟨vi_eq ?_, hR1, hM⟩
    rw [hs1]; simp [o_told]
  · refine x_tableIn (t := 79) (off := 78) dX10_told_1 (by omega) (by omega) (by rw [hs1]; rfl) (by decide) ?_
    refine x_aload_n (q := 80) dX10_told_79 rfl rfl ?_
    refine x_invV (q := 83) (as := [.inr (.inr (some 35))]) (rest := []) dX10_told_80 rfl l_10_262 m_X10_isAlike rfl rfl (ft35 hF) (Nat.le_of_ble_eq_true rfl) (c_isAlike _ hR1 hA c1) (fun r1 G1 hR => ?_)
    obtain ⟨y, rfl, hy1, hy2, hR1, hM⟩ := hR
    refine Ex.stk (st' := [.inl y]) rfl ?_
    refine x_if_eq (q := 86) (t := 90) dX10_told_83 rfl (by decide) (fun h83 => ?_) (fun h83 => ?_)
    · refine x_iconst (q := 91) dX10_told_90 rfl (by decide) ?_
      refine x_iret dX10_told_91 rfl ?_
      refine ⟨vi_eq ?_, hR1, hM⟩
      rw [hs1]; simp only [o_told, show ¬ ((5 : Int) = 0) from by decide, show ¬ ((5 : Int) = 1) from by decide, show ¬ ((5 : Int) = 2) from by decide, show ¬ ((5 : Int) = 3) from by decide, show ¬ ((5 : Int) = 4) from by decide, if_true, if_false]
      rw [if_neg (fun q => by have := hy2.mpr q; omega)]
    · refine x_iconst (q := 87) dX10_told_86 rfl (by decide) ?_
      refine x_goto (t := 91) dX10_told_87 (by decide) ?_
      refine x_iret dX10_told_91 rfl ?_
      refine ⟨vi_eq ?_, hR1, hM⟩
      rw [hs1]; simp only [o_told, show ¬ ((5 : Int) = 0) from by decide, show ¬ ((5 : Int) = 1) from by decide, show ¬ ((5 : Int) = 2) from by decide, show ¬ ((5 : Int) = 3) from by decide, show ¬ ((5 : Int) = 4) from by decide, if_true, if_false]
      rw [if_pos (hy2.mp (by omega))]
  · refine x_tableIn (t := 92) (off := 91) dX10_told_1 (by omega) (by omega) (by rw [hs1]; rfl) (by decide) ?_
    refine x_aload_n (q := 93) dX10_told_92 rfl rfl ?_
    refine x_getI (q := 96) dX10_told_93 rfl f_10_180 rfl (ft35 hF) ?_
    refine Ex.stk (st' := [.inl s.2.2.2.2.2.2.2.1]) (by rw [show iv G 35 34 = s.2.2.2.2.2.2.2.1 from h6.2.2.2.2.1]) ?_
    refine x_iret dX10_told_96 rfl ?_
    refine ⟨vi_eq ?_, hR1, hM⟩
    rw [hs1]; simp [o_told]
  · refine x_tableIn (t := 97) (off := 96) dX10_told_1 (by omega) (by omega) (by rw [hs1]; rfl) (by decide) ?_
    refine x_aload_n (q := 98) dX10_told_97 rfl rfl ?_
    refine x_getI (q := 101) dX10_told_98 rfl f_10_183 rfl (ft35 hF) ?_
    refine Ex.stk (st' := [.inl s.2.2.2.2.2.2.2.2.1]) (by rw [show iv G 35 35 = s.2.2.2.2.2.2.2.2.1 from h6.2.2.2.2.2.1]) ?_
    refine x_iret dX10_told_101 rfl ?_
    refine ⟨vi_eq ?_, hR1, hM⟩
    rw [hs1]; simp [o_told]
  · refine x_tableIn (t := 102) (off := 101) dX10_told_1 (by omega) (by omega) (by rw [hs1]; rfl) (by decide) ?_
    refine x_aload_n (q := 103) dX10_told_102 rfl rfl ?_
    refine x_getI (q := 106) dX10_told_103 rfl f_10_195 rfl (ft35 hF) ?_
    refine Ex.stk (st' := [.inl s.2.2.2.2.2.2.2.2.2]) (by rw [show iv G 35 36 = s.2.2.2.2.2.2.2.2.2 from h6.2.2.2.2.2.2]) ?_
    refine x_iret dX10_told_106 rfl ?_
    refine ⟨vi_eq ?_, hR1, hM⟩
    rw [hs1]; simp [o_told]
