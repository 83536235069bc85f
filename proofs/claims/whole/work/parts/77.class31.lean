/-! THE CLASS: find; what the trace tells -/
def NmD (T : Tr 6) : Prop := ((inf 6 1 0 (-1) T).map (fun e => nN e.1)).Nodup
theorem NmD_nad {T : Tr 6} (h : NmD (nad 6 T)) : ((inf 6 1 0 (-1) T).map (fun e => nN e.1)).Nodup := by
  unfold NmD at h; rw [inf_nad, List.map_map] at h; exact h
theorem NmOk_nad {T : Tr 6} (h : NmOk (nad 6 T)) : ∀ e ∈ inf 6 1 0 (-1) T, wr (nN e.1) = nN e.1 := fun e he => (h (erA e) (by rw [inf_nad]; exact List.mem_map.mpr ⟨e, he, rfl⟩)).1
theorem c_numName (d : Nat) {n : Int} {s : Sg} {G : Hp} (hR0 : RC n s G) (t1 : tsz 6 s.2.2.2.2.1 ≤ 364) (nm : Int) (hnm : NmOk s.2.2.2.2.1) (hnd : NmD s.2.2.2.2.1) : CX (d + 1) 75 [.inr (.inr (some 17)), .inl nm] G (fun r G1 => r = some (.inl (lsF nm (flat 6 1 s.2.2.2.2.1) 0 (-1))) ∧ G1 = G) := by
  have hC1 := hR0
  obtain ⟨hF, h2, h3, h4, h5, h6⟩ := hR0
  have hrow := h4
  obtain ⟨T, fs, κ, c1, c2, c3, c4, c5, c6, c7, c8, c9, c10, c11, c12, c13, c14, c15, c16, c17, c18⟩ := h6
  have hti := TA_inf 6 1 0 (-1) T c2
  rw [← c1] at t1 ⊢
  rw [nad_tsz] at t1
  rw [← c1] at hnm hnd
  refine CX.of (d := d + 0) m_X8_numberOfName (Nat.le_of_ble_eq_true rfl) ?_
  refine Ex.lcl (ls' := [some (.inr (.inr (some 17))), some (.inl nm), none]) rfl ?_
  refine x_iconst (q := 1) dX8_numberOfName_0 rfl (by decide) ?_
  refine x_istore_n (q := 2) (ls' := [some (.inr (.inr (some 17))), some (.inl nm), some (.inl 0)]) dX8_numberOfName_1 rfl (Nat.le_of_ble_eq_true rfl) (by first | rfl | exact hnl | exact hnl2 _) rfl ?_
  rw [flat_nad, lsF_fs _ _ (NmD_nad hnd)]
  exact cfind_loop hF c4 (by omega) _ _ c5 hti (by decide) (by rw [inf_len]; omega) (NmOk_nad hnm) ⟨rfl, rfl⟩
theorem c_grNest (d : Nat) {n : Int} {s : Sg} {G : Hp} (hR0 : RC n s G) (t1 : tsz 6 s.2.2.2.2.1 ≤ 364) : CX (d + 2) 77 [.inr (.inr (some 17))] G (fun r G1 => r = some (.inl (dpF (flat 6 1 s.2.2.2.2.1) 0)) ∧ G1 = G) := by
  have hC1 := hR0
  obtain ⟨hF, h2, h3, h4, h5, h6⟩ := hR0
  have hrow := h4
  obtain ⟨T, fs, κ, c1, c2, c3, c4, c5, c6, c7, c8, c9, c10, c11, c12, c13, c14, c15, c16, c17, c18⟩ := h6
  have hti := TA_inf 6 1 0 (-1) T c2
  rw [← c1] at t1 ⊢
  rw [nad_tsz] at t1
  refine CX.of (d := d + 1) m_X8_greatestNest (Nat.le_of_ble_eq_true rfl) ?_
  refine Ex.lcl (ls' := [some (.inr (.inr (some 17))), none, none]) rfl ?_
  refine x_iconst (q := 1) dX8_greatestNest_0 rfl (by decide) ?_
  refine x_istore_n (q := 2) (ls' := [some (.inr (.inr (some 17))), some (.inl 0), none]) dX8_greatestNest_1 rfl (Nat.le_of_ble_eq_true rfl) (by first | rfl | exact hnl | exact hnl2 _) rfl ?_
  refine x_iconst (q := 3) dX8_greatestNest_2 rfl (by decide) ?_
  refine x_istore_n (q := 4) (ls' := [some (.inr (.inr (some 17))), some (.inl 0), some (.inl 0)]) dX8_greatestNest_3 rfl (Nat.le_of_ble_eq_true rfl) (by first | rfl | exact hnl | exact hnl2 _) rfl ?_
  rw [flat_nad]
  exact cnest_loop hF c4 (by omega) _ _ _ c5 hti (by decide) (by rw [inf_len]; omega) ⟨rfl, rfl⟩
theorem c_clRead (d : Nat) {n : Int} {s : Sg} {G : Hp} (hR0 : RC n s G) (t1 : tsz 6 s.2.2.2.2.1 ≤ 364) : CX (d + 1) 79 [.inr (.inr (some 17))] G (fun r G1 => r = some (.inl (brF (flat 6 1 s.2.2.2.2.1) 0)) ∧ G1 = G) := by
  have hC1 := hR0
  obtain ⟨hF, h2, h3, h4, h5, h6⟩ := hR0
  have hrow := h4
  obtain ⟨T, fs, κ, c1, c2, c3, c4, c5, c6, c7, c8, c9, c10, c11, c12, c13, c14, c15, c16, c17, c18⟩ := h6
  have hti := TA_inf 6 1 0 (-1) T c2
  rw [← c1] at t1 ⊢
  rw [nad_tsz] at t1
  refine CX.of (d := d + 0) m_X8_cellsRead (Nat.le_of_ble_eq_true rfl) ?_
  refine Ex.lcl (ls' := [some (.inr (.inr (some 17))), none, none]) rfl ?_
  refine x_iconst (q := 1) dX8_cellsRead_0 rfl (by decide) ?_
  refine x_istore_n (q := 2) (ls' := [some (.inr (.inr (some 17))), some (.inl 0), none]) dX8_cellsRead_1 rfl (Nat.le_of_ble_eq_true rfl) (by first | rfl | exact hnl | exact hnl2 _) rfl ?_
  refine x_iconst (q := 3) dX8_cellsRead_2 rfl (by decide) ?_
  refine x_istore_n (q := 4) (ls' := [some (.inr (.inr (some 17))), some (.inl 0), some (.inl 0)]) dX8_cellsRead_3 rfl (Nat.le_of_ble_eq_true rfl) (by first | rfl | exact hnl | exact hnl2 _) rfl ?_
  rw [flat_nad]
  exact cread_loop hF c4 (by omega) _ _ _ c5 hti (by decide) (by rw [inf_len]; omega) ⟨rfl, rfl⟩
theorem c_hmOld (d : Nat) {n : Int} {s : Sg} {G : Hp} (hR0 : RC n s G) (t1 : tsz 6 s.2.2.2.2.1 ≤ 364) : CX (d + 3) 78 [.inr (.inr (some 17)), .inr (.inr (some 16))] G (fun r G1 => r = some (.inl (olF s.2.2.2.2.2.1 s.2.2.1.1 (flat 6 1 s.2.2.2.2.1) 0)) ∧ G1 = G) := by
  have hC1 := hR0
  obtain ⟨hF, h2, h3, h4, h5, h6⟩ := hR0
  have hrow := h4
  obtain ⟨T, fs, κ, c1, c2, c3, c4, c5, c6, c7, c8, c9, c10, c11, c12, c13, c14, c15, c16, c17, c18⟩ := h6
  have hti := TA_inf 6 1 0 (-1) T c2
  rw [← c1] at t1 ⊢
  rw [nad_tsz] at t1
  refine CX.of (d := d + 2) m_X8_howManyOld (Nat.le_of_ble_eq_true rfl) ?_
  refine Ex.lcl (ls' := [some (.inr (.inr (some 17))), some (.inr (.inr (some 16))), none, none]) rfl ?_
  refine x_iconst (q := 1) dX8_howManyOld_0 rfl (by decide) ?_
  refine x_istore_n (q := 2) (ls' := [some (.inr (.inr (some 17))), some (.inr (.inr (some 16))), some (.inl 0), none]) dX8_howManyOld_1 rfl (Nat.le_of_ble_eq_true rfl) (by first | rfl | exact hnl | exact hnl2 _) rfl ?_
  refine x_iconst (q := 3) dX8_howManyOld_2 rfl (by decide) ?_
  refine x_istore_n (q := 4) (ls' := [some (.inr (.inr (some 17))), some (.inr (.inr (some 16))), some (.inl 0), some (.inl 0)]) dX8_howManyOld_3 rfl (Nat.le_of_ble_eq_true rfl) (by first | rfl | exact hnl | exact hnl2 _) rfl ?_
  rw [flat_nad]
  exact cold_loop hF c4 (by omega) hrow.1 _ _ _ c5 hti (by decide) (by rw [inf_len]; omega) (by decide) (by decide) ⟨rfl, rfl⟩
theorem c_rtTells (d : Nat) {n : Int} {s : Sg} {G : Hp} (hR0 : RC n s G) (t1 : tsz 6 s.2.2.2.2.1 ≤ 364) : CX (d + 1) 76 [.inr (.inr (some 17))] G (fun r G1 => r = some (.inl (nV (rt 6 s.2.2.2.2.1))) ∧ G1 = G) := by
  have hC1 := hR0
  obtain ⟨hF, h2, h3, h4, h5, h6⟩ := hR0
  have hrow := h4
  obtain ⟨T, fs, κ, c1, c2, c3, c4, c5, c6, c7, c8, c9, c10, c11, c12, c13, c14, c15, c16, c17, c18⟩ := h6
  have hti := TA_inf 6 1 0 (-1) T c2
  rw [← c1] at t1 ⊢
  rw [nad_tsz] at t1
  refine CX.of (d := d + 0) m_X8_rootTells (Nat.le_of_ble_eq_true rfl) ?_
  refine Ex.lcl (ls' := [some (.inr (.inr (some 17)))]) rfl ?_
  refine x_aload_n (q := 1) dX8_rootTells_0 rfl rfl ?_
  refine x_getR (q := 4) dX8_rootTells_1 rfl f_8_17 rfl (ft17 hF) ?_
  refine Ex.stk (st' := [.inr (.inr (some (aRt 6 T)))]) (by rw [show rv G 17 1 = some (aRt 6 T) from (by first | exact c3 | simp [rv_sr, rv_si, rv_nw, c3])]) ?_
  refine x_ifnonnull (q := 7) (t := 11) dX8_rootTells_4 rfl (by decide) (fun a4 h4 => ?_) (fun h4 => by exfalso; cases h4)
  refine x_aload_n (q := 12) dX8_rootTells_11 rfl rfl ?_
  refine x_getR (q := 15) dX8_rootTells_12 rfl f_8_17 rfl (ft17 hF) ?_
  refine Ex.stk (st' := [.inr (.inr (some (aRt 6 T)))]) (by rw [show rv G 17 1 = some (aRt 6 T) from (by first | exact c3 | simp [rv_sr, rv_si, rv_nw, c3])]) ?_
  refine x_getI (q := 18) dX8_rootTells_15 rfl f_8_47 rfl (TA_rt 6 1 T c2).1.1 ?_
  refine Ex.stk (st' := [.inl (nV (rt 6 T))]) (by rw [show iv G (aRt 6 T) 2 = nV (rt 6 T) from c2.1.2.2.2.1]) ?_
  refine x_iret dX8_rootTells_18 rfl ?_
  exact ⟨vi_eq (nad_rt 6 T).2.2.1.symm, rfl⟩
theorem cc_find (d : Nat) {n : Int} {s : Sg} {G : Hp} (hR0 : RC n s G) (t1 : tsz 6 s.2.2.2.2.1 ≤ 364) (nm : Int) (hnm : NmOk s.2.2.2.2.1) (hnd : NmD s.2.2.2.2.1) : CX (d + 2) 87 [.inr (.inr (some 1)), .inl nm] G (fun r G1 => r = some (.inl (lsF nm (flat 6 1 s.2.2.2.2.1) 0 (-1))) ∧ G1 = G) := by
  have hC1 := hR0
  obtain ⟨hF, h2, h3, h4, h5, h6⟩ := hR0
  refine CX.of (d := d + 1) m_X9_find (Nat.le_of_ble_eq_true rfl) ?_
  refine Ex.lcl (ls' := [some (.inr (.inr (some 1))), some (.inl nm)]) rfl ?_
  refine x_aload_n (q := 1) dX9_find_0 rfl rfl ?_
  refine x_getR (q := 4) dX9_find_1 rfl f_9_44 rfl (ft1 hF) ?_
  refine Ex.stk (st' := [.inr (.inr (some 17))]) (by rw [fr1_9 hF]) ?_
  refine x_iload_n (q := 5) dX9_find_4 rfl rfl ?_
  refine x_invV (q := 8) (as := [.inr (.inr (some 17)), .inl nm]) (rest := []) dX9_find_5 rfl l_9_195 m_X8_numberOfName rfl rfl (ft17 hF) (Nat.le_of_ble_eq_true rfl) (CX.up (d := 0 + 1) (by omega) (c_numName 0 hC1 t1 nm hnm hnd)) (fun r1 G1 hR => ?_)
  obtain ⟨rfl, hG1⟩ := hR
  replace hG1 := hG1.symm
  subst hG1
  refine Ex.stk (st' := [.inl (lsF nm (flat 6 1 s.2.2.2.2.1) 0 (-1))]) rfl ?_
  refine x_iret dX9_find_8 rfl ?_
  exact ⟨rfl, rfl⟩
