/-! THE CLASS: loops over the trace; find -/
def fmI (e : If) : Nd × Int := ((0, e.1.2), e.2.1)
theorem flat_nad (T : Tr 6) : flat 6 1 (nad 6 T) = (inf 6 1 0 (-1) T).map fmI := by
  rw [← inf_flat 6 1 0 (-1), inf_nad, List.map_map]; rfl
def firstF (nm : Int) : List If → Int → Int
  | [], _ => -1
  | e :: l, k => if nN e.1 = nm then k else firstF nm l (k + 1)
theorem lsF_no {nm : Int} : ∀ (l : List If) (k z : Int), (∀ e ∈ l, nN e.1 ≠ nm) → lsF nm (l.map fmI) k z = z := by
  intro l
  induction l with
  | nil => intro k z _; rfl
  | cons e l ih =>
    intro k z hn
    show lsF nm (l.map fmI) (k + 1) (if nN e.1 = nm then k else z) = z
    rw [if_neg (hn e (List.mem_cons_self ..))]
    exact ih _ _ (fun e' he' => hn e' (List.mem_cons_of_mem _ he'))
theorem lsF_fs {nm : Int} : ∀ (l : List If) (k : Int), (l.map (fun e => nN e.1)).Nodup → lsF nm (l.map fmI) k (-1) = firstF nm l k := by
  intro l
  induction l with
  | nil => intro k _; rfl
  | cons e l ih =>
    intro k hn
    rw [List.map_cons, List.nodup_cons] at hn
    show lsF nm (l.map fmI) (k + 1) (if nN e.1 = nm then k else -1) = (if nN e.1 = nm then k else firstF nm l (k + 1))
    by_cases h : nN e.1 = nm
    · rw [if_pos h, if_pos h]
      exact lsF_no l _ _ (fun e' he' q => hn.1 (List.mem_map.mpr ⟨e', he', q.trans h.symm⟩))
    · rw [if_neg h, if_neg h]; exact ih _ hn.2
theorem cfind_loop {d : Nat} {G : Hp} {Q : Option V → Hp → Prop} (hF : FC G) {h : Int → Int} {β co : Int} (hco : iv G 17 2 = co) (c1 : co ≤ 364) {nm : Int} : ∀ (l : List If) (k : Int), IA G k l → (∀ e ∈ l, InA G h β e) → 0 ≤ k → k + (l.length : Int) = co → (∀ e ∈ l, wr (nN e.1) = nN e.1) → Q (some (.inl (firstF nm l k))) G → Ex (d) (some .int) 8 false cX8_numberOfName 2 [some (.inr (.inr (some 17))), some (.inl nm), some (.inl k)] [] G Q := by
  intro l
  induction l with
  | nil =>
    intro k hi hA k0 k1 hw kk
    simp only [List.length_nil] at k1
    refine x_iload_n (q := 3) dX8_numberOfName_2 rfl rfl ?_
    refine x_aload_n (q := 4) dX8_numberOfName_3 rfl rfl ?_
    refine x_getI (q := 7) dX8_numberOfName_4 rfl f_8_21 rfl (ft17 hF) ?_
    refine Ex.stk (st' := [.inl co, .inl k]) (by rw [show iv G 17 2 = co from hco]) ?_
    refine x_icmp_ge (q := 10) (t := 31) dX8_numberOfName_7 rfl (by decide) (fun h7 => ?_) (fun h7 => by exfalso; omega)
    refine x_iconst (q := 32) dX8_numberOfName_31 rfl (by decide) ?_
    refine x_iret dX8_numberOfName_32 rfl ?_
    exact kk
  | cons e l ih =>
    intro k hi hA k0 k1 hw kk
    rw [List.length_cons] at k1
    obtain ⟨hi, hi2⟩ := hi
    have hA2 : ∀ e ∈ l, InA G h β e := fun e' he' => hA e' (List.mem_cons_of_mem _ he')
    obtain ⟨⟨q1, q2, q3, q4, q5, q6, q7, q8, q9, q10⟩, -⟩ := hA e (List.mem_cons_self ..)
    refine x_iload_n (q := 3) dX8_numberOfName_2 rfl rfl ?_
    refine x_aload_n (q := 4) dX8_numberOfName_3 rfl rfl ?_
    refine x_getI (q := 7) dX8_numberOfName_4 rfl f_8_21 rfl (ft17 hF) ?_
    refine Ex.stk (st' := [.inl co, .inl k]) (by rw [show iv G 17 2 = co from hco]) ?_
    refine x_icmp_ge (q := 10) (t := 31) dX8_numberOfName_7 rfl (by decide) (fun h7 => by exfalso; omega) (fun h7 => ?_)
    refine x_aload_n (q := 11) dX8_numberOfName_10 rfl rfl ?_
    refine x_getR (q := 14) dX8_numberOfName_11 rfl f_8_11 rfl (ft17 hF) ?_
    refine Ex.stk (st' := [.inr (.inr (some 18))]) (by rw [fr17_0 hF]) ?_
    refine x_iload_n (q := 15) dX8_numberOfName_14 rfl rfl ?_
    refine x_aaload (q := 16) dX8_numberOfName_15 rfl (Or.inl (ft18 hF)) (by omega) (by rw [fl18 hF]; omega) ?_
    refine Ex.stk (st' := [.inr (.inr (some (nAd e.1)))]) (by rw [show rv G 18 k = some (nAd e.1) from hi.1]) ?_
    refine x_getI (q := 19) dX8_numberOfName_16 rfl f_8_44 rfl q1.1 ?_
    refine Ex.stk (st' := [.inl (nN e.1)]) (by rw [show iv G (nAd e.1) 3 = nN e.1 from (q5.trans (hw e (List.mem_cons_self ..)))]) ?_
    refine x_iload_n (q := 20) dX8_numberOfName_19 rfl rfl ?_
    refine x_icmp_ne (q := 23) (t := 25) dX8_numberOfName_20 rfl (by decide) (fun h20 => ?_) (fun h20 => ?_)
    · refine x_iinc (q := 28) (ls' := [some (.inr (.inr (some 17))), some (.inl nm), some (.inl (k + 1))]) dX8_numberOfName_25 rfl rfl (by first | rfl | exact hnl | exact hnl2 _) (by rw [show wr (k + 1) = k + 1 from (wr_id ⟨by omega, by omega⟩)]; rfl) ?_
      refine x_goto (t := 2) dX8_numberOfName_28 (by decide) ?_
      refine ih _ hi2 hA2 (by omega) (by omega) (fun e he => hw e (List.mem_cons_of_mem _ he)) ?_
      simp only [firstF] at kk
      rw [if_neg h20] at kk; exact kk
    · refine x_iload_n (q := 24) dX8_numberOfName_23 rfl rfl ?_
      refine x_iret dX8_numberOfName_24 rfl ?_
      simp only [firstF] at kk
      rw [if_pos (by omega)] at kk; exact kk
theorem cnest_loop {d : Nat} {G : Hp} {Q : Option V → Hp → Prop} (hF : FC G) {h : Int → Int} {β co : Int} (hco : iv G 17 2 = co) (c1 : co ≤ 364)  : ∀ (l : List If) (k z : Int), IA G k l → (∀ e ∈ l, InA G h β e) → 0 ≤ k → k + (l.length : Int) = co → Q (some (.inl (dpF (l.map fmI) z))) G → Ex (d + 1) (some .int) 8 false cX8_greatestNest 4 [some (.inr (.inr (some 17))), some (.inl z), some (.inl k)] [] G Q := by
  intro l
  induction l with
  | nil =>
    intro k z hi hA k0 k1 kk
    simp only [List.length_nil] at k1
    refine x_iload_n (q := 5) dX8_greatestNest_4 rfl rfl ?_
    refine x_aload_n (q := 6) dX8_greatestNest_5 rfl rfl ?_
    refine x_getI (q := 9) dX8_greatestNest_6 rfl f_8_21 rfl (ft17 hF) ?_
    refine Ex.stk (st' := [.inl co, .inl k]) (by rw [show iv G 17 2 = co from hco]) ?_
    refine x_icmp_ge (q := 12) (t := 32) dX8_greatestNest_9 rfl (by decide) (fun h9 => ?_) (fun h9 => by exfalso; omega)
    refine x_iload_n (q := 33) dX8_greatestNest_32 rfl rfl ?_
    refine x_iret dX8_greatestNest_33 rfl ?_
    exact kk
  | cons e l ih =>
    intro k z hi hA k0 k1 kk
    rw [List.length_cons] at k1
    obtain ⟨hi, hi2⟩ := hi
    have hA2 : ∀ e ∈ l, InA G h β e := fun e' he' => hA e' (List.mem_cons_of_mem _ he')
    obtain ⟨⟨q1, q2, q3, q4, q5, q6, q7, q8, q9, q10⟩, -⟩ := hA e (List.mem_cons_self ..)
    refine x_iload_n (q := 5) dX8_greatestNest_4 rfl rfl ?_
    refine x_aload_n (q := 6) dX8_greatestNest_5 rfl rfl ?_
    refine x_getI (q := 9) dX8_greatestNest_6 rfl f_8_21 rfl (ft17 hF) ?_
    refine Ex.stk (st' := [.inl co, .inl k]) (by rw [show iv G 17 2 = co from hco]) ?_
    refine x_icmp_ge (q := 12) (t := 32) dX8_greatestNest_9 rfl (by decide) (fun h9 => by exfalso; omega) (fun h9 => ?_)
    refine x_iload_n (q := 13) dX8_greatestNest_12 rfl rfl ?_
    refine x_aload_n (q := 14) dX8_greatestNest_13 rfl rfl ?_
    refine x_getR (q := 17) dX8_greatestNest_14 rfl f_8_11 rfl (ft17 hF) ?_
    refine Ex.stk (st' := [.inr (.inr (some 18)), .inl z]) (by rw [fr17_0 hF]) ?_
    refine x_iload_n (q := 18) dX8_greatestNest_17 rfl rfl ?_
    refine x_aaload (q := 19) dX8_greatestNest_18 rfl (Or.inl (ft18 hF)) (by omega) (by rw [fl18 hF]; omega) ?_
    refine Ex.stk (st' := [.inr (.inr (some (nAd e.1))), .inl z]) (by rw [show rv G 18 k = some (nAd e.1) from hi.1]) ?_
    refine x_getI (q := 22) dX8_greatestNest_19 rfl f_8_29 rfl q1.1 ?_
    refine Ex.stk (st' := [.inl e.2.1, .inl z]) (by rw [show iv G (nAd e.1) 5 = e.2.1 from q7]) ?_
    refine x_invS (q := 25) (as := [.inl z, .inl e.2.1]) (rest := []) dX8_greatestNest_22 rfl l_8_50 m_J9_max_7cf53 rfl rfl (Nat.le_of_ble_eq_true rfl) (Nat.le_of_ble_eq_true rfl) (CX.up (d := 0 + 1) (by omega) (c_max 0)) (fun r1 G1 hR => ?_)
    obtain ⟨hG1, rfl⟩ := hR
    replace hG1 := hG1.symm
    subst hG1
    refine Ex.stk (st' := [.inl (if z < e.2.1 then e.2.1 else z)]) rfl ?_
    refine x_istore_n (q := 26) (ls' := [some (.inr (.inr (some 17))), some (.inl (if z < e.2.1 then e.2.1 else z)), some (.inl k)]) dX8_greatestNest_25 rfl (Nat.le_of_ble_eq_true rfl) (by first | rfl | exact hnl | exact hnl2 _) rfl ?_
    refine x_iinc (q := 29) (ls' := [some (.inr (.inr (some 17))), some (.inl (if z < e.2.1 then e.2.1 else z)), some (.inl (k + 1))]) dX8_greatestNest_26 rfl rfl (by first | rfl | exact hnl | exact hnl2 _) (by rw [show wr (k + 1) = k + 1 from (wr_id ⟨by omega, by omega⟩)]; rfl) ?_
    refine x_goto (t := 4) dX8_greatestNest_29 (by decide) ?_
    exact ih _ _ hi2 hA2 (by omega) (by omega) kk
theorem cread_loop {d : Nat} {G : Hp} {Q : Option V → Hp → Prop} (hF : FC G) {h : Int → Int} {β co : Int} (hco : iv G 17 2 = co) (c1 : co ≤ 364)  : ∀ (l : List If) (k z : Int), IA G k l → (∀ e ∈ l, InA G h β e) → 0 ≤ k → k + (l.length : Int) = co → Q (some (.inl (brF (l.map fmI) z))) G → Ex (d) (some .int) 8 false cX8_cellsRead 4 [some (.inr (.inr (some 17))), some (.inl z), some (.inl k)] [] G Q := by
  intro l
  induction l with
  | nil =>
    intro k z hi hA k0 k1 kk
    simp only [List.length_nil] at k1
    refine x_iload_n (q := 5) dX8_cellsRead_4 rfl rfl ?_
    refine x_aload_n (q := 6) dX8_cellsRead_5 rfl rfl ?_
    refine x_getI (q := 9) dX8_cellsRead_6 rfl f_8_21 rfl (ft17 hF) ?_
    refine Ex.stk (st' := [.inl co, .inl k]) (by rw [show iv G 17 2 = co from hco]) ?_
    refine x_icmp_ge (q := 12) (t := 30) dX8_cellsRead_9 rfl (by decide) (fun h9 => ?_) (fun h9 => by exfalso; omega)
    refine x_iload_n (q := 31) dX8_cellsRead_30 rfl rfl ?_
    refine x_iret dX8_cellsRead_31 rfl ?_
    exact kk
  | cons e l ih =>
    intro k z hi hA k0 k1 kk
    rw [List.length_cons] at k1
    obtain ⟨hi, hi2⟩ := hi
    have hA2 : ∀ e ∈ l, InA G h β e := fun e' he' => hA e' (List.mem_cons_of_mem _ he')
    obtain ⟨⟨q1, q2, q3, q4, q5, q6, q7, q8, q9, q10⟩, -⟩ := hA e (List.mem_cons_self ..)
    refine x_iload_n (q := 5) dX8_cellsRead_4 rfl rfl ?_
    refine x_aload_n (q := 6) dX8_cellsRead_5 rfl rfl ?_
    refine x_getI (q := 9) dX8_cellsRead_6 rfl f_8_21 rfl (ft17 hF) ?_
    refine Ex.stk (st' := [.inl co, .inl k]) (by rw [show iv G 17 2 = co from hco]) ?_
    refine x_icmp_ge (q := 12) (t := 30) dX8_cellsRead_9 rfl (by decide) (fun h9 => by exfalso; omega) (fun h9 => ?_)
    refine x_iload_n (q := 13) dX8_cellsRead_12 rfl rfl ?_
    refine x_aload_n (q := 14) dX8_cellsRead_13 rfl rfl ?_
    refine x_getR (q := 17) dX8_cellsRead_14 rfl f_8_11 rfl (ft17 hF) ?_
    refine Ex.stk (st' := [.inr (.inr (some 18)), .inl z]) (by rw [fr17_0 hF]) ?_
    refine x_iload_n (q := 18) dX8_cellsRead_17 rfl rfl ?_
    refine x_aaload (q := 19) dX8_cellsRead_18 rfl (Or.inl (ft18 hF)) (by omega) (by rw [fl18 hF]; omega) ?_
    refine Ex.stk (st' := [.inr (.inr (some (nAd e.1))), .inl z]) (by rw [show rv G 18 k = some (nAd e.1) from hi.1]) ?_
    refine x_getI (q := 22) dX8_cellsRead_19 rfl f_8_60 rfl q1.1 ?_
    refine Ex.stk (st' := [.inl (nM e.1), .inl z]) (by rw [show iv G (nAd e.1) 6 = nM e.1 from q8]) ?_
    refine x_ior (q := 23) (z := bor z (nM e.1)) dX8_cellsRead_22 rfl rfl ?_
    refine x_istore_n (q := 24) (ls' := [some (.inr (.inr (some 17))), some (.inl (bor z (nM e.1))), some (.inl k)]) dX8_cellsRead_23 rfl (Nat.le_of_ble_eq_true rfl) (by first | rfl | exact hnl | exact hnl2 _) rfl ?_
    refine x_iinc (q := 27) (ls' := [some (.inr (.inr (some 17))), some (.inl (bor z (nM e.1))), some (.inl (k + 1))]) dX8_cellsRead_24 rfl rfl (by first | rfl | exact hnl | exact hnl2 _) (by rw [show wr (k + 1) = k + 1 from (wr_id ⟨by omega, by omega⟩)]; rfl) ?_
    refine x_goto (t := 4) dX8_cellsRead_27 (by decide) ?_
    exact ih _ _ hi2 hA2 (by omega) (by omega) kk
theorem cold_loop {d : Nat} {G : Hp} {Q : Option V → Hp → Prop} (hF : FC G) {h : Int → Int} {β co : Int} (hco : iv G 17 2 = co) (c1 : co ≤ 364) {c : Int → Int} (hc : ∀ k, 0 ≤ k → k < 8 → iv G 16 k = c k) : ∀ (l : List If) (k z : Int), IA G k l → (∀ e ∈ l, InA G h β e) → 0 ≤ k → k + (l.length : Int) = co → 0 ≤ z → z ≤ k → Q (some (.inl (olF h c (l.map fmI) z))) G → Ex (d + 2) (some .int) 8 false cX8_howManyOld 4 [some (.inr (.inr (some 17))), some (.inr (.inr (some 16))), some (.inl z), some (.inl k)] [] G Q := by
  intro l
  induction l with
  | nil =>
    intro k z hi hA k0 k1 z0 z1 kk
    simp only [List.length_nil] at k1
    refine x_iload_n (q := 5) dX8_howManyOld_4 rfl rfl ?_
    refine x_aload_n (q := 6) dX8_howManyOld_5 rfl rfl ?_
    refine x_getI (q := 9) dX8_howManyOld_6 rfl f_8_21 rfl (ft17 hF) ?_
    refine Ex.stk (st' := [.inl co, .inl k]) (by rw [show iv G 17 2 = co from hco]) ?_
    refine x_icmp_ge (q := 12) (t := 34) dX8_howManyOld_9 rfl (by decide) (fun h9 => ?_) (fun h9 => by exfalso; omega)
    refine x_iload_n (q := 35) dX8_howManyOld_34 rfl rfl ?_
    refine x_iret dX8_howManyOld_35 rfl ?_
    exact kk
  | cons e l ih =>
    intro k z hi hA k0 k1 z0 z1 kk
    rw [List.length_cons] at k1
    obtain ⟨hi, hi2⟩ := hi
    have hA2 : ∀ e ∈ l, InA G h β e := fun e' he' => hA e' (List.mem_cons_of_mem _ he')
    obtain ⟨⟨q1, q2, q3, q4, q5, q6, q7, q8, q9, q10⟩, -⟩ := hA e (List.mem_cons_self ..)
    refine x_iload_n (q := 5) dX8_howManyOld_4 rfl rfl ?_
    refine x_aload_n (q := 6) dX8_howManyOld_5 rfl rfl ?_
    refine x_getI (q := 9) dX8_howManyOld_6 rfl f_8_21 rfl (ft17 hF) ?_
    refine Ex.stk (st' := [.inl co, .inl k]) (by rw [show iv G 17 2 = co from hco]) ?_
    refine x_icmp_ge (q := 12) (t := 34) dX8_howManyOld_9 rfl (by decide) (fun h9 => by exfalso; omega) (fun h9 => ?_)
    refine x_aload_n (q := 13) dX8_howManyOld_12 rfl rfl ?_
    refine x_getR (q := 16) dX8_howManyOld_13 rfl f_8_11 rfl (ft17 hF) ?_
    refine Ex.stk (st' := [.inr (.inr (some 18))]) (by rw [fr17_0 hF]) ?_
    refine x_iload_n (q := 17) dX8_howManyOld_16 rfl rfl ?_
    refine x_aaload (q := 18) dX8_howManyOld_17 rfl (Or.inl (ft18 hF)) (by omega) (by rw [fl18 hF]; omega) ?_
    refine Ex.stk (st' := [.inr (.inr (some (nAd e.1)))]) (by rw [show rv G 18 k = some (nAd e.1) from hi.1]) ?_
    refine x_aload_n (q := 19) dX8_howManyOld_18 rfl rfl ?_
    refine x_invV (q := 22) (as := [.inr (.inr (some (nAd e.1))), .inr (.inr (some 16))]) (rest := []) dX8_howManyOld_19 rfl l_8_56 m_X1_isOld rfl rfl q1.1 (Nat.le_of_ble_eq_true rfl) (CX.up (d := 0 + 2) (by omega) (c_isOldC 0 q1 (ft16 hF) (fl16 hF))) (fun r1 G1 hR => ?_)
    obtain ⟨hG1, y, rfl, hy1, hy2⟩ := hR
    replace hG1 := hG1.symm
    subst hG1
    rw [q8, isOldN_held q10 hc] at hy2
    refine Ex.stk (st' := [.inl y]) rfl ?_
    refine x_if_eq (q := 25) (t := 28) dX8_howManyOld_22 rfl (by decide) (fun h22 => ?_) (fun h22 => ?_)
    · refine x_iinc (q := 31) (ls' := [some (.inr (.inr (some 17))), some (.inr (.inr (some 16))), some (.inl z), some (.inl (k + 1))]) dX8_howManyOld_28 rfl rfl (by first | rfl | exact hnl | exact hnl2 _) (by rw [show wr (k + 1) = k + 1 from (wr_id ⟨by omega, by omega⟩)]; rfl) ?_
      refine x_goto (t := 4) dX8_howManyOld_31 (by decide) ?_
      refine ih _ _ hi2 hA2 (by omega) (by omega) (by clear hy2; omega) (by clear hy2; omega) ?_
      simp only [olF, List.map_cons, List.foldl_cons] at kk
      first | (rw [if_pos (show isOldN h c (nM (fmI e).1) = true from hy2.mp (hy1.resolve_left h22))] at kk; exact kk) | (rw [if_neg (fun q => by have := hy2.mpr q; omega), Int.add_zero] at kk; exact kk)
    · refine x_iinc (q := 28) (ls' := [some (.inr (.inr (some 17))), some (.inr (.inr (some 16))), some (.inl (z + 1)), some (.inl k)]) dX8_howManyOld_25 rfl rfl (by first | rfl | exact hnl | exact hnl2 _) (by rw [show wr (z + 1) = z + 1 from (wr_id ⟨by omega, by omega⟩)]; rfl) ?_
      refine x_iinc (q := 31) (ls' := [some (.inr (.inr (some 17))), some (.inr (.inr (some 16))), some (.inl (z + 1)), some (.inl (k + 1))]) dX8_howManyOld_28 rfl rfl (by first | rfl | exact hnl | exact hnl2 _) (by rw [show wr (k + 1) = k + 1 from (wr_id ⟨by omega, by omega⟩)]; rfl) ?_
      refine x_goto (t := 4) dX8_howManyOld_31 (by decide) ?_
      refine ih _ _ hi2 hA2 (by omega) (by omega) (by clear hy2; omega) (by clear hy2; omega) ?_
      simp only [olF, List.map_cons, List.foldl_cons] at kk
      first | (rw [if_pos (show isOldN h c (nM (fmI e).1) = true from hy2.mp (hy1.resolve_left h22))] at kk; exact kk) | (rw [if_neg (fun q => by have := hy2.mpr q; omega), Int.add_zero] at kk; exact kk)
