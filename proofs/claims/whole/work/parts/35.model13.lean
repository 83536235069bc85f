/-! THE MODEL: loops over the calls that are there -/
def dpF (l : List (Nd × Int)) (z : Int) : Int := l.foldl (fun m e => if m < e.2 then e.2 else m) z
def olF (h c : Int → Int) (l : List (Nd × Int)) (z : Int) : Int := l.foldl (fun n e => n + (if isOldN h c (nM e.1) = true then 1 else 0)) z
def brF (l : List (Nd × Int)) (z : Int) : Int := l.foldl (fun m e => bor m (nM e.1)) z
def lsF (nm : Int) : List (Nd × Int) → Int → Int → Int
  | [], _, z => z
  | e :: l, k, z => lsF nm l (k + 1) (if nN e.1 = nm then k else z)
theorem deep_loop {d : Nat} {G : Hp} {Q : Option V → Hp → Prop} (hF : FM G) {co : Int} (hco : iv G 35 22 = co) (c1 : co ≤ 364) : ∀ (l : List (Nd × Int)) (k z : Int), oAt G k l → 0 ≤ k → k + (l.length : Int) = co → Q (some (.inl (dpF l z))) G → Ex (d) (some .int) 10 false cX10_deepest 4 [some (.inr (.inr (some 35))), some (.inl z), some (.inl k)] [] G Q := by
  intro l
  induction l with
  | nil =>
    intro k z h k0 k1 kk
    simp only [List.length_nil] at k1
    refine x_iload_n (q := 5) dX10_deepest_4 rfl rfl ?_
    refine x_aload_n (q := 6) dX10_deepest_5 rfl rfl ?_
    refine x_getI (q := 9) dX10_deepest_6 rfl f_10_173 rfl (ft35 hF) ?_
    refine Ex.stk (st' := [.inl co, .inl k]) (by rw [show iv G 35 22 = co from hco]) ?_
    refine x_icmp_ge (q := 12) (t := 39) dX10_deepest_9 rfl (by decide) (fun h9 => ?_) (fun h9 => by exfalso; omega)
    refine x_iload_n (q := 40) dX10_deepest_39 rfl rfl ?_
    refine x_iret dX10_deepest_40 rfl ?_
    exact kk
  | cons e l ih =>
    intro k z h k0 k1 kk
    rw [List.length_cons] at k1
    obtain ⟨⟨-, -, -, hn, -⟩, ho⟩ := h
    refine x_iload_n (q := 5) dX10_deepest_4 rfl rfl ?_
    refine x_aload_n (q := 6) dX10_deepest_5 rfl rfl ?_
    refine x_getI (q := 9) dX10_deepest_6 rfl f_10_173 rfl (ft35 hF) ?_
    refine Ex.stk (st' := [.inl co, .inl k]) (by rw [show iv G 35 22 = co from hco]) ?_
    refine x_icmp_ge (q := 12) (t := 39) dX10_deepest_9 rfl (by decide) (fun h9 => by exfalso; omega) (fun h9 => ?_)
    refine x_aload_n (q := 13) dX10_deepest_12 rfl rfl ?_
    refine x_getR (q := 16) dX10_deepest_13 rfl f_10_47 rfl (ft35 hF) ?_
    refine Ex.stk (st' := [.inr (.inr (some 47))]) (by rw [fr35_18 hF]) ?_
    refine x_iload_n (q := 17) dX10_deepest_16 rfl rfl ?_
    refine x_iaload (q := 18) dX10_deepest_17 rfl (Or.inl (ft47 hF)) (by omega) (by rw [fl47 hF]; omega) ?_
    refine Ex.stk (st' := [.inl e.2]) (by rw [show iv G 47 k = e.2 from hn]) ?_
    refine x_iload_n (q := 19) dX10_deepest_18 rfl rfl ?_
    refine x_icmp_le (q := 22) (t := 31) dX10_deepest_19 rfl (by decide) (fun h19 => ?_) (fun h19 => ?_)
    · refine x_iload_n (q := 32) dX10_deepest_31 rfl rfl ?_
      refine x_istore_n (q := 33) (ls' := [some (.inr (.inr (some 35))), some (.inl z), some (.inl k)]) dX10_deepest_32 rfl (Nat.le_of_ble_eq_true rfl) (by first | rfl | exact hnl | exact hnl2 _) rfl ?_
      refine x_iinc (q := 36) (ls' := [some (.inr (.inr (some 35))), some (.inl z), some (.inl (k + 1))]) dX10_deepest_33 rfl rfl (by first | rfl | exact hnl | exact hnl2 _) (by rw [show wr (k + 1) = k + 1 from (wr_id ⟨by omega, by omega⟩)]; rfl) ?_
      refine x_goto (t := 4) dX10_deepest_36 (by decide) ?_
      refine ih _ _ ho (by omega) (by omega) ?_
      simp only [dpF, List.foldl_cons] at kk
      first | (rw [if_pos (by omega)] at kk; exact kk) | (rw [if_neg (by omega)] at kk; exact kk)
    · refine x_aload_n (q := 23) dX10_deepest_22 rfl rfl ?_
      refine x_getR (q := 26) dX10_deepest_23 rfl f_10_47 rfl (ft35 hF) ?_
      refine Ex.stk (st' := [.inr (.inr (some 47))]) (by rw [fr35_18 hF]) ?_
      refine x_iload_n (q := 27) dX10_deepest_26 rfl rfl ?_
      refine x_iaload (q := 28) dX10_deepest_27 rfl (Or.inl (ft47 hF)) (by omega) (by rw [fl47 hF]; omega) ?_
      refine Ex.stk (st' := [.inl e.2]) (by rw [show iv G 47 k = e.2 from hn]) ?_
      refine x_goto (t := 32) dX10_deepest_28 (by decide) ?_
      refine x_istore_n (q := 33) (ls' := [some (.inr (.inr (some 35))), some (.inl e.2), some (.inl k)]) dX10_deepest_32 rfl (Nat.le_of_ble_eq_true rfl) (by first | rfl | exact hnl | exact hnl2 _) rfl ?_
      refine x_iinc (q := 36) (ls' := [some (.inr (.inr (some 35))), some (.inl e.2), some (.inl (k + 1))]) dX10_deepest_33 rfl rfl (by first | rfl | exact hnl | exact hnl2 _) (by rw [show wr (k + 1) = k + 1 from (wr_id ⟨by omega, by omega⟩)]; rfl) ?_
      refine x_goto (t := 4) dX10_deepest_36 (by decide) ?_
      refine ih _ _ ho (by omega) (by omega) ?_
      simp only [dpF, List.foldl_cons] at kk
      first | (rw [if_pos (by omega)] at kk; exact kk) | (rw [if_neg (by omega)] at kk; exact kk)
theorem c_deepest (d : Nat) {G : Hp} (hF : FM G) {T : Tr 6} (ho : oAt G 0 (flat 6 1 T)) (hco : iv G 35 22 = (tsz 6 T : Int)) (c1 : tsz 6 T ≤ 364) : CX (d + 1) 141 [.inr (.inr (some 35))] G (fun r G1 => G1 = G ∧ r = some (.inl (dpF (flat 6 1 T) 0))) := by
  refine CX.of (d := d + 0) m_X10_deepest (Nat.le_of_ble_eq_true rfl) ?_
  refine Ex.lcl (ls' := [some (.inr (.inr (some 35))), none, none]) rfl ?_
  refine x_iconst (q := 1) dX10_deepest_0 rfl (by decide) ?_
  refine x_istore_n (q := 2) (ls' := [some (.inr (.inr (some 35))), some (.inl 0), none]) dX10_deepest_1 rfl (Nat.le_of_ble_eq_true rfl) (by first | rfl | exact hnl | exact hnl2 _) rfl ?_
  refine x_iconst (q := 3) dX10_deepest_2 rfl (by decide) ?_
  refine x_istore_n (q := 4) (ls' := [some (.inr (.inr (some 35))), some (.inl 0), some (.inl 0)]) dX10_deepest_3 rfl (Nat.le_of_ble_eq_true rfl) (by first | rfl | exact hnl | exact hnl2 _) rfl ?_
  exact deep_loop hF hco (by omega) _ _ _ ho (by decide) (by rw [flat_len]; omega) ⟨rfl, rfl⟩
theorem oldm_loop {d : Nat} {G : Hp} {Q : Option V → Hp → Prop} (hF : FM G) {h c : Int → Int} (hh : ∀ k, 0 ≤ k → k < 8 → iv G 51 k = h k) (hc : ∀ k, 0 ≤ k → k < 8 → iv G 36 k = c k) {co : Int} (hco : iv G 35 22 = co) (c1 : co ≤ 364) : ∀ (l : List (Nd × Int)) (k z : Int), oAt G k l → 0 ≤ k → k + (l.length : Int) = co → 0 ≤ z → z ≤ k → Q (some (.inl (olF h c l z))) G → Ex (d + 2) (some .int) 10 false cX10_oldMany 4 [some (.inr (.inr (some 35))), some (.inl z), some (.inl k)] [] G Q := by
  intro l
  induction l with
  | nil =>
    intro k z h k0 k1 z0 z1 kk
    simp only [List.length_nil] at k1
    refine x_iload_n (q := 5) dX10_oldMany_4 rfl rfl ?_
    refine x_aload_n (q := 6) dX10_oldMany_5 rfl rfl ?_
    refine x_getI (q := 9) dX10_oldMany_6 rfl f_10_173 rfl (ft35 hF) ?_
    refine Ex.stk (st' := [.inl co, .inl k]) (by rw [show iv G 35 22 = co from hco]) ?_
    refine x_icmp_ge (q := 12) (t := 34) dX10_oldMany_9 rfl (by decide) (fun h9 => ?_) (fun h9 => by exfalso; omega)
    refine x_iload_n (q := 35) dX10_oldMany_34 rfl rfl ?_
    refine x_iret dX10_oldMany_35 rfl ?_
    exact kk
  | cons e l ih =>
    intro k z hoo k0 k1 z0 z1 kk
    rw [List.length_cons] at k1
    obtain ⟨⟨-, -, -, -, hm, -⟩, ho⟩ := hoo
    refine x_iload_n (q := 5) dX10_oldMany_4 rfl rfl ?_
    refine x_aload_n (q := 6) dX10_oldMany_5 rfl rfl ?_
    refine x_getI (q := 9) dX10_oldMany_6 rfl f_10_173 rfl (ft35 hF) ?_
    refine Ex.stk (st' := [.inl co, .inl k]) (by rw [show iv G 35 22 = co from hco]) ?_
    refine x_icmp_ge (q := 12) (t := 34) dX10_oldMany_9 rfl (by decide) (fun h9 => by exfalso; omega) (fun h9 => ?_)
    refine x_iload_n (q := 13) dX10_oldMany_12 rfl rfl ?_
    refine x_aload_n (q := 14) dX10_oldMany_13 rfl rfl ?_
    refine x_iload_n (q := 15) dX10_oldMany_14 rfl rfl ?_
    refine x_invV (q := 18) (as := [.inr (.inr (some 35)), .inl k]) (rest := [.inl z]) dX10_oldMany_15 rfl l_10_169 m_X10_isOld rfl rfl (ft35 hF) (Nat.le_of_ble_eq_true rfl) (c_isOld _ hF k0 (by omega)) (fun r1 G1 hR => ?_)
    obtain ⟨hG1, y, rfl, hy1, hy2⟩ := hR
    replace hG1 := hG1.symm
    subst hG1
    rw [hm, isOldN_congr hh hc] at hy2
    refine Ex.stk (st' := [.inl y, .inl z]) rfl ?_
    refine x_if_eq (q := 21) (t := 25) dX10_oldMany_18 rfl (by decide) (fun h18 => ?_) (fun h18 => ?_)
    · refine x_iconst (q := 26) dX10_oldMany_25 rfl (by decide) ?_
      refine x_iadd (q := 27) (z := z + 0) dX10_oldMany_26 rfl (wr_id ⟨by omega, by omega⟩) ?_
      refine x_istore_n (q := 28) (ls' := [some (.inr (.inr (some 35))), some (.inl (z + 0)), some (.inl k)]) dX10_oldMany_27 rfl (Nat.le_of_ble_eq_true rfl) (by first | rfl | exact hnl | exact hnl2 _) rfl ?_
      refine x_iinc (q := 31) (ls' := [some (.inr (.inr (some 35))), some (.inl (z + 0)), some (.inl (k + 1))]) dX10_oldMany_28 rfl rfl (by first | rfl | exact hnl | exact hnl2 _) (by rw [show wr (k + 1) = k + 1 from (wr_id ⟨by omega, by omega⟩)]; rfl) ?_
      refine x_goto (t := 4) dX10_oldMany_31 (by decide) ?_
      refine ih _ _ ho (by omega) (by omega) (by clear hy2; omega) (by clear hy2; omega) ?_
      simp only [olF, List.foldl_cons] at kk
      first | (rw [if_pos (hy2.mp (hy1.resolve_left h18))] at kk; exact kk) | (rw [if_neg (fun q => by have := hy2.mpr q; omega)] at kk; exact kk)
    · refine x_iconst (q := 22) dX10_oldMany_21 rfl (by decide) ?_
      refine x_goto (t := 26) dX10_oldMany_22 (by decide) ?_
      refine x_iadd (q := 27) (z := z + 1) dX10_oldMany_26 rfl (wr_id ⟨by omega, by omega⟩) ?_
      refine x_istore_n (q := 28) (ls' := [some (.inr (.inr (some 35))), some (.inl (z + 1)), some (.inl k)]) dX10_oldMany_27 rfl (Nat.le_of_ble_eq_true rfl) (by first | rfl | exact hnl | exact hnl2 _) rfl ?_
      refine x_iinc (q := 31) (ls' := [some (.inr (.inr (some 35))), some (.inl (z + 1)), some (.inl (k + 1))]) dX10_oldMany_28 rfl rfl (by first | rfl | exact hnl | exact hnl2 _) (by rw [show wr (k + 1) = k + 1 from (wr_id ⟨by omega, by omega⟩)]; rfl) ?_
      refine x_goto (t := 4) dX10_oldMany_31 (by decide) ?_
      refine ih _ _ ho (by omega) (by omega) (by clear hy2; omega) (by clear hy2; omega) ?_
      simp only [olF, List.foldl_cons] at kk
      first | (rw [if_pos (hy2.mp (hy1.resolve_left h18))] at kk; exact kk) | (rw [if_neg (fun q => by have := hy2.mpr q; omega)] at kk; exact kk)
theorem c_oldMany (d : Nat) {G : Hp} (hF : FM G) {T : Tr 6} (ho : oAt G 0 (flat 6 1 T)) (hco : iv G 35 22 = (tsz 6 T : Int)) (c1 : tsz 6 T ≤ 364) {h c : Int → Int} (hh : ∀ k, 0 ≤ k → k < 8 → iv G 51 k = h k) (hc : ∀ k, 0 ≤ k → k < 8 → iv G 36 k = c k) : CX (d + 3) 142 [.inr (.inr (some 35))] G (fun r G1 => G1 = G ∧ r = some (.inl (olF h c (flat 6 1 T) 0))) := by
  refine CX.of (d := d + 2) m_X10_oldMany (Nat.le_of_ble_eq_true rfl) ?_
  refine Ex.lcl (ls' := [some (.inr (.inr (some 35))), none, none]) rfl ?_
  refine x_iconst (q := 1) dX10_oldMany_0 rfl (by decide) ?_
  refine x_istore_n (q := 2) (ls' := [some (.inr (.inr (some 35))), some (.inl 0), none]) dX10_oldMany_1 rfl (Nat.le_of_ble_eq_true rfl) (by first | rfl | exact hnl | exact hnl2 _) rfl ?_
  refine x_iconst (q := 3) dX10_oldMany_2 rfl (by decide) ?_
  refine x_istore_n (q := 4) (ls' := [some (.inr (.inr (some 35))), some (.inl 0), some (.inl 0)]) dX10_oldMany_3 rfl (Nat.le_of_ble_eq_true rfl) (by first | rfl | exact hnl | exact hnl2 _) rfl ?_
  exact oldm_loop hF hh hc hco (by omega) _ _ _ ho (by decide) (by rw [flat_len]; omega) (by decide) (by decide) ⟨rfl, rfl⟩
theorem bears_loop {d : Nat} {G : Hp} {Q : Option V → Hp → Prop} (hF : FM G) {co : Int} (hco : iv G 35 22 = co) (c1 : co ≤ 364) : ∀ (l : List (Nd × Int)) (k z : Int), oAt G k l → 0 ≤ k → k + (l.length : Int) = co → Q (some (.inl (brF l z))) G → Ex (d) (some .int) 10 false cX10_bears 4 [some (.inr (.inr (some 35))), some (.inl z), some (.inl k)] [] G Q := by
  intro l
  induction l with
  | nil =>
    intro k z h k0 k1 kk
    simp only [List.length_nil] at k1
    refine x_iload_n (q := 5) dX10_bears_4 rfl rfl ?_
    refine x_aload_n (q := 6) dX10_bears_5 rfl rfl ?_
    refine x_getI (q := 9) dX10_bears_6 rfl f_10_173 rfl (ft35 hF) ?_
    refine Ex.stk (st' := [.inl co, .inl k]) (by rw [show iv G 35 22 = co from hco]) ?_
    refine x_icmp_ge (q := 12) (t := 27) dX10_bears_9 rfl (by decide) (fun h9 => ?_) (fun h9 => by exfalso; omega)
    refine x_iload_n (q := 28) dX10_bears_27 rfl rfl ?_
    refine x_iret dX10_bears_28 rfl ?_
    exact kk
  | cons e l ih =>
    intro k z h k0 k1 kk
    rw [List.length_cons] at k1
    obtain ⟨⟨-, -, -, -, hm, -⟩, ho⟩ := h
    refine x_iload_n (q := 5) dX10_bears_4 rfl rfl ?_
    refine x_aload_n (q := 6) dX10_bears_5 rfl rfl ?_
    refine x_getI (q := 9) dX10_bears_6 rfl f_10_173 rfl (ft35 hF) ?_
    refine Ex.stk (st' := [.inl co, .inl k]) (by rw [show iv G 35 22 = co from hco]) ?_
    refine x_icmp_ge (q := 12) (t := 27) dX10_bears_9 rfl (by decide) (fun h9 => by exfalso; omega) (fun h9 => ?_)
    refine x_iload_n (q := 13) dX10_bears_12 rfl rfl ?_
    refine x_aload_n (q := 14) dX10_bears_13 rfl rfl ?_
    refine x_getR (q := 17) dX10_bears_14 rfl f_10_50 rfl (ft35 hF) ?_
    refine Ex.stk (st' := [.inr (.inr (some 48)), .inl z]) (by rw [fr35_19 hF]) ?_
    refine x_iload_n (q := 18) dX10_bears_17 rfl rfl ?_
    refine x_iaload (q := 19) dX10_bears_18 rfl (Or.inl (ft48 hF)) (by omega) (by rw [fl48 hF]; omega) ?_
    refine Ex.stk (st' := [.inl (nM e.1), .inl z]) (by rw [show iv G 48 k = nM e.1 from hm]) ?_
    refine x_ior (q := 20) (z := bor z (nM e.1)) dX10_bears_19 rfl rfl ?_
    refine x_istore_n (q := 21) (ls' := [some (.inr (.inr (some 35))), some (.inl (bor z (nM e.1))), some (.inl k)]) dX10_bears_20 rfl (Nat.le_of_ble_eq_true rfl) (by first | rfl | exact hnl | exact hnl2 _) rfl ?_
    refine x_iinc (q := 24) (ls' := [some (.inr (.inr (some 35))), some (.inl (bor z (nM e.1))), some (.inl (k + 1))]) dX10_bears_21 rfl rfl (by first | rfl | exact hnl | exact hnl2 _) (by rw [show wr (k + 1) = k + 1 from (wr_id ⟨by omega, by omega⟩)]; rfl) ?_
    refine x_goto (t := 4) dX10_bears_24 (by decide) ?_
    exact ih _ _ ho (by omega) (by omega) kk
theorem c_bears (d : Nat) {G : Hp} (hF : FM G) {T : Tr 6} (ho : oAt G 0 (flat 6 1 T)) (hco : iv G 35 22 = (tsz 6 T : Int)) (c1 : tsz 6 T ≤ 364) : CX (d + 1) 143 [.inr (.inr (some 35))] G (fun r G1 => G1 = G ∧ r = some (.inl (brF (flat 6 1 T) 0))) := by
  refine CX.of (d := d + 0) m_X10_bears (Nat.le_of_ble_eq_true rfl) ?_
  refine Ex.lcl (ls' := [some (.inr (.inr (some 35))), none, none]) rfl ?_
  refine x_iconst (q := 1) dX10_bears_0 rfl (by decide) ?_
  refine x_istore_n (q := 2) (ls' := [some (.inr (.inr (some 35))), some (.inl 0), none]) dX10_bears_1 rfl (Nat.le_of_ble_eq_true rfl) (by first | rfl | exact hnl | exact hnl2 _) rfl ?_
  refine x_iconst (q := 3) dX10_bears_2 rfl (by decide) ?_
  refine x_istore_n (q := 4) (ls' := [some (.inr (.inr (some 35))), some (.inl 0), some (.inl 0)]) dX10_bears_3 rfl (Nat.le_of_ble_eq_true rfl) (by first | rfl | exact hnl | exact hnl2 _) rfl ?_
  exact bears_loop hF hco (by omega) _ _ _ ho (by decide) (by rw [flat_len]; omega) ⟨rfl, rfl⟩
theorem find_loop {d : Nat} {G : Hp} {Q : Option V → Hp → Prop} (hF : FM G) {co nm : Int} (hco : iv G 35 22 = co) (c1 : co ≤ 364) : ∀ (l : List (Nd × Int)) (k z : Int), oAt G k l → 0 ≤ k → k + (l.length : Int) = co → Q (some (.inl (lsF nm l k z))) G → Ex (d) (some .int) 10 false cX10_find 4 [some (.inr (.inr (some 35))), some (.inl nm), some (.inl z), some (.inl k)] [] G Q := by
  intro l
  induction l with
  | nil =>
    intro k z h k0 k1 kk
    simp only [List.length_nil] at k1
    refine x_iload_n (q := 5) dX10_find_4 rfl rfl ?_
    refine x_aload_n (q := 6) dX10_find_5 rfl rfl ?_
    refine x_getI (q := 9) dX10_find_6 rfl f_10_173 rfl (ft35 hF) ?_
    refine Ex.stk (st' := [.inl co, .inl k]) (by rw [show iv G 35 22 = co from hco]) ?_
    refine x_icmp_ge (q := 12) (t := 34) dX10_find_9 rfl (by decide) (fun h9 => ?_) (fun h9 => by exfalso; omega)
    refine x_iload_n (q := 35) dX10_find_34 rfl rfl ?_
    refine x_iret dX10_find_35 rfl ?_
    exact kk
  | cons e l ih =>
    intro k z h k0 k1 kk
    rw [List.length_cons] at k1
    obtain ⟨⟨-, -, -, -, -, hn, -⟩, ho⟩ := h
    refine x_iload_n (q := 5) dX10_find_4 rfl rfl ?_
    refine x_aload_n (q := 6) dX10_find_5 rfl rfl ?_
    refine x_getI (q := 9) dX10_find_6 rfl f_10_173 rfl (ft35 hF) ?_
    refine Ex.stk (st' := [.inl co, .inl k]) (by rw [show iv G 35 22 = co from hco]) ?_
    refine x_icmp_ge (q := 12) (t := 34) dX10_find_9 rfl (by decide) (fun h9 => by exfalso; omega) (fun h9 => ?_)
    refine x_aload_n (q := 13) dX10_find_12 rfl rfl ?_
    refine x_getR (q := 16) dX10_find_13 rfl f_10_53 rfl (ft35 hF) ?_
    refine Ex.stk (st' := [.inr (.inr (some 49))]) (by rw [fr35_20 hF]) ?_
    refine x_iload_n (q := 17) dX10_find_16 rfl rfl ?_
    refine x_iaload (q := 18) dX10_find_17 rfl (Or.inl (ft49 hF)) (by omega) (by rw [fl49 hF]; omega) ?_
    refine Ex.stk (st' := [.inl (nN e.1)]) (by rw [show iv G 49 k = nN e.1 from hn]) ?_
    refine x_iload_n (q := 19) dX10_find_18 rfl rfl ?_
    refine x_icmp_ne (q := 22) (t := 26) dX10_find_19 rfl (by decide) (fun h19 => ?_) (fun h19 => ?_)
    · refine x_iload_n (q := 27) dX10_find_26 rfl rfl ?_
      refine x_istore_n (q := 28) (ls' := [some (.inr (.inr (some 35))), some (.inl nm), some (.inl z), some (.inl k)]) dX10_find_27 rfl (Nat.le_of_ble_eq_true rfl) (by first | rfl | exact hnl | exact hnl2 _) rfl ?_
      refine x_iinc (q := 31) (ls' := [some (.inr (.inr (some 35))), some (.inl nm), some (.inl z), some (.inl (k + 1))]) dX10_find_28 rfl rfl (by first | rfl | exact hnl | exact hnl2 _) (by rw [show wr (k + 1) = k + 1 from (wr_id ⟨by omega, by omega⟩)]; rfl) ?_
      refine x_goto (t := 4) dX10_find_31 (by decide) ?_
      refine ih _ _ ho (by omega) (by omega) ?_
      simp only [lsF] at kk
      first | (rw [if_pos h19] at kk; exact kk) | (rw [if_neg h19] at kk; exact kk)
    · refine x_iload_n (q := 23) dX10_find_22 rfl rfl ?_
      refine x_goto (t := 27) dX10_find_23 (by decide) ?_
      refine x_istore_n (q := 28) (ls' := [some (.inr (.inr (some 35))), some (.inl nm), some (.inl k), some (.inl k)]) dX10_find_27 rfl (Nat.le_of_ble_eq_true rfl) (by first | rfl | exact hnl | exact hnl2 _) rfl ?_
      refine x_iinc (q := 31) (ls' := [some (.inr (.inr (some 35))), some (.inl nm), some (.inl k), some (.inl (k + 1))]) dX10_find_28 rfl rfl (by first | rfl | exact hnl | exact hnl2 _) (by rw [show wr (k + 1) = k + 1 from (wr_id ⟨by omega, by omega⟩)]; rfl) ?_
      refine x_goto (t := 4) dX10_find_31 (by decide) ?_
      refine ih _ _ ho (by omega) (by omega) ?_
      simp only [lsF] at kk
      first | (rw [if_pos h19] at kk; exact kk) | (rw [if_neg h19] at kk; exact kk)
theorem c_find (d : Nat) {G : Hp} (hF : FM G) {T : Tr 6} (ho : oAt G 0 (flat 6 1 T)) (hco : iv G 35 22 = (tsz 6 T : Int)) (c1 : tsz 6 T ≤ 364) (nm : Int) : CX (d + 1) 151 [.inr (.inr (some 35)), .inl nm] G (fun r G1 => G1 = G ∧ r = some (.inl (lsF nm (flat 6 1 T) 0 (-1)))) := by
  refine CX.of (d := d + 0) m_X10_find (Nat.le_of_ble_eq_true rfl) ?_
  refine Ex.lcl (ls' := [some (.inr (.inr (some 35))), some (.inl nm), none, none]) rfl ?_
  refine x_iconst (q := 1) dX10_find_0 rfl (by decide) ?_
  refine x_istore_n (q := 2) (ls' := [some (.inr (.inr (some 35))), some (.inl nm), some (.inl (-1)), none]) dX10_find_1 rfl (Nat.le_of_ble_eq_true rfl) (by first | rfl | exact hnl | exact hnl2 _) rfl ?_
  refine x_iconst (q := 3) dX10_find_2 rfl (by decide) ?_
  refine x_istore_n (q := 4) (ls' := [some (.inr (.inr (some 35))), some (.inl nm), some (.inl (-1)), some (.inl 0)]) dX10_find_3 rfl (Nat.le_of_ble_eq_true rfl) (by first | rfl | exact hnl | exact hnl2 _) rfl ?_
  exact find_loop hF hco (by omega) _ _ _ ho (by decide) (by rw [flat_len]; omega) ⟨rfl, rfl⟩
/-- two calls are alike -/
def q4 (e : Nd × Int) : Int × Int × Int × Int := (nF e.1, nX e.1, nV e.1, e.2)
def alkB (T N : Tr 6) : Bool := decide ((flat 6 1 T).map q4 = (flat 6 1 N).map q4)
theorem q4_iff (a b : Nd × Int) : q4 a = q4 b ↔ nF a.1 = nF b.1 ∧ nX a.1 = nX b.1 ∧ nV a.1 = nV b.1 ∧ a.2 = b.2 := by
  unfold q4; constructor
  · intro h; injection h with h1 h2; injection h2 with h2 h3; injection h3 with h3 h4; exact ⟨h1, h2, h3, h4⟩
  · rintro ⟨h1, h2, h3, h4⟩; rw [h1, h2, h3, h4]
theorem alike_loop {d : Nat} {G : Hp} {Q : Option V → Hp → Prop} (hF : FM G) {co v : Int} (hco : iv G 35 22 = co) (c1 : co ≤ 364) : ∀ (l m : List (Nd × Int)) (k : Int), oAt G k l → fAt G k m → l.length = m.length → 0 ≤ k → k + (l.length : Int) = co → (∀ z : Int, (z = 0 ∨ z = 1) → (z = 1 ↔ l.map q4 = m.map q4) → Q (some (.inl z)) G) → Ex (d) (some .boolean) 10 false cX10_isAlike 34 [some (.inr (.inr (some 35))), some (.inl v), some (.inl 1), some (.inl k)] [] G Q := by
  intro l
  induction l with
  | nil =>
    intro m k h hf hl k0 k1 kk
    have hm : m = [] := List.eq_nil_of_length_eq_zero (by simpa using hl.symm)
    subst hm
    simp only [List.length_nil] at k1
    refine x_iload_n (q := 35) dX10_isAlike_34 rfl rfl ?_
    refine x_aload_n (q := 36) dX10_isAlike_35 rfl rfl ?_
    refine x_getI (q := 39) dX10_isAlike_36 rfl f_10_173 rfl (ft35 hF) ?_
    refine Ex.stk (st' := [.inl co, .inl k]) (by rw [show iv G 35 22 = co from hco]) ?_
    refine x_icmp_ge (q := 42) (t := 118) dX10_isAlike_39 rfl (by decide) (fun h39 => ?_) (fun h39 => by exfalso; omega)
    refine x_iload_n (q := 119) dX10_isAlike_118 rfl rfl ?_
    refine x_zret dX10_isAlike_119 rfl (by decide) ?_
    exact kk 1 (Or.inr rfl) ⟨fun _ => rfl, fun _ => rfl⟩
  | cons e l ih =>
    intro m k h hf hl k0 k1 kk
    cases m with
    | nil => simp at hl
    | cons f m =>
      rw [List.length_cons] at k1
      obtain ⟨⟨a1, a2, a3, a4, -⟩, ho⟩ := h
      obtain ⟨⟨b1, b2, b3, b4, -⟩, hf⟩ := hf
      refine x_iload_n (q := 35) dX10_isAlike_34 rfl rfl ?_
      refine x_aload_n (q := 36) dX10_isAlike_35 rfl rfl ?_
      refine x_getI (q := 39) dX10_isAlike_36 rfl f_10_173 rfl (ft35 hF) ?_
      refine Ex.stk (st' := [.inl co, .inl k]) (by rw [show iv G 35 22 = co from hco]) ?_
      refine x_icmp_ge (q := 42) (t := 118) dX10_isAlike_39 rfl (by decide) (fun h39 => by exfalso; omega) (fun h39 => ?_)
      refine x_iload_n (q := 43) dX10_isAlike_42 rfl rfl ?_
      refine x_if_eq (q := 46) (t := 118) dX10_isAlike_43 rfl (by decide) (fun h43 => by exfalso; omega) (fun h43 => ?_)
      refine x_aload_n (q := 47) dX10_isAlike_46 rfl rfl ?_
      refine x_getR (q := 50) dX10_isAlike_47 rfl f_10_38 rfl (ft35 hF) ?_
      refine Ex.stk (st' := [.inr (.inr (some 44))]) (by rw [fr35_15 hF]) ?_
      refine x_iload_n (q := 51) dX10_isAlike_50 rfl rfl ?_
      refine x_iaload (q := 52) dX10_isAlike_51 rfl (Or.inl (ft44 hF)) (by omega) (by rw [fl44 hF]; omega) ?_
      refine Ex.stk (st' := [.inl (nF e.1)]) (by rw [show iv G 44 k = nF e.1 from a1]) ?_
      refine x_aload_n (q := 53) dX10_isAlike_52 rfl rfl ?_
      refine x_getR (q := 56) dX10_isAlike_53 rfl f_10_62 rfl (ft35 hF) ?_
      refine Ex.stk (st' := [.inr (.inr (some 52)), .inl (nF e.1)]) (by rw [fr35_24 hF]) ?_
      refine x_iload_n (q := 57) dX10_isAlike_56 rfl rfl ?_
      refine x_iaload (q := 58) dX10_isAlike_57 rfl (Or.inl (ft52 hF)) (by omega) (by rw [fl52 hF]; omega) ?_
      refine Ex.stk (st' := [.inl (nF f.1), .inl (nF e.1)]) (by rw [show iv G 52 k = nF f.1 from b1]) ?_
      refine x_icmp_ne (q := 61) (t := 110) dX10_isAlike_58 rfl (by decide) (fun h58 => ?_) (fun h58 => ?_)
      · refine x_iconst (q := 111) dX10_isAlike_110 rfl (by decide) ?_
        refine x_istore_n (q := 112) (ls' := [some (.inr (.inr (some 35))), some (.inl v), some (.inl 0), some (.inl k)]) dX10_isAlike_111 rfl (Nat.le_of_ble_eq_true rfl) (by first | rfl | exact hnl | exact hnl2 _) rfl ?_
        refine x_iinc (q := 115) (ls' := [some (.inr (.inr (some 35))), some (.inl v), some (.inl 0), some (.inl (k + 1))]) dX10_isAlike_112 rfl rfl (by first | rfl | exact hnl | exact hnl2 _) (by rw [show wr (k + 1) = k + 1 from (wr_id ⟨by omega, by omega⟩)]; rfl) ?_
        refine x_goto (t := 34) dX10_isAlike_115 (by decide) ?_
        refine x_iload_n (q := 35) dX10_isAlike_34 rfl rfl ?_
        refine x_aload_n (q := 36) dX10_isAlike_35 rfl rfl ?_
        refine x_getI (q := 39) dX10_isAlike_36 rfl f_10_173 rfl (ft35 hF) ?_
        refine Ex.stk (st' := [.inl co, .inl (k + 1)]) (by rw [show iv G 35 22 = co from hco]) ?_
        refine x_icmp_ge (q := 42) (t := 118) dX10_isAlike_39 rfl (by decide) (fun h39 => ?_) (fun h39 => ?_)
        · refine x_iload_n (q := 119) dX10_isAlike_118 rfl rfl ?_
          refine x_zret dX10_isAlike_119 rfl (by decide) ?_
          exact kk 0 (Or.inl rfl) ⟨fun h => by omega, fun h => by rw [List.map_cons, List.map_cons, List.cons.injEq, q4_iff] at h; exfalso; first | exact h58 h.1.1 | exact h73 h.1.2.1 | exact h88 h.1.2.2.1 | exact h103 h.1.2.2.2⟩
        · refine x_iload_n (q := 43) dX10_isAlike_42 rfl rfl ?_
          refine x_if_eq (q := 46) (t := 118) dX10_isAlike_43 rfl (by decide) (fun h43 => ?_) (fun h43 => by exfalso; omega)
          refine x_iload_n (q := 119) dX10_isAlike_118 rfl rfl ?_
          refine x_zret dX10_isAlike_119 rfl (by decide) ?_
          exact kk 0 (Or.inl rfl) ⟨fun h => by omega, fun h => by rw [List.map_cons, List.map_cons, List.cons.injEq, q4_iff] at h; exfalso; first | exact h58 h.1.1 | exact h73 h.1.2.1 | exact h88 h.1.2.2.1 | exact h103 h.1.2.2.2⟩
      · refine x_aload_n (q := 62) dX10_isAlike_61 rfl rfl ?_
        refine x_getR (q := 65) dX10_isAlike_62 rfl f_10_41 rfl (ft35 hF) ?_
        refine Ex.stk (st' := [.inr (.inr (some 45))]) (by rw [fr35_16 hF]) ?_
        refine x_iload_n (q := 66) dX10_isAlike_65 rfl rfl ?_
        refine x_iaload (q := 67) dX10_isAlike_66 rfl (Or.inl (ft45 hF)) (by omega) (by rw [fl45 hF]; omega) ?_
        refine Ex.stk (st' := [.inl (nX e.1)]) (by rw [show iv G 45 k = nX e.1 from a2]) ?_
        refine x_aload_n (q := 68) dX10_isAlike_67 rfl rfl ?_
        refine x_getR (q := 71) dX10_isAlike_68 rfl f_10_65 rfl (ft35 hF) ?_
        refine Ex.stk (st' := [.inr (.inr (some 53)), .inl (nX e.1)]) (by rw [fr35_25 hF]) ?_
        refine x_iload_n (q := 72) dX10_isAlike_71 rfl rfl ?_
        refine x_iaload (q := 73) dX10_isAlike_72 rfl (Or.inl (ft53 hF)) (by omega) (by rw [fl53 hF]; omega) ?_
        refine Ex.stk (st' := [.inl (nX f.1), .inl (nX e.1)]) (by rw [show iv G 53 k = nX f.1 from b2]) ?_
        refine x_icmp_ne (q := 76) (t := 110) dX10_isAlike_73 rfl (by decide) (fun h73 => ?_) (fun h73 => ?_)
        · refine x_iconst (q := 111) dX10_isAlike_110 rfl (by decide) ?_
          refine x_istore_n (q := 112) (ls' := [some (.inr (.inr (some 35))), some (.inl v), some (.inl 0), some (.inl k)]) dX10_isAlike_111 rfl (Nat.le_of_ble_eq_true rfl) (by first | rfl | exact hnl | exact hnl2 _) rfl ?_
          refine x_iinc (q := 115) (ls' := [some (.inr (.inr (some 35))), some (.inl v), some (.inl 0), some (.inl (k + 1))]) dX10_isAlike_112 rfl rfl (by first | rfl | exact hnl | exact hnl2 _) (by rw [show wr (k + 1) = k + 1 from (wr_id ⟨by omega, by omega⟩)]; rfl) ?_
          refine x_goto (t := 34) dX10_isAlike_115 (by decide) ?_
          refine x_iload_n (q := 35) dX10_isAlike_34 rfl rfl ?_
          refine x_aload_n (q := 36) dX10_isAlike_35 rfl rfl ?_
          refine x_getI (q := 39) dX10_isAlike_36 rfl f_10_173 rfl (ft35 hF) ?_
          refine Ex.stk (st' := [.inl co, .inl (k + 1)]) (by rw [show iv G 35 22 = co from hco]) ?_
          refine x_icmp_ge (q := 42) (t := 118) dX10_isAlike_39 rfl (by decide) (fun h39 => ?_) (fun h39 => ?_)
          · refine x_iload_n (q := 119) dX10_isAlike_118 rfl rfl ?_
            refine x_zret dX10_isAlike_119 rfl (by decide) ?_
            exact kk 0 (Or.inl rfl) ⟨fun h => by omega, fun h => by rw [List.map_cons, List.map_cons, List.cons.injEq, q4_iff] at h; exfalso; first | exact h58 h.1.1 | exact h73 h.1.2.1 | exact h88 h.1.2.2.1 | exact h103 h.1.2.2.2⟩
          · refine x_iload_n (q := 43) dX10_isAlike_42 rfl rfl ?_
            refine x_if_eq (q := 46) (t := 118) dX10_isAlike_43 rfl (by decide) (fun h43 => ?_) (fun h43 => by exfalso; omega)
            refine x_iload_n (q := 119) dX10_isAlike_118 rfl rfl ?_
            refine x_zret dX10_isAlike_119 rfl (by decide) ?_
            exact kk 0 (Or.inl rfl) ⟨fun h => by omega, fun h => by rw [List.map_cons, List.map_cons, List.cons.injEq, q4_iff] at h; exfalso; first | exact h58 h.1.1 | exact h73 h.1.2.1 | exact h88 h.1.2.2.1 | exact h103 h.1.2.2.2⟩
        · refine x_aload_n (q := 77) dX10_isAlike_76 rfl rfl ?_
          refine x_getR (q := 80) dX10_isAlike_77 rfl f_10_44 rfl (ft35 hF) ?_
          refine Ex.stk (st' := [.inr (.inr (some 46))]) (by rw [fr35_17 hF]) ?_
          refine x_iload_n (q := 81) dX10_isAlike_80 rfl rfl ?_
          refine x_iaload (q := 82) dX10_isAlike_81 rfl (Or.inl (ft46 hF)) (by omega) (by rw [fl46 hF]; omega) ?_
          refine Ex.stk (st' := [.inl (nV e.1)]) (by rw [show iv G 46 k = nV e.1 from a3]) ?_
          refine x_aload_n (q := 83) dX10_isAlike_82 rfl rfl ?_
          refine x_getR (q := 86) dX10_isAlike_83 rfl f_10_68 rfl (ft35 hF) ?_
          refine Ex.stk (st' := [.inr (.inr (some 54)), .inl (nV e.1)]) (by rw [fr35_26 hF]) ?_
          refine x_iload_n (q := 87) dX10_isAlike_86 rfl rfl ?_
          refine x_iaload (q := 88) dX10_isAlike_87 rfl (Or.inl (ft54 hF)) (by omega) (by rw [fl54 hF]; omega) ?_
          refine Ex.stk (st' := [.inl (nV f.1), .inl (nV e.1)]) (by rw [show iv G 54 k = nV f.1 from b3]) ?_
          refine x_icmp_ne (q := 91) (t := 110) dX10_isAlike_88 rfl (by decide) (fun h88 => ?_) (fun h88 => ?_)
          · refine x_iconst (q := 111) dX10_isAlike_110 rfl (by decide) ?_
            refine x_istore_n (q := 112) (ls' := [some (.inr (.inr (some 35))), some (.inl v), some (.inl 0), some (.inl k)]) dX10_isAlike_111 rfl (Nat.le_of_ble_eq_true rfl) (by first | rfl | exact hnl | exact hnl2 _) rfl ?_
            refine x_iinc (q := 115) (ls' := [some (.inr (.inr (some 35))), some (.inl v), some (.inl 0), some (.inl (k + 1))]) dX10_isAlike_112 rfl rfl (by first | rfl | exact hnl | exact hnl2 _) (by rw [show wr (k + 1) = k + 1 from (wr_id ⟨by omega, by omega⟩)]; rfl) ?_
            refine x_goto (t := 34) dX10_isAlike_115 (by decide) ?_
            refine x_iload_n (q := 35) dX10_isAlike_34 rfl rfl ?_
            refine x_aload_n (q := 36) dX10_isAlike_35 rfl rfl ?_
            refine x_getI (q := 39) dX10_isAlike_36 rfl f_10_173 rfl (ft35 hF) ?_
            refine Ex.stk (st' := [.inl co, .inl (k + 1)]) (by rw [show iv G 35 22 = co from hco]) ?_
            refine x_icmp_ge (q := 42) (t := 118) dX10_isAlike_39 rfl (by decide) (fun h39 => ?_) (fun h39 => ?_)
            · refine x_iload_n (q := 119) dX10_isAlike_118 rfl rfl ?_
              refine x_zret dX10_isAlike_119 rfl (by decide) ?_
              exact kk 0 (Or.inl rfl) ⟨fun h => by omega, fun h => by rw [List.map_cons, List.map_cons, List.cons.injEq, q4_iff] at h; exfalso; first | exact h58 h.1.1 | exact h73 h.1.2.1 | exact h88 h.1.2.2.1 | exact h103 h.1.2.2.2⟩
            · refine x_iload_n (q := 43) dX10_isAlike_42 rfl rfl ?_
              refine x_if_eq (q := 46) (t := 118) dX10_isAlike_43 rfl (by decide) (fun h43 => ?_) (fun h43 => by exfalso; omega)
              refine x_iload_n (q := 119) dX10_isAlike_118 rfl rfl ?_
              refine x_zret dX10_isAlike_119 rfl (by decide) ?_
              exact kk 0 (Or.inl rfl) ⟨fun h => by omega, fun h => by rw [List.map_cons, List.map_cons, List.cons.injEq, q4_iff] at h; exfalso; first | exact h58 h.1.1 | exact h73 h.1.2.1 | exact h88 h.1.2.2.1 | exact h103 h.1.2.2.2⟩
          · refine x_aload_n (q := 92) dX10_isAlike_91 rfl rfl ?_
            refine x_getR (q := 95) dX10_isAlike_92 rfl f_10_47 rfl (ft35 hF) ?_
            refine Ex.stk (st' := [.inr (.inr (some 47))]) (by rw [fr35_18 hF]) ?_
            refine x_iload_n (q := 96) dX10_isAlike_95 rfl rfl ?_
            refine x_iaload (q := 97) dX10_isAlike_96 rfl (Or.inl (ft47 hF)) (by omega) (by rw [fl47 hF]; omega) ?_
            refine Ex.stk (st' := [.inl e.2]) (by rw [show iv G 47 k = e.2 from a4]) ?_
            refine x_aload_n (q := 98) dX10_isAlike_97 rfl rfl ?_
            refine x_getR (q := 101) dX10_isAlike_98 rfl f_10_71 rfl (ft35 hF) ?_
            refine Ex.stk (st' := [.inr (.inr (some 55)), .inl e.2]) (by rw [fr35_27 hF]) ?_
            refine x_iload_n (q := 102) dX10_isAlike_101 rfl rfl ?_
            refine x_iaload (q := 103) dX10_isAlike_102 rfl (Or.inl (ft55 hF)) (by omega) (by rw [fl55 hF]; omega) ?_
            refine Ex.stk (st' := [.inl f.2, .inl e.2]) (by rw [show iv G 55 k = f.2 from b4]) ?_
            refine x_icmp_ne (q := 106) (t := 110) dX10_isAlike_103 rfl (by decide) (fun h103 => ?_) (fun h103 => ?_)
            · refine x_iconst (q := 111) dX10_isAlike_110 rfl (by decide) ?_
              refine x_istore_n (q := 112) (ls' := [some (.inr (.inr (some 35))), some (.inl v), some (.inl 0), some (.inl k)]) dX10_isAlike_111 rfl (Nat.le_of_ble_eq_true rfl) (by first | rfl | exact hnl | exact hnl2 _) rfl ?_
              refine x_iinc (q := 115) (ls' := [some (.inr (.inr (some 35))), some (.inl v), some (.inl 0), some (.inl (k + 1))]) dX10_isAlike_112 rfl rfl (by first | rfl | exact hnl | exact hnl2 _) (by rw [show wr (k + 1) = k + 1 from (wr_id ⟨by omega, by omega⟩)]; rfl) ?_
              refine x_goto (t := 34) dX10_isAlike_115 (by decide) ?_
              refine x_iload_n (q := 35) dX10_isAlike_34 rfl rfl ?_
              refine x_aload_n (q := 36) dX10_isAlike_35 rfl rfl ?_
              refine x_getI (q := 39) dX10_isAlike_36 rfl f_10_173 rfl (ft35 hF) ?_
              refine Ex.stk (st' := [.inl co, .inl (k + 1)]) (by rw [show iv G 35 22 = co from hco]) ?_
              refine x_icmp_ge (q := 42) (t := 118) dX10_isAlike_39 rfl (by decide) (fun h39 => ?_) (fun h39 => ?_)
              · refine x_iload_n (q := 119) dX10_isAlike_118 rfl rfl ?_
                refine x_zret dX10_isAlike_119 rfl (by decide) ?_
                exact kk 0 (Or.inl rfl) ⟨fun h => by omega, fun h => by rw [List.map_cons, List.map_cons, List.cons.injEq, q4_iff] at h; exfalso; first | exact h58 h.1.1 | exact h73 h.1.2.1 | exact h88 h.1.2.2.1 | exact h103 h.1.2.2.2⟩
              · refine x_iload_n (q := 43) dX10_isAlike_42 rfl rfl ?_
                refine x_if_eq (q := 46) (t := 118) dX10_isAlike_43 rfl (by decide) (fun h43 => ?_) (fun h43 => by exfalso; omega)
                refine x_iload_n (q := 119) dX10_isAlike_118 rfl rfl ?_
                refine x_zret dX10_isAlike_119 rfl (by decide) ?_
                exact kk 0 (Or.inl rfl) ⟨fun h => by omega, fun h => by rw [List.map_cons, List.map_cons, List.cons.injEq, q4_iff] at h; exfalso; first | exact h58 h.1.1 | exact h73 h.1.2.1 | exact h88 h.1.2.2.1 | exact h103 h.1.2.2.2⟩
            · refine x_iconst (q := 107) dX10_isAlike_106 rfl (by decide) ?_
              refine x_goto (t := 111) dX10_isAlike_107 (by decide) ?_
              refine x_istore_n (q := 112) (ls' := [some (.inr (.inr (some 35))), some (.inl v), some (.inl 1), some (.inl k)]) dX10_isAlike_111 rfl (Nat.le_of_ble_eq_true rfl) (by first | rfl | exact hnl | exact hnl2 _) rfl ?_
              refine x_iinc (q := 115) (ls' := [some (.inr (.inr (some 35))), some (.inl v), some (.inl 1), some (.inl (k + 1))]) dX10_isAlike_112 rfl rfl (by first | rfl | exact hnl | exact hnl2 _) (by rw [show wr (k + 1) = k + 1 from (wr_id ⟨by omega, by omega⟩)]; rfl) ?_
              refine x_goto (t := 34) dX10_isAlike_115 (by decide) ?_
              refine ih m _ ho hf (by simpa using hl) (by omega) (by omega) (fun z z1 z2 => kk z z1 (by rw [z2, List.map_cons, List.map_cons, List.cons.injEq]; exact ⟨fun q => ⟨(q4_iff e f).mpr ⟨h58, h73, h88, h103⟩, q⟩, fun q => q.2⟩))
set_option maxHeartbeats 1000000 in
theorem c_isAlike (d : Nat) {s : Sg} {G : Hp} (hR0 : RM s G) (hA : Aim s.2.1 s.2.2.1) (c1 : tsz 6 s.2.2.2.2.1 ≤ 364) : CX (d + 7) 132 [.inr (.inr (some 35))] G (fun r G' => ∃ z, r = some (.inl z) ∧ (z = 0 ∨ z = 1) ∧ (z = 1 ↔ alkB s.2.2.2.2.1 (newN s) = true) ∧ RM s G' ∧ Mo G G') := by
  have hF := hR0.1
  refine CX.of (d := d + 6) m_X10_isAlike (Nat.le_of_ble_eq_true rfl) ?_
  refine Ex.lcl (ls' := [some (.inr (.inr (some 35))), none, none, none]) rfl ?_
  refine x_aload_n (q := 1) dX10_isAlike_0 rfl rfl ?_
  refine x_invV (q := 4) (as := [.inr (.inr (some 35))]) (rest := []) dX10_isAlike_1 rfl l_10_198 m_X10_layNow rfl rfl (ft35 hF) (Nat.le_of_ble_eq_true rfl) (c_layNow hA.1 hA.2.1 _ (RM_MP hR0) (hR0.2.2.2.1.1 8 (by decide) (by decide)) (hR0.2.2.2.1.1 9 (by decide) (by decide)) hA.2.2.1 hA.2.2.2.1 hA.2.2.2.2.1 hA.2.2.2.2.2) (fun r1 G1 hR => ?_)
  obtain ⟨rfl, l1, l2, l3⟩ := hR
  replace l2 : iv G1 35 29 = (tsz 6 (newN s) : Int) := l2
  replace l3 : fAt G1 0 (flat 6 1 (newN s)) := l3
  have hR1 := RM_LayI hR0 l1
  have hR1' := hR1
  obtain ⟨hF, -, -, -, -, o1, h22, -⟩ := hR1
  have hOR : OR G1 (tsz 6 s.2.2.2.2.1 : Int) 6 0 1 [s.2.2.2.2.1] := OR_root o1 rfl
  obtain ⟨⟨⟨-, -, hv0, -⟩, -⟩, -, -⟩ := OR_head hOR
  dsimp only at hv0
  refine Ex.stk (st' := [.inl (nV (rt 6 (newN s)))]) rfl ?_
  refine x_istore_n (q := 5) (ls' := [some (.inr (.inr (some 35))), some (.inl (nV (rt 6 (newN s)))), none, none]) dX10_isAlike_4 rfl (Nat.le_of_ble_eq_true rfl) (by first | rfl | exact hnl | exact hnl2 _) rfl ?_
  refine x_iload_n (q := 6) dX10_isAlike_5 rfl rfl ?_
  refine x_aload_n (q := 7) dX10_isAlike_6 rfl rfl ?_
  refine x_getR (q := 10) dX10_isAlike_7 rfl f_10_44 rfl (ft35 hF) ?_
  refine Ex.stk (st' := [.inr (.inr (some 46)), .inl (nV (rt 6 (newN s)))]) (by rw [fr35_17 hF]) ?_
  refine x_iconst (q := 11) dX10_isAlike_10 rfl (by decide) ?_
  refine x_iaload (q := 12) dX10_isAlike_11 rfl (Or.inl (ft46 hF)) (by omega) (by rw [fl46 hF]; omega) ?_
  refine Ex.stk (st' := [.inl (nV (rt 6 s.2.2.2.2.1)), .inl (nV (rt 6 (newN s)))]) (by rw [show iv G1 46 0 = nV (rt 6 s.2.2.2.2.1) from hv0]) ?_
  refine x_icmp_ne (q := 15) (t := 30) dX10_isAlike_12 rfl (by decide) (fun h12 => ?_) (fun h12 => ?_)
  · refine x_iconst (q := 31) dX10_isAlike_30 rfl (by decide) ?_
    refine x_istore_n (q := 32) (ls' := [some (.inr (.inr (some 35))), some (.inl (nV (rt 6 (newN s)))), some (.inl 0), none]) dX10_isAlike_31 rfl (Nat.le_of_ble_eq_true rfl) (by first | rfl | exact hnl | exact hnl2 _) rfl ?_
    refine x_iconst (q := 33) dX10_isAlike_32 rfl (by decide) ?_
    refine x_istore_n (q := 34) (ls' := [some (.inr (.inr (some 35))), some (.inl (nV (rt 6 (newN s)))), some (.inl 0), some (.inl 0)]) dX10_isAlike_33 rfl (Nat.le_of_ble_eq_true rfl) (by first | rfl | exact hnl | exact hnl2 _) rfl ?_
    refine x_iload_n (q := 35) dX10_isAlike_34 rfl rfl ?_
    refine x_aload_n (q := 36) dX10_isAlike_35 rfl rfl ?_
    refine x_getI (q := 39) dX10_isAlike_36 rfl f_10_173 rfl (ft35 hF) ?_
    refine Ex.stk (st' := [.inl (tsz 6 s.2.2.2.2.1 : Int), .inl 0]) (by rw [show iv G1 35 22 = (tsz 6 s.2.2.2.2.1 : Int) from (by simp [iv_si, iv_sr, iv_nw, h22])]) ?_
    refine x_icmp_ge (q := 42) (t := 118) dX10_isAlike_39 rfl (by decide) (fun h39 => ?_) (fun h39 => ?_)
    · refine x_iload_n (q := 119) dX10_isAlike_118 rfl rfl ?_
      refine x_zret dX10_isAlike_119 rfl (by decide) ?_
      refine ⟨0, rfl, Or.inl rfl, ⟨fun h => by omega, fun h => ?_⟩, hR1', l1.Mo⟩
      exfalso
      rw [alkB, decide_eq_true_eq] at h
      have e1 := congrArg List.length h
      rw [List.length_map, List.length_map, flat_len, flat_len] at e1
      have e2 := congrArg (fun l => l[0]?) h
      rw [List.getElem?_map, List.getElem?_map, flat_zero, flat_zero] at e2
      have e3 := ((q4_iff _ _).mp (Option.some.inj e2)).2.2.1
      first
        | exact h12 e3.symm
        | (apply h23; show (tsz 6 (newN s) : Int) = _; omega)
    · refine x_iload_n (q := 43) dX10_isAlike_42 rfl rfl ?_
      refine x_if_eq (q := 46) (t := 118) dX10_isAlike_43 rfl (by decide) (fun h43 => ?_) (fun h43 => by exfalso; omega)
      refine x_iload_n (q := 119) dX10_isAlike_118 rfl rfl ?_
      refine x_zret dX10_isAlike_119 rfl (by decide) ?_
      refine ⟨0, rfl, Or.inl rfl, ⟨fun h => by omega, fun h => ?_⟩, hR1', l1.Mo⟩
      exfalso
      rw [alkB, decide_eq_true_eq] at h
      have e1 := congrArg List.length h
      rw [List.length_map, List.length_map, flat_len, flat_len] at e1
      have e2 := congrArg (fun l => l[0]?) h
      rw [List.getElem?_map, List.getElem?_map, flat_zero, flat_zero] at e2
      have e3 := ((q4_iff _ _).mp (Option.some.inj e2)).2.2.1
      first
        | exact h12 e3.symm
        | (apply h23; show (tsz 6 (newN s) : Int) = _; omega)
  · refine x_aload_n (q := 16) dX10_isAlike_15 rfl rfl ?_
    refine x_getI (q := 19) dX10_isAlike_16 rfl f_10_118 rfl (ft35 hF) ?_
    refine Ex.stk (st' := [.inl (tsz 6 (newN s) : Int)]) (by rw [show iv G1 35 29 = (tsz 6 (newN s) : Int) from l2]) ?_
    refine x_aload_n (q := 20) dX10_isAlike_19 rfl rfl ?_
    refine x_getI (q := 23) dX10_isAlike_20 rfl f_10_173 rfl (ft35 hF) ?_
    refine Ex.stk (st' := [.inl (tsz 6 s.2.2.2.2.1 : Int), .inl (tsz 6 (newN s) : Int)]) (by rw [show iv G1 35 22 = (tsz 6 s.2.2.2.2.1 : Int) from h22]) ?_
    refine x_icmp_ne (q := 26) (t := 30) dX10_isAlike_23 rfl (by decide) (fun h23 => ?_) (fun h23 => ?_)
    · refine x_iconst (q := 31) dX10_isAlike_30 rfl (by decide) ?_
      refine x_istore_n (q := 32) (ls' := [some (.inr (.inr (some 35))), some (.inl (nV (rt 6 (newN s)))), some (.inl 0), none]) dX10_isAlike_31 rfl (Nat.le_of_ble_eq_true rfl) (by first | rfl | exact hnl | exact hnl2 _) rfl ?_
      refine x_iconst (q := 33) dX10_isAlike_32 rfl (by decide) ?_
      refine x_istore_n (q := 34) (ls' := [some (.inr (.inr (some 35))), some (.inl (nV (rt 6 (newN s)))), some (.inl 0), some (.inl 0)]) dX10_isAlike_33 rfl (Nat.le_of_ble_eq_true rfl) (by first | rfl | exact hnl | exact hnl2 _) rfl ?_
      refine x_iload_n (q := 35) dX10_isAlike_34 rfl rfl ?_
      refine x_aload_n (q := 36) dX10_isAlike_35 rfl rfl ?_
      refine x_getI (q := 39) dX10_isAlike_36 rfl f_10_173 rfl (ft35 hF) ?_
      refine Ex.stk (st' := [.inl (tsz 6 s.2.2.2.2.1 : Int), .inl 0]) (by rw [show iv G1 35 22 = (tsz 6 s.2.2.2.2.1 : Int) from (by simp [iv_si, iv_sr, iv_nw, h22])]) ?_
      refine x_icmp_ge (q := 42) (t := 118) dX10_isAlike_39 rfl (by decide) (fun h39 => ?_) (fun h39 => ?_)
      · refine x_iload_n (q := 119) dX10_isAlike_118 rfl rfl ?_
        refine x_zret dX10_isAlike_119 rfl (by decide) ?_
        refine ⟨0, rfl, Or.inl rfl, ⟨fun h => by omega, fun h => ?_⟩, hR1', l1.Mo⟩
        exfalso
        rw [alkB, decide_eq_true_eq] at h
        have e1 := congrArg List.length h
        rw [List.length_map, List.length_map, flat_len, flat_len] at e1
        have e2 := congrArg (fun l => l[0]?) h
        rw [List.getElem?_map, List.getElem?_map, flat_zero, flat_zero] at e2
        have e3 := ((q4_iff _ _).mp (Option.some.inj e2)).2.2.1
        first
          | exact h12 e3.symm
          | (apply h23; show (tsz 6 (newN s) : Int) = _; omega)
      · refine x_iload_n (q := 43) dX10_isAlike_42 rfl rfl ?_
        refine x_if_eq (q := 46) (t := 118) dX10_isAlike_43 rfl (by decide) (fun h43 => ?_) (fun h43 => by exfalso; omega)
        refine x_iload_n (q := 119) dX10_isAlike_118 rfl rfl ?_
        refine x_zret dX10_isAlike_119 rfl (by decide) ?_
        refine ⟨0, rfl, Or.inl rfl, ⟨fun h => by omega, fun h => ?_⟩, hR1', l1.Mo⟩
        exfalso
        rw [alkB, decide_eq_true_eq] at h
        have e1 := congrArg List.length h
        rw [List.length_map, List.length_map, flat_len, flat_len] at e1
        have e2 := congrArg (fun l => l[0]?) h
        rw [List.getElem?_map, List.getElem?_map, flat_zero, flat_zero] at e2
        have e3 := ((q4_iff _ _).mp (Option.some.inj e2)).2.2.1
        first
          | exact h12 e3.symm
          | (apply h23; show (tsz 6 (newN s) : Int) = _; omega)
    · refine x_iconst (q := 27) dX10_isAlike_26 rfl (by decide) ?_
      refine x_goto (t := 31) dX10_isAlike_27 (by decide) ?_
      refine x_istore_n (q := 32) (ls' := [some (.inr (.inr (some 35))), some (.inl (nV (rt 6 (newN s)))), some (.inl 1), none]) dX10_isAlike_31 rfl (Nat.le_of_ble_eq_true rfl) (by first | rfl | exact hnl | exact hnl2 _) rfl ?_
      refine x_iconst (q := 33) dX10_isAlike_32 rfl (by decide) ?_
      refine x_istore_n (q := 34) (ls' := [some (.inr (.inr (some 35))), some (.inl (nV (rt 6 (newN s)))), some (.inl 1), some (.inl 0)]) dX10_isAlike_33 rfl (Nat.le_of_ble_eq_true rfl) (by first | rfl | exact hnl | exact hnl2 _) rfl ?_
      exact alike_loop hF h22 (by omega) _ _ 0 o1 l3 (by rw [flat_len, flat_len]; omega) (by decide) (by rw [flat_len]; omega) (fun z z1 z2 => ⟨z, rfl, z1, by rw [z2, alkB, decide_eq_true_eq], hR1', l1.Mo⟩)
