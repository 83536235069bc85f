/-! THE CLASS: the reader, leaves -/
theorem PGs_FC {G : Hp} (h : FC G) {pb : Nat} (hp : pb = 7 ∨ pb = 11) : PGs pb G := by
  rcases hp with rfl | rfl
  · exact ⟨ft7 h, fr7_0 h, fr7_1 h, fr7_2 h, ft8 h, fl8 h, ft9 h, fl9 h, ft10 h, fl10 h⟩
  · exact ⟨ft11 h, fr11_0 h, fr11_1 h, fr11_2 h, ft12 h, fl12 h, ft13 h, fl13 h, ft14 h, fl14 h⟩
theorem c_addStep (d : Nat) {G : Hp} {pb : Nat} (hp : PGs pb G) {sp s v : Int} (hs : iv G pb 3 = sp) (s0 : 0 ≤ sp) (s1 : sp < 320) : CX (d + 1) 50 [.inr (.inr (some pb)), .inl s, .inl v] G (fun r G1 => r = some (.inl sp) ∧ G1 = si (si (si G (pb + 1) sp s) (pb + 2) sp v) pb 3 (sp + 1)) := by
  refine CX.of (d := d + 0) m_X5_addStep (Nat.le_of_ble_eq_true rfl) ?_
  refine Ex.lcl (ls' := [some (.inr (.inr (some pb))), some (.inl s), some (.inl v)]) rfl ?_
  refine x_aload_n (q := 1) dX5_addStep_0 rfl rfl ?_
  refine x_getI (q := 4) dX5_addStep_1 rfl f_5_21 rfl hp.1 ?_
  refine Ex.stk (st' := [.inl sp]) (by rw [show iv G pb 3 = sp from hs]) ?_
  refine x_sipush (q := 7) dX5_addStep_4 rfl (by decide) ?_
  refine x_icmp_lt (q := 10) (t := 12) dX5_addStep_7 rfl (by decide) (fun h7 => ?_) (fun h7 => by exfalso; omega)
  refine x_aload_n (q := 13) dX5_addStep_12 rfl rfl ?_
  refine x_getR (q := 16) dX5_addStep_13 rfl f_5_9 rfl hp.1 ?_
  refine Ex.stk (st' := [.inr (.inr (some (pb + 1)))]) (by rw [show rv G pb 0 = some (pb + 1) from (by first | exact hp.2.1 | simp [rv_sr, rv_si, rv_nw, hp.2.1])]) ?_
  refine x_aload_n (q := 17) dX5_addStep_16 rfl rfl ?_
  refine x_getI (q := 20) dX5_addStep_17 rfl f_5_21 rfl hp.1 ?_
  refine Ex.stk (st' := [.inl sp, .inr (.inr (some (pb + 1)))]) (by rw [show iv G pb 3 = sp from hs]) ?_
  refine x_iload_n (q := 21) dX5_addStep_20 rfl rfl ?_
  refine x_iastore (q := 22) dX5_addStep_21 rfl hp.2.2.2.2.1 (by omega) (by rw [show ln G (pb + 1) = 320 from hp.2.2.2.2.2.1]; omega) ?_
  refine x_aload_n (q := 23) dX5_addStep_22 rfl rfl ?_
  refine x_getR (q := 26) dX5_addStep_23 rfl f_5_15 rfl hp.1 ?_
  refine Ex.stk (st' := [.inr (.inr (some (pb + 2)))]) (by rw [show rv (si G (pb + 1) sp s) pb 1 = some (pb + 2) from (by first | exact hp.2.2.1 | simp [rv_sr, rv_si, rv_nw, hp.2.2.1])]) ?_
  refine x_aload_n (q := 27) dX5_addStep_26 rfl rfl ?_
  refine x_getI (q := 30) dX5_addStep_27 rfl f_5_21 rfl hp.1 ?_
  refine Ex.stk (st' := [.inl sp, .inr (.inr (some (pb + 2)))]) (by rw [show iv (si G (pb + 1) sp s) pb 3 = sp from (by simp only [iv_si]; rw [if_neg (by omega)];  exact hs)]) ?_
  refine x_iload_n (q := 31) dX5_addStep_30 rfl rfl ?_
  refine x_iastore (q := 32) dX5_addStep_31 rfl hp.2.2.2.2.2.2.1 (by omega) (by rw [show ln (si G (pb + 1) sp s) (pb + 2) = 320 from hp.2.2.2.2.2.2.2.1]; omega) ?_
  refine x_aload_n (q := 33) dX5_addStep_32 rfl rfl ?_
  refine x_dup (q := 34) dX5_addStep_33 rfl rfl ?_
  refine x_getI (q := 37) dX5_addStep_34 rfl f_5_21 rfl hp.1 ?_
  refine Ex.stk (st' := [.inl sp, .inr (.inr (some pb))]) (by rw [show iv (si (si G (pb + 1) sp s) (pb + 2) sp v) pb 3 = sp from (by simp only [iv_si]; rw [if_neg (by omega)]; rw [if_neg (by omega)];  exact hs)]) ?_
  refine x_iconst (q := 38) dX5_addStep_37 rfl (by decide) ?_
  refine x_iadd (q := 39) (z := sp + 1) dX5_addStep_38 rfl (wr_id ⟨by omega, by omega⟩) ?_
  refine x_putI (q := 42) dX5_addStep_39 rfl f_5_21 rfl (fun h => by cases h) (fun h => by cases h) hp.1 ?_
  refine x_aload_n (q := 43) dX5_addStep_42 rfl rfl ?_
  refine x_getI (q := 46) dX5_addStep_43 rfl f_5_21 rfl hp.1 ?_
  refine Ex.stk (st' := [.inl (sp + 1)]) (by rw [show iv (si (si (si G (pb + 1) sp s) (pb + 2) sp v) pb 3 (sp + 1)) pb 3 = sp + 1 from (by simp [iv_si])]) ?_
  refine x_iconst (q := 47) dX5_addStep_46 rfl (by decide) ?_
  refine x_isub (q := 48) (z := sp) dX5_addStep_47 rfl (by rw [show sp + 1 - 1 = sp from by omega]; exact wr_id ⟨by omega, by omega⟩) ?_
  refine x_iret dX5_addStep_48 rfl ?_
  exact ⟨rfl, rfl⟩
theorem c_skipToHere (d : Nat) {G : Hp} {pb : Nat} (hp : PGs pb G) {sp at_ : Int} (hs : iv G pb 3 = sp) (s1 : sp ≤ 320) (a0 : 0 ≤ at_) (a1 : at_ < sp) : CX (d + 1) 51 [.inr (.inr (some pb)), .inl at_] G (fun r G1 => r = none ∧ G1 = si G (pb + 2) at_ sp) := by
  refine CX.of (d := d + 0) m_X5_skipToHere (Nat.le_of_ble_eq_true rfl) ?_
  refine Ex.lcl (ls' := [some (.inr (.inr (some pb))), some (.inl at_)]) rfl ?_
  refine x_iload_n (q := 1) dX5_skipToHere_0 rfl rfl ?_
  refine x_if_lt (q := 4) (t := 22) dX5_skipToHere_1 rfl (by decide) (fun h1 => by exfalso; omega) (fun h1 => ?_)
  refine x_iload_n (q := 5) dX5_skipToHere_4 rfl rfl ?_
  refine x_aload_n (q := 6) dX5_skipToHere_5 rfl rfl ?_
  refine x_getI (q := 9) dX5_skipToHere_6 rfl f_5_21 rfl hp.1 ?_
  refine Ex.stk (st' := [.inl sp, .inl at_]) (by rw [show iv G pb 3 = sp from hs]) ?_
  refine x_icmp_ge (q := 12) (t := 22) dX5_skipToHere_9 rfl (by decide) (fun h9 => by exfalso; omega) (fun h9 => ?_)
  refine x_aload_n (q := 13) dX5_skipToHere_12 rfl rfl ?_
  refine x_getR (q := 16) dX5_skipToHere_13 rfl f_5_15 rfl hp.1 ?_
  refine Ex.stk (st' := [.inr (.inr (some (pb + 2)))]) (by rw [show rv G pb 1 = some (pb + 2) from (by first | exact hp.2.2.1 | simp [rv_sr, rv_si, rv_nw, hp.2.2.1])]) ?_
  refine x_iload_n (q := 17) dX5_skipToHere_16 rfl rfl ?_
  refine x_aload_n (q := 18) dX5_skipToHere_17 rfl rfl ?_
  refine x_getI (q := 21) dX5_skipToHere_18 rfl f_5_21 rfl hp.1 ?_
  refine Ex.stk (st' := [.inl sp, .inl at_, .inr (.inr (some (pb + 2)))]) (by rw [show iv G pb 3 = sp from hs]) ?_
  refine x_iastore (q := 22) dX5_skipToHere_21 rfl hp.2.2.2.2.2.2.1 (by omega) (by rw [show ln G (pb + 2) = 320 from hp.2.2.2.2.2.2.2.1]; omega) ?_
  refine x_vret dX5_skipToHere_22 rfl ?_
  exact ⟨rfl, rfl⟩
theorem c_clearP (d : Nat) {G : Hp} {pb : Nat} (hp : PGs pb G) : CX (d + 1) 47 [.inr (.inr (some pb))] G (fun r G1 => r = none ∧ G1 = si (si G pb 3 0) pb 4 0) := by
  refine CX.of (d := d + 0) m_X5_clear (Nat.le_of_ble_eq_true rfl) ?_
  refine Ex.lcl (ls' := [some (.inr (.inr (some pb)))]) rfl ?_
  refine x_aload_n (q := 1) dX5_clear_0 rfl rfl ?_
  refine x_iconst (q := 2) dX5_clear_1 rfl (by decide) ?_
  refine x_putI (q := 5) dX5_clear_2 rfl f_5_21 rfl (fun h => by cases h) (fun h => by cases h) hp.1 ?_
  refine x_aload_n (q := 6) dX5_clear_5 rfl rfl ?_
  refine x_iconst (q := 7) dX5_clear_6 rfl (by decide) ?_
  refine x_putI (q := 10) dX5_clear_7 rfl f_5_25 rfl (fun h => by cases h) (fun h => by cases h) hp.1 ?_
  refine x_vret dX5_clear_10 rfl ?_
  exact ⟨rfl, rfl⟩
theorem c_beginF (d : Nat) {G : Hp} {pb : Nat} (hp : PGs pb G) {sp tn : Int} (hs : iv G pb 3 = sp) (ht : iv G pb 4 = tn) (t0 : 0 ≤ tn) (t1 : tn < 5) : CX (d + 1) 48 [.inr (.inr (some pb))] G (fun r G1 => r = none ∧ G1 = si G (pb + 3) tn sp) := by
  refine CX.of (d := d + 0) m_X5_beginFunction (Nat.le_of_ble_eq_true rfl) ?_
  refine Ex.lcl (ls' := [some (.inr (.inr (some pb)))]) rfl ?_
  refine x_aload_n (q := 1) dX5_beginFunction_0 rfl rfl ?_
  refine x_getI (q := 4) dX5_beginFunction_1 rfl f_5_25 rfl hp.1 ?_
  refine Ex.stk (st' := [.inl tn]) (by rw [show iv G pb 4 = tn from ht]) ?_
  refine x_iconst (q := 5) dX5_beginFunction_4 rfl (by decide) ?_
  refine x_icmp_ge (q := 8) (t := 21) dX5_beginFunction_5 rfl (by decide) (fun h5 => by exfalso; omega) (fun h5 => ?_)
  refine x_aload_n (q := 9) dX5_beginFunction_8 rfl rfl ?_
  refine x_getR (q := 12) dX5_beginFunction_9 rfl f_5_18 rfl hp.1 ?_
  refine Ex.stk (st' := [.inr (.inr (some (pb + 3)))]) (by rw [show rv G pb 2 = some (pb + 3) from (by first | exact hp.2.2.2.1 | simp [rv_sr, rv_si, rv_nw, hp.2.2.2.1])]) ?_
  refine x_aload_n (q := 13) dX5_beginFunction_12 rfl rfl ?_
  refine x_getI (q := 16) dX5_beginFunction_13 rfl f_5_25 rfl hp.1 ?_
  refine Ex.stk (st' := [.inl tn, .inr (.inr (some (pb + 3)))]) (by rw [show iv G pb 4 = tn from ht]) ?_
  refine x_aload_n (q := 17) dX5_beginFunction_16 rfl rfl ?_
  refine x_getI (q := 20) dX5_beginFunction_17 rfl f_5_21 rfl hp.1 ?_
  refine Ex.stk (st' := [.inl sp, .inl tn, .inr (.inr (some (pb + 3)))]) (by rw [show iv G pb 3 = sp from hs]) ?_
  refine x_iastore (q := 21) dX5_beginFunction_20 rfl hp.2.2.2.2.2.2.2.2.1 (by omega) (by rw [show ln G (pb + 3) = 5 from hp.2.2.2.2.2.2.2.2.2]; omega) ?_
  refine x_vret dX5_beginFunction_21 rfl ?_
  exact ⟨rfl, rfl⟩
theorem c_endF (d : Nat) {G : Hp} {pb : Nat} (hp : PGs pb G) {sp tn : Int} (hs : iv G pb 3 = sp) (s0 : 0 ≤ sp) (s1 : sp < 320) (ht : iv G pb 4 = tn) (t0 : 0 ≤ tn) (t1 : tn < 5) : CX (d + 2) 49 [.inr (.inr (some pb))] G (fun r G1 => r = none ∧ G1 = si (si (si (si G (pb + 1) sp 11) (pb + 2) sp 0) pb 3 (sp + 1)) pb 4 (tn + 1)) := by
  refine CX.of (d := d + 1) m_X5_endFunction (Nat.le_of_ble_eq_true rfl) ?_
  refine Ex.lcl (ls' := [some (.inr (.inr (some pb)))]) rfl ?_
  refine x_aload_n (q := 1) dX5_endFunction_0 rfl rfl ?_
  refine x_bipush (q := 3) dX5_endFunction_1 rfl (by decide) ?_
  refine x_iconst (q := 4) dX5_endFunction_3 rfl (by decide) ?_
  refine x_invV (q := 7) (as := [.inr (.inr (some pb)), .inl 11, .inl 0]) (rest := []) dX5_endFunction_4 rfl l_5_28 m_X5_addStep rfl rfl hp.1 (Nat.le_of_ble_eq_true rfl) (c_addStep _ hp hs s0 s1) (fun r1 G1 hR => ?_)
  obtain ⟨rfl, rfl⟩ := hR
  refine Ex.stk (st' := [.inl sp]) rfl ?_
  refine x_pop (q := 8) dX5_endFunction_7 rfl rfl ?_
  refine x_aload_n (q := 9) dX5_endFunction_8 rfl rfl ?_
  refine x_getI (q := 12) dX5_endFunction_9 rfl f_5_25 rfl hp.1 ?_
  refine Ex.stk (st' := [.inl tn]) (by rw [show iv (si (si (si G (pb + 1) sp 11) (pb + 2) sp 0) pb 3 (sp + 1)) pb 4 = tn from (by simp only [iv_si]; rw [if_neg (by omega)]; rw [if_neg (by omega)]; rw [if_neg (by omega)];  exact ht)]) ?_
  refine x_iconst (q := 13) dX5_endFunction_12 rfl (by decide) ?_
  refine x_icmp_ge (q := 16) (t := 26) dX5_endFunction_13 rfl (by decide) (fun h13 => by exfalso; omega) (fun h13 => ?_)
  refine x_aload_n (q := 17) dX5_endFunction_16 rfl rfl ?_
  refine x_dup (q := 18) dX5_endFunction_17 rfl rfl ?_
  refine x_getI (q := 21) dX5_endFunction_18 rfl f_5_25 rfl hp.1 ?_
  refine Ex.stk (st' := [.inl tn, .inr (.inr (some pb))]) (by rw [show iv (si (si (si G (pb + 1) sp 11) (pb + 2) sp 0) pb 3 (sp + 1)) pb 4 = tn from (by simp only [iv_si]; rw [if_neg (by omega)]; rw [if_neg (by omega)]; rw [if_neg (by omega)];  exact ht)]) ?_
  refine x_iconst (q := 22) dX5_endFunction_21 rfl (by decide) ?_
  refine x_iadd (q := 23) (z := tn + 1) dX5_endFunction_22 rfl (wr_id ⟨by omega, by omega⟩) ?_
  refine x_putI (q := 26) dX5_endFunction_23 rfl f_5_25 rfl (fun h => by cases h) (fun h => by cases h) hp.1 ?_
  refine x_vret dX5_endFunction_26 rfl ?_
  exact ⟨rfl, rfl⟩
theorem c_isFigure (d : Nat) {G : Hp} {c : Int} : CX (d + 1) 67 [.inl c] G (fun r G1 => G1 = G ∧ ∃ z, r = some (.inl z) ∧ (z = 0 ∨ z = 1) ∧ (z = 1 ↔ 48 ≤ c ∧ c ≤ 57)) := by
  refine CX.of (d := d + 0) m_X6_isFigure (Nat.le_of_ble_eq_true rfl) ?_
  refine Ex.lcl (ls' := [some (.inl c)]) rfl ?_
  refine x_iload_n (q := 1) dX6_isFigure_0 rfl rfl ?_
  refine x_bipush (q := 3) dX6_isFigure_1 rfl (by decide) ?_
  refine x_icmp_lt (q := 6) (t := 16) dX6_isFigure_3 rfl (by decide) (fun h3 => ?_) (fun h3 => ?_)
  · refine x_iconst (q := 17) dX6_isFigure_16 rfl (by decide) ?_
    refine x_zret dX6_isFigure_17 rfl (by decide) ?_
    exact ⟨rfl, 0, rfl, by omega, by omega⟩
  · refine x_iload_n (q := 7) dX6_isFigure_6 rfl rfl ?_
    refine x_bipush (q := 9) dX6_isFigure_7 rfl (by decide) ?_
    refine x_icmp_gt (q := 12) (t := 16) dX6_isFigure_9 rfl (by decide) (fun h9 => ?_) (fun h9 => ?_)
    · refine x_iconst (q := 17) dX6_isFigure_16 rfl (by decide) ?_
      refine x_zret dX6_isFigure_17 rfl (by decide) ?_
      exact ⟨rfl, 0, rfl, by omega, by omega⟩
    · refine x_iconst (q := 13) dX6_isFigure_12 rfl (by decide) ?_
      refine x_goto (t := 17) dX6_isFigure_13 (by decide) ?_
      refine x_zret dX6_isFigure_17 rfl (by decide) ?_
      exact ⟨rfl, 1, rfl, by omega, by omega⟩
theorem c_openTerm (d : Nat) {G : Hp} (hF : FC G) {k s v n : Int} (hk : iv G 3 3 = k) (k0 : 0 ≤ k) (k1 : k < 160) : CX (d + 1) 64 [.inr (.inr (some 3)), .inl s, .inl v, .inl n] G (fun r G1 => r = some (.inl 0) ∧ G1 = si (si (si (si G 4 k s) 5 k v) 6 k n) 3 3 (k + 1)) := by
  refine CX.of (d := d + 0) m_X6_openTerm (Nat.le_of_ble_eq_true rfl) ?_
  refine Ex.lcl (ls' := [some (.inr (.inr (some 3))), some (.inl s), some (.inl v), some (.inl n)]) rfl ?_
  refine x_aload_n (q := 1) dX6_openTerm_0 rfl rfl ?_
  refine x_getI (q := 4) dX6_openTerm_1 rfl f_6_64 rfl (ft3 hF) ?_
  refine Ex.stk (st' := [.inl k]) (by rw [show iv G 3 3 = k from hk]) ?_
  refine x_sipush (q := 7) dX6_openTerm_4 rfl (by decide) ?_
  refine x_icmp_lt (q := 10) (t := 12) dX6_openTerm_7 rfl (by decide) (fun h7 => ?_) (fun h7 => by exfalso; omega)
  refine x_aload_n (q := 13) dX6_openTerm_12 rfl rfl ?_
  refine x_getR (q := 16) dX6_openTerm_13 rfl f_6_9 rfl (ft3 hF) ?_
  refine Ex.stk (st' := [.inr (.inr (some 4))]) (by rw [fr3_0 hF]) ?_
  refine x_aload_n (q := 17) dX6_openTerm_16 rfl rfl ?_
  refine x_getI (q := 20) dX6_openTerm_17 rfl f_6_64 rfl (ft3 hF) ?_
  refine Ex.stk (st' := [.inl k, .inr (.inr (some 4))]) (by rw [show iv G 3 3 = k from hk]) ?_
  refine x_iload_n (q := 21) dX6_openTerm_20 rfl rfl ?_
  refine x_iastore (q := 22) dX6_openTerm_21 rfl (ft4 hF) (by omega) (by rw [fl4 hF]; omega) ?_
  have hF := FX_si hF 4 k s
  refine x_aload_n (q := 23) dX6_openTerm_22 rfl rfl ?_
  refine x_getR (q := 26) dX6_openTerm_23 rfl f_6_15 rfl (ft3 hF) ?_
  refine Ex.stk (st' := [.inr (.inr (some 5))]) (by rw [fr3_1 hF]) ?_
  refine x_aload_n (q := 27) dX6_openTerm_26 rfl rfl ?_
  refine x_getI (q := 30) dX6_openTerm_27 rfl f_6_64 rfl (ft3 hF) ?_
  refine Ex.stk (st' := [.inl k, .inr (.inr (some 5))]) (by rw [show iv (si G 4 k s) 3 3 = k from (by first | exact hk | simp [iv_si, iv_sr, iv_nw, hk])]) ?_
  refine x_iload_n (q := 31) dX6_openTerm_30 rfl rfl ?_
  refine x_iastore (q := 32) dX6_openTerm_31 rfl (ft5 hF) (by omega) (by rw [fl5 hF]; omega) ?_
  have hF := FX_si hF 5 k v
  refine x_aload_n (q := 33) dX6_openTerm_32 rfl rfl ?_
  refine x_getR (q := 36) dX6_openTerm_33 rfl f_6_18 rfl (ft3 hF) ?_
  refine Ex.stk (st' := [.inr (.inr (some 6))]) (by rw [fr3_2 hF]) ?_
  refine x_aload_n (q := 37) dX6_openTerm_36 rfl rfl ?_
  refine x_getI (q := 40) dX6_openTerm_37 rfl f_6_64 rfl (ft3 hF) ?_
  refine Ex.stk (st' := [.inl k, .inr (.inr (some 6))]) (by rw [show iv (si (si G 4 k s) 5 k v) 3 3 = k from (by first | exact hk | simp [iv_si, iv_sr, iv_nw, hk])]) ?_
  refine x_iload_n (q := 41) dX6_openTerm_40 rfl rfl ?_
  refine x_iastore (q := 42) dX6_openTerm_41 rfl (ft6 hF) (by omega) (by rw [fl6 hF]; omega) ?_
  have hF := FX_si hF 6 k n
  refine x_aload_n (q := 43) dX6_openTerm_42 rfl rfl ?_
  refine x_dup (q := 44) dX6_openTerm_43 rfl rfl ?_
  refine x_getI (q := 47) dX6_openTerm_44 rfl f_6_64 rfl (ft3 hF) ?_
  refine Ex.stk (st' := [.inl k, .inr (.inr (some 3))]) (by rw [show iv (si (si (si G 4 k s) 5 k v) 6 k n) 3 3 = k from (by first | exact hk | simp [iv_si, iv_sr, iv_nw, hk])]) ?_
  refine x_iconst (q := 48) dX6_openTerm_47 rfl (by decide) ?_
  refine x_iadd (q := 49) (z := k + 1) dX6_openTerm_48 rfl (wr_id ⟨by omega, by omega⟩) ?_
  refine x_putI (q := 52) dX6_openTerm_49 rfl f_6_64 rfl (fun h => by cases h) (fun h => by cases h) (ft3 hF) ?_
  have hF := FX_si hF 3 3 (k + 1)
  refine x_iconst (q := 53) dX6_openTerm_52 rfl (by decide) ?_
  refine x_iret dX6_openTerm_53 rfl ?_
  exact ⟨rfl, rfl⟩
theorem c_place2 (d : Nat) {G : Hp} (hF : FC G) {pb : Nat} (hpb : pb = 7 ∨ pb = 11) (hpr : rv G 3 6 = some pb) {k sp : Int} (hw : iv G 6 k = 2) (k0 : 0 ≤ k) (k1 : k < 160) (hs : iv G pb 3 = sp) (s0 : 0 ≤ sp) (s1 : sp < 320) : CX (d + 2) 66 [.inr (.inr (some 3)), .inl k] G (fun r G1 => r = none ∧ G1 = si (si (si (si G (pb + 1) sp 9) (pb + 2) sp 0) pb 3 (sp + 1)) 5 k sp) := by
  refine CX.of (d := d + 1) m_X6_placeSkips (Nat.le_of_ble_eq_true rfl) ?_
  refine Ex.lcl (ls' := [some (.inr (.inr (some 3))), some (.inl k), none]) rfl ?_
  refine x_aload_n (q := 1) dX6_placeSkips_0 rfl rfl ?_
  refine x_getR (q := 4) dX6_placeSkips_1 rfl f_6_18 rfl (ft3 hF) ?_
  refine Ex.stk (st' := [.inr (.inr (some 6))]) (by rw [fr3_2 hF]) ?_
  refine x_iload_n (q := 5) dX6_placeSkips_4 rfl rfl ?_
  refine x_iaload (q := 6) dX6_placeSkips_5 rfl (Or.inl (ft6 hF)) (by omega) (by rw [fl6 hF]; omega) ?_
  refine Ex.stk (st' := [.inl 2]) (by rw [show iv G 6 k = 2 from hw]) ?_
  refine x_iconst (q := 7) dX6_placeSkips_6 rfl (by decide) ?_
  refine x_icmp_ne (q := 10) (t := 29) dX6_placeSkips_7 rfl (by decide) (fun h7 => by exfalso; omega) (fun h7 => ?_)
  refine x_aload_n (q := 11) dX6_placeSkips_10 rfl rfl ?_
  refine x_getR (q := 14) dX6_placeSkips_11 rfl f_6_15 rfl (ft3 hF) ?_
  refine Ex.stk (st' := [.inr (.inr (some 5))]) (by rw [fr3_1 hF]) ?_
  refine x_iload_n (q := 15) dX6_placeSkips_14 rfl rfl ?_
  refine x_aload_n (q := 16) dX6_placeSkips_15 rfl rfl ?_
  refine x_getR (q := 19) dX6_placeSkips_16 rfl f_6_21 rfl (ft3 hF) ?_
  refine Ex.stk (st' := [.inr (.inr (some pb)), .inl k, .inr (.inr (some 5))]) (by rw [show rv G 3 6 = some pb from hpr]) ?_
  refine x_bipush (q := 21) dX6_placeSkips_19 rfl (by decide) ?_
  refine x_iconst (q := 22) dX6_placeSkips_21 rfl (by decide) ?_
  refine x_invV (q := 25) (as := [.inr (.inr (some pb)), .inl 9, .inl 0]) (rest := [.inl k, .inr (.inr (some 5))]) dX6_placeSkips_22 rfl l_6_87 m_X5_addStep rfl rfl (PGs_FC hF hpb).1 (Nat.le_of_ble_eq_true rfl) (c_addStep _ (PGs_FC hF hpb) hs s0 s1) (fun r1 G1 hR => ?_)
  obtain ⟨rfl, rfl⟩ := hR
  have hF : FC (si (si (si G (pb + 1) sp 9) (pb + 2) sp 0) pb 3 (sp + 1)) := hF
  refine Ex.stk (st' := [.inl sp, .inl k, .inr (.inr (some 5))]) rfl ?_
  refine x_iastore (q := 26) dX6_placeSkips_25 rfl (ft5 hF) (by omega) (by rw [fl5 hF]; omega) ?_
  have hF := FX_si hF 5 k sp
  refine x_goto (t := 86) dX6_placeSkips_26 (by decide) ?_
  refine x_vret dX6_placeSkips_86 rfl ?_
  exact ⟨rfl, rfl⟩
theorem c_place1 (d : Nat) {G : Hp} (hF : FC G) {pb : Nat} (hpb : pb = 7 ∨ pb = 11) (hpr : rv G 3 6 = some pb) {k sp : Int} (hw : iv G 6 k = 1) (k0 : 0 ≤ k) (k1 : k < 160) (hs : iv G pb 3 = sp) (s0 : 0 ≤ sp) (s1 : sp < 320) {v : Int} (hv : iv G 5 k = v) (v0 : 0 ≤ v) (v1 : v < sp) : CX (d + 2) 66 [.inr (.inr (some 3)), .inl k] G (fun r G1 => r = none ∧ G1 = si (si (si (si (si G (pb + 1) sp 10) (pb + 2) sp 0) pb 3 (sp + 1)) (pb + 2) v (sp + 1)) 5 k sp) := by
  refine CX.of (d := d + 1) m_X6_placeSkips (Nat.le_of_ble_eq_true rfl) ?_
  refine Ex.lcl (ls' := [some (.inr (.inr (some 3))), some (.inl k), none]) rfl ?_
  refine x_aload_n (q := 1) dX6_placeSkips_0 rfl rfl ?_
  refine x_getR (q := 4) dX6_placeSkips_1 rfl f_6_18 rfl (ft3 hF) ?_
  refine Ex.stk (st' := [.inr (.inr (some 6))]) (by rw [fr3_2 hF]) ?_
  refine x_iload_n (q := 5) dX6_placeSkips_4 rfl rfl ?_
  refine x_iaload (q := 6) dX6_placeSkips_5 rfl (Or.inl (ft6 hF)) (by omega) (by rw [fl6 hF]; omega) ?_
  refine Ex.stk (st' := [.inl 1]) (by rw [show iv G 6 k = 1 from hw]) ?_
  refine x_iconst (q := 7) dX6_placeSkips_6 rfl (by decide) ?_
  refine x_icmp_ne (q := 10) (t := 29) dX6_placeSkips_7 rfl (by decide) (fun h7 => ?_) (fun h7 => by exfalso; omega)
  refine x_aload_n (q := 30) dX6_placeSkips_29 rfl rfl ?_
  refine x_getR (q := 33) dX6_placeSkips_30 rfl f_6_18 rfl (ft3 hF) ?_
  refine Ex.stk (st' := [.inr (.inr (some 6))]) (by rw [fr3_2 hF]) ?_
  refine x_iload_n (q := 34) dX6_placeSkips_33 rfl rfl ?_
  refine x_iaload (q := 35) dX6_placeSkips_34 rfl (Or.inl (ft6 hF)) (by omega) (by rw [fl6 hF]; omega) ?_
  refine Ex.stk (st' := [.inl 1]) (by rw [show iv G 6 k = 1 from hw]) ?_
  refine x_iconst (q := 36) dX6_placeSkips_35 rfl (by decide) ?_
  refine x_icmp_ne (q := 39) (t := 73) dX6_placeSkips_36 rfl (by decide) (fun h36 => by exfalso; omega) (fun h36 => ?_)
  refine x_aload_n (q := 40) dX6_placeSkips_39 rfl rfl ?_
  refine x_getR (q := 43) dX6_placeSkips_40 rfl f_6_21 rfl (ft3 hF) ?_
  refine Ex.stk (st' := [.inr (.inr (some pb))]) (by rw [show rv G 3 6 = some pb from hpr]) ?_
  refine x_bipush (q := 45) dX6_placeSkips_43 rfl (by decide) ?_
  refine x_iconst (q := 46) dX6_placeSkips_45 rfl (by decide) ?_
  refine x_invV (q := 49) (as := [.inr (.inr (some pb)), .inl 10, .inl 0]) (rest := []) dX6_placeSkips_46 rfl l_6_87 m_X5_addStep rfl rfl (PGs_FC hF hpb).1 (Nat.le_of_ble_eq_true rfl) (c_addStep _ (PGs_FC hF hpb) hs s0 s1) (fun r1 G1 hR => ?_)
  obtain ⟨rfl, rfl⟩ := hR
  have hF : FC (si (si (si G (pb + 1) sp 10) (pb + 2) sp 0) pb 3 (sp + 1)) := hF
  refine Ex.stk (st' := [.inl sp]) rfl ?_
  refine x_istore_n (q := 50) (ls' := [some (.inr (.inr (some 3))), some (.inl k), some (.inl sp)]) dX6_placeSkips_49 rfl (Nat.le_of_ble_eq_true rfl) (by first | rfl | exact hnl | exact hnl2 _) rfl ?_
  refine x_aload_n (q := 51) dX6_placeSkips_50 rfl rfl ?_
  refine x_getR (q := 54) dX6_placeSkips_51 rfl f_6_21 rfl (ft3 hF) ?_
  refine Ex.stk (st' := [.inr (.inr (some pb))]) (by rw [show rv (si (si (si G (pb + 1) sp 10) (pb + 2) sp 0) pb 3 (sp + 1)) 3 6 = some pb from hpr]) ?_
  refine x_aload_n (q := 55) dX6_placeSkips_54 rfl rfl ?_
  refine x_getR (q := 58) dX6_placeSkips_55 rfl f_6_15 rfl (ft3 hF) ?_
  refine Ex.stk (st' := [.inr (.inr (some 5)), .inr (.inr (some pb))]) (by rw [fr3_1 hF]) ?_
  refine x_iload_n (q := 59) dX6_placeSkips_58 rfl rfl ?_
  refine x_iaload (q := 60) dX6_placeSkips_59 rfl (Or.inl (ft5 hF)) (by omega) (by rw [fl5 hF]; omega) ?_
  refine Ex.stk (st' := [.inl v, .inr (.inr (some pb))]) (by rw [show iv (si (si (si G (pb + 1) sp 10) (pb + 2) sp 0) pb 3 (sp + 1)) 5 k = v from (by simp only [iv_si]; rw [if_neg (by omega)]; rw [if_neg (by omega)]; rw [if_neg (by omega)];  exact hv)]) ?_
  refine x_invV (q := 63) (as := [.inr (.inr (some pb)), .inl v]) (rest := []) dX6_placeSkips_60 rfl l_6_94 m_X5_skipToHere rfl rfl (PGs_FC hF hpb).1 (Nat.le_of_ble_eq_true rfl) (c_skipToHere _ (G := si (si (si G (pb + 1) sp 10) (pb + 2) sp 0) pb 3 (sp + 1)) (PGs_FC hF hpb) (sp := sp + 1) (by simp [iv_si]) (by omega) v0 (by omega)) (fun r1 G1 hR => ?_)
  obtain ⟨rfl, rfl⟩ := hR
  have hF : FC (si (si (si (si G (pb + 1) sp 10) (pb + 2) sp 0) pb 3 (sp + 1)) (pb + 2) v (sp + 1)) := hF
  refine Ex.stk (st' := []) rfl ?_
  refine x_aload_n (q := 64) dX6_placeSkips_63 rfl rfl ?_
  refine x_getR (q := 67) dX6_placeSkips_64 rfl f_6_15 rfl (ft3 hF) ?_
  refine Ex.stk (st' := [.inr (.inr (some 5))]) (by rw [fr3_1 hF]) ?_
  refine x_iload_n (q := 68) dX6_placeSkips_67 rfl rfl ?_
  refine x_iload_n (q := 69) dX6_placeSkips_68 rfl rfl ?_
  refine x_iastore (q := 70) dX6_placeSkips_69 rfl (ft5 hF) (by omega) (by rw [fl5 hF]; omega) ?_
  have hF := FX_si hF 5 k sp
  refine x_goto (t := 86) dX6_placeSkips_70 (by decide) ?_
  refine x_vret dX6_placeSkips_86 rfl ?_
  exact ⟨rfl, rfl⟩
theorem c_place0 (d : Nat) {G : Hp} (hF : FC G) {pb : Nat} (hpb : pb = 7 ∨ pb = 11) (hpr : rv G 3 6 = some pb) {k sp : Int} (hw : iv G 6 k = 0) (k0 : 0 ≤ k) (k1 : k < 160) (hs : iv G pb 3 = sp) (s0 : 0 ≤ sp) (s1 : sp ≤ 320) {v : Int} (hv : iv G 5 k = v) (v0 : 0 ≤ v) (v1 : v < sp) : CX (d + 2) 66 [.inr (.inr (some 3)), .inl k] G (fun r G1 => r = none ∧ G1 = si G (pb + 2) v sp) := by
  refine CX.of (d := d + 1) m_X6_placeSkips (Nat.le_of_ble_eq_true rfl) ?_
  refine Ex.lcl (ls' := [some (.inr (.inr (some 3))), some (.inl k), none]) rfl ?_
  refine x_aload_n (q := 1) dX6_placeSkips_0 rfl rfl ?_
  refine x_getR (q := 4) dX6_placeSkips_1 rfl f_6_18 rfl (ft3 hF) ?_
  refine Ex.stk (st' := [.inr (.inr (some 6))]) (by rw [fr3_2 hF]) ?_
  refine x_iload_n (q := 5) dX6_placeSkips_4 rfl rfl ?_
  refine x_iaload (q := 6) dX6_placeSkips_5 rfl (Or.inl (ft6 hF)) (by omega) (by rw [fl6 hF]; omega) ?_
  refine Ex.stk (st' := [.inl 0]) (by rw [show iv G 6 k = 0 from hw]) ?_
  refine x_iconst (q := 7) dX6_placeSkips_6 rfl (by decide) ?_
  refine x_icmp_ne (q := 10) (t := 29) dX6_placeSkips_7 rfl (by decide) (fun h7 => ?_) (fun h7 => by exfalso; omega)
  refine x_aload_n (q := 30) dX6_placeSkips_29 rfl rfl ?_
  refine x_getR (q := 33) dX6_placeSkips_30 rfl f_6_18 rfl (ft3 hF) ?_
  refine Ex.stk (st' := [.inr (.inr (some 6))]) (by rw [fr3_2 hF]) ?_
  refine x_iload_n (q := 34) dX6_placeSkips_33 rfl rfl ?_
  refine x_iaload (q := 35) dX6_placeSkips_34 rfl (Or.inl (ft6 hF)) (by omega) (by rw [fl6 hF]; omega) ?_
  refine Ex.stk (st' := [.inl 0]) (by rw [show iv G 6 k = 0 from hw]) ?_
  refine x_iconst (q := 36) dX6_placeSkips_35 rfl (by decide) ?_
  refine x_icmp_ne (q := 39) (t := 73) dX6_placeSkips_36 rfl (by decide) (fun h36 => ?_) (fun h36 => by exfalso; omega)
  refine x_aload_n (q := 74) dX6_placeSkips_73 rfl rfl ?_
  refine x_getR (q := 77) dX6_placeSkips_74 rfl f_6_21 rfl (ft3 hF) ?_
  refine Ex.stk (st' := [.inr (.inr (some pb))]) (by rw [show rv G 3 6 = some pb from hpr]) ?_
  refine x_aload_n (q := 78) dX6_placeSkips_77 rfl rfl ?_
  refine x_getR (q := 81) dX6_placeSkips_78 rfl f_6_15 rfl (ft3 hF) ?_
  refine Ex.stk (st' := [.inr (.inr (some 5)), .inr (.inr (some pb))]) (by rw [fr3_1 hF]) ?_
  refine x_iload_n (q := 82) dX6_placeSkips_81 rfl rfl ?_
  refine x_iaload (q := 83) dX6_placeSkips_82 rfl (Or.inl (ft5 hF)) (by omega) (by rw [fl5 hF]; omega) ?_
  refine Ex.stk (st' := [.inl v, .inr (.inr (some pb))]) (by rw [show iv G 5 k = v from hv]) ?_
  refine x_invV (q := 86) (as := [.inr (.inr (some pb)), .inl v]) (rest := []) dX6_placeSkips_83 rfl l_6_94 m_X5_skipToHere rfl rfl (PGs_FC hF hpb).1 (Nat.le_of_ble_eq_true rfl) (c_skipToHere _ (PGs_FC hF hpb) hs (by omega) v0 v1) (fun r1 G1 hR => ?_)
  obtain ⟨rfl, rfl⟩ := hR
  have hF : FC (si G (pb + 2) v sp) := hF
  refine Ex.stk (st' := []) rfl ?_
  refine x_vret dX6_placeSkips_86 rfl ?_
  exact ⟨rfl, rfl⟩
