/-! THE CLASS: is all alike -/
theorem fq4_nad (T : Tr 6) : fq4 6 1 (nad 6 T) = fq4 6 1 T := by
  unfold fq4
  rw [flat_nad, ← inf_flat 6 1 0 (-1) T, List.map_map, List.map_map]; rfl
theorem TA_FqT {mk sk : Nat} {tp : Int} {fs : List Nat} {G G1 : Hp} {h : Int → Int} {β : Int} {T : Tr 6} (hm : (mk = 29 ∧ sk = 30) ∨ (mk = 31 ∧ sk = 32)) (hq : Fq mk sk tp fs G G1) (c2 : TA G h β 6 1 T) (c7 : OkA G (adL 6 T ++ fs)) (c8 : (adL 6 T ++ fs).Nodup) : TA G1 h β 6 1 T := by
  refine TA_same _ _ T c2 (fun b hb => ?_)
  have ob := c7 b (List.mem_append_left _ hb)
  have hOf : ∀ x ∈ fs, CO G x := fun x hx => (c7 x (List.mem_append_right _ hx)).1
  have n1 : b ∉ fs := fun hf => (List.nodup_append.mp c8).2.2 b hb b hf rfl
  have n2 : b + 1 ∉ fs := fun m => by have := (hOf _ m).1; have := ob.1.2.2.1; omega
  have n3 : ∀ x ∈ fs, b ≠ x + 1 := fun x m e => by have := (hOf x m).2.2.1; have := ob.1.1; rw [e] at this; omega
  have n4 : ∀ x ∈ fs, b + 1 ≠ x + 1 := fun x m e => by
    have e : x = b := by omega
    subst e; exact n1 m
  have er : ∀ k, rv G1 b k = rv G b k := by
    intro k
    rcases hq.2.2.1 b k (by omega) with q | q | q
    · exact q
    · omega
    · exact absurd q.1 n1
  have ei : ∀ k, iv G1 b k = iv G b k := by
    intro k
    rcases hq.2.2.2 b k (by omega) with q | q | q | q | ⟨x, q1, q2⟩
    · exact q
    · omega
    · omega
    · exact absurd q n1
    · exact absurd q2 (n3 x q1)
  have ei1 : ∀ k, iv G1 (b + 1) k = iv G (b + 1) k := by
    intro k
    rcases hq.2.2.2 (b + 1) k ob.2.2 with q | q | q | q | ⟨x, q1, q2⟩
    · exact q
    · omega
    · omega
    · exact absurd q n2
    · exact absurd q2 (n4 x q1)
  exact ⟨⟨(hq.2.1 b (by omega)).1.trans ob.1.1, (er 7).trans ob.1.2.1, (hq.2.1 _ ob.2.2).1.trans ob.1.2.2.1, (hq.2.1 _ ob.2.2).2.trans ob.1.2.2.2⟩, ei, er, ei1⟩
theorem c_isAlk (d : Nat) {G : Hp} {h h' : Int → Int} {β β' : Int} {T t : Tr 6} (hT : TA G h β 6 1 T) (ht : TA G h' β' 6 1 t) : CX (d + 8) 15 [.inr (.inr (some (aRt 6 T))), .inr (.inr (some (aRt 6 t)))] G (fun r G' => G' = G ∧ ∃ z, r = some (.inl z) ∧ (z = 0 ∨ z = 1) ∧ (z = 1 ↔ alkT 6 T t)) := by
  refine CX.of (d := d + 7) m_X1_isAlike (Nat.le_of_ble_eq_true rfl) ?_
  refine Ex.lcl (ls' := [some (.inr (.inr (some (aRt 6 T)))), some (.inr (.inr (some (aRt 6 t))))]) rfl ?_
  refine x_aload_n (q := 1) dX1_isAlike_0 rfl rfl ?_
  refine x_aload_n (q := 2) dX1_isAlike_1 rfl rfl ?_
  refine x_invS (q := 5) (as := [.inr (.inr (some (aRt 6 T))), .inr (.inr (some (aRt 6 t)))]) (rest := []) dX1_isAlike_2 rfl l_1_63 m_X1_areAlike rfl rfl (Nat.le_of_ble_eq_true rfl) (Nat.le_of_ble_eq_true rfl) (CX.up (d := 0 + 6 + 1) (by omega) (alk_all 0 6 T t 1 1 hT ht (by decide))) (fun r1 G1 hR => ?_)
  obtain ⟨hG1, y, rfl, hy1, hy2⟩ := hR
  replace hG1 := hG1.symm
  subst hG1
  refine Ex.stk (st' := [.inl y]) rfl ?_
  refine x_zret dX1_isAlike_5 rfl (by first | exact Or.inl rfl | exact Or.inr rfl | omega | assumption) ?_
  exact ⟨rfl, y, rfl, hy1, hy2⟩
theorem c_alikeC (d : Nat) {n : Int} {s : Sg} {G : Hp} (hR0 : RC n s G) (n0 : 0 ≤ n) (t1 : tsz 6 s.2.2.2.2.1 ≤ 364) (hcok : Cok s.2.2.1.1) (hA : 0 ≤ s.2.2.1.1 8 ∧ s.2.2.1.1 8 < s.2.1.2.2 ∧ 0 ≤ s.2.2.1.1 9 ∧ s.2.2.1.1 9 ≤ 996) : CX (d + 182) 106 [.inr (.inr (some 1))] G (fun r G' => ∃ z, r = some (.inl z) ∧ (z = 0 ∨ z = 1) ∧ (z = 1 ↔ alkB s.2.2.2.2.1 (newN s) = true) ∧ RC n s G' ∧ Sm isM G G') := by
  have hC1 := hR0
  obtain ⟨hF, h2, h3, h4, h5, h6⟩ := hR0
  have hrow := h4
  obtain ⟨T, fs, κ, c1, c2, c3, c4, c5, c6, c7, c8, c9, c10, c11, c12, c13, c14, c15, c16, c17, c18⟩ := h6
  obtain ⟨pa, e1, e2, hW, hpg, hP⟩ := WE_RC hC1 (mk := 31) (sk := 32) (Or.inr ⟨rfl, rfl⟩)
  rw [c14] at hW
  have hOf : OkA G fs := fun b hb => c7 b (List.mem_append_right _ hb)
  have hM := (all_lv (mk := 31) (sk := 32) (pa := pa) (h := s.2.2.1.1) hP hcok hpg (Int.le_refl 0) 5).1
  refine CX.of (d := d + 181) m_X9_isAlike (Nat.le_of_ble_eq_true rfl) ?_
  refine Ex.lcl (ls' := [some (.inr (.inr (some 1))), none, none]) rfl ?_
  refine x_aload_n (q := 1) dX9_isAlike_0 rfl rfl ?_
  refine x_getR (q := 4) dX9_isAlike_1 rfl f_9_78 rfl (ft1 hF) ?_
  refine Ex.stk (st' := [.inr (.inr (some 31))]) (by rw [fr1_8 hF]) ?_
  refine x_aload_n (q := 5) dX9_isAlike_4 rfl rfl ?_
  refine x_getR (q := 8) dX9_isAlike_5 rfl f_9_37 rfl (ft1 hF) ?_
  refine Ex.stk (st' := [.inr (.inr (some 15)), .inr (.inr (some 31))]) (by rw [fr1_6 hF]) ?_
  refine x_getI (q := 11) dX9_isAlike_8 rfl f_9_103 rfl (ft15 hF) ?_
  refine Ex.stk (st' := [.inl (s.2.2.1.1 8), .inr (.inr (some 31))]) (by rw [show iv G 15 1 = (s.2.2.1.1 8) from hrow.2.1]) ?_
  refine x_aload_n (q := 12) dX9_isAlike_11 rfl rfl ?_
  refine x_getR (q := 15) dX9_isAlike_12 rfl f_9_37 rfl (ft1 hF) ?_
  refine Ex.stk (st' := [.inr (.inr (some 15)), .inl (s.2.2.1.1 8), .inr (.inr (some 31))]) (by rw [fr1_6 hF]) ?_
  refine x_getI (q := 18) dX9_isAlike_15 rfl f_9_106 rfl (ft15 hF) ?_
  refine Ex.stk (st' := [.inl (s.2.2.1.1 9), .inl (s.2.2.1.1 8), .inr (.inr (some 31))]) (by rw [show iv G 15 2 = (s.2.2.1.1 9) from hrow.2.2.1]) ?_
  refine x_invV (q := 21) (as := [.inr (.inr (some 31)), .inl (s.2.2.1.1 8), .inl (s.2.2.1.1 9)]) (rest := []) dX9_isAlike_18 rfl l_9_272 m_X3_madeByItself rfl rfl (ft31 hF) (Nat.le_of_ble_eq_true rfl) (CX.up (d := 0 + 181) (by omega) (c_mbi 0 hM hW c6 hOf (List.nodup_append.mp c8).2.1 c10 c12 hA.1 hA.2.1 hA.2.2.1 hA.2.2.2)) (fun r1 G1 hR => ?_)
  obtain ⟨t, fs1, cr, rfl, m2, m3, m4⟩ := hR
  have mq : Fq 31 32 0 fs G G1 := m3.2.1
  have hF1 : FC G1 := FC_Fq mq hOf c15 hF
  have hV : iv G1 (aRt 6 t) 2 = nV (rt 6 (fr s.2.1 s.2.2.1.1 5 (s.2.2.1.1 8) (s.2.2.1.1 9))) := by
    have h := m3.1.1.2.2.2.1
    refine Eq.trans h ?_
    rw [← mk_nV hP hcok hA.1 hA.2.1 hA.2.2.1 hA.2.2.2 κ, ← m2]; exact (nad_rt 6 t).2.2.1.symm
  have t2 : tsz 6 t ≤ 364 := by
    have h := fr_size hP hcok 5 (s.2.2.1.1 8) (s.2.2.1.1 9) hA.1 hA.2.1 hA.2.2.1 hA.2.2.2
    rw [← mk_tsz hP hcok hA.1 hA.2.1 hA.2.2.1 hA.2.2.2 κ, ← m2, nad_tsz] at h; exact h
  clear hF
  have hF : FC G1 := hF1
  refine Ex.stk (st' := [.inr (.inr (some (aRt 6 t)))]) rfl ?_
  have hrt : rv G1 17 1 = some (aRt 6 T) := (Fq_rv mq hOf c15 (by omega) (by omega) (by omega)).trans c3
  have hTA := TA_FqT (Or.inr ⟨rfl, rfl⟩) mq c2 c7 c8
  refine x_astore_n (q := 22) (ls' := [some (.inr (.inr (some 1))), some (.inr (.inr (some (aRt 6 t)))), none]) dX9_isAlike_21 rfl (Nat.le_of_ble_eq_true rfl) (by first | rfl | exact hnl | exact hnl2 _) rfl ?_
  refine x_aload_n (q := 23) dX9_isAlike_22 rfl rfl ?_
  refine x_getR (q := 26) dX9_isAlike_23 rfl f_9_44 rfl (ft1 hF) ?_
  refine Ex.stk (st' := [.inr (.inr (some 17))]) (by rw [fr1_9 hF]) ?_
  refine x_getR (q := 29) dX9_isAlike_26 rfl f_9_212 rfl (ft17 hF) ?_
  refine Ex.stk (st' := [.inr (.inr (some (aRt 6 T)))]) (by rw [show rv G1 17 1 = some (aRt 6 T) from hrt]) ?_
  refine x_ifnull (q := 32) (t := 50) dX9_isAlike_29 rfl (by decide) (fun h29 => by exfalso; cases h29) (fun a29 h29 => ?_)
  refine x_aload_n (q := 33) dX9_isAlike_32 rfl rfl ?_
  refine x_getR (q := 36) dX9_isAlike_33 rfl f_9_44 rfl (ft1 hF) ?_
  refine Ex.stk (st' := [.inr (.inr (some 17))]) (by rw [fr1_9 hF]) ?_
  refine x_getR (q := 39) dX9_isAlike_36 rfl f_9_212 rfl (ft17 hF) ?_
  refine Ex.stk (st' := [.inr (.inr (some (aRt 6 T)))]) (by rw [show rv G1 17 1 = some (aRt 6 T) from hrt]) ?_
  refine x_aload_n (q := 40) dX9_isAlike_39 rfl rfl ?_
  refine x_invV (q := 43) (as := [.inr (.inr (some (aRt 6 T))), .inr (.inr (some (aRt 6 t)))]) (rest := []) dX9_isAlike_40 rfl l_9_276 m_X1_isAlike rfl rfl (TA_rt 6 1 T hTA).1.1 (Nat.le_of_ble_eq_true rfl) (CX.up (d := 0 + 8) (by omega) (c_isAlk 0 hTA m3.1)) (fun r1 G1b hR => ?_)
  obtain ⟨hG1, y, rfl, hy1, hy2⟩ := hR
  replace hG1 := hG1.symm
  subst hG1
  have hy3 : y = 1 ↔ alkB s.2.2.2.2.1 (newN s) = true := by
    rw [hy2, alkB_iff, alkT_iff 6 1, alkT_iff 6 1, ← c1, fq4_nad, ← fq4_nad t, m2, ← fq4_zap 6 1 (mkT _ _ _ _ _ _).1, mk_fr hP hcok hA.1 hA.2.1 hA.2.2.1 hA.2.2.2 κ]; exact Iff.rfl
  refine Ex.stk (st' := [.inl y]) rfl ?_
  refine x_if_eq (q := 46) (t := 50) dX9_isAlike_43 rfl (by decide) (fun h43 => ?_) (fun h43 => ?_)
  · refine x_iconst (q := 51) dX9_isAlike_50 rfl (by decide) ?_
    refine x_istore_n (q := 52) (ls' := [some (.inr (.inr (some 1))), some (.inr (.inr (some (aRt 6 t)))), some (.inl 0)]) dX9_isAlike_51 rfl (Nat.le_of_ble_eq_true rfl) (by first | rfl | exact hnl | exact hnl2 _) rfl ?_
    refine x_aload_n (q := 53) dX9_isAlike_52 rfl rfl ?_
    refine x_getR (q := 56) dX9_isAlike_53 rfl f_9_78 rfl (ft1 hF) ?_
    refine Ex.stk (st' := [.inr (.inr (some 31))]) (by rw [fr1_8 hF]) ?_
    refine x_aload_n (q := 57) dX9_isAlike_56 rfl rfl ?_
    refine x_invV (q := 60) (as := [.inr (.inr (some 31)), .inr (.inr (some (aRt 6 t)))]) (rest := []) dX9_isAlike_57 rfl l_9_262 m_X3_letGoWithAll rfl rfl (ft31 hF) (Nat.le_of_ble_eq_true rfl) (CX.up (d := 0 + 13) (by omega) (c_lgAll 0 (mk := 31) (t := t) ⟨ft31 hF1, fr31_1 hF1, ft28 hF1, Or.inr rfl⟩ (TA_TS 6 1 t m3.1) m3.2.2.1 m3.2.2.2.1 m3.2.2.2.2.1 m3.2.2.2.2.2.2.1.2.2.2)) (fun r1 G2 hR => ?_)
    obtain ⟨rfl, fs2, l1, l2, l3, l4⟩ := hR
    have hfin := trial_ok hC1 n0 t1 t2 c1 c2 c3 c4 c5 c7 c8 c9 c11 c13 c14 c15 c16 c17 c18 m3 m4 l1 l2 l3 l4
    refine Ex.stk (st' := []) rfl ?_
    refine x_iload_n (q := 61) dX9_isAlike_60 rfl rfl ?_
    refine x_zret dX9_isAlike_61 rfl (by decide) ?_
    exact ⟨0, rfl, by omega, by rw [← hy3]; omega, hfin.1, hfin.2⟩
  · refine x_iconst (q := 47) dX9_isAlike_46 rfl (by decide) ?_
    refine x_goto (t := 51) dX9_isAlike_47 (by decide) ?_
    refine x_istore_n (q := 52) (ls' := [some (.inr (.inr (some 1))), some (.inr (.inr (some (aRt 6 t)))), some (.inl 1)]) dX9_isAlike_51 rfl (Nat.le_of_ble_eq_true rfl) (by first | rfl | exact hnl | exact hnl2 _) rfl ?_
    refine x_aload_n (q := 53) dX9_isAlike_52 rfl rfl ?_
    refine x_getR (q := 56) dX9_isAlike_53 rfl f_9_78 rfl (ft1 hF) ?_
    refine Ex.stk (st' := [.inr (.inr (some 31))]) (by rw [fr1_8 hF]) ?_
    refine x_aload_n (q := 57) dX9_isAlike_56 rfl rfl ?_
    refine x_invV (q := 60) (as := [.inr (.inr (some 31)), .inr (.inr (some (aRt 6 t)))]) (rest := []) dX9_isAlike_57 rfl l_9_262 m_X3_letGoWithAll rfl rfl (ft31 hF) (Nat.le_of_ble_eq_true rfl) (CX.up (d := 0 + 13) (by omega) (c_lgAll 0 (mk := 31) (t := t) ⟨ft31 hF1, fr31_1 hF1, ft28 hF1, Or.inr rfl⟩ (TA_TS 6 1 t m3.1) m3.2.2.1 m3.2.2.2.1 m3.2.2.2.2.1 m3.2.2.2.2.2.2.1.2.2.2)) (fun r1 G2 hR => ?_)
    obtain ⟨rfl, fs2, l1, l2, l3, l4⟩ := hR
    have hfin := trial_ok hC1 n0 t1 t2 c1 c2 c3 c4 c5 c7 c8 c9 c11 c13 c14 c15 c16 c17 c18 m3 m4 l1 l2 l3 l4
    refine Ex.stk (st' := []) rfl ?_
    refine x_iload_n (q := 61) dX9_isAlike_60 rfl rfl ?_
    refine x_zret dX9_isAlike_61 rfl (by decide) ?_
    exact ⟨1, rfl, by omega, by rw [← hy3]; omega, hfin.1, hfin.2⟩
