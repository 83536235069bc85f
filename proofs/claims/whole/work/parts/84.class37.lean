/-! THE CLASS: what a call tells by itself -/
theorem c_tbi (d : Nat) {n : Int} {s : Sg} {G : Hp} (hR0 : RC n s G) (n0 : 0 ≤ n) (t1 : tsz 6 s.2.2.2.2.1 ≤ 364) (hcok : Cok s.2.2.1.1) {f x : Int} (f0 : 0 ≤ f) (f1 : f < s.2.1.2.2) (x0 : 0 ≤ x) (x1 : x ≤ 996) : CX (d + 182) 105 [.inr (.inr (some 1)), .inl f, .inl x] G (fun r G' => r = some (.inl (nV (rt 6 (fr s.2.1 s.2.2.1.1 5 f x)))) ∧ RC n s G' ∧ Sm isM G G') := by
  have hC1 := hR0
  obtain ⟨hF, h2, h3, h4, h5, h6⟩ := hR0
  obtain ⟨T, fs, κ, c1, c2, c3, c4, c5, c6, c7, c8, c9, c10, c11, c12, c13, c14, c15, c16, c17, c18⟩ := h6
  obtain ⟨pa, e1, e2, hW, hpg, hP⟩ := WE_RC hC1 (mk := 31) (sk := 32) (Or.inr ⟨rfl, rfl⟩)
  rw [c14] at hW
  have hOf : OkA G fs := fun b hb => c7 b (List.mem_append_right _ hb)
  have hM := (all_lv (mk := 31) (sk := 32) (pa := pa) (h := s.2.2.1.1) hP hcok hpg (Int.le_refl 0) 5).1
  refine CX.of (d := d + 181) m_X9_tellingByItself (Nat.le_of_ble_eq_true rfl) ?_
  refine Ex.lcl (ls' := [some (.inr (.inr (some 1))), some (.inl f), some (.inl x), none, none]) rfl ?_
  refine x_aload_n (q := 1) dX9_tellingByItself_0 rfl rfl ?_
  refine x_getR (q := 4) dX9_tellingByItself_1 rfl f_9_78 rfl (ft1 hF) ?_
  refine Ex.stk (st' := [.inr (.inr (some 31))]) (by rw [fr1_8 hF]) ?_
  refine x_iload_n (q := 5) dX9_tellingByItself_4 rfl rfl ?_
  refine x_iload_n (q := 6) dX9_tellingByItself_5 rfl rfl ?_
  refine x_invV (q := 9) (as := [.inr (.inr (some 31)), .inl f, .inl x]) (rest := []) dX9_tellingByItself_6 rfl l_9_272 m_X3_madeByItself rfl rfl (ft31 hF) (Nat.le_of_ble_eq_true rfl) (CX.up (d := 0 + 181) (by omega) (c_mbi 0 hM hW c6 hOf (List.nodup_append.mp c8).2.1 c10 c12 f0 f1 x0 x1)) (fun r1 G1 hR => ?_)
  obtain ⟨t, fs1, cr, rfl, m2, m3, m4⟩ := hR
  have mq : Fq 31 32 0 fs G G1 := m3.2.1
  have hF1 : FC G1 := FC_Fq mq hOf c15 hF
  have hV : iv G1 (aRt 6 t) 2 = nV (rt 6 (fr s.2.1 s.2.2.1.1 5 f x)) := by
    have h := m3.1.1.2.2.2.1
    refine Eq.trans h ?_
    rw [← mk_nV hP hcok f0 f1 x0 x1 κ, ← m2]; exact (nad_rt 6 t).2.2.1.symm
  have t2 : tsz 6 t ≤ 364 := by
    have h := fr_size hP hcok 5 f x f0 f1 x0 x1
    rw [← mk_tsz hP hcok f0 f1 x0 x1 κ, ← m2, nad_tsz] at h; exact h
  clear hF
  have hF : FC G1 := hF1
  refine Ex.stk (st' := [.inr (.inr (some (aRt 6 t)))]) rfl ?_
  refine x_astore_n (q := 10) (ls' := [some (.inr (.inr (some 1))), some (.inl f), some (.inl x), some (.inr (.inr (some (aRt 6 t)))), none]) dX9_tellingByItself_9 rfl (Nat.le_of_ble_eq_true rfl) (by first | rfl | exact hnl | exact hnl2 _) rfl ?_
  refine x_aload_n (q := 11) dX9_tellingByItself_10 rfl rfl ?_
  refine x_getI (q := 14) dX9_tellingByItself_11 rfl f_9_167 rfl (TA_rt 6 1 t m3.1).1.1 ?_
  refine Ex.stk (st' := [.inl (nV (rt 6 (fr s.2.1 s.2.2.1.1 5 f x)))]) (by rw [show iv G1 (aRt 6 t) 2 = nV (rt 6 (fr s.2.1 s.2.2.1.1 5 f x)) from hV]) ?_
  refine x_istore (q := 16) (ls' := [some (.inr (.inr (some 1))), some (.inl f), some (.inl x), some (.inr (.inr (some (aRt 6 t)))), some (.inl (nV (rt 6 (fr s.2.1 s.2.2.1.1 5 f x))))]) dX9_tellingByItself_14 rfl (Nat.le_of_ble_eq_true rfl) (by first | rfl | exact hnl | exact hnl2 _) rfl ?_
  refine x_aload_n (q := 17) dX9_tellingByItself_16 rfl rfl ?_
  refine x_getR (q := 20) dX9_tellingByItself_17 rfl f_9_78 rfl (ft1 hF) ?_
  refine Ex.stk (st' := [.inr (.inr (some 31))]) (by rw [fr1_8 hF]) ?_
  refine x_aload_n (q := 21) dX9_tellingByItself_20 rfl rfl ?_
  refine x_invV (q := 24) (as := [.inr (.inr (some 31)), .inr (.inr (some (aRt 6 t)))]) (rest := []) dX9_tellingByItself_21 rfl l_9_262 m_X3_letGoWithAll rfl rfl (ft31 hF) (Nat.le_of_ble_eq_true rfl) (CX.up (d := 0 + 13) (by omega) (c_lgAll 0 (mk := 31) (t := t) ⟨ft31 hF1, fr31_1 hF1, ft28 hF1, Or.inr rfl⟩ (TA_TS 6 1 t m3.1) m3.2.2.1 m3.2.2.2.1 m3.2.2.2.2.1 m3.2.2.2.2.2.2.1.2.2.2)) (fun r1 G2 hR => ?_)
  obtain ⟨rfl, fs2, l1, l2, l3, l4⟩ := hR
  have hfin := trial_ok hC1 n0 t1 t2 c1 c2 c3 c4 c5 c7 c8 c9 c11 c13 c14 c15 c16 c17 c18 m3 m4 l1 l2 l3 l4
  refine Ex.stk (st' := []) rfl ?_
  refine x_iload (q := 26) dX9_tellingByItself_24 rfl rfl ?_
  refine x_iret dX9_tellingByItself_26 rfl ?_
  exact ⟨rfl, hfin.1, hfin.2⟩
