/-! THE CLASS: functions -/
theorem c_startAnew (d : Nat) {n : Int} {s : Sg} {G : Hp} (hF : FC G) {pb : Nat} (hpb : rv G 1 4 = some pb) (n0 : 0 ≤ n) (n1 : n ≤ 1000) (hcok : Cok s.2.2.1.1) (hR : RC n s (sr (sr (si (si (si G 15 1 0) 15 2 0) 19 4 0) 31 4 (some pb)) 29 4 (some pb))) : CX (d + 184) 103 [.inr (.inr (some 1))] G (fun r G' => r = none ∧ RC (n + 1) (s.1, s.2.1, s.2.2.1, s.2.2.2.1, (first s.2.1 s.2.2.1.1).1, s.2.2.1.1, (first s.2.1 s.2.2.1.1).2.1, 0, 0, 0) G' ∧ Sm isM G G') := by
  refine CX.of (d := d + 183) m_X9_startAnew (Nat.le_of_ble_eq_true rfl) ?_
  refine Ex.lcl (ls' := [some (.inr (.inr (some 1)))]) rfl ?_
  refine x_aload_n (q := 1) dX9_startAnew_0 rfl rfl ?_
  refine x_getR (q := 4) dX9_startAnew_1 rfl f_9_37 rfl (ft1 hF) ?_
  refine Ex.stk (st' := [.inr (.inr (some 15))]) (by rw [fr1_6 hF]) ?_
  refine x_iconst (q := 5) dX9_startAnew_4 rfl (by decide) ?_
  refine x_putI (q := 8) dX9_startAnew_5 rfl f_9_103 rfl (fun h => by cases h) (fun h => by cases h) (ft15 hF) ?_
  have hF := FX_si hF 15 1 0
  refine x_aload_n (q := 9) dX9_startAnew_8 rfl rfl ?_
  refine x_getR (q := 12) dX9_startAnew_9 rfl f_9_37 rfl (ft1 hF) ?_
  refine Ex.stk (st' := [.inr (.inr (some 15))]) (by rw [fr1_6 hF]) ?_
  refine x_iconst (q := 13) dX9_startAnew_12 rfl (by decide) ?_
  refine x_putI (q := 16) dX9_startAnew_13 rfl f_9_106 rfl (fun h => by cases h) (fun h => by cases h) (ft15 hF) ?_
  have hF := FX_si hF 15 2 0
  refine x_aload_n (q := 17) dX9_startAnew_16 rfl rfl ?_
  refine x_getR (q := 20) dX9_startAnew_17 rfl f_9_51 rfl (ft1 hF) ?_
  refine Ex.stk (st' := [.inr (.inr (some 19))]) (by rw [fr1_10 hF]) ?_
  refine x_invV (q := 23) (as := [.inr (.inr (some 19))]) (rest := []) dX9_startAnew_20 rfl l_9_245 m_X2_forget rfl rfl (ft19 hF) (Nat.le_of_ble_eq_true rfl) (CX.up (d := 0 + 1) (by omega) (c_forget 0 hF)) (fun r1 Gz hZ => ?_)
  obtain ⟨rfl, hGz⟩ := hZ
  subst hGz
  have hF := FX_si hF 19 4 0
  refine Ex.stk (st' := []) rfl ?_
  refine x_aload_n (q := 24) dX9_startAnew_23 rfl rfl ?_
  refine x_getR (q := 27) dX9_startAnew_24 rfl f_9_78 rfl (ft1 hF) ?_
  refine Ex.stk (st' := [.inr (.inr (some 31))]) (by rw [fr1_8 hF]) ?_
  refine x_aload_n (q := 28) dX9_startAnew_27 rfl rfl ?_
  refine x_getR (q := 31) dX9_startAnew_28 rfl f_9_27 rfl (ft1 hF) ?_
  refine Ex.stk (st' := [.inr (.inr (some pb)), .inr (.inr (some 31))]) (by rw [show rv (si (si (si G 15 1 0) 15 2 0) 19 4 0) 1 4 = some pb from (by first | exact hpb | simp [rv_sr, rv_si, rv_nw, hpb])]) ?_
  refine x_invV (q := 34) (as := [.inr (.inr (some 31)), .inr (.inr (some pb))]) (rest := []) dX9_startAnew_31 rfl l_9_258 m_X3_takeProgram rfl rfl (ft31 hF) (Nat.le_of_ble_eq_true rfl) (CX.of m_X3_takeProgram (Nat.le_of_ble_eq_true rfl) ?_) (fun _ _ h => h)
  refine Ex.lcl (ls' := [some (.inr (.inr (some 31))), some (.inr (.inr (some pb)))]) rfl ?_
  refine x_aload_n (q := 1) dX3_takeProgram_0 rfl rfl ?_
  refine x_aload_n (q := 2) dX3_takeProgram_1 rfl rfl ?_
  refine x_putR (q := 5) dX3_takeProgram_2 rfl f_3_23 rfl (fun h => by cases h) (ft31 hF) ?_
  have hF := FX_sr hF (a := 31) (k := 4) (some pb) (by decide)
  refine x_vret dX3_takeProgram_5 rfl ?_
  refine Ex.stk (st' := []) rfl ?_
  refine x_aload_n (q := 35) dX9_startAnew_34 rfl rfl ?_
  refine x_getR (q := 38) dX9_startAnew_35 rfl f_9_74 rfl (ft1 hF) ?_
  refine Ex.stk (st' := [.inr (.inr (some 29))]) (by rw [fr1_7 hF]) ?_
  refine x_aload_n (q := 39) dX9_startAnew_38 rfl rfl ?_
  refine x_getR (q := 42) dX9_startAnew_39 rfl f_9_27 rfl (ft1 hF) ?_
  refine Ex.stk (st' := [.inr (.inr (some pb)), .inr (.inr (some 29))]) (by rw [show rv (sr (si (si (si G 15 1 0) 15 2 0) 19 4 0) 31 4 (some pb)) 1 4 = some pb from (by first | exact hpb | simp [rv_sr, rv_si, rv_nw, hpb])]) ?_
  refine x_invV (q := 45) (as := [.inr (.inr (some 29)), .inr (.inr (some pb))]) (rest := []) dX9_startAnew_42 rfl l_9_258 m_X3_takeProgram rfl rfl (ft29 hF) (Nat.le_of_ble_eq_true rfl) (CX.of m_X3_takeProgram (Nat.le_of_ble_eq_true rfl) ?_) (fun _ _ h => h)
  refine Ex.lcl (ls' := [some (.inr (.inr (some 29))), some (.inr (.inr (some pb)))]) rfl ?_
  refine x_aload_n (q := 1) dX3_takeProgram_0 rfl rfl ?_
  refine x_aload_n (q := 2) dX3_takeProgram_1 rfl rfl ?_
  refine x_putR (q := 5) dX3_takeProgram_2 rfl f_3_23 rfl (fun h => by cases h) (ft29 hF) ?_
  have hF := FX_sr hF (a := 29) (k := 4) (some pb) (by decide)
  refine x_vret dX3_takeProgram_5 rfl ?_
  refine Ex.stk (st' := []) rfl ?_
  obtain ⟨G5, hG5⟩ : ∃ G5, G5 = (sr (sr (si (si (si G 15 1 0) 15 2 0) 19 4 0) 31 4 (some pb)) 29 4 (some pb)) := ⟨_, rfl⟩
  rw [← hG5] at hR
  rw [← hG5]
  have hS5 : Sm isM G G5 := (show TxI G G5 by subst hG5; exact TxI.sr (TxI.sr (TxI.si (TxI.si (TxI.si (TxI.rf G) 1 0 (by omega)) 2 0 (by omega)) 4 0 (by omega)) _ (by omega)) _ (by omega)).M
  have hRo : RCo s G5 := ⟨hR.1, hR.2.1, hR.2.2.1, hR.2.2.2.1, hR.2.2.2.2.1⟩
  obtain ⟨T, fs, κ, c1, c2, c3, c4, c5, c6, c7, c8, c9, c10, c11, c12, c13, c14, c15, c16, c17, c18⟩ := hR.2.2.2.2.2
  obtain ⟨b, hb⟩ : ∃ b, iv G5 29 5 = b := ⟨_, rfl⟩
  rw [hb] at c2 c13
  clear hF
  have hF : FC G5 := hRo.1
  refine x_aload_n (q := 46) dX9_startAnew_45 rfl rfl ?_
  refine x_getR (q := 49) dX9_startAnew_46 rfl f_9_74 rfl (ft1 hF) ?_
  refine Ex.stk (st' := [.inr (.inr (some 29))]) (by rw [fr1_7 hF]) ?_
  refine x_aload_n (q := 50) dX9_startAnew_49 rfl rfl ?_
  refine x_getR (q := 53) dX9_startAnew_50 rfl f_9_44 rfl (ft1 hF) ?_
  refine Ex.stk (st' := [.inr (.inr (some 17)), .inr (.inr (some 29))]) (by rw [fr1_9 hF]) ?_
  refine x_getR (q := 56) dX9_startAnew_53 rfl f_9_212 rfl (ft17 hF) ?_
  refine Ex.stk (st' := [.inr (.inr (some (aRt 6 T))), .inr (.inr (some 29))]) (by rw [show rv G5 17 1 = some (aRt 6 T) from (by first | exact c3 | simp [rv_sr, rv_si, rv_nw, c3])]) ?_
  refine x_invV (q := 59) (as := [.inr (.inr (some 29)), .inr (.inr (some (aRt 6 T)))]) (rest := []) dX9_startAnew_56 rfl l_9_262 m_X3_letGoWithAll rfl rfl (ft29 hF) (Nat.le_of_ble_eq_true rfl) (CX.up (d := 0 + 13) (by omega) (c_lgAll 0 (mk := 29) (t := T) (g := s.2.2.2.2.2.2.2.2.2) ⟨ft29 hF, fr29_1 hF, ft28 hF, Or.inl rfl⟩ (TA_TS 6 1 T c2) c6 c7 c8 c9.2.2.2)) (fun r1 G6 hZ => ?_)
  obtain ⟨rfl, fs3, l1, l2, l3, l4⟩ := hZ
  have hOT : OkA G5 (adL 6 T) := fun b hb => c7 b (List.mem_append_left _ hb)
  obtain ⟨hRo3, hS3⟩ := RCo_Fw' (Fw_of_Lg (Or.inl rfl) l4) hOT c15 hRo
  have hO3 : OkA G6 fs3 := fun x hx => OkA_Lg l4 c7 x (l2.mem_iff.mp hx)
  have hnd3 : fs3.Nodup := l2.nodup_iff.mpr c8
  have hi3 : ∀ (a : Nat) (k : Int), ¬ (a = 29 ∧ k = 9) → iv G6 a k = iv G5 a k := fun a k h => by
    rcases l4.2.2.2.2 a k with g | g
    · exact g
    · exact absurd g h
  clear hF
  have hF : FC G6 := hRo3.1
  refine Ex.stk (st' := []) rfl ?_
  refine x_aload_n (q := 60) dX9_startAnew_59 rfl rfl ?_
  refine x_getR (q := 63) dX9_startAnew_60 rfl f_9_44 rfl (ft1 hF) ?_
  refine Ex.stk (st' := [.inr (.inr (some 17))]) (by rw [fr1_9 hF]) ?_
  refine x_aload_n (q := 64) dX9_startAnew_63 rfl rfl ?_
  refine x_getR (q := 67) dX9_startAnew_64 rfl f_9_74 rfl (ft1 hF) ?_
  refine Ex.stk (st' := [.inr (.inr (some 29)), .inr (.inr (some 17))]) (by rw [fr1_7 hF]) ?_
  refine x_invV (q := 70) (as := [.inr (.inr (some 29))]) (rest := [.inr (.inr (some 17))]) dX9_startAnew_67 rfl l_9_265 m_X3_firstRoot rfl rfl (ft29 hF) (Nat.le_of_ble_eq_true rfl) (CX.of m_X3_firstRoot (Nat.le_of_ble_eq_true rfl) ?_) (fun _ _ h => h)
  refine Ex.lcl (ls' := [some (.inr (.inr (some 29))), none]) rfl ?_
  refine x_aload_n (q := 1) dX3_firstRoot_0 rfl rfl ?_
  refine x_iconst (q := 2) dX3_firstRoot_1 rfl (by decide) ?_
  refine x_putI (q := 5) dX3_firstRoot_2 rfl f_3_27 rfl (fun h => by cases h) (fun h => by cases h) (ft29 hF) ?_
  have hF := FX_si hF 29 6 0
  refine x_aload_n (q := 6) dX3_firstRoot_5 rfl rfl ?_
  refine x_iconst (q := 7) dX3_firstRoot_6 rfl (by decide) ?_
  refine x_iconst (q := 8) dX3_firstRoot_7 rfl (by decide) ?_
  refine x_iconst (q := 9) dX3_firstRoot_8 rfl (by decide) ?_
  obtain ⟨G7, hG7⟩ : ∃ G7, G7 = (si G6 29 6 0) := ⟨_, rfl⟩
  rw [← hG7]
  rw [← hG7] at hF
  have hio : Io G6 G7 := by subst hG7; exact ⟨fun _ => rfl, fun _ => rfl, fun _ _ => rfl, rfl, rfl⟩
  have hi7 : ∀ (a : Nat) (k : Int), ¬ (a = 29 ∧ k = 6) → iv G7 a k = iv G6 a k := fun a k h => by subst hG7; rw [iv_si, if_neg h]
  have h76 : iv G7 29 6 = 0 := by subst hG7; rw [iv_si, if_pos ⟨rfl, rfl⟩]
  have hsz7 : sz G7 = sz G5 := hio.2.2.2.1.trans l4.1
  have hsl7 : sl G7 = sl G5 := hio.2.2.2.2.trans l4.2.1
  have c15' : 62 ≤ sz G6 := by rw [l4.1]; exact c15
  obtain ⟨hRo7, hS7⟩ := RCo_Fw' (Fw_of_29 hio (fun a k h => hi7 a k (fun z => h z.1))) (fun b hb => by cases hb) c15' hRo3
  have hO7 : OkA G7 fs3 := fun x hx => by
    have ob := hO3 x hx
    exact ⟨⟨(hio.1 x).trans ob.1.1, (hio.2.2.1 x 7).trans ob.1.2.1, (hio.1 _).trans ob.1.2.2.1, (hio.2.1 _).trans ob.1.2.2.2⟩, ob.2.1, by rw [hio.2.2.2.1]; exact ob.2.2⟩
  have hch7 : Chn G7 (rv G7 28 0) fs3 := by rw [hio.2.2.1]; exact Chn_kept _ _ l1 (fun b _ => hio.2.2.1 b 10)
  have h75 : iv G7 29 5 = b := (hi7 29 5 (by omega)).trans ((hi3 29 5 (by omega)).trans hb)
  have e31 : ∀ k, iv G7 31 k = iv G5 31 k := fun k => (hi7 31 k (by omega)).trans (hi3 31 k (by omega))
  have ict7 : Ct 29 ((0, s.2.2.2.2.2.2.2.1, s.2.2.2.2.2.2.2.2.1, s.2.2.2.2.2.2.2.2.2 + (tsz 6 T : Int)) : Kt) G7 := ⟨h76.trans rfl, (hi7 29 7 (by omega)).trans ((hi3 29 7 (by omega)).trans c9.2.1), (hi7 29 8 (by omega)).trans ((hi3 29 8 (by omega)).trans c9.2.2.1), (hi7 29 9 (by omega)).trans l3⟩
  obtain ⟨pa, e1, e2, hW, hpg, hP⟩ := WE_o hRo7 (by omega) (mk := 29) (sk := 30) (Or.inl ⟨rfl, rfl⟩)
  rw [h75] at hW
  have hP1 : 1 ≤ s.2.1.2.2 := by obtain ⟨q0, q1, q2, q3, q4, q5, q6⟩ := hRo.2.2.1; exact q6.2.1
  have hB := (all_lv (mk := 29) (sk := 30) (pa := pa) (h := s.2.2.1.1) hP hcok hpg c13.1 5).1
  have hPM := (pb_all hP hcok hcok 5).2 0 0 ((0, s.2.2.2.2.2.2.2.1, s.2.2.2.2.2.2.2.2.1, s.2.2.2.2.2.2.2.2.2 + (tsz 6 T : Int)) : Kt) (0, 0, 0) (by decide) (by omega) (by decide) (by decide) rfl
  have hsN : tsz 6 (fr s.2.1 s.2.2.1.1 5 0 0) ≤ 364 := fr_size hP hcok 5 _ _ (by decide) (by omega) (by decide) (by decide)
  refine x_invV (q := 12) (as := [.inr (.inr (some 29)), .inl 0, .inl 0, .inl 1]) (rest := []) dX3_firstRoot_9 rfl l_3_31 m_X3_make rfl rfl (ft29 hF) (Nat.le_of_ble_eq_true rfl) (CX.up (d := 30 * (5 + 1)) (by omega) (hB G7 0 0 1 ((0, s.2.2.2.2.2.2.2.1, s.2.2.2.2.2.2.2.2.1, s.2.2.2.2.2.2.2.2.2 + (tsz 6 T : Int)) : Kt) fs3 0 hW hch7 hO7 hnd3 ict7 ((hi7 29 3 (by omega)).trans ((hi3 29 3 (by omega)).trans c11)) (by decide) (by decide) (by decide) (by decide) (by omega) (by decide) (by decide))) (fun r1 G8 hZ => ?_)
  obtain ⟨t, fs', cr, rfl, g1, g2, g3⟩ := hZ
  have hcr1 : ((tsz 6 (fr s.2.1 s.2.2.1.1 5 0 0) : Nat) : Int) ≤ 364 := by omega
  have hcr2 := Int.le_trans (Int.le_of_eq hPM.2.2.2) hcr1
  obtain ⟨f1, f2, f3⟩ := bring_fin (tc := ((mkT s.2.1 s.2.2.1.1 5 0 0 ((0, s.2.2.2.2.2.2.2.1, s.2.2.2.2.2.2.2.2.1, s.2.2.2.2.2.2.2.2.2 + (tsz 6 T : Int)) : Kt)).1, s.2.2.1.1, (mkT s.2.1 s.2.2.1.1 5 0 0 ((0, s.2.2.2.2.2.2.2.1, s.2.2.2.2.2.2.2.2.1, s.2.2.2.2.2.2.2.2.2 + (tsz 6 T : Int)) : Kt)).2)) (n := n) (β := b) (L := []) (κ31 := κ) hRo7 hO7 (by omega) h75 c13.1 (by omega) ⟨(e31 _).trans c10.1, (e31 _).trans c10.2.1, (e31 _).trans c10.2.2.1, (e31 _).trans c10.2.2.2⟩ ((e31 3).trans c12) ((e31 5).trans c14) (by rw [List.nil_append, l2.length_eq]; exact c16) (by rw [List.nil_append, l2.length_eq, hsz7]; exact c17) (by rw [List.nil_append, l2.length_eq, hsl7]; exact c18) g2 g1 rfl hcr2
  clear hF
  have hF : FC G8 := f1.1
  refine Ex.stk (st' := [.inr (.inr (some (aRt 6 t)))]) rfl ?_
  refine x_astore_n (q := 13) (ls' := [some (.inr (.inr (some 29))), some (.inr (.inr (some (aRt 6 t))))]) dX3_firstRoot_12 rfl (Nat.le_of_ble_eq_true rfl) (by first | rfl | exact hnl | exact hnl2 _) rfl ?_
  refine x_aload_n (q := 14) dX3_firstRoot_13 rfl rfl ?_
  refine x_invV (q := 17) (as := [.inr (.inr (some 29))]) (rest := []) dX3_firstRoot_14 rfl l_3_35 m_X3_clearCounts rfl rfl (ft29 hF) (Nat.le_of_ble_eq_true rfl) (CX.up (d := 0 + 1) (by omega) (c_clrC 0 hF)) (fun r1 Gz hZ => ?_)
  obtain ⟨rfl, hGz⟩ := hZ
  obtain ⟨v1, v2, v3⟩ := RCk_clr f1 f2
  rw [← hGz] at v1 v2 v3
  clear hF
  have hF : FC Gz := v1.1
  refine Ex.stk (st' := []) rfl ?_
  refine x_aload_n (q := 18) dX3_firstRoot_17 rfl rfl ?_
  refine x_aret dX3_firstRoot_18 rfl ?_
  refine Ex.stk (st' := [.inr (.inr (some (aRt 6 t))), .inr (.inr (some 17))]) rfl ?_
  have htz : tsz 6 t ≤ 364 := by rw [← nad_tsz, v2.1]; show tsz 6 (mkT s.2.1 s.2.2.1.1 5 0 0 _).1 ≤ 364; rw [mk_tsz hP hcok (by decide) (by omega) (by decide) (by decide)]; exact hsN
  refine x_invV (q := 73) (as := [.inr (.inr (some 17)), .inr (.inr (some (aRt 6 t)))]) (rest := []) dX9_startAnew_70 rfl l_9_220 m_X8_list rfl rfl (ft17 hF) (Nat.le_of_ble_eq_true rfl) (CX.up (d := 0 + 8) (by omega) (c_list 0 hF (TA_TS 6 1 t v2.2.1) (List.nodup_append.mp v2.2.2.2.2.1).1 (fun b hb => by have := (v2.2.2.2.1 b (List.mem_append_left _ hb)).2.1; omega) htz)) (fun r1 G9 hZ => ?_)
  obtain ⟨rfl, u1, u2, u3⟩ := hZ
  obtain ⟨q1, q2⟩ := list_ok v1 v2 u1 u2 u3
  dsimp only at q1
  rw [show (mkT s.2.1 s.2.2.1.1 5 0 0 ((0, s.2.2.2.2.2.2.2.1, s.2.2.2.2.2.2.2.2.1, s.2.2.2.2.2.2.2.2.2 + (tsz 6 T : Int)) : Kt)).1 = (first s.2.1 s.2.2.1.1).1 from hPM.1, show (mkT s.2.1 s.2.2.1.1 5 0 0 ((0, s.2.2.2.2.2.2.2.1, s.2.2.2.2.2.2.2.2.1, s.2.2.2.2.2.2.2.2.2 + (tsz 6 T : Int)) : Kt)).2.1 = (first s.2.1 s.2.2.1.1).2.1 from hPM.2.1.1] at q1
  refine Ex.stk (st' := []) rfl ?_
  refine x_vret dX9_startAnew_73 rfl ?_
  exact ⟨rfl, q1, ((((hS5.trans hS3).trans hS7).trans f3).trans v3).trans q2⟩
theorem c_takeText (d : Nat) {n : Int} {s : Sg} {G : Hp} (hR0 : RC n s G) (n0 : 0 ≤ n) (n1 : n ≤ 1000) (hcok : Cok s.2.2.1.1) (l0 : 0 ≤ s.1.2.1) (l1 : s.1.2.1 ≤ 160) : CX (d + 185) 102 [.inr (.inr (some 1))] G (fun r G' => r = some (.inl (rdT s).1) ∧ RC (n + 1) (o_functions s).2 G' ∧ Sm isM G G') := by
  have hC1 := hR0
  obtain ⟨hF, h2, h3, h4, h5, h6⟩ := hR0
  obtain ⟨pa, p1, p2, p3, p4, p5, p6⟩ := h3
  refine CX.of (d := d + 184) m_X9_takeText (Nat.le_of_ble_eq_true rfl) ?_
  refine Ex.lcl (ls' := [some (.inr (.inr (some 1))), none, none]) rfl ?_
  refine x_aload_n (q := 1) dX9_takeText_0 rfl rfl ?_
  refine x_getR (q := 4) dX9_takeText_1 rfl f_9_20 rfl (ft1 hF) ?_
  refine Ex.stk (st' := [.inr (.inr (some 3))]) (by rw [fr1_3 hF]) ?_
  refine x_aload_n (q := 5) dX9_takeText_4 rfl rfl ?_
  refine x_getR (q := 8) dX9_takeText_5 rfl f_9_31 rfl (ft1 hF) ?_
  refine Ex.stk (st' := [.inr (.inr (some (18 - pa))), .inr (.inr (some 3))]) (by rw [show rv G 1 5 = some (18 - pa) from (by first | exact p3 | exact r15 | simp [rv_si, rv_sr, r15])]) ?_
  refine x_aload_n (q := 9) dX9_takeText_8 rfl rfl ?_
  refine x_getR (q := 12) dX9_takeText_9 rfl f_9_9 rfl (ft1 hF) ?_
  refine Ex.stk (st' := [.inr (.inr (some 2)), .inr (.inr (some (18 - pa))), .inr (.inr (some 3))]) (by rw [fr1_0 hF]) ?_
  refine x_aload_n (q := 13) dX9_takeText_12 rfl rfl ?_
  refine x_getI (q := 16) dX9_takeText_13 rfl f_9_90 rfl (ft1 hF) ?_
  refine Ex.stk (st' := [.inl s.1.2.1, .inr (.inr (some 2)), .inr (.inr (some (18 - pa))), .inr (.inr (some 3))]) (by rw [show iv G 1 1 = s.1.2.1 from h2.2.1]) ?_
  refine x_invV (q := 19) (as := [.inr (.inr (some 3)), .inr (.inr (some (18 - pa))), .inr (.inr (some 2)), .inl s.1.2.1]) (rest := []) dX9_takeText_16 rfl l_9_248 m_X6_readInto rfl rfl (ft3 hF) (Nat.le_of_ble_eq_true rfl) (CX.up (d := 0 + 7) (by omega) (c_readInto 0 hF (pb := 18 - pa) (by omega) l0 l1 h2.1 s.2.1.1 s.2.1.2.1)) (fun r1 G1 hZ => ?_)
  obtain ⟨rfl, w1, w2, w3⟩ := hZ
  replace w2 : (rdT s).1 ≠ 0 → iv G1 3 7 = (rdT s).2 := w2
  replace w3 : (rdT s).1 = 0 → RdOk (18 - pa) (lcP s) G1 := w3
  have hx1 := TxI_RcT (by omega) w1
  clear hF
  have hF : FC G1 := FC_tx hx1 hC1.1
  have r14 : rv G1 1 4 = some pa := by rw [w1.1.2.2.1, rv_sr, if_neg (by omega)]; exact p2
  have r15 : rv G1 1 5 = some (18 - pa) := by rw [w1.1.2.2.1, rv_sr, if_neg (by omega)]; exact p3
  refine Ex.stk (st' := [.inl ((rdT s).1)]) rfl ?_
  refine x_istore_n (q := 20) (ls' := [some (.inr (.inr (some 1))), some (.inl ((rdT s).1)), none]) dX9_takeText_19 rfl (Nat.le_of_ble_eq_true rfl) (by first | rfl | exact hnl | exact hnl2 _) rfl ?_
  refine x_aload_n (q := 21) dX9_takeText_20 rfl rfl ?_
  refine x_iconst (q := 22) dX9_takeText_21 rfl (by decide) ?_
  refine x_putI (q := 25) dX9_takeText_22 rfl f_9_90 rfl (fun h => by cases h) (fun h => by cases h) (ft1 hF) ?_
  have hF := FX_si hF 1 1 0
  refine x_iload_n (q := 26) dX9_takeText_25 rfl rfl ?_
  refine x_if_eq (q := 29) (t := 42) dX9_takeText_26 rfl (by decide) (fun h26 => ?_) (fun h26 => ?_)
  · refine x_aload_n (q := 43) dX9_takeText_42 rfl rfl ?_
    refine x_iconst (q := 44) dX9_takeText_43 rfl (by decide) ?_
    refine x_putI (q := 47) dX9_takeText_44 rfl f_9_13 rfl (fun h => by cases h) (fun h => by cases h) (ft1 hF) ?_
    have hF := FX_si hF 1 2 (-1)
    refine x_aload_n (q := 48) dX9_takeText_47 rfl rfl ?_
    refine x_getR (q := 51) dX9_takeText_48 rfl f_9_27 rfl (ft1 hF) ?_
    refine Ex.stk (st' := [.inr (.inr (some pa))]) (by rw [show rv (si (si G1 1 1 0) 1 2 (-1)) 1 4 = some pa from (by first | exact p2 | exact r14 | simp [rv_si, rv_sr, r14])]) ?_
    refine x_astore_n (q := 52) (ls' := [some (.inr (.inr (some 1))), some (.inl ((rdT s).1)), some (.inr (.inr (some pa)))]) dX9_takeText_51 rfl (Nat.le_of_ble_eq_true rfl) (by first | rfl | exact hnl | exact hnl2 _) rfl ?_
    refine x_aload_n (q := 53) dX9_takeText_52 rfl rfl ?_
    refine x_aload_n (q := 54) dX9_takeText_53 rfl rfl ?_
    refine x_getR (q := 57) dX9_takeText_54 rfl f_9_31 rfl (ft1 hF) ?_
    refine Ex.stk (st' := [.inr (.inr (some (18 - pa))), .inr (.inr (some 1))]) (by rw [show rv (si (si G1 1 1 0) 1 2 (-1)) 1 5 = some (18 - pa) from (by first | exact p3 | exact r15 | simp [rv_si, rv_sr, r15])]) ?_
    refine x_putR (q := 60) dX9_takeText_57 rfl f_9_27 rfl (fun h => by cases h) (ft1 hF) ?_
    have hF := FX_sr hF (a := 1) (k := 4) (some (18 - pa)) (by decide)
    refine x_aload_n (q := 61) dX9_takeText_60 rfl rfl ?_
    refine x_aload_n (q := 62) dX9_takeText_61 rfl rfl ?_
    refine x_putR (q := 65) dX9_takeText_62 rfl f_9_31 rfl (fun h => by cases h) (ft1 hF) ?_
    have hF := FX_sr hF (a := 1) (k := 5) (some pa) (by decide)
    refine x_aload_n (q := 66) dX9_takeText_65 rfl rfl ?_
    have hz0 : (rdT s).1 = 0 := by omega
    have hR5 := taken_ok (s := s) hC1 p2 p1 w1 (w3 hz0)
    refine x_invV (q := 69) (as := [.inr (.inr (some 1))]) (rest := []) dX9_takeText_66 rfl l_9_255 m_X9_startAnew rfl rfl (ft1 hF) (Nat.le_of_ble_eq_true rfl) (CX.up (d := 0 + 184) (by omega) (c_startAnew 0 hF (pb := 18 - pa) (by simp [rv_sr, rv_si]) n0 n1 (s := ((s.1.1, 0, -1), lcP s, (fst0 s.2.2.1.1, [], s.2.2.1.2.2.1, s.2.2.1.2.2.2), s.2.2.2.1, s.2.2.2.2)) (Cok_fst0 hcok) hR5)) (fun r1 G2 hZ => ?_)
    obtain ⟨rfl, y1, y2⟩ := hZ
    refine Ex.stk (st' := []) rfl ?_
    refine x_iconst (q := 70) dX9_takeText_69 rfl (by decide) ?_
    refine x_iret dX9_takeText_70 rfl ?_
    have hz0 : (rdT s).1 = 0 := by omega
    refine ⟨by rw [hz0], ?_, (TxI.M (TxI.sr (TxI.sr (TxI.si (TxI.si hx1 1 0 (by omega)) 2 (-1) (by omega)) _ (by omega)) _ (by omega))).trans y2⟩
    unfold o_functions
    rw [if_pos hz0]
    exact y1
  · refine x_aload_n (q := 30) dX9_takeText_29 rfl rfl ?_
    refine x_aload_n (q := 31) dX9_takeText_30 rfl rfl ?_
    refine x_getR (q := 34) dX9_takeText_31 rfl f_9_20 rfl (ft1 hF) ?_
    refine Ex.stk (st' := [.inr (.inr (some 3)), .inr (.inr (some 1))]) (by rw [fr1_3 hF]) ?_
    refine x_getI (q := 37) dX9_takeText_34 rfl f_9_252 rfl (ft3 hF) ?_
    refine Ex.stk (st' := [.inl ((rdT s).2), .inr (.inr (some 1))]) (by rw [show iv (si G1 1 1 0) 3 7 = (rdT s).2 from (by rw [iv_si, if_neg (by omega)]; exact w2 (by omega))]) ?_
    refine x_putI (q := 40) dX9_takeText_37 rfl f_9_13 rfl (fun h => by cases h) (fun h => by cases h) (ft1 hF) ?_
    have hF := FX_si hF 1 2 ((rdT s).2)
    refine x_iload_n (q := 41) dX9_takeText_40 rfl rfl ?_
    refine x_iret dX9_takeText_41 rfl ?_
    have hz0 : (rdT s).1 ≠ 0 := by omega
    have hq := fault_ok (s := s) hC1 p2 p1 w1 (rdT s).2
    refine ⟨rfl, ?_, hq.2⟩
    unfold o_functions
    rw [if_neg hz0]
    exact RC_mono (by omega) hq.1
theorem cc_functions (d : Nat) {n : Int} {s : Sg} {G : Hp} (hR0 : RC n s G) (n0 : 0 ≤ n) (n1 : n ≤ 1000) (hcok : Cok s.2.2.1.1) (l0 : 0 ≤ s.1.2.1) (l1 : s.1.2.1 ≤ 160) : CX (d + 186) 82 [.inr (.inr (some 1))] G (fun r G' => r = some (.inl (o_functions s).1) ∧ RC (n + 1) (o_functions s).2 G' ∧ Sm isM G G') := by
  have hC1 := hR0
  obtain ⟨hF, h2, h3, h4, h5, h6⟩ := hR0
  refine CX.of (d := d + 185) m_X9_functions (Nat.le_of_ble_eq_true rfl) ?_
  refine Ex.lcl (ls' := [some (.inr (.inr (some 1))), none]) rfl ?_
  refine x_aload_n (q := 1) dX9_functions_0 rfl rfl ?_
  refine x_invV (q := 4) (as := [.inr (.inr (some 1))]) (rest := []) dX9_functions_1 rfl l_9_85 m_X9_takeText rfl rfl (ft1 hF) (Nat.le_of_ble_eq_true rfl) (CX.up (d := 0 + 185) (by omega) (c_takeText 0 hC1 n0 n1 hcok l0 l1)) (fun r1 G1 hZ => ?_)
  obtain ⟨rfl, y1, y2⟩ := hZ
  clear hF
  have hF : FC G1 := y1.1
  obtain ⟨pb, b1, b2, b3, b4, b5, b6⟩ := y1.2.2.1
  have hle := rdL_le s.1.1 s.1.2.1.toNat 0 (0, 0, 0, 0, 0)
  have hnn := rdL_nn s.1.1 s.1.2.1.toNat 0 (0, 0, 0, 0, 0)
  replace hle : (rdT s).1 ≤ 4 := hle
  replace hnn : 0 ≤ (rdT s).1 := hnn
  refine Ex.stk (st' := [.inl ((rdT s).1)]) rfl ?_
  refine x_istore_n (q := 5) (ls' := [some (.inr (.inr (some 1))), some (.inl ((rdT s).1))]) dX9_functions_4 rfl (Nat.le_of_ble_eq_true rfl) (by first | rfl | exact hnl | exact hnl2 _) rfl ?_
  refine x_iload_n (q := 6) dX9_functions_5 rfl rfl ?_
  refine x_if_ne (q := 9) (t := 19) dX9_functions_6 rfl (by decide) (fun h6 => ?_) (fun h6 => ?_)
  · refine x_bipush (q := 21) dX9_functions_19 rfl (by decide) ?_
    refine x_iload_n (q := 22) dX9_functions_21 rfl rfl ?_
    refine x_isub (q := 23) (z := (-10) - ((rdT s).1)) dX9_functions_22 rfl (wr_id ⟨by omega, by omega⟩) ?_
    refine x_iret dX9_functions_23 rfl ?_
    refine ⟨vi_eq ?_, y1, y2⟩
    have hz0 : (rdT s).1 ≠ 0 := by omega
    unfold o_functions
    rw [if_neg hz0]
  · refine x_aload_n (q := 10) dX9_functions_9 rfl rfl ?_
    refine x_getR (q := 13) dX9_functions_10 rfl f_9_27 rfl (ft1 hF) ?_
    refine Ex.stk (st' := [.inr (.inr (some pb))]) (by rw [show rv G1 1 4 = some pb from b2]) ?_
    refine x_getI (q := 16) dX9_functions_13 rfl f_9_94 rfl (PGs_FC hF b1).1 ?_
    refine Ex.stk (st' := [.inl ((o_functions s).2.2.1.2.2)]) (by rw [show iv G1 pb 4 = (o_functions s).2.2.1.2.2 from b6.1]) ?_
    refine x_goto (t := 23) dX9_functions_16 (by decide) ?_
    refine x_iret dX9_functions_23 rfl ?_
    refine ⟨vi_eq ?_, y1, y2⟩
    have hz0 : (rdT s).1 = 0 := by omega
    unfold o_functions
    rw [if_pos hz0]
