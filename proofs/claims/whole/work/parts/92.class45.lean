/-! THE CLASS: bring -/
theorem c_brRoot (d : Nat) {n : Int} {s : Sg} {G : Hp} (hR0 : RC n s G) (n0 : 0 ≤ n) (n1 : n ≤ 1000) (t1 : tsz 6 s.2.2.2.2.1 ≤ 364) (hcok : Cok s.2.2.1.1) (hhok : Cok s.2.2.2.2.2.1) (hkp : Kp s.2.1 s.2.2.2.2.2.1 5 s.2.2.2.2.1) (hA : 0 ≤ s.2.2.1.1 8 ∧ s.2.2.1.1 8 < s.2.1.2.2 ∧ 0 ≤ s.2.2.1.1 9 ∧ s.2.2.1.1 9 ≤ 996) {a : Nat} (ha : rv G 17 1 = some a) : CX (d + 181) 27 [.inr (.inr (some 29)), .inr (.inr (some a))] G (fun r G' => ∃ t fs' κ, r = some (.inr (.inr (some (aRt 6 t)))) ∧ RCo s G' ∧ RCk (brC s) (n + 1) t fs' κ G' ∧ Sm isM G G') := by
  have hC1 := hR0
  obtain ⟨hF, h2, h3, h4, h5, h6⟩ := hR0
  have hRo : RCo s G := ⟨hC1.1, hC1.2.1, hC1.2.2.1, hC1.2.2.2.1, hC1.2.2.2.2.1⟩
  obtain ⟨T, fs, κ, c1, c2, c3, c4, c5, c6, c7, c8, c9, c10, c11, c12, c13, c14, c15, c16, c17, c18⟩ := h6
  have ea : a = aRt 6 T := by rw [c3] at ha; exact (Option.some.inj ha).symm
  subst ea
  obtain ⟨b, hb⟩ : ∃ b, iv G 29 5 = b := ⟨_, rfl⟩
  rw [hb] at c2 c13
  have hnF : nF (rt 6 T) = nF (rt 6 s.2.2.2.2.1) := by rw [← c1]; exact (nad_rt 6 T).1.symm
  have hnX : nX (rt 6 T) = nX (rt 6 s.2.2.2.2.1) := by rw [← c1]; exact (nad_rt 6 T).2.1.symm
  have hroot := TA_rt 6 1 T c2
  refine CX.of (d := d + 180) m_X3_broughtRoot (Nat.le_of_ble_eq_true rfl) ?_
  refine Ex.lcl (ls' := [some (.inr (.inr (some 29))), some (.inr (.inr (some (aRt 6 T))))]) rfl ?_
  refine x_aload_n (q := 1) dX3_broughtRoot_0 rfl rfl ?_
  refine x_invV (q := 4) (as := [.inr (.inr (some 29))]) (rest := []) dX3_broughtRoot_1 rfl l_3_35 m_X3_clearCounts rfl rfl (ft29 hF) (Nat.le_of_ble_eq_true rfl) (CX.up (d := 0 + 1) (by omega) (c_clrC 0 hF)) (fun r1 Gz hR => ?_)
  obtain ⟨rfl, hGz⟩ := hR
  subst hGz
  have hF := FX_si (FX_si (FX_si hF 29 7 0) 29 8 0) 29 9 0
  refine Ex.stk (st' := []) rfl ?_
  refine x_aload_n (q := 5) dX3_broughtRoot_4 rfl rfl ?_
  refine x_dup (q := 6) dX3_broughtRoot_5 rfl rfl ?_
  refine x_getI (q := 9) dX3_broughtRoot_6 rfl f_3_38 rfl (ft29 hF) ?_
  refine Ex.stk (st' := [.inl b, .inr (.inr (some 29))]) (by rw [show iv (si (si (si G 29 7 0) 29 8 0) 29 9 0) 29 5 = b from (by rw [iv_si, if_neg (by omega), iv_si, if_neg (by omega), iv_si, if_neg (by omega)]; exact hb)]) ?_
  refine x_iconst (q := 10) dX3_broughtRoot_9 rfl (by decide) ?_
  refine x_iadd (q := 11) (z := b + 1) dX3_broughtRoot_10 rfl (wr_id ⟨by omega, by omega⟩) ?_
  refine x_putI (q := 14) dX3_broughtRoot_11 rfl f_3_38 rfl (fun h => by cases h) (fun h => by cases h) (ft29 hF) ?_
  have hF := FX_si hF 29 5 (b + 1)
  obtain ⟨G2, hG2⟩ : ∃ G2, G2 = (si (si (si (si G 29 7 0) 29 8 0) 29 9 0) 29 5 (b + 1)) := ⟨_, rfl⟩
  rw [← hG2]
  have hio : Io G G2 := by subst hG2; exact ⟨fun _ => rfl, fun _ => rfl, fun _ _ => rfl, rfl, rfl⟩
  have hi : ∀ (a : Nat) (k : Int), a ≠ 29 → iv G2 a k = iv G a k := fun a k h => by subst hG2; rw [iv_si, if_neg (fun z => h z.1), iv_si, if_neg (fun z => h z.1), iv_si, if_neg (fun z => h z.1), iv_si, if_neg (fun z => h z.1)]
  have i5 : iv G2 29 5 = b + 1 := by subst hG2; rw [iv_si, if_pos ⟨rfl, rfl⟩]
  have i3 : iv G2 29 3 = 0 := by subst hG2; rw [iv_si, if_neg (by omega), iv_si, if_neg (by omega), iv_si, if_neg (by omega), iv_si, if_neg (by omega)]; exact c11
  have ict : Ct 29 (s.2.2.2.2.2.2.1, 0, 0, 0) G2 := by
    subst hG2
    refine ⟨?_, ?_, ?_, ?_⟩
    · rw [iv_si, if_neg (by omega), iv_si, if_neg (by omega), iv_si, if_neg (by omega), iv_si, if_neg (by omega)]; exact c9.1
    · rw [iv_si, if_neg (by omega), iv_si, if_neg (by omega), iv_si, if_neg (by omega), iv_si, if_pos ⟨rfl, rfl⟩]; rfl
    · rw [iv_si, if_neg (by omega), iv_si, if_neg (by omega), iv_si, if_pos ⟨rfl, rfl⟩]; rfl
    · rw [iv_si, if_neg (by omega), iv_si, if_pos ⟨rfl, rfl⟩]; rfl
  have hsz2 : sz G2 = sz G := hio.2.2.2.1
  have hsl2 : sl G2 = sl G := hio.2.2.2.2
  obtain ⟨hRo2, hS2⟩ := RCo_Fw' (Fw_of_29 hio hi) (fun b hb => by cases hb) c15 hRo
  have c15' : 62 ≤ sz G2 := by omega
  have hCO2 : ∀ b, CO G b → CO G2 b := fun b hb => ⟨(hio.1 b).trans hb.1, (hio.2.2.1 b 7).trans hb.2.1, (hio.1 _).trans hb.2.2.1, (hio.2.1 _).trans hb.2.2.2⟩
  have hO2 : OkA G2 (adL 6 T ++ fs) := fun b hb => ⟨hCO2 b (c7 b hb).1, (c7 b hb).2.1, by rw [hsz2]; exact (c7 b hb).2.2⟩
  have hT2 : TA G2 s.2.2.2.2.2.1 b 6 1 T := TA_same _ _ T c2 (fun x hx => by
    have ob := c7 x (List.mem_append_left _ hx)
    exact ⟨hCO2 x ob.1, fun k => hi x k (by omega), fun k => hio.2.2.1 x k, fun k => hi _ k (by omega)⟩)
  have hch2 : Chn G2 (rv G2 28 0) fs := by rw [hio.2.2.1]; exact Chn_kept _ _ c6 (fun b _ => hio.2.2.1 b 10)
  have k31 : Ct 31 κ G2 := ⟨(hi 31 _ (by decide)).trans c10.1, (hi 31 _ (by decide)).trans c10.2.1, (hi 31 _ (by decide)).trans c10.2.2.1, (hi 31 _ (by decide)).trans c10.2.2.2⟩
  have j3 : iv G2 31 3 = 0 := (hi 31 3 (by decide)).trans c12
  have j5 : iv G2 31 5 = 0 := (hi 31 5 (by decide)).trans c14
  have hPok : Pok s.2.1 := by obtain ⟨pa, q1, q2, q3, q4, q5, q6⟩ := hRo.2.2.1; exact (RdOk_PgC q6).2
  have hsN : tsz 6 (newN s) ≤ 364 := fr_size hPok hcok 5 _ _ hA.1 hA.2.1 hA.2.2.1 hA.2.2.2
  have hmd : (brC s).2.2.2.1 ≤ 364 := by
    have h := upT_cnt s.2.2.2.2.2.1 s.2.2.1.1 6 (olT s.2.2.2.2 s.2.2.1) (newN s) (s.2.2.2.2.2.2.1, 0, 0)
    have h2 := h.2.2.2.2.1
    show (upT s.2.2.2.2.2.1 s.2.2.1.1 6 (olT s.2.2.2.2 s.2.2.1) (newN s) (s.2.2.2.2.2.2.1, 0, 0)).2.2.1 ≤ 364
    dsimp only at h2
    omega
  clear hF
  have hF : FC G2 := hRo2.1
  have hrow := hRo2.2.2.2.1
  refine x_aload_n (q := 15) dX3_broughtRoot_14 rfl rfl ?_
  refine x_ifnull (q := 18) (t := 46) dX3_broughtRoot_15 rfl (by decide) (fun h15 => by exfalso; cases h15) (fun a15 h15 => ?_)
  refine x_aload_n (q := 19) dX3_broughtRoot_18 rfl rfl ?_
  refine x_aload_n (q := 20) dX3_broughtRoot_19 rfl rfl ?_
  refine x_getR (q := 23) dX3_broughtRoot_20 rfl f_3_15 rfl (ft29 hF) ?_
  refine Ex.stk (st' := [.inr (.inr (some 15)), .inr (.inr (some (aRt 6 T)))]) (by rw [fr29_0 hF]) ?_
  refine x_getI (q := 26) dX3_broughtRoot_23 rfl f_3_41 rfl (ft15 hF) ?_
  refine Ex.stk (st' := [.inl (s.2.2.1.1 8), .inr (.inr (some (aRt 6 T)))]) (by rw [show iv G2 15 1 = s.2.2.1.1 8 from hrow.2.1]) ?_
  refine x_aload_n (q := 27) dX3_broughtRoot_26 rfl rfl ?_
  refine x_getR (q := 30) dX3_broughtRoot_27 rfl f_3_15 rfl (ft29 hF) ?_
  refine Ex.stk (st' := [.inr (.inr (some 15)), .inl (s.2.2.1.1 8), .inr (.inr (some (aRt 6 T)))]) (by rw [fr29_0 hF]) ?_
  refine x_getI (q := 33) dX3_broughtRoot_30 rfl f_3_46 rfl (ft15 hF) ?_
  refine Ex.stk (st' := [.inl (s.2.2.1.1 9), .inl (s.2.2.1.1 8), .inr (.inr (some (aRt 6 T)))]) (by rw [show iv G2 15 2 = s.2.2.1.1 9 from hrow.2.2.1]) ?_
  refine x_invV (q := 36) (as := [.inr (.inr (some (aRt 6 T))), .inl (s.2.2.1.1 8), .inl (s.2.2.1.1 9)]) (rest := []) dX3_broughtRoot_33 rfl l_3_49 m_X1_isOf rfl rfl (hCO2 _ hroot.1).1 (Nat.le_of_ble_eq_true rfl) (CX.up (d := 0 + 1) (by omega) (c_isOf 0 (a := aRt 6 T) (f1 := nF (rt 6 s.2.2.2.2.1)) (x1 := nX (rt 6 s.2.2.2.2.1)) (hCO2 _ hroot.1) (((TA_rt 6 1 T hT2).2.1).trans hnF) (((TA_rt 6 1 T hT2).2.2.1).trans hnX))) (fun r1 Gz hR => ?_)
  obtain ⟨hGz, z33, rfl, y1, y2⟩ := hR
  replace hGz := hGz.symm
  subst hGz
  refine Ex.stk (st' := [.inl z33]) rfl ?_
  refine x_if_eq (q := 39) (t := 46) dX3_broughtRoot_36 rfl (by decide) (fun h36 => ?_) (fun h36 => ?_)
  · refine x_aload_n (q := 47) dX3_broughtRoot_46 rfl rfl ?_
    refine x_aload_n (q := 48) dX3_broughtRoot_47 rfl rfl ?_
    refine x_invV (q := 51) (as := [.inr (.inr (some 29)), .inr (.inr (some (aRt 6 T)))]) (rest := []) dX3_broughtRoot_48 rfl l_3_59 m_X3_letGoWithAll rfl rfl (ft29 hF) (Nat.le_of_ble_eq_true rfl) (CX.up (d := 0 + 13) (by omega) (c_lgAll 0 (mk := 29) (t := T) (g := 0) ⟨ft29 hF, fr29_1 hF, ft28 hF, Or.inl rfl⟩ (TA_TS 6 1 T hT2) hch2 hO2 c8 (by exact ict.2.2.2))) (fun r1 G3 hR => ?_)
    obtain ⟨rfl, fs3, l1, l2, l3, l4⟩ := hR
    have hOT : OkA G2 (adL 6 T) := fun b hb => hO2 b (List.mem_append_left _ hb)
    obtain ⟨hRo3, hS3⟩ := RCo_Fw' (Fw_of_Lg (Or.inl rfl) l4) hOT c15' hRo2
    have hsz3 : sz G3 = sz G := l4.1.trans hsz2
    have hsl3 : sl G3 = sl G := l4.2.1.trans hsl2
    have hO3 : OkA G3 fs3 := fun x hx => OkA_Lg l4 hO2 x (l2.mem_iff.mp hx)
    have hnd3 : fs3.Nodup := l2.nodup_iff.mpr c8
    have hi3 : ∀ (a : Nat) (k : Int), ¬ (a = 29 ∧ k = 9) → iv G3 a k = iv G2 a k := fun a k h => by
      rcases l4.2.2.2.2 a k with g | g
      · exact g
      · exact absurd g h
    have ict3 : Ct 29 (s.2.2.2.2.2.2.1, 0, 0, 0 + (tsz 6 s.2.2.2.2.1 : Int)) G3 := ⟨(hi3 29 6 (by omega)).trans ict.1, (hi3 29 7 (by omega)).trans ict.2.1, (hi3 29 8 (by omega)).trans ict.2.2.1, by rw [← c1, nad_tsz]; exact l3⟩
    clear hF
    have hF : FC G3 := hRo3.1
    have hrow := hRo3.2.2.2.1
    refine Ex.stk (st' := []) rfl ?_
    refine x_aload_n (q := 52) dX3_broughtRoot_51 rfl rfl ?_
    refine x_aload_n (q := 53) dX3_broughtRoot_52 rfl rfl ?_
    refine x_getR (q := 56) dX3_broughtRoot_53 rfl f_3_15 rfl (ft29 hF) ?_
    refine Ex.stk (st' := [.inr (.inr (some 15)), .inr (.inr (some 29))]) (by rw [fr29_0 hF]) ?_
    refine x_getI (q := 59) dX3_broughtRoot_56 rfl f_3_41 rfl (ft15 hF) ?_
    refine Ex.stk (st' := [.inl (s.2.2.1.1 8), .inr (.inr (some 29))]) (by rw [show iv G3 15 1 = s.2.2.1.1 8 from hrow.2.1]) ?_
    refine x_aload_n (q := 60) dX3_broughtRoot_59 rfl rfl ?_
    refine x_getR (q := 63) dX3_broughtRoot_60 rfl f_3_15 rfl (ft29 hF) ?_
    refine Ex.stk (st' := [.inr (.inr (some 15)), .inl (s.2.2.1.1 8), .inr (.inr (some 29))]) (by rw [fr29_0 hF]) ?_
    refine x_getI (q := 66) dX3_broughtRoot_63 rfl f_3_46 rfl (ft15 hF) ?_
    refine Ex.stk (st' := [.inl (s.2.2.1.1 9), .inl (s.2.2.1.1 8), .inr (.inr (some 29))]) (by rw [show iv G3 15 2 = s.2.2.1.1 9 from hrow.2.2.1]) ?_
    refine x_iconst (q := 67) dX3_broughtRoot_66 rfl (by decide) ?_
    have hnf : ¬ (nF (rt 6 s.2.2.2.2.1) = s.2.2.1.1 8 ∧ nX (rt 6 s.2.2.2.2.1) = s.2.2.1.1 9) := fun h => by have := y2.mpr h; omega
    obtain ⟨pa, e1, e2, hW, hpg, hP⟩ := WE_o hRo3 (by omega) (mk := 29) (sk := 30) (Or.inl ⟨rfl, rfl⟩)
    rw [show iv G3 29 5 = b + 1 from (hi3 29 5 (by omega)).trans i5] at hW
    have hB := (all_lv (mk := 29) (sk := 30) (pa := pa) (h := s.2.2.2.2.2.1) hP hcok hpg (show (0 : Int) ≤ b + 1 by omega) 5).1
    refine x_invV (q := 70) (as := [.inr (.inr (some 29)), .inl (s.2.2.1.1 8), .inl (s.2.2.1.1 9), .inl 1]) (rest := []) dX3_broughtRoot_67 rfl l_3_31 m_X3_make rfl rfl (ft29 hF) (Nat.le_of_ble_eq_true rfl) (CX.up (d := 30 * (5 + 1)) (by omega) (hB G3 _ _ 1 (s.2.2.2.2.2.2.1, 0, 0, 0 + (tsz 6 s.2.2.2.2.1 : Int)) fs3 0 hW l1 hO3 hnd3 ict3 ((hi3 29 3 (by omega)).trans i3) (by decide) (by decide) (by decide) hA.1 hA.2.1 hA.2.2.1 hA.2.2.2)) (fun r1 G4 hR => ?_)
    obtain ⟨t, fs', cr, rfl, g1, g2, g3⟩ := hR
    obtain ⟨pp1, pp2⟩ := mk_pure hP hhok hcok hA hnf
    obtain ⟨f1, f2, f3⟩ := bring_fin (tc := brC s) (n := n) (β := b + 1) (L := []) (κ31 := κ) hRo3 hO3 (by omega) ((hi3 29 5 (by omega)).trans i5) (by omega) (by omega) ⟨(hi3 31 _ (by omega)).trans k31.1, (hi3 31 _ (by omega)).trans k31.2.1, (hi3 31 _ (by omega)).trans k31.2.2.1, (hi3 31 _ (by omega)).trans k31.2.2.2⟩ ((hi3 31 3 (by omega)).trans j3) ((hi3 31 5 (by omega)).trans j5) (by rw [List.nil_append, l2.length_eq]; exact c16) (by rw [List.nil_append, l2.length_eq, hsz3]; exact c17) (by rw [List.nil_append, l2.length_eq, hsl3]; exact c18) g2 (g1.trans pp1) pp2 (by rw [pp2]; show (brC s).2.2.2.1 - 0 ≤ 364; omega)
    refine Ex.stk (st' := [.inr (.inr (some (aRt 6 t)))]) rfl ?_
    refine x_aret dX3_broughtRoot_70 rfl ?_
    exact ⟨t, fs', κ, rfl, f1, f2, (hS2.trans hS3).trans f3⟩
  · refine x_aload_n (q := 40) dX3_broughtRoot_39 rfl rfl ?_
    refine x_aload_n (q := 41) dX3_broughtRoot_40 rfl rfl ?_
    obtain ⟨hf1, hx1⟩ := y2.mp (by omega)
    obtain ⟨pa, e1, e2, hW, hpg, hP⟩ := WE_o hRo2 c15' (mk := 29) (sk := 30) (Or.inl ⟨rfl, rfl⟩)
    rw [i5] at hW
    have hnn : nad 6 s.2.2.2.2.1 = s.2.2.2.2.1 := by rw [← c1]; exact nad_nad 6 T
    have hgd : Gd s.2.1 6 T := (Gd_nad 6 T).mp (by rw [c1]; exact Kp_Gd hP hhok 5 _ hkp)
    have hB := (all_lv (mk := 29) (sk := 30) (pa := pa) (h := s.2.2.2.2.2.1) hP hcok hpg (show (0 : Int) ≤ b + 1 by omega) 5).2
    refine x_invV (q := 44) (as := [.inr (.inr (some 29)), .inr (.inr (some (aRt 6 T)))]) (rest := []) dX3_broughtRoot_41 rfl l_3_55 m_X3_bringUp rfl rfl (ft29 hF) (Nat.le_of_ble_eq_true rfl) (CX.up (d := 30 * (5 + 1)) (by omega) (hB G2 T 1 (s.2.2.2.2.2.2.1, 0, 0, 0) fs 0 hW (by rw [show b + 1 - 1 = b by omega]; exact hT2) hgd hch2 hO2 c8 ict i3 (by decide) (by decide) (by decide))) (fun r1 G3 hR => ?_)
    obtain ⟨rfl, t, fs', cr, g1, g2, g3, g4, g5⟩ := hR
    obtain ⟨pp1, pp2⟩ := br_pure hP hhok hcok hkp hnn hf1 hx1
    rw [show nad (5 + 1) T = s.2.2.2.2.1 from c1] at g1 g2
    obtain ⟨f1, f2, f3⟩ := bring_fin (tc := brC s) (n := n) (β := b + 1) hRo2 hO2 c15' i5 (by omega) (by omega) k31 j3 j5 (by exact c16) (by rw [hsz2]; exact c17) (by rw [hsl2]; exact c18) g2 (g1.trans pp1) pp2 (by rw [pp2]; show (brC s).2.2.2.1 - 0 ≤ 364; omega)
    refine Ex.stk (st' := []) rfl ?_
    refine x_aload_n (q := 45) dX3_broughtRoot_44 rfl rfl ?_
    refine x_aret dX3_broughtRoot_45 rfl ?_
    exact ⟨t, fs', κ, by rw [show aRt 6 t = aRt 6 T from g3], f1, f2, hS2.trans f3⟩
theorem cc_bring (d : Nat) {n : Int} {s : Sg} {G : Hp} (hR0 : RC n s G) (n0 : 0 ≤ n) (n1 : n ≤ 1000) (t1 : tsz 6 s.2.2.2.2.1 ≤ 364) (hcok : Cok s.2.2.1.1) (hhok : Cok s.2.2.2.2.2.1) (hkp : Kp s.2.1 s.2.2.2.2.2.1 5 s.2.2.2.2.1) (hA : 0 ≤ s.2.2.1.1 8 ∧ s.2.2.1.1 8 < s.2.1.2.2 ∧ 0 ≤ s.2.2.1.1 9 ∧ s.2.2.1.1 9 ≤ 996) : CX (d + 182) 90 [.inr (.inr (some 1))] G (fun r G' => r = some (.inl (m_bring s).1) ∧ RC (n + 1) (m_bring s).2 G' ∧ Sm isM G G') := by
  have hC1 := hR0
  obtain ⟨hF, h2, h3, h4, h5, h6⟩ := hR0
  obtain ⟨T, fs, κ, c1, c2, c3, -⟩ := h6
  obtain ⟨pa, e1, e2, hW, hpg, hP⟩ := WE_RC hC1 (mk := 29) (sk := 30) (Or.inl ⟨rfl, rfl⟩)
  have hsN : tsz 6 (newN s) ≤ 364 := fr_size hP hcok 5 _ _ hA.1 hA.2.1 hA.2.2.1 hA.2.2.2
  have hup := upT_cnt s.2.2.2.2.2.1 s.2.2.1.1 6 (olT s.2.2.2.2 s.2.2.1) (newN s) (s.2.2.2.2.2.2.1, 0, 0)
  have hbz : tsz 6 (brC s).1 ≤ 364 := by
    show tsz 6 (upT s.2.2.2.2.2.1 s.2.2.1.1 6 (olT s.2.2.2.2 s.2.2.1) (newN s) (s.2.2.2.2.2.2.1, 0, 0)).1 ≤ 364
    rw [hup.1]; exact hsN
  refine CX.of (d := d + 181) m_X9_bring (Nat.le_of_ble_eq_true rfl) ?_
  refine Ex.lcl (ls' := [some (.inr (.inr (some 1)))]) rfl ?_
  refine x_aload_n (q := 1) dX9_bring_0 rfl rfl ?_
  refine x_getR (q := 4) dX9_bring_1 rfl f_9_44 rfl (ft1 hF) ?_
  refine Ex.stk (st' := [.inr (.inr (some 17))]) (by rw [fr1_9 hF]) ?_
  refine x_aload_n (q := 5) dX9_bring_4 rfl rfl ?_
  refine x_getR (q := 8) dX9_bring_5 rfl f_9_74 rfl (ft1 hF) ?_
  refine Ex.stk (st' := [.inr (.inr (some 29)), .inr (.inr (some 17))]) (by rw [fr1_7 hF]) ?_
  refine x_aload_n (q := 9) dX9_bring_8 rfl rfl ?_
  refine x_getR (q := 12) dX9_bring_9 rfl f_9_44 rfl (ft1 hF) ?_
  refine Ex.stk (st' := [.inr (.inr (some 17)), .inr (.inr (some 29)), .inr (.inr (some 17))]) (by rw [fr1_9 hF]) ?_
  refine x_getR (q := 15) dX9_bring_12 rfl f_9_212 rfl (ft17 hF) ?_
  refine Ex.stk (st' := [.inr (.inr (some (aRt 6 T))), .inr (.inr (some 29)), .inr (.inr (some 17))]) (by rw [show rv G 17 1 = some (aRt 6 T) from (by first | exact c3 | simp [rv_sr, rv_si, rv_nw, c3])]) ?_
  refine x_invV (q := 18) (as := [.inr (.inr (some 29)), .inr (.inr (some (aRt 6 T)))]) (rest := [.inr (.inr (some 17))]) dX9_bring_15 rfl l_9_216 m_X3_broughtRoot rfl rfl (ft29 hF) (Nat.le_of_ble_eq_true rfl) (CX.up (d := 0 + 181) (by omega) (c_brRoot 0 hC1 n0 n1 t1 hcok hhok hkp hA c3)) (fun r1 G1 hR => ?_)
  obtain ⟨t, fs', κ1, rfl, f1, f2, f3⟩ := hR
  clear hF
  have hF : FC G1 := f1.1
  refine Ex.stk (st' := [.inr (.inr (some (aRt 6 t))), .inr (.inr (some 17))]) rfl ?_
  have htz : tsz 6 t ≤ 364 := by rw [← nad_tsz, f2.1]; exact hbz
  refine x_invV (q := 21) (as := [.inr (.inr (some 17)), .inr (.inr (some (aRt 6 t)))]) (rest := []) dX9_bring_18 rfl l_9_220 m_X8_list rfl rfl (ft17 hF) (Nat.le_of_ble_eq_true rfl) (CX.up (d := 0 + 8) (by omega) (c_list 0 hF (TA_TS 6 1 t f2.2.1) (List.nodup_append.mp f2.2.2.2.2.1).1 (fun b hb => by have := (f2.2.2.2.1 b (List.mem_append_left _ hb)).2.1; omega) htz)) (fun r1 G2 hR => ?_)
  obtain ⟨rfl, g1, g2, g3⟩ := hR
  obtain ⟨q1, q2⟩ := list_ok f1 f2 g1 g2 g3
  clear hF
  have hF : FC G2 := q1.1
  refine Ex.stk (st' := []) rfl ?_
  refine x_aload_n (q := 22) dX9_bring_21 rfl rfl ?_
  refine x_getR (q := 25) dX9_bring_22 rfl f_9_44 rfl (ft1 hF) ?_
  refine Ex.stk (st' := [.inr (.inr (some 17))]) (by rw [fr1_9 hF]) ?_
  refine x_invV (q := 28) (as := [.inr (.inr (some 17))]) (rest := []) dX9_bring_25 rfl l_9_97 m_X8_rootTells rfl rfl (ft17 hF) (Nat.le_of_ble_eq_true rfl) (CX.up (d := 0 + 1) (by omega) (c_rtTells 0 q1 hbz)) (fun r1 Gz hR => ?_)
  obtain ⟨rfl, hGz⟩ := hR
  replace hGz := hGz.symm
  subst hGz
  refine Ex.stk (st' := [.inl (nV (rt 6 (brC s).1))]) rfl ?_
  refine x_iret dX9_bring_28 rfl ?_
  exact ⟨vi_eq (up_nV _ _ _ _ _ _).1, q1, f3.trans q2⟩
