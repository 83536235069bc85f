/-! THE CLASS: the first that is wrong -/
theorem wrongC_loop {d : Nat} {n : Int} {s : Sg} {G0 : Hp} {Q : Option V → Hp → Prop} (n0 : 0 ≤ n) (t1 : tsz 6 s.2.2.2.2.1 ≤ 364) (hcok : Cok s.2.2.1.1) (hb : s.2.2.2.1.length ≤ 20) (hbk : ∀ e ∈ s.2.2.2.1, 0 ≤ e.1 ∧ 0 ≤ e.2.1 ∧ e.2.1 ≤ 996) (kk : ∀ G', RC n s G' → Sm isM G0 G' → Q (some (.inl (wrF s.2.1 s.2.2.1.1 s.2.2.2.1 0))) G') : ∀ (l : Bk) (i : Nat) (G : Hp) (l2 l3 : Option V), isL l2 = false → isL l3 = false → s.2.2.2.1.drop i = l → i + l.length = s.2.2.2.1.length → RC n s G → Sm isM G0 G → wrF s.2.1 s.2.2.1.1 l (i : Int) = wrF s.2.1 s.2.2.1.1 s.2.2.2.1 0 → Ex (d + 182) (some .int) 9 false cX9_firstWrong 2 [some (.inr (.inr (some 1))), some (.inl (i : Int)), l2, l3] [] G Q := by
  intro l
  induction l with
  | nil =>
    intro i G l2 l3 hn2 hn3 hd hl hR0 hS hw
    have hF := hR0.1
    have hn : iv G 23 3 = (s.2.2.2.1.length : Int) := hR0.2.2.2.2.1.1
    simp only [List.length_nil] at hl
    refine x_iload_n (q := 3) dX9_firstWrong_2 rfl rfl ?_
    refine x_aload_n (q := 4) dX9_firstWrong_3 rfl rfl ?_
    refine x_getR (q := 7) dX9_firstWrong_4 rfl f_9_58 rfl (ft1 hF) ?_
    refine Ex.stk (st' := [.inr (.inr (some 23)), .inl (i : Int)]) (by rw [fr1_11 hF]) ?_
    refine x_getI (q := 10) dX9_firstWrong_7 rfl f_9_142 rfl (ft23 hF) ?_
    refine Ex.stk (st' := [.inl (s.2.2.2.1.length : Int), .inl (i : Int)]) (by rw [show iv G 23 3 = (s.2.2.2.1.length : Int) from hn]) ?_
    refine x_icmp_ge (q := 13) (t := 71) dX9_firstWrong_10 rfl (by decide) (fun h10 => ?_) (fun h10 => by exfalso; omega)
    refine x_iconst (q := 72) dX9_firstWrong_71 rfl (by decide) ?_
    refine x_iret dX9_firstWrong_72 rfl ?_
    rw [show (-1 : Int) = wrF s.2.1 s.2.2.1.1 s.2.2.2.1 0 from hw]; exact kk G hR0 hS
  | cons e l ih =>
    intro i G l2 l3 hn2 hn3 hd hl hR0 hS hw
    have hF := hR0.1
    have hn : iv G 23 3 = (s.2.2.2.1.length : Int) := hR0.2.2.2.2.1.1
    rw [List.length_cons] at hl
    have hg : s.2.2.2.1[i]? = some e := by
      have h := List.getElem?_drop (xs := s.2.2.2.1) (i := i) (j := 0)
      rw [hd] at h; exact h.symm
    have he := hbk e (List.mem_of_getElem? hg)
    have hd2 : s.2.2.2.1.drop (i + 1) = l := by rw [← List.drop_drop, hd]; rfl
    have vF : iv G 24 (i : Int) = e.1 := (hR0.2.2.2.2.1.2 i e hg).1
    have vA : iv G 25 (i : Int) = e.2.1 := (hR0.2.2.2.2.1.2 i e hg).2.1
    have vT : iv G 26 (i : Int) = e.2.2 := (hR0.2.2.2.2.1.2 i e hg).2.2
    have hS2 := hS
    have hR1 := hR0
    obtain ⟨pa, p1, p2, p3, p4, p5, p6⟩ := hR0.2.2.1
    have hnl : noL [some (.inr (.inr (some 1))), some (.inl (i : Int)), l2, l3] = true := by simp [noL, isL]; exact ⟨hn2, hn3⟩
    have hnl2 : ∀ x : Int, noL [some (.inr (.inr (some 1))), some (.inl (i : Int)), some (.inl x), l3] = true := fun x => by simp [noL, isL]; exact hn3
    simp only [wrF] at hw
    refine x_iload_n (q := 3) dX9_firstWrong_2 rfl rfl ?_
    refine x_aload_n (q := 4) dX9_firstWrong_3 rfl rfl ?_
    refine x_getR (q := 7) dX9_firstWrong_4 rfl f_9_58 rfl (ft1 hF) ?_
    refine Ex.stk (st' := [.inr (.inr (some 23)), .inl (i : Int)]) (by rw [fr1_11 hF]) ?_
    refine x_getI (q := 10) dX9_firstWrong_7 rfl f_9_142 rfl (ft23 hF) ?_
    refine Ex.stk (st' := [.inl (s.2.2.2.1.length : Int), .inl (i : Int)]) (by rw [show iv G 23 3 = (s.2.2.2.1.length : Int) from hn]) ?_
    refine x_icmp_ge (q := 13) (t := 71) dX9_firstWrong_10 rfl (by decide) (fun h10 => by exfalso; omega) (fun h10 => ?_)
    refine x_aload_n (q := 14) dX9_firstWrong_13 rfl rfl ?_
    refine x_getR (q := 17) dX9_firstWrong_14 rfl f_9_58 rfl (ft1 hF) ?_
    refine Ex.stk (st' := [.inr (.inr (some 23))]) (by rw [fr1_11 hF]) ?_
    refine x_iload_n (q := 18) dX9_firstWrong_17 rfl rfl ?_
    refine x_invV (q := 21) (as := [.inr (.inr (some 23)), .inl (i : Int)]) (rest := []) dX9_firstWrong_18 rfl l_9_279 m_X0_functionAt rfl rfl (ft23 hF) (Nat.le_of_ble_eq_true rfl) (CX.up (d := 0 + 2) (by omega) (c_bkF 0 hF hn (by omega) (by omega) (by omega) vF)) (fun r1 Gz hR => ?_)
    obtain ⟨rfl, hGz⟩ := hR
    replace hGz := hGz.symm
    subst hGz
    refine Ex.stk (st' := [.inl e.1]) rfl ?_
    refine x_istore_n (q := 22) (ls' := [some (.inr (.inr (some 1))), some (.inl (i : Int)), some (.inl e.1), l3]) dX9_firstWrong_21 rfl (Nat.le_of_ble_eq_true rfl) (by first | rfl | exact hnl | exact hnl2 _) rfl ?_
    refine x_aload_n (q := 23) dX9_firstWrong_22 rfl rfl ?_
    refine x_getR (q := 26) dX9_firstWrong_23 rfl f_9_27 rfl (ft1 hF) ?_
    refine Ex.stk (st' := [.inr (.inr (some pa))]) (by rw [show rv G 1 4 = some pa from p2]) ?_
    refine x_iload_n (q := 27) dX9_firstWrong_26 rfl rfl ?_
    refine x_invV (q := 30) (as := [.inr (.inr (some pa)), .inl e.1]) (rest := []) dX9_firstWrong_27 rfl l_9_205 m_X5_tellsOf rfl rfl (PGs_FC hF p1).1 (Nat.le_of_ble_eq_true rfl) (c_tellsOf _ (PGs_FC hF p1) p6.1) (fun r1 G1 hR => ?_)
    obtain ⟨hG1, z27, rfl, z27a, z27b⟩ := hR
    replace hG1 := hG1.symm
    subst hG1
    refine Ex.stk (st' := [.inl z27]) rfl ?_
    refine x_if_eq (q := 33) (t := 49) dX9_firstWrong_30 rfl (by decide) (fun h30 => ?_) (fun h30 => ?_)
    · refine x_iconst (q := 50) dX9_firstWrong_49 rfl (by decide) ?_
      refine x_istore_n (q := 51) (ls' := [some (.inr (.inr (some 1))), some (.inl (i : Int)), some (.inl e.1), some (.inl 0)]) dX9_firstWrong_50 rfl (Nat.le_of_ble_eq_true rfl) (by first | rfl | exact hnl | exact hnl2 _) rfl ?_
      refine x_iload_n (q := 52) dX9_firstWrong_51 rfl rfl ?_
      refine x_aload_n (q := 53) dX9_firstWrong_52 rfl rfl ?_
      refine x_getR (q := 56) dX9_firstWrong_53 rfl f_9_58 rfl (ft1 hF) ?_
      refine Ex.stk (st' := [.inr (.inr (some 23)), .inl 0]) (by rw [fr1_11 hF]) ?_
      refine x_iload_n (q := 57) dX9_firstWrong_56 rfl rfl ?_
      refine x_invV (q := 60) (as := [.inr (.inr (some 23)), .inl (i : Int)]) (rest := [.inl 0]) dX9_firstWrong_57 rfl l_9_285 m_X0_tellingAt rfl rfl (ft23 hF) (Nat.le_of_ble_eq_true rfl) (CX.up (d := 0 + 2) (by omega) (c_bkT 0 hF hn (by omega) (by omega) (by omega) vT)) (fun r1 Gz hR => ?_)
      obtain ⟨rfl, hGz⟩ := hR
      replace hGz := hGz.symm
      subst hGz
      refine Ex.stk (st' := [.inl e.2.2, .inl 0]) rfl ?_
      refine x_icmp_eq (q := 63) (t := 65) dX9_firstWrong_60 rfl (by decide) (fun h60 => ?_) (fun h60 => ?_)
      · refine x_iinc (q := 68) (ls' := [some (.inr (.inr (some 1))), some (.inl ((i : Int) + 1)), some (.inl e.1), some (.inl 0)]) dX9_firstWrong_65 rfl rfl (by first | rfl | exact hnl | exact hnl2 _) (by rw [show wr ((i : Int) + 1) = (i : Int) + 1 from (wr_id ⟨by omega, by omega⟩)]; rfl) ?_
        refine x_goto (t := 2) dX9_firstWrong_68 (by decide) ?_
        rw [if_neg (show ¬ e.1 < s.2.1.2.2 from fun q => by have := z27b.mpr ⟨he.1, q⟩; omega), if_pos (by omega)] at hw
        exact ih (i + 1) G _ _ rfl rfl hd2 (by omega) hR1 hS2 hw
      · refine x_iload_n (q := 64) dX9_firstWrong_63 rfl rfl ?_
        refine x_iret dX9_firstWrong_64 rfl ?_
        rw [if_neg (show ¬ e.1 < s.2.1.2.2 from fun q => by have := z27b.mpr ⟨he.1, q⟩; omega), if_neg (by omega)] at hw
        rw [hw]; exact kk G hR1 hS2
    · refine x_aload_n (q := 34) dX9_firstWrong_33 rfl rfl ?_
      refine x_iload_n (q := 35) dX9_firstWrong_34 rfl rfl ?_
      refine x_aload_n (q := 36) dX9_firstWrong_35 rfl rfl ?_
      refine x_getR (q := 39) dX9_firstWrong_36 rfl f_9_58 rfl (ft1 hF) ?_
      refine Ex.stk (st' := [.inr (.inr (some 23)), .inl e.1, .inr (.inr (some 1))]) (by rw [fr1_11 hF]) ?_
      refine x_iload_n (q := 40) dX9_firstWrong_39 rfl rfl ?_
      refine x_invV (q := 43) (as := [.inr (.inr (some 23)), .inl (i : Int)]) (rest := [.inl e.1, .inr (.inr (some 1))]) dX9_firstWrong_40 rfl l_9_282 m_X0_argumentAt rfl rfl (ft23 hF) (Nat.le_of_ble_eq_true rfl) (CX.up (d := 0 + 2) (by omega) (c_bkA 0 hF hn (by omega) (by omega) (by omega) vA)) (fun r1 Gz hR => ?_)
      obtain ⟨rfl, hGz⟩ := hR
      replace hGz := hGz.symm
      subst hGz
      refine Ex.stk (st' := [.inl e.2.1, .inl e.1, .inr (.inr (some 1))]) rfl ?_
      refine x_invV (q := 46) (as := [.inr (.inr (some 1)), .inl e.1, .inl e.2.1]) (rest := []) dX9_firstWrong_43 rfl l_9_109 m_X9_tellingByItself rfl rfl (ft1 hF) (Nat.le_of_ble_eq_true rfl) (CX.up (d := 0 + 182) (by omega) (c_tbi 0 hR0 n0 t1 hcok he.1 (z27b.mp (by omega)).2 he.2.1 he.2.2)) (fun r1 G1 hR => ?_)
      obtain ⟨rfl, hR1, hS1⟩ := hR
      have hS2 := hS.trans hS1
      have hF : FC G1 := hR1.1
      have hn : iv G1 23 3 = (s.2.2.2.1.length : Int) := hR1.2.2.2.2.1.1
      have vT : iv G1 26 (i : Int) = e.2.2 := (hR1.2.2.2.2.1.2 i e hg).2.2
      refine Ex.stk (st' := [.inl (nV (rt 6 (fr s.2.1 s.2.2.1.1 5 e.1 e.2.1)))]) rfl ?_
      refine x_goto (t := 50) dX9_firstWrong_46 (by decide) ?_
      refine x_istore_n (q := 51) (ls' := [some (.inr (.inr (some 1))), some (.inl (i : Int)), some (.inl e.1), some (.inl (nV (rt 6 (fr s.2.1 s.2.2.1.1 5 e.1 e.2.1))))]) dX9_firstWrong_50 rfl (Nat.le_of_ble_eq_true rfl) (by first | rfl | exact hnl | exact hnl2 _) rfl ?_
      refine x_iload_n (q := 52) dX9_firstWrong_51 rfl rfl ?_
      refine x_aload_n (q := 53) dX9_firstWrong_52 rfl rfl ?_
      refine x_getR (q := 56) dX9_firstWrong_53 rfl f_9_58 rfl (ft1 hF) ?_
      refine Ex.stk (st' := [.inr (.inr (some 23)), .inl (nV (rt 6 (fr s.2.1 s.2.2.1.1 5 e.1 e.2.1)))]) (by rw [fr1_11 hF]) ?_
      refine x_iload_n (q := 57) dX9_firstWrong_56 rfl rfl ?_
      refine x_invV (q := 60) (as := [.inr (.inr (some 23)), .inl (i : Int)]) (rest := [.inl (nV (rt 6 (fr s.2.1 s.2.2.1.1 5 e.1 e.2.1)))]) dX9_firstWrong_57 rfl l_9_285 m_X0_tellingAt rfl rfl (ft23 hF) (Nat.le_of_ble_eq_true rfl) (CX.up (d := 0 + 2) (by omega) (c_bkT 0 hF hn (by omega) (by omega) (by omega) vT)) (fun r1 Gz hR => ?_)
      obtain ⟨rfl, hGz⟩ := hR
      replace hGz := hGz.symm
      subst hGz
      refine Ex.stk (st' := [.inl e.2.2, .inl (nV (rt 6 (fr s.2.1 s.2.2.1.1 5 e.1 e.2.1)))]) rfl ?_
      refine x_icmp_eq (q := 63) (t := 65) dX9_firstWrong_60 rfl (by decide) (fun h60 => ?_) (fun h60 => ?_)
      · refine x_iinc (q := 68) (ls' := [some (.inr (.inr (some 1))), some (.inl ((i : Int) + 1)), some (.inl e.1), some (.inl (nV (rt 6 (fr s.2.1 s.2.2.1.1 5 e.1 e.2.1))))]) dX9_firstWrong_65 rfl rfl (by first | rfl | exact hnl | exact hnl2 _) (by rw [show wr ((i : Int) + 1) = (i : Int) + 1 from (wr_id ⟨by omega, by omega⟩)]; rfl) ?_
        refine x_goto (t := 2) dX9_firstWrong_68 (by decide) ?_
        rw [if_pos (show e.1 < s.2.1.2.2 from (z27b.mp (by omega)).2), if_pos (by omega)] at hw
        exact ih (i + 1) G1 _ _ rfl rfl hd2 (by omega) hR1 hS2 hw
      · refine x_iload_n (q := 64) dX9_firstWrong_63 rfl rfl ?_
        refine x_iret dX9_firstWrong_64 rfl ?_
        rw [if_pos (show e.1 < s.2.1.2.2 from (z27b.mp (by omega)).2), if_neg (by omega)] at hw
        rw [hw]; exact kk G1 hR1 hS2
