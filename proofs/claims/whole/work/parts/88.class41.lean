/-! THE CLASS: told -/
theorem c_wrongC (d : Nat) {n : Int} {s : Sg} {G : Hp} (hR0 : RC n s G) (n0 : 0 ≤ n) (t1 : tsz 6 s.2.2.2.2.1 ≤ 364) (hcok : Cok s.2.2.1.1) (hb : s.2.2.2.1.length ≤ 20) (hbk : ∀ e ∈ s.2.2.2.1, 0 ≤ e.1 ∧ 0 ≤ e.2.1 ∧ e.2.1 ≤ 996) : CX (d + 183) 107 [.inr (.inr (some 1))] G (fun r G' => r = some (.inl (wrF s.2.1 s.2.2.1.1 s.2.2.2.1 0)) ∧ RC n s G' ∧ Sm isM G G') := by
  refine CX.of (d := d + 182) m_X9_firstWrong (Nat.le_of_ble_eq_true rfl) ?_
  refine Ex.lcl (ls' := [some (.inr (.inr (some 1))), none, none, none]) rfl ?_
  refine x_iconst (q := 1) dX9_firstWrong_0 rfl (by decide) ?_
  refine x_istore_n (q := 2) (ls' := [some (.inr (.inr (some 1))), some (.inl 0), none, none]) dX9_firstWrong_1 rfl (Nat.le_of_ble_eq_true rfl) (by first | rfl | exact hnl | exact hnl2 _) rfl ?_
  exact wrongC_loop (d := d) n0 t1 hcok hb hbk (fun G2 k1 k2 => ⟨rfl, k1, k2⟩) s.2.2.2.1 0 G _ _ rfl rfl rfl (by omega) hR0 Sm.rf rfl
theorem cc_told (d : Nat) {n : Int} {s : Sg} {G : Hp} (hR0 : RC n s G) (n0 : 0 ≤ n) (t1 : tsz 6 s.2.2.2.2.1 ≤ 364) (hcok : Cok s.2.2.1.1) (hb : s.2.2.2.1.length ≤ 20) (hbk : ∀ e ∈ s.2.2.2.1, 0 ≤ e.1 ∧ 0 ≤ e.2.1 ∧ e.2.1 ≤ 996) (hA : 0 ≤ s.2.2.1.1 8 ∧ s.2.2.1.1 8 < s.2.1.2.2 ∧ 0 ≤ s.2.2.1.1 9 ∧ s.2.2.1.1 9 ≤ 996) (hk : wr s.2.2.2.2.2.2.1 = s.2.2.2.2.2.2.1 ∧ wr s.2.2.2.2.2.2.2.1 = s.2.2.2.2.2.2.2.1 ∧ wr s.2.2.2.2.2.2.2.2.1 = s.2.2.2.2.2.2.2.2.1 ∧ wr s.2.2.2.2.2.2.2.2.2 = s.2.2.2.2.2.2.2.2.2) (wh : Int) : CX (d + 184) 84 [.inr (.inr (some 1)), .inl wh] G (fun r G' => r = some (.inl (o_told wh s)) ∧ RC n s G' ∧ Sm isM G G') := by
  have hC1 := hR0
  obtain ⟨hF, h2, h3, h4, h5, h6⟩ := hR0
  have hrow := h4
  obtain ⟨pa, p1, p2, p3, p4, p5, p6⟩ := h3
  obtain ⟨T, fs, κ, c1, c2, c3, c4, c5, c6, c7, c8, c9, c10, -⟩ := h6
  rw [← nad_tsz, c1] at c4
  refine CX.of (d := d + 183) m_X9_told (Nat.le_of_ble_eq_true rfl) ?_
  refine Ex.lcl (ls' := [some (.inr (.inr (some 1))), some (.inl wh)]) rfl ?_
  refine x_iload_n (q := 1) dX9_told_0 rfl rfl ?_
  rcases Decidable.em (wh < 0 ∨ 17 < wh) with hs1 | hs1
  · refine x_tableOut (t := 249) dX9_told_1 hs1 (by decide) ?_
    refine x_ldc (q := 251) dX9_told_249 rfl k_9_89 ?_
    refine x_iret dX9_told_251 rfl ?_
    refine ⟨vi_eq ?_, hC1, Sm.rf⟩
    unfold o_told
    rw [if_neg (by omega), if_neg (by omega), if_neg (by omega), if_neg (by omega), if_neg (by omega), if_neg (by omega), if_neg (by omega), if_neg (by omega), if_neg (by omega), if_neg (by omega), if_neg (by omega), if_neg (by omega), if_neg (by omega), if_neg (by omega), if_neg (by omega), if_neg (by omega), if_neg (by omega), if_neg (by omega)]
  obtain hs1 | hs1 | hs1 | hs1 | hs1 | hs1 | hs1 | hs1 | hs1 | hs1 | hs1 | hs1 | hs1 | hs1 | hs1 | hs1 | hs1 | hs1 : wh = 0 ∨ wh = 1 ∨ wh = 2 ∨ wh = 3 ∨ wh = 4 ∨ wh = 5 ∨ wh = 6 ∨ wh = 7 ∨ wh = 8 ∨ wh = 9 ∨ wh = 10 ∨ wh = 11 ∨ wh = 12 ∨ wh = 13 ∨ wh = 14 ∨ wh = 15 ∨ wh = 16 ∨ wh = 17 := by omega
  · refine x_tableIn (t := 88) (off := 87) dX9_told_1 (by omega) (by omega) (by rw [hs1]; rfl) (by decide) ?_
    refine x_aload_n (q := 89) dX9_told_88 rfl rfl ?_
    refine x_getR (q := 92) dX9_told_89 rfl f_9_27 rfl (ft1 hF) ?_
    refine Ex.stk (st' := [.inr (.inr (some pa))]) (by rw [show rv G 1 4 = some pa from p2]) ?_
    refine x_getI (q := 95) dX9_told_92 rfl f_9_94 rfl (PGs_FC hF p1).1 ?_
    refine Ex.stk (st' := [.inl s.2.1.2.2]) (by rw [show iv G pa 4 = s.2.1.2.2 from p6.1]) ?_
    refine x_iret dX9_told_95 rfl ?_
    refine ⟨vi_eq ?_, hC1, Sm.rf⟩
    unfold o_told
    rw [hs1]
    rfl
  · refine x_tableIn (t := 96) (off := 95) dX9_told_1 (by omega) (by omega) (by rw [hs1]; rfl) (by decide) ?_
    refine x_aload_n (q := 97) dX9_told_96 rfl rfl ?_
    refine x_getI (q := 100) dX9_told_97 rfl f_9_90 rfl (ft1 hF) ?_
    refine Ex.stk (st' := [.inl s.1.2.1]) (by rw [show iv G 1 1 = s.1.2.1 from h2.2.1]) ?_
    refine x_iret dX9_told_100 rfl ?_
    refine ⟨vi_eq ?_, hC1, Sm.rf⟩
    unfold o_told
    rw [hs1]
    rfl
  · refine x_tableIn (t := 101) (off := 100) dX9_told_1 (by omega) (by omega) (by rw [hs1]; rfl) (by decide) ?_
    refine x_aload_n (q := 102) dX9_told_101 rfl rfl ?_
    refine x_getR (q := 105) dX9_told_102 rfl f_9_44 rfl (ft1 hF) ?_
    refine Ex.stk (st' := [.inr (.inr (some 17))]) (by rw [fr1_9 hF]) ?_
    refine x_invV (q := 108) (as := [.inr (.inr (some 17))]) (rest := []) dX9_told_105 rfl l_9_97 m_X8_rootTells rfl rfl (ft17 hF) (Nat.le_of_ble_eq_true rfl) (CX.up (d := 0 + 1) (by omega) (c_rtTells 0 hC1 t1)) (fun r1 Gz hR => ?_)
    obtain ⟨rfl, hGz⟩ := hR
    replace hGz := hGz.symm
    subst hGz
    refine Ex.stk (st' := [.inl (nV (rt 6 s.2.2.2.2.1))]) rfl ?_
    refine x_iret dX9_told_108 rfl ?_
    refine ⟨vi_eq ?_, hC1, Sm.rf⟩
    unfold o_told
    rw [hs1]
    rfl
  · refine x_tableIn (t := 109) (off := 108) dX9_told_1 (by omega) (by omega) (by rw [hs1]; rfl) (by decide) ?_
    refine x_aload_n (q := 110) dX9_told_109 rfl rfl ?_
    refine x_getR (q := 113) dX9_told_110 rfl f_9_44 rfl (ft1 hF) ?_
    refine Ex.stk (st' := [.inr (.inr (some 17))]) (by rw [fr1_9 hF]) ?_
    refine x_getI (q := 116) dX9_told_113 rfl f_9_100 rfl (ft17 hF) ?_
    refine Ex.stk (st' := [.inl (tsz 6 s.2.2.2.2.1 : Int)]) (by rw [show iv G 17 2 = (tsz 6 s.2.2.2.2.1 : Int) from c4]) ?_
    refine x_iret dX9_told_116 rfl ?_
    refine ⟨vi_eq ?_, hC1, Sm.rf⟩
    unfold o_told
    rw [hs1]
    rfl
  · refine x_tableIn (t := 117) (off := 116) dX9_told_1 (by omega) (by omega) (by rw [hs1]; rfl) (by decide) ?_
    refine x_aload_n (q := 118) dX9_told_117 rfl rfl ?_
    refine x_aload_n (q := 119) dX9_told_118 rfl rfl ?_
    refine x_getR (q := 122) dX9_told_119 rfl f_9_37 rfl (ft1 hF) ?_
    refine Ex.stk (st' := [.inr (.inr (some 15)), .inr (.inr (some 1))]) (by rw [fr1_6 hF]) ?_
    refine x_getI (q := 125) dX9_told_122 rfl f_9_103 rfl (ft15 hF) ?_
    refine Ex.stk (st' := [.inl (s.2.2.1.1 8), .inr (.inr (some 1))]) (by rw [show iv G 15 1 = (s.2.2.1.1 8) from hrow.2.1]) ?_
    refine x_aload_n (q := 126) dX9_told_125 rfl rfl ?_
    refine x_getR (q := 129) dX9_told_126 rfl f_9_37 rfl (ft1 hF) ?_
    refine Ex.stk (st' := [.inr (.inr (some 15)), .inl (s.2.2.1.1 8), .inr (.inr (some 1))]) (by rw [fr1_6 hF]) ?_
    refine x_getI (q := 132) dX9_told_129 rfl f_9_106 rfl (ft15 hF) ?_
    refine Ex.stk (st' := [.inl (s.2.2.1.1 9), .inl (s.2.2.1.1 8), .inr (.inr (some 1))]) (by rw [show iv G 15 2 = (s.2.2.1.1 9) from hrow.2.2.1]) ?_
    refine x_invV (q := 135) (as := [.inr (.inr (some 1)), .inl (s.2.2.1.1 8), .inl (s.2.2.1.1 9)]) (rest := []) dX9_told_132 rfl l_9_109 m_X9_tellingByItself rfl rfl (ft1 hF) (Nat.le_of_ble_eq_true rfl) (CX.up (d := 0 + 182) (by omega) (c_tbi 0 hC1 n0 t1 hcok hA.1 hA.2.1 hA.2.2.1 hA.2.2.2)) (fun r1 G1 hR => ?_)
    obtain ⟨rfl, hR1, hS1⟩ := hR
    refine Ex.stk (st' := [.inl (nV (rt 6 (fr s.2.1 s.2.2.1.1 5 (s.2.2.1.1 8) (s.2.2.1.1 9))))]) rfl ?_
    refine x_iret dX9_told_135 rfl ?_
    refine ⟨vi_eq ?_, hR1, hS1⟩
    unfold o_told
    rw [hs1]
    rfl
  · refine x_tableIn (t := 136) (off := 135) dX9_told_1 (by omega) (by omega) (by rw [hs1]; rfl) (by decide) ?_
    refine x_aload_n (q := 137) dX9_told_136 rfl rfl ?_
    refine x_invV (q := 140) (as := [.inr (.inr (some 1))]) (rest := []) dX9_told_137 rfl l_9_113 m_X9_isAlike rfl rfl (ft1 hF) (Nat.le_of_ble_eq_true rfl) (CX.up (d := 0 + 182) (by omega) (c_alikeC 0 hC1 n0 t1 hcok hA)) (fun r1 G1 hR => ?_)
    obtain ⟨y, rfl, hy1, hy2, hR1, hS1⟩ := hR
    refine Ex.stk (st' := [.inl y]) rfl ?_
    refine x_if_eq (q := 143) (t := 147) dX9_told_140 rfl (by decide) (fun h140 => ?_) (fun h140 => ?_)
    · refine x_iconst (q := 148) dX9_told_147 rfl (by decide) ?_
      refine x_iret dX9_told_148 rfl ?_
      refine ⟨vi_eq ?_, hR1, hS1⟩
      unfold o_told
      rw [hs1]
      show _ = (if alkB s.2.2.2.2.1 (newN s) = true then (1 : Int) else 0)
      first | rw [if_pos (hy2.mp (by omega))] | rw [if_neg (fun q => by have := hy2.mpr q; omega)]
    · refine x_iconst (q := 144) dX9_told_143 rfl (by decide) ?_
      refine x_goto (t := 148) dX9_told_144 (by decide) ?_
      refine x_iret dX9_told_148 rfl ?_
      refine ⟨vi_eq ?_, hR1, hS1⟩
      unfold o_told
      rw [hs1]
      show _ = (if alkB s.2.2.2.2.1 (newN s) = true then (1 : Int) else 0)
      first | rw [if_pos (hy2.mp (by omega))] | rw [if_neg (fun q => by have := hy2.mpr q; omega)]
  · refine x_tableIn (t := 149) (off := 148) dX9_told_1 (by omega) (by omega) (by rw [hs1]; rfl) (by decide) ?_
    refine x_aload_n (q := 150) dX9_told_149 rfl rfl ?_
    refine x_getR (q := 153) dX9_told_150 rfl f_9_74 rfl (ft1 hF) ?_
    refine Ex.stk (st' := [.inr (.inr (some 29))]) (by rw [fr1_7 hF]) ?_
    refine x_getI (q := 156) dX9_told_153 rfl f_9_117 rfl (ft29 hF) ?_
    refine Ex.stk (st' := [.inl s.2.2.2.2.2.2.2.1]) (by rw [show iv G 29 7 = s.2.2.2.2.2.2.2.1 from (c9.2.1.trans hk.2.1)]) ?_
    refine x_iret dX9_told_156 rfl ?_
    refine ⟨vi_eq ?_, hC1, Sm.rf⟩
    unfold o_told
    rw [hs1]
    rfl
  · refine x_tableIn (t := 157) (off := 156) dX9_told_1 (by omega) (by omega) (by rw [hs1]; rfl) (by decide) ?_
    refine x_aload_n (q := 158) dX9_told_157 rfl rfl ?_
    refine x_getR (q := 161) dX9_told_158 rfl f_9_74 rfl (ft1 hF) ?_
    refine Ex.stk (st' := [.inr (.inr (some 29))]) (by rw [fr1_7 hF]) ?_
    refine x_getI (q := 164) dX9_told_161 rfl f_9_120 rfl (ft29 hF) ?_
    refine Ex.stk (st' := [.inl s.2.2.2.2.2.2.2.2.1]) (by rw [show iv G 29 8 = s.2.2.2.2.2.2.2.2.1 from (c9.2.2.1.trans hk.2.2.1)]) ?_
    refine x_iret dX9_told_164 rfl ?_
    refine ⟨vi_eq ?_, hC1, Sm.rf⟩
    unfold o_told
    rw [hs1]
    rfl
  · refine x_tableIn (t := 165) (off := 164) dX9_told_1 (by omega) (by omega) (by rw [hs1]; rfl) (by decide) ?_
    refine x_aload_n (q := 166) dX9_told_165 rfl rfl ?_
    refine x_getR (q := 169) dX9_told_166 rfl f_9_74 rfl (ft1 hF) ?_
    refine Ex.stk (st' := [.inr (.inr (some 29))]) (by rw [fr1_7 hF]) ?_
    refine x_getI (q := 172) dX9_told_169 rfl f_9_123 rfl (ft29 hF) ?_
    refine Ex.stk (st' := [.inl s.2.2.2.2.2.2.2.2.2]) (by rw [show iv G 29 9 = s.2.2.2.2.2.2.2.2.2 from (c9.2.2.2.trans hk.2.2.2)]) ?_
    refine x_iret dX9_told_172 rfl ?_
    refine ⟨vi_eq ?_, hC1, Sm.rf⟩
    unfold o_told
    rw [hs1]
    rfl
  · refine x_tableIn (t := 173) (off := 172) dX9_told_1 (by omega) (by omega) (by rw [hs1]; rfl) (by decide) ?_
    refine x_aload_n (q := 174) dX9_told_173 rfl rfl ?_
    refine x_getR (q := 177) dX9_told_174 rfl f_9_74 rfl (ft1 hF) ?_
    refine Ex.stk (st' := [.inr (.inr (some 29))]) (by rw [fr1_7 hF]) ?_
    refine x_getI (q := 180) dX9_told_177 rfl f_9_126 rfl (ft29 hF) ?_
    refine Ex.stk (st' := [.inl s.2.2.2.2.2.2.1]) (by rw [show iv G 29 6 = s.2.2.2.2.2.2.1 from (c9.1.trans hk.1)]) ?_
    refine x_iret dX9_told_180 rfl ?_
    refine ⟨vi_eq ?_, hC1, Sm.rf⟩
    unfold o_told
    rw [hs1]
    rfl
  · refine x_tableIn (t := 181) (off := 180) dX9_told_1 (by omega) (by omega) (by rw [hs1]; rfl) (by decide) ?_
    refine x_aload_n (q := 182) dX9_told_181 rfl rfl ?_
    refine x_getR (q := 185) dX9_told_182 rfl f_9_44 rfl (ft1 hF) ?_
    refine Ex.stk (st' := [.inr (.inr (some 17))]) (by rw [fr1_9 hF]) ?_
    refine x_invV (q := 188) (as := [.inr (.inr (some 17))]) (rest := []) dX9_told_185 rfl l_9_129 m_X8_greatestNest rfl rfl (ft17 hF) (Nat.le_of_ble_eq_true rfl) (CX.up (d := 0 + 2) (by omega) (c_grNest 0 hC1 t1)) (fun r1 Gz hR => ?_)
    obtain ⟨rfl, hGz⟩ := hR
    replace hGz := hGz.symm
    subst hGz
    refine Ex.stk (st' := [.inl (dpF (flat 6 1 s.2.2.2.2.1) 0)]) rfl ?_
    refine x_iret dX9_told_188 rfl ?_
    refine ⟨vi_eq ?_, hC1, Sm.rf⟩
    unfold o_told
    rw [hs1]
    rfl
  · refine x_tableIn (t := 189) (off := 188) dX9_told_1 (by omega) (by omega) (by rw [hs1]; rfl) (by decide) ?_
    refine x_aload_n (q := 190) dX9_told_189 rfl rfl ?_
    refine x_getR (q := 193) dX9_told_190 rfl f_9_44 rfl (ft1 hF) ?_
    refine Ex.stk (st' := [.inr (.inr (some 17))]) (by rw [fr1_9 hF]) ?_
    refine x_aload_n (q := 194) dX9_told_193 rfl rfl ?_
    refine x_getR (q := 197) dX9_told_194 rfl f_9_37 rfl (ft1 hF) ?_
    refine Ex.stk (st' := [.inr (.inr (some 15)), .inr (.inr (some 17))]) (by rw [fr1_6 hF]) ?_
    refine x_getR (q := 200) dX9_told_197 rfl f_9_132 rfl (ft15 hF) ?_
    refine Ex.stk (st' := [.inr (.inr (some 16)), .inr (.inr (some 17))]) (by rw [fr15_0 hF]) ?_
    refine x_invV (q := 203) (as := [.inr (.inr (some 17)), .inr (.inr (some 16))]) (rest := []) dX9_told_200 rfl l_9_135 m_X8_howManyOld rfl rfl (ft17 hF) (Nat.le_of_ble_eq_true rfl) (CX.up (d := 0 + 3) (by omega) (c_hmOld 0 hC1 t1)) (fun r1 Gz hR => ?_)
    obtain ⟨rfl, hGz⟩ := hR
    replace hGz := hGz.symm
    subst hGz
    refine Ex.stk (st' := [.inl (olF s.2.2.2.2.2.1 s.2.2.1.1 (flat 6 1 s.2.2.2.2.1) 0)]) rfl ?_
    refine x_iret dX9_told_203 rfl ?_
    refine ⟨vi_eq ?_, hC1, Sm.rf⟩
    unfold o_told
    rw [hs1]
    rfl
  · refine x_tableIn (t := 204) (off := 203) dX9_told_1 (by omega) (by omega) (by rw [hs1]; rfl) (by decide) ?_
    refine x_aload_n (q := 205) dX9_told_204 rfl rfl ?_
    refine x_getR (q := 208) dX9_told_205 rfl f_9_44 rfl (ft1 hF) ?_
    refine Ex.stk (st' := [.inr (.inr (some 17))]) (by rw [fr1_9 hF]) ?_
    refine x_invV (q := 211) (as := [.inr (.inr (some 17))]) (rest := []) dX9_told_208 rfl l_9_139 m_X8_cellsRead rfl rfl (ft17 hF) (Nat.le_of_ble_eq_true rfl) (CX.up (d := 0 + 1) (by omega) (c_clRead 0 hC1 t1)) (fun r1 Gz hR => ?_)
    obtain ⟨rfl, hGz⟩ := hR
    replace hGz := hGz.symm
    subst hGz
    refine Ex.stk (st' := [.inl (brF (flat 6 1 s.2.2.2.2.1) 0)]) rfl ?_
    refine x_iret dX9_told_211 rfl ?_
    refine ⟨vi_eq ?_, hC1, Sm.rf⟩
    unfold o_told
    rw [hs1]
    rfl
  · refine x_tableIn (t := 212) (off := 211) dX9_told_1 (by omega) (by omega) (by rw [hs1]; rfl) (by decide) ?_
    refine x_aload_n (q := 213) dX9_told_212 rfl rfl ?_
    refine x_getR (q := 216) dX9_told_213 rfl f_9_37 rfl (ft1 hF) ?_
    refine Ex.stk (st' := [.inr (.inr (some 15))]) (by rw [fr1_6 hF]) ?_
    refine x_getI (q := 219) dX9_told_216 rfl f_9_103 rfl (ft15 hF) ?_
    refine Ex.stk (st' := [.inl (s.2.2.1.1 8)]) (by rw [show iv G 15 1 = (s.2.2.1.1 8) from hrow.2.1]) ?_
    refine x_iret dX9_told_219 rfl ?_
    refine ⟨vi_eq ?_, hC1, Sm.rf⟩
    unfold o_told
    rw [hs1]
    rfl
  · refine x_tableIn (t := 220) (off := 219) dX9_told_1 (by omega) (by omega) (by rw [hs1]; rfl) (by decide) ?_
    refine x_aload_n (q := 221) dX9_told_220 rfl rfl ?_
    refine x_getR (q := 224) dX9_told_221 rfl f_9_37 rfl (ft1 hF) ?_
    refine Ex.stk (st' := [.inr (.inr (some 15))]) (by rw [fr1_6 hF]) ?_
    refine x_getI (q := 227) dX9_told_224 rfl f_9_106 rfl (ft15 hF) ?_
    refine Ex.stk (st' := [.inl (s.2.2.1.1 9)]) (by rw [show iv G 15 2 = (s.2.2.1.1 9) from hrow.2.2.1]) ?_
    refine x_iret dX9_told_227 rfl ?_
    refine ⟨vi_eq ?_, hC1, Sm.rf⟩
    unfold o_told
    rw [hs1]
    rfl
  · refine x_tableIn (t := 228) (off := 227) dX9_told_1 (by omega) (by omega) (by rw [hs1]; rfl) (by decide) ?_
    refine x_aload_n (q := 229) dX9_told_228 rfl rfl ?_
    refine x_getR (q := 232) dX9_told_229 rfl f_9_58 rfl (ft1 hF) ?_
    refine Ex.stk (st' := [.inr (.inr (some 23))]) (by rw [fr1_11 hF]) ?_
    refine x_getI (q := 235) dX9_told_232 rfl f_9_142 rfl (ft23 hF) ?_
    refine Ex.stk (st' := [.inl (s.2.2.2.1.length : Int)]) (by rw [show iv G 23 3 = (s.2.2.2.1.length : Int) from h5.1]) ?_
    refine x_iret dX9_told_235 rfl ?_
    refine ⟨vi_eq ?_, hC1, Sm.rf⟩
    unfold o_told
    rw [hs1]
    rfl
  · refine x_tableIn (t := 236) (off := 235) dX9_told_1 (by omega) (by omega) (by rw [hs1]; rfl) (by decide) ?_
    refine x_aload_n (q := 237) dX9_told_236 rfl rfl ?_
    refine x_invV (q := 240) (as := [.inr (.inr (some 1))]) (rest := []) dX9_told_237 rfl l_9_145 m_X9_firstWrong rfl rfl (ft1 hF) (Nat.le_of_ble_eq_true rfl) (CX.up (d := 0 + 183) (by omega) (c_wrongC 0 hC1 n0 t1 hcok hb hbk)) (fun r1 G1 hR => ?_)
    obtain ⟨rfl, hR1, hS1⟩ := hR
    refine Ex.stk (st' := [.inl (wrF s.2.1 s.2.2.1.1 s.2.2.2.1 0)]) rfl ?_
    refine x_iret dX9_told_240 rfl ?_
    refine ⟨vi_eq ?_, hR1, hS1⟩
    unfold o_told
    rw [hs1]
    rfl
  · refine x_tableIn (t := 241) (off := 240) dX9_told_1 (by omega) (by omega) (by rw [hs1]; rfl) (by decide) ?_
    refine x_aload_n (q := 242) dX9_told_241 rfl rfl ?_
    refine x_getR (q := 245) dX9_told_242 rfl f_9_51 rfl (ft1 hF) ?_
    refine Ex.stk (st' := [.inr (.inr (some 19))]) (by rw [fr1_10 hF]) ?_
    refine x_getI (q := 248) dX9_told_245 rfl f_9_148 rfl (ft19 hF) ?_
    refine Ex.stk (st' := [.inl (s.2.2.1.2.1.length : Int)]) (by rw [show iv G 19 4 = (s.2.2.1.2.1.length : Int) from hrow.2.2.2.2.1.2.2.1]) ?_
    refine x_iret dX9_told_248 rfl ?_
    refine ⟨vi_eq ?_, hC1, Sm.rf⟩
    unfold o_told
    rw [hs1]
    rfl
