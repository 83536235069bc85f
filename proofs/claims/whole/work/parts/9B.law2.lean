/-! THE LAW: every call of every run is answered alike -/
theorem cc_feed (d : Nat) {n : Int} {s : Sg} {G : Hp} (hR0 : RC n s G) (l : Int) (n0 : 0 ≤ s.1.2.1) (n1 : s.1.2.1 ≤ 160) : CX (d + 2) 81 [.inr (.inr (some 1)), .inl l] G (fun r G' => r = some (.inl (o_feed l s).1) ∧ RC n (o_feed l s).2 G' ∧ Sm isM G G') := by
  by_cases h : s.1.2.1 < 160
  · exact cc_feed1 d hR0 l n0 h
  · exact cc_feed0 d hR0 l n0 (by omega)
theorem cc_write (d : Nat) {n : Int} {s : Sg} {G : Hp} (hR0 : RC n s G) (f x v : Int) (hl : s.2.2.2.1.length ≤ 20) : CX (d + 2) 93 [.inr (.inr (some 1)), .inl f, .inl x, .inl v] G (fun r G' => r = some (.inl (o_write f x v s).1) ∧ RC n (o_write f x v s).2 G' ∧ Sm isM G G') := by
  by_cases h : s.2.2.2.1.length < 20
  · exact cc_write1 d hR0 f x v h
  · exact cc_write0 d hR0 f x v (by omega)
/-- what is so ahead of each call -/
def LI (L : Nat) (i n : Int) (s : Sg) (G : Hp) : Prop := RC n s G ∧ RM s G ∧ Iv n s ∧ tg G 0 = 30 ∧ ln G 0 = (L : Int) ∧ (∀ k, -2147483648 ≤ iv G 0 k ∧ iv G 0 k ≤ 2147483647) ∧ 0 ≤ n ∧ 4 * n ≤ i ∧ i ≤ (L : Int)
def LQ (r : Option V) (G' : Hp) : Prop := r = some (.inl 1) ∧ sz G' ≤ 600000 ∧ sl G' ≤ 7302250
set_option maxHeartbeats 4000000 in
theorem law_loop {L : Nat} (hL : L ≤ 2048) : ∀ (m : Nat) (i n : Int) (s : Sg) (G : Hp), m = ((L : Int) + 4 - i).toNat → LI L i n s G → Ex (1000) (some .boolean) 11 false cL_law 18 [some (.inr (.inr (some 0))), some (.inr (.inr (some 1))), some (.inr (.inr (some 35))), some (.inl i)] [] G LQ := by
  intro m
  induction m using Nat.strongRecOn with
  | ind m IH =>
    intro i n s G hm hLI
    obtain ⟨hC, hM, hI, h30, hln, hb, hn0, hni, hiL⟩ := hLI
    subst hm
    obtain ⟨z, hz⟩ : ∃ z, (Int32.ofInt (iv G 0 i) &&& Int32.ofInt 31).toInt = z := ⟨_, rfl⟩
    obtain ⟨v1, hv1⟩ : ∃ v, iv G 0 (i + 1) = v := ⟨_, rfl⟩
    obtain ⟨v2, hv2⟩ : ∃ v, iv G 0 (i + 2) = v := ⟨_, rfl⟩
    obtain ⟨v3, hv3⟩ : ∃ v, iv G 0 (i + 3) = v := ⟨_, rfl⟩
    refine x_iload_n (q := 19) dL_law_18 rfl rfl ?_
    refine x_aload_n (q := 20) dL_law_19 rfl rfl ?_
    refine x_arraylength (q := 21) dL_law_20 rfl (Or.inr h30) ?_
    refine Ex.stk (st' := [.inl (L : Int), .inl i]) (by rw [show ln G 0 = (L : Int) from hln]) ?_
    refine x_iconst (q := 22) dL_law_21 rfl (by decide) ?_
    refine x_isub (q := 23) (z := (L : Int) - 4) dL_law_22 rfl (wr_id ⟨by omega, by omega⟩) ?_
    refine x_icmp_gt (q := 26) (t := 523) dL_law_23 rfl (by decide) (fun h23 => ?_) (fun h23 => ?_)
    · refine x_iconst (q := 524) dL_law_523 rfl (by decide) ?_
      refine x_zret dL_law_524 rfl (by decide) ?_
      refine ⟨rfl, ?_, ?_⟩
      · obtain ⟨t, fs, κ, -, -, -, -, -, -, -, -, -, -, -, -, -, -, -, b1, b2, b3⟩ := hC.2.2.2.2.2
        omega
      · obtain ⟨t, fs, κ, -, -, -, -, -, -, -, -, -, -, -, -, -, -, -, b1, b2, b3⟩ := hC.2.2.2.2.2
        omega
    · refine x_aload_n (q := 27) dL_law_26 rfl rfl ?_
      refine x_iload_n (q := 28) dL_law_27 rfl rfl ?_
      refine x_iaload (q := 29) dL_law_28 rfl (Or.inr h30) (by omega) (by rw [hln]; omega) ?_
      refine x_bipush (q := 31) dL_law_29 rfl (by decide) ?_
      refine x_iand (q := 32) (z := z) dL_law_31 rfl hz ?_
      rcases Decidable.em (z < 0 ∨ 16 < z) with hs32 | hs32
      · refine x_tableOut (t := 517) dL_law_32 hs32 (by decide) ?_
        refine x_iinc (q := 520) (ls' := [some (.inr (.inr (some 0))), some (.inr (.inr (some 1))), some (.inr (.inr (some 35))), some (.inl (i + 4))]) dL_law_517 rfl rfl (by first | rfl | exact hnl | exact hnl2 _) (by rw [show wr (i + 4) = i + 4 from (wr_id ⟨by omega, by omega⟩)]; rfl) ?_
        refine x_goto (t := 18) dL_law_520 (by decide) ?_
        exact IH _ (by omega) (i + 4) (n + 1) s G rfl ⟨RC_mono (by omega) hC, hM, Iv_mono (by omega) hI, h30, hln, hb, by omega, by omega, by omega⟩
      obtain hs32 | hs32 | hs32 | hs32 | hs32 | hs32 | hs32 | hs32 | hs32 | hs32 | hs32 | hs32 | hs32 | hs32 | hs32 | hs32 | hs32 : z = 0 ∨ z = 1 ∨ z = 2 ∨ z = 3 ∨ z = 4 ∨ z = 5 ∨ z = 6 ∨ z = 7 ∨ z = 8 ∨ z = 9 ∨ z = 10 ∨ z = 11 ∨ z = 12 ∨ z = 13 ∨ z = 14 ∨ z = 15 ∨ z = 16 := by omega
      · refine x_tableIn (t := 116) (off := 84) dL_law_32 (by omega) (by omega) (by rw [hs32]; rfl) (by decide) ?_
        refine x_aload_n (q := 117) dL_law_116 rfl rfl ?_
        refine x_aload_n (q := 118) dL_law_117 rfl rfl ?_
        refine x_iload_n (q := 119) dL_law_118 rfl rfl ?_
        refine x_iconst (q := 120) dL_law_119 rfl (by decide) ?_
        refine x_iadd (q := 121) (z := i + 1) dL_law_120 rfl (wr_id ⟨by omega, by omega⟩) ?_
        refine x_iaload (q := 122) dL_law_121 rfl (Or.inr h30) (by omega) (by rw [hln]; omega) ?_
        refine Ex.stk (st' := [.inl v1, .inr (.inr (some 1))]) (by rw [show iv G 0 (i + 1) = v1 from hv1]) ?_
        refine x_invV (q := 125) (as := [.inr (.inr (some 1)), .inl v1]) (rest := []) dL_law_122 rfl l_11_13 m_X9_feed rfl rfl (ft1 hC.1) (Nat.le_of_ble_eq_true rfl) (CX.scr h30 (CX.up (d := 0 + 2) (by omega) (cc_feed 0 hC v1 hI.1.1 hI.1.2))) (fun r1 G1 hZ => ?_)
        obtain ⟨⟨rfl, hC1, hS1⟩, hs1⟩ := hZ
        have hM1 := RM_Sm hM hS1
        have h31 : tg G1 0 = 30 := hs1.1.trans h30
        refine Ex.stk (st' := [.inl ((o_feed v1 s).1)]) rfl ?_
        refine x_aload_n (q := 126) dL_law_125 rfl rfl ?_
        refine x_aload_n (q := 127) dL_law_126 rfl rfl ?_
        refine x_iload_n (q := 128) dL_law_127 rfl rfl ?_
        refine x_iconst (q := 129) dL_law_128 rfl (by decide) ?_
        refine x_iadd (q := 130) (z := i + 1) dL_law_129 rfl (wr_id ⟨by omega, by omega⟩) ?_
        refine x_iaload (q := 131) dL_law_130 rfl (Or.inr h31) (by omega) (by rw [hs1.2.1, hln]; omega) ?_
        refine Ex.stk (st' := [.inl v1, .inr (.inr (some 35)), .inl ((o_feed v1 s).1)]) (by rw [show iv G1 0 (i + 1) = v1 from (hs1.2.2 _).trans hv1]) ?_
        refine x_invV (q := 134) (as := [.inr (.inr (some 35)), .inl v1]) (rest := [.inl ((o_feed v1 s).1)]) dL_law_131 rfl l_11_17 m_X10_feed rfl rfl (ft35 hM1.1) (Nat.le_of_ble_eq_true rfl) (CX.scr h31 (CX.up (d := 0 + 2) (by omega) (cm_feed 0 hM1 v1 hI.1.1 hI.1.2))) (fun r1 G2 hZ => ?_)
        obtain ⟨⟨rfl, hM2, hMo⟩, hs2⟩ := hZ
        have hC2 := RC_Mo hC1 hMo
        have hsc := hs1.trans hs2
        have hI2 : Iv (n + 1) ((o_feed v1 s).2) := Iv_mono (by omega) (Iv_feed hI v1)
        refine Ex.stk (st' := [.inl ((o_feed v1 s).1), .inl ((o_feed v1 s).1)]) rfl ?_
        refine x_icmp_eq (q := 137) (t := 517) dL_law_134 rfl (by decide) (fun h134 => ?_) (fun h134 => by exfalso; exact absurd rfl h134)
        refine x_iinc (q := 520) (ls' := [some (.inr (.inr (some 0))), some (.inr (.inr (some 1))), some (.inr (.inr (some 35))), some (.inl (i + 4))]) dL_law_517 rfl rfl (by first | rfl | exact hnl | exact hnl2 _) (by rw [show wr (i + 4) = i + 4 from (wr_id ⟨by omega, by omega⟩)]; rfl) ?_
        refine x_goto (t := 18) dL_law_520 (by decide) ?_
        exact IH _ (by omega) (i + 4) (n + 1) ((o_feed v1 s).2) G2 rfl ⟨RC_mono (by omega) hC2, hM2, hI2, hsc.1.trans h30, hsc.2.1.trans hln, fun k => by rw [hsc.2.2]; exact hb k, by omega, by omega, by omega⟩
      · refine x_tableIn (t := 139) (off := 107) dL_law_32 (by omega) (by omega) (by rw [hs32]; rfl) (by decide) ?_
        refine x_aload_n (q := 140) dL_law_139 rfl rfl ?_
        refine x_invV (q := 143) (as := [.inr (.inr (some 1))]) (rest := []) dL_law_140 rfl l_11_18 m_X9_functions rfl rfl (ft1 hC.1) (Nat.le_of_ble_eq_true rfl) (CX.scr h30 (CX.up (d := 0 + 186) (by omega) (cc_functions 0 hC hn0 (by omega) hI.2.2.1.1.1 hI.1.1 hI.1.2))) (fun r1 G1 hZ => ?_)
        obtain ⟨⟨rfl, hC1, hS1⟩, hs1⟩ := hZ
        have hM1 := RM_Sm hM hS1
        have h31 : tg G1 0 = 30 := hs1.1.trans h30
        have hPk : (rdT s).1 = 0 → Pok (lcP s) := fun hz0 => by
          obtain ⟨pa, q1, q2, q3, q4, q5, q6⟩ := hC1.2.2.1
          have hq := (RdOk_PgC q6).2
          unfold o_functions at hq
          rw [if_pos hz0] at hq
          exact hq
        refine Ex.stk (st' := [.inl ((o_functions s).1)]) rfl ?_
        refine x_aload_n (q := 144) dL_law_143 rfl rfl ?_
        refine x_invV (q := 147) (as := [.inr (.inr (some 35))]) (rest := [.inl ((o_functions s).1)]) dL_law_144 rfl l_11_22 m_X10_functions rfl rfl (ft35 hM1.1) (Nat.le_of_ble_eq_true rfl) (CX.scr h31 (CX.up (d := 0 + 12) (by omega) (cm_functions 0 hM1 hI.1.1 hI.1.2 hPk hI.2.2.1.1.1))) (fun r1 G2 hZ => ?_)
        obtain ⟨⟨rfl, hM2, hMo⟩, hs2⟩ := hZ
        have hC2 := RC_Mo hC1 hMo
        have hsc := hs1.trans hs2
        have hI2 : Iv (n + 1) ((o_functions s).2) := Iv_functions hI hn0 hPk
        refine Ex.stk (st' := [.inl ((o_functions s).1), .inl ((o_functions s).1)]) rfl ?_
        refine x_icmp_eq (q := 150) (t := 517) dL_law_147 rfl (by decide) (fun h147 => ?_) (fun h147 => by exfalso; exact absurd rfl h147)
        refine x_iinc (q := 520) (ls' := [some (.inr (.inr (some 0))), some (.inr (.inr (some 1))), some (.inr (.inr (some 35))), some (.inl (i + 4))]) dL_law_517 rfl rfl (by first | rfl | exact hnl | exact hnl2 _) (by rw [show wr (i + 4) = i + 4 from (wr_id ⟨by omega, by omega⟩)]; rfl) ?_
        refine x_goto (t := 18) dL_law_520 (by decide) ?_
        exact IH _ (by omega) (i + 4) (n + 1) ((o_functions s).2) G2 rfl ⟨hC2, hM2, hI2, hsc.1.trans h30, hsc.2.1.trans hln, fun k => by rw [hsc.2.2]; exact hb k, by omega, by omega, by omega⟩
      · refine x_tableIn (t := 152) (off := 120) dL_law_32 (by omega) (by omega) (by rw [hs32]; rfl) (by decide) ?_
        refine x_aload_n (q := 153) dL_law_152 rfl rfl ?_
        refine x_invV (q := 156) (as := [.inr (.inr (some 1))]) (rest := []) dL_law_153 rfl l_11_23 m_X9_fault rfl rfl (ft1 hC.1) (Nat.le_of_ble_eq_true rfl) (CX.scr h30 (CX.up (d := 0 + 1) (by omega) (cc_fault 0 hC))) (fun r1 G1 hZ => ?_)
        obtain ⟨⟨rfl, hGz⟩, hs1⟩ := hZ
        have hC1 : RC n s G1 := by rw [hGz]; exact hC
        have hM1 : RM s G1 := by rw [hGz]; exact hM
        have h31 : tg G1 0 = 30 := hs1.1.trans h30
        refine Ex.stk (st' := [.inl s.1.2.2]) rfl ?_
        refine x_aload_n (q := 157) dL_law_156 rfl rfl ?_
        refine x_invV (q := 160) (as := [.inr (.inr (some 35))]) (rest := [.inl s.1.2.2]) dL_law_157 rfl l_11_26 m_X10_fault rfl rfl (ft35 hM1.1) (Nat.le_of_ble_eq_true rfl) (CX.scr h31 (CX.up (d := 0 + 1) (by omega) (cm_fault 0 hM1))) (fun r1 G2 hZ => ?_)
        obtain ⟨⟨rfl, hGz2⟩, hs2⟩ := hZ
        have hC2 : RC n s G2 := by rw [hGz2]; exact hC1
        have hM2 : RM s G2 := by rw [hGz2]; exact hM1
        have hsc := hs1.trans hs2
        have hI2 : Iv (n + 1) (s) := Iv_mono (by omega) hI
        refine Ex.stk (st' := [.inl s.1.2.2, .inl s.1.2.2]) rfl ?_
        refine x_icmp_eq (q := 163) (t := 517) dL_law_160 rfl (by decide) (fun h160 => ?_) (fun h160 => by exfalso; exact absurd rfl h160)
        refine x_iinc (q := 520) (ls' := [some (.inr (.inr (some 0))), some (.inr (.inr (some 1))), some (.inr (.inr (some 35))), some (.inl (i + 4))]) dL_law_517 rfl rfl (by first | rfl | exact hnl | exact hnl2 _) (by rw [show wr (i + 4) = i + 4 from (wr_id ⟨by omega, by omega⟩)]; rfl) ?_
        refine x_goto (t := 18) dL_law_520 (by decide) ?_
        exact IH _ (by omega) (i + 4) (n + 1) (s) G2 rfl ⟨RC_mono (by omega) hC2, hM2, hI2, hsc.1.trans h30, hsc.2.1.trans hln, fun k => by rw [hsc.2.2]; exact hb k, by omega, by omega, by omega⟩
      · refine x_tableIn (t := 165) (off := 133) dL_law_32 (by omega) (by omega) (by rw [hs32]; rfl) (by decide) ?_
        refine x_aload_n (q := 166) dL_law_165 rfl rfl ?_
        refine x_aload_n (q := 167) dL_law_166 rfl rfl ?_
        refine x_iload_n (q := 168) dL_law_167 rfl rfl ?_
        refine x_iconst (q := 169) dL_law_168 rfl (by decide) ?_
        refine x_iadd (q := 170) (z := i + 1) dL_law_169 rfl (wr_id ⟨by omega, by omega⟩) ?_
        refine x_iaload (q := 171) dL_law_170 rfl (Or.inr h30) (by omega) (by rw [hln]; omega) ?_
        refine Ex.stk (st' := [.inl v1, .inr (.inr (some 1))]) (by rw [show iv G 0 (i + 1) = v1 from hv1]) ?_
        refine x_invV (q := 174) (as := [.inr (.inr (some 1)), .inl v1]) (rest := []) dL_law_171 rfl l_11_27 m_X9_told rfl rfl (ft1 hC.1) (Nat.le_of_ble_eq_true rfl) (CX.scr h30 (CX.up (d := 0 + 184) (by omega) (cc_told 0 hC hn0 hI.2.2.2.2.2.2.1 hI.2.2.1.1.1 hI.2.2.2.1.1 (fun e he => ⟨(hI.2.2.2.1.2 e he).1, (hI.2.2.2.1.2 e he).2.2⟩) (Iv_hA hI) (Iv_wr hI (by omega)) v1))) (fun r1 G1 hZ => ?_)
        obtain ⟨⟨rfl, hC1, hS1⟩, hs1⟩ := hZ
        have hM1 := RM_Sm hM hS1
        have h31 : tg G1 0 = 30 := hs1.1.trans h30
        refine Ex.stk (st' := [.inl (o_told v1 s)]) rfl ?_
        refine x_aload_n (q := 175) dL_law_174 rfl rfl ?_
        refine x_aload_n (q := 176) dL_law_175 rfl rfl ?_
        refine x_iload_n (q := 177) dL_law_176 rfl rfl ?_
        refine x_iconst (q := 178) dL_law_177 rfl (by decide) ?_
        refine x_iadd (q := 179) (z := i + 1) dL_law_178 rfl (wr_id ⟨by omega, by omega⟩) ?_
        refine x_iaload (q := 180) dL_law_179 rfl (Or.inr h31) (by omega) (by rw [hs1.2.1, hln]; omega) ?_
        refine Ex.stk (st' := [.inl v1, .inr (.inr (some 35)), .inl (o_told v1 s)]) (by rw [show iv G1 0 (i + 1) = v1 from (hs1.2.2 _).trans hv1]) ?_
        refine x_invV (q := 183) (as := [.inr (.inr (some 35)), .inl v1]) (rest := [.inl (o_told v1 s)]) dL_law_180 rfl l_11_30 m_X10_told rfl rfl (ft35 hM1.1) (Nat.le_of_ble_eq_true rfl) (CX.scr h31 (CX.up (d := 0 + 10) (by omega) (cm_told 0 hM1 (Iv_Aim hI) hI.2.2.2.2.2.2.1 hI.2.2.2.1.1 hI.2.2.2.1.2 v1))) (fun r1 G2 hZ => ?_)
        obtain ⟨⟨rfl, hM2, hMo⟩, hs2⟩ := hZ
        have hC2 := RC_Mo hC1 hMo
        have hsc := hs1.trans hs2
        have hI2 : Iv (n + 1) (s) := Iv_mono (by omega) hI
        refine Ex.stk (st' := [.inl (o_told v1 s), .inl (o_told v1 s)]) rfl ?_
        refine x_icmp_eq (q := 186) (t := 517) dL_law_183 rfl (by decide) (fun h183 => ?_) (fun h183 => by exfalso; exact absurd rfl h183)
        refine x_iinc (q := 520) (ls' := [some (.inr (.inr (some 0))), some (.inr (.inr (some 1))), some (.inr (.inr (some 35))), some (.inl (i + 4))]) dL_law_517 rfl rfl (by first | rfl | exact hnl | exact hnl2 _) (by rw [show wr (i + 4) = i + 4 from (wr_id ⟨by omega, by omega⟩)]; rfl) ?_
        refine x_goto (t := 18) dL_law_520 (by decide) ?_
        exact IH _ (by omega) (i + 4) (n + 1) (s) G2 rfl ⟨RC_mono (by omega) hC2, hM2, hI2, hsc.1.trans h30, hsc.2.1.trans hln, fun k => by rw [hsc.2.2]; exact hb k, by omega, by omega, by omega⟩
      · refine x_tableIn (t := 188) (off := 156) dL_law_32 (by omega) (by omega) (by rw [hs32]; rfl) (by decide) ?_
        refine x_aload_n (q := 189) dL_law_188 rfl rfl ?_
        refine x_aload_n (q := 190) dL_law_189 rfl rfl ?_
        refine x_iload_n (q := 191) dL_law_190 rfl rfl ?_
        refine x_iconst (q := 192) dL_law_191 rfl (by decide) ?_
        refine x_iadd (q := 193) (z := i + 1) dL_law_192 rfl (wr_id ⟨by omega, by omega⟩) ?_
        refine x_iaload (q := 194) dL_law_193 rfl (Or.inr h30) (by omega) (by rw [hln]; omega) ?_
        refine Ex.stk (st' := [.inl v1, .inr (.inr (some 1))]) (by rw [show iv G 0 (i + 1) = v1 from hv1]) ?_
        refine x_invV (q := 197) (as := [.inr (.inr (some 1)), .inl v1]) (rest := []) dL_law_194 rfl l_11_31 m_X9_cell rfl rfl (ft1 hC.1) (Nat.le_of_ble_eq_true rfl) (CX.scr h30 (CX.up (d := 0 + 2) (by omega) (cc_cell 0 hC v1))) (fun r1 G1 hZ => ?_)
        obtain ⟨⟨rfl, hGz⟩, hs1⟩ := hZ
        have hC1 : RC n s G1 := by rw [hGz]; exact hC
        have hM1 : RM s G1 := by rw [hGz]; exact hM
        have h31 : tg G1 0 = 30 := hs1.1.trans h30
        refine Ex.stk (st' := [.inl (o_cell v1 s)]) rfl ?_
        refine x_aload_n (q := 198) dL_law_197 rfl rfl ?_
        refine x_aload_n (q := 199) dL_law_198 rfl rfl ?_
        refine x_iload_n (q := 200) dL_law_199 rfl rfl ?_
        refine x_iconst (q := 201) dL_law_200 rfl (by decide) ?_
        refine x_iadd (q := 202) (z := i + 1) dL_law_201 rfl (wr_id ⟨by omega, by omega⟩) ?_
        refine x_iaload (q := 203) dL_law_202 rfl (Or.inr h31) (by omega) (by rw [hs1.2.1, hln]; omega) ?_
        refine Ex.stk (st' := [.inl v1, .inr (.inr (some 35)), .inl (o_cell v1 s)]) (by rw [show iv G1 0 (i + 1) = v1 from (hs1.2.2 _).trans hv1]) ?_
        refine x_invV (q := 206) (as := [.inr (.inr (some 35)), .inl v1]) (rest := [.inl (o_cell v1 s)]) dL_law_203 rfl l_11_34 m_X10_cell rfl rfl (ft35 hM1.1) (Nat.le_of_ble_eq_true rfl) (CX.scr h31 (CX.up (d := 0 + 2) (by omega) (cm_cell 0 hM1 v1))) (fun r1 G2 hZ => ?_)
        obtain ⟨⟨rfl, hGz2⟩, hs2⟩ := hZ
        have hC2 : RC n s G2 := by rw [hGz2]; exact hC1
        have hM2 : RM s G2 := by rw [hGz2]; exact hM1
        have hsc := hs1.trans hs2
        have hI2 : Iv (n + 1) (s) := Iv_mono (by omega) hI
        refine Ex.stk (st' := [.inl (o_cell v1 s), .inl (o_cell v1 s)]) rfl ?_
        refine x_icmp_eq (q := 209) (t := 517) dL_law_206 rfl (by decide) (fun h206 => ?_) (fun h206 => by exfalso; exact absurd rfl h206)
        refine x_iinc (q := 520) (ls' := [some (.inr (.inr (some 0))), some (.inr (.inr (some 1))), some (.inr (.inr (some 35))), some (.inl (i + 4))]) dL_law_517 rfl rfl (by first | rfl | exact hnl | exact hnl2 _) (by rw [show wr (i + 4) = i + 4 from (wr_id ⟨by omega, by omega⟩)]; rfl) ?_
        refine x_goto (t := 18) dL_law_520 (by decide) ?_
        exact IH _ (by omega) (i + 4) (n + 1) (s) G2 rfl ⟨RC_mono (by omega) hC2, hM2, hI2, hsc.1.trans h30, hsc.2.1.trans hln, fun k => by rw [hsc.2.2]; exact hb k, by omega, by omega, by omega⟩
      · refine x_tableIn (t := 211) (off := 179) dL_law_32 (by omega) (by omega) (by rw [hs32]; rfl) (by decide) ?_
        refine x_aload_n (q := 212) dL_law_211 rfl rfl ?_
        refine x_aload_n (q := 213) dL_law_212 rfl rfl ?_
        refine x_iload_n (q := 214) dL_law_213 rfl rfl ?_
        refine x_iconst (q := 215) dL_law_214 rfl (by decide) ?_
        refine x_iadd (q := 216) (z := i + 1) dL_law_215 rfl (wr_id ⟨by omega, by omega⟩) ?_
        refine x_iaload (q := 217) dL_law_216 rfl (Or.inr h30) (by omega) (by rw [hln]; omega) ?_
        refine Ex.stk (st' := [.inl v1, .inr (.inr (some 1))]) (by rw [show iv G 0 (i + 1) = v1 from hv1]) ?_
        refine x_aload_n (q := 218) dL_law_217 rfl rfl ?_
        refine x_iload_n (q := 219) dL_law_218 rfl rfl ?_
        refine x_iconst (q := 220) dL_law_219 rfl (by decide) ?_
        refine x_iadd (q := 221) (z := i + 2) dL_law_220 rfl (wr_id ⟨by omega, by omega⟩) ?_
        refine x_iaload (q := 222) dL_law_221 rfl (Or.inr h30) (by omega) (by rw [hln]; omega) ?_
        refine Ex.stk (st' := [.inl v2, .inl v1, .inr (.inr (some 1))]) (by rw [show iv G 0 (i + 2) = v2 from hv2]) ?_
        refine x_invV (q := 225) (as := [.inr (.inr (some 1)), .inl v1, .inl v2]) (rest := []) dL_law_222 rfl l_11_35 m_X9_call rfl rfl (ft1 hC.1) (Nat.le_of_ble_eq_true rfl) (CX.scr h30 (CX.up (d := 0 + 3) (by omega) (cc_call 0 hC v1 v2 hI.2.2.2.2.2.2.1 (Iv_NmOk hI (by omega))))) (fun r1 G1 hZ => ?_)
        obtain ⟨⟨rfl, hGz⟩, hs1⟩ := hZ
        have hC1 : RC n s G1 := by rw [hGz]; exact hC
        have hM1 : RM s G1 := by rw [hGz]; exact hM
        have h31 : tg G1 0 = 30 := hs1.1.trans h30
        refine Ex.stk (st' := [.inl (callA s.2.2.2.2.1 s.2.2.2.2.2.1 s.2.2.1.1 v1 v2)]) rfl ?_
        refine x_aload_n (q := 226) dL_law_225 rfl rfl ?_
        refine x_aload_n (q := 227) dL_law_226 rfl rfl ?_
        refine x_iload_n (q := 228) dL_law_227 rfl rfl ?_
        refine x_iconst (q := 229) dL_law_228 rfl (by decide) ?_
        refine x_iadd (q := 230) (z := i + 1) dL_law_229 rfl (wr_id ⟨by omega, by omega⟩) ?_
        refine x_iaload (q := 231) dL_law_230 rfl (Or.inr h31) (by omega) (by rw [hs1.2.1, hln]; omega) ?_
        refine Ex.stk (st' := [.inl v1, .inr (.inr (some 35)), .inl (callA s.2.2.2.2.1 s.2.2.2.2.2.1 s.2.2.1.1 v1 v2)]) (by rw [show iv G1 0 (i + 1) = v1 from (hs1.2.2 _).trans hv1]) ?_
        refine x_aload_n (q := 232) dL_law_231 rfl rfl ?_
        refine x_iload_n (q := 233) dL_law_232 rfl rfl ?_
        refine x_iconst (q := 234) dL_law_233 rfl (by decide) ?_
        refine x_iadd (q := 235) (z := i + 2) dL_law_234 rfl (wr_id ⟨by omega, by omega⟩) ?_
        refine x_iaload (q := 236) dL_law_235 rfl (Or.inr h31) (by omega) (by rw [hs1.2.1, hln]; omega) ?_
        refine Ex.stk (st' := [.inl v2, .inl v1, .inr (.inr (some 35)), .inl (callA s.2.2.2.2.1 s.2.2.2.2.2.1 s.2.2.1.1 v1 v2)]) (by rw [show iv G1 0 (i + 2) = v2 from (hs1.2.2 _).trans hv2]) ?_
        refine x_invV (q := 239) (as := [.inr (.inr (some 35)), .inl v1, .inl v2]) (rest := [.inl (callA s.2.2.2.2.1 s.2.2.2.2.2.1 s.2.2.1.1 v1 v2)]) dL_law_236 rfl l_11_39 m_X10_call rfl rfl (ft35 hM1.1) (Nat.le_of_ble_eq_true rfl) (CX.scr h31 (CX.up (d := 0 + 4) (by omega) (cm_call 0 hM1 hI.2.2.2.2.2.2.1 v1 v2))) (fun r1 G2 hZ => ?_)
        obtain ⟨⟨rfl, hGz2⟩, hs2⟩ := hZ
        have hC2 : RC n s G2 := by rw [hGz2]; exact hC1
        have hM2 : RM s G2 := by rw [hGz2]; exact hM1
        have hsc := hs1.trans hs2
        have hI2 : Iv (n + 1) (s) := Iv_mono (by omega) hI
        refine Ex.stk (st' := [.inl (callA s.2.2.2.2.1 s.2.2.2.2.2.1 s.2.2.1.1 v1 v2), .inl (callA s.2.2.2.2.1 s.2.2.2.2.2.1 s.2.2.1.1 v1 v2)]) rfl ?_
        refine x_icmp_eq (q := 242) (t := 517) dL_law_239 rfl (by decide) (fun h239 => ?_) (fun h239 => by exfalso; exact absurd rfl h239)
        refine x_iinc (q := 520) (ls' := [some (.inr (.inr (some 0))), some (.inr (.inr (some 1))), some (.inr (.inr (some 35))), some (.inl (i + 4))]) dL_law_517 rfl rfl (by first | rfl | exact hnl | exact hnl2 _) (by rw [show wr (i + 4) = i + 4 from (wr_id ⟨by omega, by omega⟩)]; rfl) ?_
        refine x_goto (t := 18) dL_law_520 (by decide) ?_
        exact IH _ (by omega) (i + 4) (n + 1) (s) G2 rfl ⟨RC_mono (by omega) hC2, hM2, hI2, hsc.1.trans h30, hsc.2.1.trans hln, fun k => by rw [hsc.2.2]; exact hb k, by omega, by omega, by omega⟩
      · refine x_tableIn (t := 244) (off := 212) dL_law_32 (by omega) (by omega) (by rw [hs32]; rfl) (by decide) ?_
        refine x_aload_n (q := 245) dL_law_244 rfl rfl ?_
        refine x_aload_n (q := 246) dL_law_245 rfl rfl ?_
        refine x_iload_n (q := 247) dL_law_246 rfl rfl ?_
        refine x_iconst (q := 248) dL_law_247 rfl (by decide) ?_
        refine x_iadd (q := 249) (z := i + 1) dL_law_248 rfl (wr_id ⟨by omega, by omega⟩) ?_
        refine x_iaload (q := 250) dL_law_249 rfl (Or.inr h30) (by omega) (by rw [hln]; omega) ?_
        refine Ex.stk (st' := [.inl v1, .inr (.inr (some 1))]) (by rw [show iv G 0 (i + 1) = v1 from hv1]) ?_
        refine x_invV (q := 253) (as := [.inr (.inr (some 1)), .inl v1]) (rest := []) dL_law_250 rfl l_11_40 m_X9_find rfl rfl (ft1 hC.1) (Nat.le_of_ble_eq_true rfl) (CX.scr h30 (CX.up (d := 0 + 2) (by omega) (cc_find 0 hC hI.2.2.2.2.2.2.1 v1 (Iv_NmOk hI (by omega)) (Iv_NmD hI)))) (fun r1 G1 hZ => ?_)
        obtain ⟨⟨rfl, hGz⟩, hs1⟩ := hZ
        have hC1 : RC n s G1 := by rw [hGz]; exact hC
        have hM1 : RM s G1 := by rw [hGz]; exact hM
        have h31 : tg G1 0 = 30 := hs1.1.trans h30
        refine Ex.stk (st' := [.inl (lsF v1 (flat 6 1 s.2.2.2.2.1) 0 (-1))]) rfl ?_
        refine x_aload_n (q := 254) dL_law_253 rfl rfl ?_
        refine x_aload_n (q := 255) dL_law_254 rfl rfl ?_
        refine x_iload_n (q := 256) dL_law_255 rfl rfl ?_
        refine x_iconst (q := 257) dL_law_256 rfl (by decide) ?_
        refine x_iadd (q := 258) (z := i + 1) dL_law_257 rfl (wr_id ⟨by omega, by omega⟩) ?_
        refine x_iaload (q := 259) dL_law_258 rfl (Or.inr h31) (by omega) (by rw [hs1.2.1, hln]; omega) ?_
        refine Ex.stk (st' := [.inl v1, .inr (.inr (some 35)), .inl (lsF v1 (flat 6 1 s.2.2.2.2.1) 0 (-1))]) (by rw [show iv G1 0 (i + 1) = v1 from (hs1.2.2 _).trans hv1]) ?_
        refine x_invV (q := 262) (as := [.inr (.inr (some 35)), .inl v1]) (rest := [.inl (lsF v1 (flat 6 1 s.2.2.2.2.1) 0 (-1))]) dL_law_259 rfl l_11_43 m_X10_find rfl rfl (ft35 hM1.1) (Nat.le_of_ble_eq_true rfl) (CX.scr h31 (CX.up (d := 0 + 1) (by omega) (c_find 0 hM1.1 hM1.2.2.2.2.2.1 hM1.2.2.2.2.2.2.1 hI.2.2.2.2.2.2.1 v1))) (fun r1 G2 hZ => ?_)
        obtain ⟨⟨hGz2, rfl⟩, hs2⟩ := hZ
        have hC2 : RC n s G2 := by rw [hGz2]; exact hC1
        have hM2 : RM s G2 := by rw [hGz2]; exact hM1
        have hsc := hs1.trans hs2
        have hI2 : Iv (n + 1) (s) := Iv_mono (by omega) hI
        refine Ex.stk (st' := [.inl (lsF v1 (flat 6 1 s.2.2.2.2.1) 0 (-1)), .inl (lsF v1 (flat 6 1 s.2.2.2.2.1) 0 (-1))]) rfl ?_
        refine x_icmp_eq (q := 265) (t := 517) dL_law_262 rfl (by decide) (fun h262 => ?_) (fun h262 => by exfalso; exact absurd rfl h262)
        refine x_iinc (q := 520) (ls' := [some (.inr (.inr (some 0))), some (.inr (.inr (some 1))), some (.inr (.inr (some 35))), some (.inl (i + 4))]) dL_law_517 rfl rfl (by first | rfl | exact hnl | exact hnl2 _) (by rw [show wr (i + 4) = i + 4 from (wr_id ⟨by omega, by omega⟩)]; rfl) ?_
        refine x_goto (t := 18) dL_law_520 (by decide) ?_
        exact IH _ (by omega) (i + 4) (n + 1) (s) G2 rfl ⟨RC_mono (by omega) hC2, hM2, hI2, hsc.1.trans h30, hsc.2.1.trans hln, fun k => by rw [hsc.2.2]; exact hb k, by omega, by omega, by omega⟩
      · refine x_tableIn (t := 267) (off := 235) dL_law_32 (by omega) (by omega) (by rw [hs32]; rfl) (by decide) ?_
        refine x_aload_n (q := 268) dL_law_267 rfl rfl ?_
        refine x_aload_n (q := 269) dL_law_268 rfl rfl ?_
        refine x_iload_n (q := 270) dL_law_269 rfl rfl ?_
        refine x_iconst (q := 271) dL_law_270 rfl (by decide) ?_
        refine x_iadd (q := 272) (z := i + 1) dL_law_271 rfl (wr_id ⟨by omega, by omega⟩) ?_
        refine x_iaload (q := 273) dL_law_272 rfl (Or.inr h30) (by omega) (by rw [hln]; omega) ?_
        refine Ex.stk (st' := [.inl v1, .inr (.inr (some 1))]) (by rw [show iv G 0 (i + 1) = v1 from hv1]) ?_
        refine x_aload_n (q := 274) dL_law_273 rfl rfl ?_
        refine x_iload_n (q := 275) dL_law_274 rfl rfl ?_
        refine x_iconst (q := 276) dL_law_275 rfl (by decide) ?_
        refine x_iadd (q := 277) (z := i + 2) dL_law_276 rfl (wr_id ⟨by omega, by omega⟩) ?_
        refine x_iaload (q := 278) dL_law_277 rfl (Or.inr h30) (by omega) (by rw [hln]; omega) ?_
        refine Ex.stk (st' := [.inl v2, .inl v1, .inr (.inr (some 1))]) (by rw [show iv G 0 (i + 2) = v2 from hv2]) ?_
        refine x_invV (q := 281) (as := [.inr (.inr (some 1)), .inl v1, .inl v2]) (rest := []) dL_law_278 rfl l_11_44 m_X9_set rfl rfl (ft1 hC.1) (Nat.le_of_ble_eq_true rfl) (CX.scr h30 (CX.up (d := 0 + 5) (by omega) (cc_set 0 hC v1 v2 hI.2.2.1.2.2.1))) (fun r1 G1 hZ => ?_)
        obtain ⟨⟨rfl, hC1, hS1⟩, hs1⟩ := hZ
        have hM1 := RM_Sm hM hS1
        have h31 : tg G1 0 = 30 := hs1.1.trans h30
        refine Ex.stk (st' := [.inl ((o_set v1 v2 s).1)]) rfl ?_
        refine x_aload_n (q := 282) dL_law_281 rfl rfl ?_
        refine x_aload_n (q := 283) dL_law_282 rfl rfl ?_
        refine x_iload_n (q := 284) dL_law_283 rfl rfl ?_
        refine x_iconst (q := 285) dL_law_284 rfl (by decide) ?_
        refine x_iadd (q := 286) (z := i + 1) dL_law_285 rfl (wr_id ⟨by omega, by omega⟩) ?_
        refine x_iaload (q := 287) dL_law_286 rfl (Or.inr h31) (by omega) (by rw [hs1.2.1, hln]; omega) ?_
        refine Ex.stk (st' := [.inl v1, .inr (.inr (some 35)), .inl ((o_set v1 v2 s).1)]) (by rw [show iv G1 0 (i + 1) = v1 from (hs1.2.2 _).trans hv1]) ?_
        refine x_aload_n (q := 288) dL_law_287 rfl rfl ?_
        refine x_iload_n (q := 289) dL_law_288 rfl rfl ?_
        refine x_iconst (q := 290) dL_law_289 rfl (by decide) ?_
        refine x_iadd (q := 291) (z := i + 2) dL_law_290 rfl (wr_id ⟨by omega, by omega⟩) ?_
        refine x_iaload (q := 292) dL_law_291 rfl (Or.inr h31) (by omega) (by rw [hs1.2.1, hln]; omega) ?_
        refine Ex.stk (st' := [.inl v2, .inl v1, .inr (.inr (some 35)), .inl ((o_set v1 v2 s).1)]) (by rw [show iv G1 0 (i + 2) = v2 from (hs1.2.2 _).trans hv2]) ?_
        refine x_invV (q := 295) (as := [.inr (.inr (some 35)), .inl v1, .inl v2]) (rest := [.inl ((o_set v1 v2 s).1)]) dL_law_292 rfl l_11_47 m_X10_set rfl rfl (ft35 hM1.1) (Nat.le_of_ble_eq_true rfl) (CX.scr h31 (CX.up (d := 0 + 3) (by omega) (cm_set 0 hM1 v1 v2 hI.2.2.1.2.2.1))) (fun r1 G2 hZ => ?_)
        obtain ⟨⟨rfl, hM2, hMo⟩, hs2⟩ := hZ
        have hC2 := RC_Mo hC1 hMo
        have hsc := hs1.trans hs2
        have hI2 : Iv (n + 1) ((o_set v1 v2 s).2) := Iv_mono (by omega) (Iv_set hI v1 v2)
        refine Ex.stk (st' := [.inl ((o_set v1 v2 s).1), .inl ((o_set v1 v2 s).1)]) rfl ?_
        refine x_icmp_eq (q := 298) (t := 517) dL_law_295 rfl (by decide) (fun h295 => ?_) (fun h295 => by exfalso; exact absurd rfl h295)
        refine x_iinc (q := 520) (ls' := [some (.inr (.inr (some 0))), some (.inr (.inr (some 1))), some (.inr (.inr (some 35))), some (.inl (i + 4))]) dL_law_517 rfl rfl (by first | rfl | exact hnl | exact hnl2 _) (by rw [show wr (i + 4) = i + 4 from (wr_id ⟨by omega, by omega⟩)]; rfl) ?_
        refine x_goto (t := 18) dL_law_520 (by decide) ?_
        exact IH _ (by omega) (i + 4) (n + 1) ((o_set v1 v2 s).2) G2 rfl ⟨RC_mono (by omega) hC2, hM2, hI2, hsc.1.trans h30, hsc.2.1.trans hln, fun k => by rw [hsc.2.2]; exact hb k, by omega, by omega, by omega⟩
      · refine x_tableIn (t := 300) (off := 268) dL_law_32 (by omega) (by omega) (by rw [hs32]; rfl) (by decide) ?_
        refine x_aload_n (q := 301) dL_law_300 rfl rfl ?_
        refine x_aload_n (q := 302) dL_law_301 rfl rfl ?_
        refine x_iload_n (q := 303) dL_law_302 rfl rfl ?_
        refine x_iconst (q := 304) dL_law_303 rfl (by decide) ?_
        refine x_iadd (q := 305) (z := i + 1) dL_law_304 rfl (wr_id ⟨by omega, by omega⟩) ?_
        refine x_iaload (q := 306) dL_law_305 rfl (Or.inr h30) (by omega) (by rw [hln]; omega) ?_
        refine Ex.stk (st' := [.inl v1, .inr (.inr (some 1))]) (by rw [show iv G 0 (i + 1) = v1 from hv1]) ?_
        refine x_aload_n (q := 307) dL_law_306 rfl rfl ?_
        refine x_iload_n (q := 308) dL_law_307 rfl rfl ?_
        refine x_iconst (q := 309) dL_law_308 rfl (by decide) ?_
        refine x_iadd (q := 310) (z := i + 2) dL_law_309 rfl (wr_id ⟨by omega, by omega⟩) ?_
        refine x_iaload (q := 311) dL_law_310 rfl (Or.inr h30) (by omega) (by rw [hln]; omega) ?_
        refine Ex.stk (st' := [.inl v2, .inl v1, .inr (.inr (some 1))]) (by rw [show iv G 0 (i + 2) = v2 from hv2]) ?_
        refine x_invV (q := 314) (as := [.inr (.inr (some 1)), .inl v1, .inl v2]) (rest := []) dL_law_311 rfl l_11_48 m_X9_aim rfl rfl (ft1 hC.1) (Nat.le_of_ble_eq_true rfl) (CX.scr h30 (CX.up (d := 0 + 4) (by omega) (cc_aim 0 hC v1 v2 hI.2.2.1.2.2.1))) (fun r1 G1 hZ => ?_)
        obtain ⟨⟨rfl, hC1, hS1⟩, hs1⟩ := hZ
        have hM1 := RM_Sm hM hS1
        have h31 : tg G1 0 = 30 := hs1.1.trans h30
        refine Ex.stk (st' := [.inl ((o_aim v1 v2 s).1)]) rfl ?_
        refine x_aload_n (q := 315) dL_law_314 rfl rfl ?_
        refine x_aload_n (q := 316) dL_law_315 rfl rfl ?_
        refine x_iload_n (q := 317) dL_law_316 rfl rfl ?_
        refine x_iconst (q := 318) dL_law_317 rfl (by decide) ?_
        refine x_iadd (q := 319) (z := i + 1) dL_law_318 rfl (wr_id ⟨by omega, by omega⟩) ?_
        refine x_iaload (q := 320) dL_law_319 rfl (Or.inr h31) (by omega) (by rw [hs1.2.1, hln]; omega) ?_
        refine Ex.stk (st' := [.inl v1, .inr (.inr (some 35)), .inl ((o_aim v1 v2 s).1)]) (by rw [show iv G1 0 (i + 1) = v1 from (hs1.2.2 _).trans hv1]) ?_
        refine x_aload_n (q := 321) dL_law_320 rfl rfl ?_
        refine x_iload_n (q := 322) dL_law_321 rfl rfl ?_
        refine x_iconst (q := 323) dL_law_322 rfl (by decide) ?_
        refine x_iadd (q := 324) (z := i + 2) dL_law_323 rfl (wr_id ⟨by omega, by omega⟩) ?_
        refine x_iaload (q := 325) dL_law_324 rfl (Or.inr h31) (by omega) (by rw [hs1.2.1, hln]; omega) ?_
        refine Ex.stk (st' := [.inl v2, .inl v1, .inr (.inr (some 35)), .inl ((o_aim v1 v2 s).1)]) (by rw [show iv G1 0 (i + 2) = v2 from (hs1.2.2 _).trans hv2]) ?_
        refine x_invV (q := 328) (as := [.inr (.inr (some 35)), .inl v1, .inl v2]) (rest := [.inl ((o_aim v1 v2 s).1)]) dL_law_325 rfl l_11_51 m_X10_aim rfl rfl (ft35 hM1.1) (Nat.le_of_ble_eq_true rfl) (CX.scr h31 (CX.up (d := 0 + 3) (by omega) (cm_aim 0 hM1 v1 v2 hI.2.2.1.2.2.1 (by have := hI.2.1.1; omega) hI.2.1.2.1))) (fun r1 G2 hZ => ?_)
        obtain ⟨⟨rfl, hM2, hMo⟩, hs2⟩ := hZ
        have hC2 := RC_Mo hC1 hMo
        have hsc := hs1.trans hs2
        have hI2 : Iv (n + 1) ((o_aim v1 v2 s).2) := Iv_mono (by omega) (Iv_aim hI v1 v2)
        refine Ex.stk (st' := [.inl ((o_aim v1 v2 s).1), .inl ((o_aim v1 v2 s).1)]) rfl ?_
        refine x_icmp_eq (q := 331) (t := 517) dL_law_328 rfl (by decide) (fun h328 => ?_) (fun h328 => by exfalso; exact absurd rfl h328)
        refine x_iinc (q := 520) (ls' := [some (.inr (.inr (some 0))), some (.inr (.inr (some 1))), some (.inr (.inr (some 35))), some (.inl (i + 4))]) dL_law_517 rfl rfl (by first | rfl | exact hnl | exact hnl2 _) (by rw [show wr (i + 4) = i + 4 from (wr_id ⟨by omega, by omega⟩)]; rfl) ?_
        refine x_goto (t := 18) dL_law_520 (by decide) ?_
        exact IH _ (by omega) (i + 4) (n + 1) ((o_aim v1 v2 s).2) G2 rfl ⟨RC_mono (by omega) hC2, hM2, hI2, hsc.1.trans h30, hsc.2.1.trans hln, fun k => by rw [hsc.2.2]; exact hb k, by omega, by omega, by omega⟩
      · refine x_tableIn (t := 333) (off := 301) dL_law_32 (by omega) (by omega) (by rw [hs32]; rfl) (by decide) ?_
        refine x_aload_n (q := 334) dL_law_333 rfl rfl ?_
        refine x_invV (q := 337) (as := [.inr (.inr (some 1))]) (rest := []) dL_law_334 rfl l_11_52 m_X9_bring rfl rfl (ft1 hC.1) (Nat.le_of_ble_eq_true rfl) (CX.scr h30 (CX.up (d := 0 + 182) (by omega) (cc_bring 0 hC hn0 (by omega) hI.2.2.2.2.2.2.1 hI.2.2.1.1.1 hI.2.2.2.2.2.1 hI.2.2.2.2.1 (Iv_hA hI)))) (fun r1 G1 hZ => ?_)
        obtain ⟨⟨rfl, hC1, hS1⟩, hs1⟩ := hZ
        have hM1 := RM_Sm hM hS1
        have h31 : tg G1 0 = 30 := hs1.1.trans h30
        refine Ex.stk (st' := [.inl ((m_bring s).1)]) rfl ?_
        refine x_aload_n (q := 338) dL_law_337 rfl rfl ?_
        refine x_invV (q := 341) (as := [.inr (.inr (some 35))]) (rest := [.inl ((m_bring s).1)]) dL_law_338 rfl l_11_55 m_X10_bring rfl rfl (ft35 hM1.1) (Nat.le_of_ble_eq_true rfl) (CX.scr h31 (CX.up (d := 0 + 10) (by omega) (cm_bring 0 hM1 (Iv_Aim hI) (Iv_Cnt hI (by omega))))) (fun r1 G2 hZ => ?_)
        obtain ⟨⟨rfl, hM2, hMo⟩, hs2⟩ := hZ
        have hC2 := RC_Mo hC1 hMo
        have hsc := hs1.trans hs2
        have hI2 : Iv (n + 1) ((m_bring s).2) := Iv_bring hI hn0
        refine Ex.stk (st' := [.inl ((m_bring s).1), .inl ((m_bring s).1)]) rfl ?_
        refine x_icmp_eq (q := 344) (t := 517) dL_law_341 rfl (by decide) (fun h341 => ?_) (fun h341 => by exfalso; exact absurd rfl h341)
        refine x_iinc (q := 520) (ls' := [some (.inr (.inr (some 0))), some (.inr (.inr (some 1))), some (.inr (.inr (some 35))), some (.inl (i + 4))]) dL_law_517 rfl rfl (by first | rfl | exact hnl | exact hnl2 _) (by rw [show wr (i + 4) = i + 4 from (wr_id ⟨by omega, by omega⟩)]; rfl) ?_
        refine x_goto (t := 18) dL_law_520 (by decide) ?_
        exact IH _ (by omega) (i + 4) (n + 1) ((m_bring s).2) G2 rfl ⟨hC2, hM2, hI2, hsc.1.trans h30, hsc.2.1.trans hln, fun k => by rw [hsc.2.2]; exact hb k, by omega, by omega, by omega⟩
      · refine x_tableIn (t := 346) (off := 314) dL_law_32 (by omega) (by omega) (by rw [hs32]; rfl) (by decide) ?_
        refine x_aload_n (q := 347) dL_law_346 rfl rfl ?_
        refine x_aload_n (q := 348) dL_law_347 rfl rfl ?_
        refine x_iload_n (q := 349) dL_law_348 rfl rfl ?_
        refine x_iconst (q := 350) dL_law_349 rfl (by decide) ?_
        refine x_iadd (q := 351) (z := i + 1) dL_law_350 rfl (wr_id ⟨by omega, by omega⟩) ?_
        refine x_iaload (q := 352) dL_law_351 rfl (Or.inr h30) (by omega) (by rw [hln]; omega) ?_
        refine Ex.stk (st' := [.inl v1, .inr (.inr (some 1))]) (by rw [show iv G 0 (i + 1) = v1 from hv1]) ?_
        refine x_invV (q := 355) (as := [.inr (.inr (some 1)), .inl v1]) (rest := []) dL_law_352 rfl l_11_56 m_X9_drift rfl rfl (ft1 hC.1) (Nat.le_of_ble_eq_true rfl) (CX.scr h30 (CX.up (d := 0 + 5) (by omega) (cc_drift 0 hC v1 hI.2.2.1.2.2.1))) (fun r1 G1 hZ => ?_)
        obtain ⟨⟨rfl, hC1, hS1⟩, hs1⟩ := hZ
        have hM1 := RM_Sm hM hS1
        have h31 : tg G1 0 = 30 := hs1.1.trans h30
        refine Ex.stk (st' := [.inl ((o_drift v1 s).1)]) rfl ?_
        refine x_aload_n (q := 356) dL_law_355 rfl rfl ?_
        refine x_aload_n (q := 357) dL_law_356 rfl rfl ?_
        refine x_iload_n (q := 358) dL_law_357 rfl rfl ?_
        refine x_iconst (q := 359) dL_law_358 rfl (by decide) ?_
        refine x_iadd (q := 360) (z := i + 1) dL_law_359 rfl (wr_id ⟨by omega, by omega⟩) ?_
        refine x_iaload (q := 361) dL_law_360 rfl (Or.inr h31) (by omega) (by rw [hs1.2.1, hln]; omega) ?_
        refine Ex.stk (st' := [.inl v1, .inr (.inr (some 35)), .inl ((o_drift v1 s).1)]) (by rw [show iv G1 0 (i + 1) = v1 from (hs1.2.2 _).trans hv1]) ?_
        refine x_invV (q := 364) (as := [.inr (.inr (some 35)), .inl v1]) (rest := [.inl ((o_drift v1 s).1)]) dL_law_361 rfl l_11_59 m_X10_drift rfl rfl (ft35 hM1.1) (Nat.le_of_ble_eq_true rfl) (CX.scr h31 (CX.up (d := 0 + 3) (by omega) (cm_drift 0 hM1 v1 hI.2.2.1.2.2.1 hI.2.2.1.2.2.2.2.1 hI.2.2.1.2.2.2.2.2))) (fun r1 G2 hZ => ?_)
        obtain ⟨⟨rfl, hM2, hMo⟩, hs2⟩ := hZ
        have hC2 := RC_Mo hC1 hMo
        have hsc := hs1.trans hs2
        have hI2 : Iv (n + 1) ((o_drift v1 s).2) := Iv_mono (by omega) (Iv_drift hI v1)
        refine Ex.stk (st' := [.inl ((o_drift v1 s).1), .inl ((o_drift v1 s).1)]) rfl ?_
        refine x_icmp_eq (q := 367) (t := 517) dL_law_364 rfl (by decide) (fun h364 => ?_) (fun h364 => by exfalso; exact absurd rfl h364)
        refine x_iinc (q := 520) (ls' := [some (.inr (.inr (some 0))), some (.inr (.inr (some 1))), some (.inr (.inr (some 35))), some (.inl (i + 4))]) dL_law_517 rfl rfl (by first | rfl | exact hnl | exact hnl2 _) (by rw [show wr (i + 4) = i + 4 from (wr_id ⟨by omega, by omega⟩)]; rfl) ?_
        refine x_goto (t := 18) dL_law_520 (by decide) ?_
        exact IH _ (by omega) (i + 4) (n + 1) ((o_drift v1 s).2) G2 rfl ⟨RC_mono (by omega) hC2, hM2, hI2, hsc.1.trans h30, hsc.2.1.trans hln, fun k => by rw [hsc.2.2]; exact hb k, by omega, by omega, by omega⟩
      · refine x_tableIn (t := 369) (off := 337) dL_law_32 (by omega) (by omega) (by rw [hs32]; rfl) (by decide) ?_
        refine x_aload_n (q := 370) dL_law_369 rfl rfl ?_
        refine x_aload_n (q := 371) dL_law_370 rfl rfl ?_
        refine x_iload_n (q := 372) dL_law_371 rfl rfl ?_
        refine x_iconst (q := 373) dL_law_372 rfl (by decide) ?_
        refine x_iadd (q := 374) (z := i + 1) dL_law_373 rfl (wr_id ⟨by omega, by omega⟩) ?_
        refine x_iaload (q := 375) dL_law_374 rfl (Or.inr h30) (by omega) (by rw [hln]; omega) ?_
        refine Ex.stk (st' := [.inl v1, .inr (.inr (some 1))]) (by rw [show iv G 0 (i + 1) = v1 from hv1]) ?_
        refine x_invV (q := 378) (as := [.inr (.inr (some 1)), .inl v1]) (rest := []) dL_law_375 rfl l_11_60 m_X9_undo rfl rfl (ft1 hC.1) (Nat.le_of_ble_eq_true rfl) (CX.scr h30 (CX.up (d := 0 + 3) (by omega) (cc_undo 0 hC v1 hI.2.2.1.2.2.1))) (fun r1 G1 hZ => ?_)
        obtain ⟨⟨rfl, hC1, hS1⟩, hs1⟩ := hZ
        have hM1 := RM_Sm hM hS1
        have h31 : tg G1 0 = 30 := hs1.1.trans h30
        refine Ex.stk (st' := [.inl ((o_undo v1 s).1)]) rfl ?_
        refine x_aload_n (q := 379) dL_law_378 rfl rfl ?_
        refine x_aload_n (q := 380) dL_law_379 rfl rfl ?_
        refine x_iload_n (q := 381) dL_law_380 rfl rfl ?_
        refine x_iconst (q := 382) dL_law_381 rfl (by decide) ?_
        refine x_iadd (q := 383) (z := i + 1) dL_law_382 rfl (wr_id ⟨by omega, by omega⟩) ?_
        refine x_iaload (q := 384) dL_law_383 rfl (Or.inr h31) (by omega) (by rw [hs1.2.1, hln]; omega) ?_
        refine Ex.stk (st' := [.inl v1, .inr (.inr (some 35)), .inl ((o_undo v1 s).1)]) (by rw [show iv G1 0 (i + 1) = v1 from (hs1.2.2 _).trans hv1]) ?_
        refine x_invV (q := 387) (as := [.inr (.inr (some 35)), .inl v1]) (rest := [.inl ((o_undo v1 s).1)]) dL_law_384 rfl l_11_63 m_X10_undo rfl rfl (ft35 hM1.1) (Nat.le_of_ble_eq_true rfl) (CX.scr h31 (CX.up (d := 0 + 2) (by omega) (cm_undo 0 hM1 v1 hI.2.2.1.2.2.1))) (fun r1 G2 hZ => ?_)
        obtain ⟨⟨rfl, hM2, hMo⟩, hs2⟩ := hZ
        have hC2 := RC_Mo hC1 hMo
        have hsc := hs1.trans hs2
        have hI2 : Iv (n + 1) ((o_undo v1 s).2) := Iv_mono (by omega) (Iv_undo hI v1)
        refine Ex.stk (st' := [.inl ((o_undo v1 s).1), .inl ((o_undo v1 s).1)]) rfl ?_
        refine x_icmp_eq (q := 390) (t := 517) dL_law_387 rfl (by decide) (fun h387 => ?_) (fun h387 => by exfalso; exact absurd rfl h387)
        refine x_iinc (q := 520) (ls' := [some (.inr (.inr (some 0))), some (.inr (.inr (some 1))), some (.inr (.inr (some 35))), some (.inl (i + 4))]) dL_law_517 rfl rfl (by first | rfl | exact hnl | exact hnl2 _) (by rw [show wr (i + 4) = i + 4 from (wr_id ⟨by omega, by omega⟩)]; rfl) ?_
        refine x_goto (t := 18) dL_law_520 (by decide) ?_
        exact IH _ (by omega) (i + 4) (n + 1) ((o_undo v1 s).2) G2 rfl ⟨RC_mono (by omega) hC2, hM2, hI2, hsc.1.trans h30, hsc.2.1.trans hln, fun k => by rw [hsc.2.2]; exact hb k, by omega, by omega, by omega⟩
      · refine x_tableIn (t := 392) (off := 360) dL_law_32 (by omega) (by omega) (by rw [hs32]; rfl) (by decide) ?_
        refine x_aload_n (q := 393) dL_law_392 rfl rfl ?_
        refine x_aload_n (q := 394) dL_law_393 rfl rfl ?_
        refine x_iload_n (q := 395) dL_law_394 rfl rfl ?_
        refine x_iconst (q := 396) dL_law_395 rfl (by decide) ?_
        refine x_iadd (q := 397) (z := i + 1) dL_law_396 rfl (wr_id ⟨by omega, by omega⟩) ?_
        refine x_iaload (q := 398) dL_law_397 rfl (Or.inr h30) (by omega) (by rw [hln]; omega) ?_
        refine Ex.stk (st' := [.inl v1, .inr (.inr (some 1))]) (by rw [show iv G 0 (i + 1) = v1 from hv1]) ?_
        refine x_aload_n (q := 399) dL_law_398 rfl rfl ?_
        refine x_iload_n (q := 400) dL_law_399 rfl rfl ?_
        refine x_iconst (q := 401) dL_law_400 rfl (by decide) ?_
        refine x_iadd (q := 402) (z := i + 2) dL_law_401 rfl (wr_id ⟨by omega, by omega⟩) ?_
        refine x_iaload (q := 403) dL_law_402 rfl (Or.inr h30) (by omega) (by rw [hln]; omega) ?_
        refine Ex.stk (st' := [.inl v2, .inl v1, .inr (.inr (some 1))]) (by rw [show iv G 0 (i + 2) = v2 from hv2]) ?_
        refine x_aload_n (q := 404) dL_law_403 rfl rfl ?_
        refine x_iload_n (q := 405) dL_law_404 rfl rfl ?_
        refine x_iconst (q := 406) dL_law_405 rfl (by decide) ?_
        refine x_iadd (q := 407) (z := i + 3) dL_law_406 rfl (wr_id ⟨by omega, by omega⟩) ?_
        refine x_iaload (q := 408) dL_law_407 rfl (Or.inr h30) (by omega) (by rw [hln]; omega) ?_
        refine Ex.stk (st' := [.inl v3, .inl v2, .inl v1, .inr (.inr (some 1))]) (by rw [show iv G 0 (i + 3) = v3 from hv3]) ?_
        refine x_invV (q := 411) (as := [.inr (.inr (some 1)), .inl v1, .inl v2, .inl v3]) (rest := []) dL_law_408 rfl l_11_64 m_X9_write rfl rfl (ft1 hC.1) (Nat.le_of_ble_eq_true rfl) (CX.scr h30 (CX.up (d := 0 + 2) (by omega) (cc_write 0 hC v1 v2 v3 hI.2.2.2.1.1))) (fun r1 G1 hZ => ?_)
        obtain ⟨⟨rfl, hC1, hS1⟩, hs1⟩ := hZ
        have hM1 := RM_Sm hM hS1
        have h31 : tg G1 0 = 30 := hs1.1.trans h30
        refine Ex.stk (st' := [.inl ((o_write v1 v2 v3 s).1)]) rfl ?_
        refine x_aload_n (q := 412) dL_law_411 rfl rfl ?_
        refine x_aload_n (q := 413) dL_law_412 rfl rfl ?_
        refine x_iload_n (q := 414) dL_law_413 rfl rfl ?_
        refine x_iconst (q := 415) dL_law_414 rfl (by decide) ?_
        refine x_iadd (q := 416) (z := i + 1) dL_law_415 rfl (wr_id ⟨by omega, by omega⟩) ?_
        refine x_iaload (q := 417) dL_law_416 rfl (Or.inr h31) (by omega) (by rw [hs1.2.1, hln]; omega) ?_
        refine Ex.stk (st' := [.inl v1, .inr (.inr (some 35)), .inl ((o_write v1 v2 v3 s).1)]) (by rw [show iv G1 0 (i + 1) = v1 from (hs1.2.2 _).trans hv1]) ?_
        refine x_aload_n (q := 418) dL_law_417 rfl rfl ?_
        refine x_iload_n (q := 419) dL_law_418 rfl rfl ?_
        refine x_iconst (q := 420) dL_law_419 rfl (by decide) ?_
        refine x_iadd (q := 421) (z := i + 2) dL_law_420 rfl (wr_id ⟨by omega, by omega⟩) ?_
        refine x_iaload (q := 422) dL_law_421 rfl (Or.inr h31) (by omega) (by rw [hs1.2.1, hln]; omega) ?_
        refine Ex.stk (st' := [.inl v2, .inl v1, .inr (.inr (some 35)), .inl ((o_write v1 v2 v3 s).1)]) (by rw [show iv G1 0 (i + 2) = v2 from (hs1.2.2 _).trans hv2]) ?_
        refine x_aload_n (q := 423) dL_law_422 rfl rfl ?_
        refine x_iload_n (q := 424) dL_law_423 rfl rfl ?_
        refine x_iconst (q := 425) dL_law_424 rfl (by decide) ?_
        refine x_iadd (q := 426) (z := i + 3) dL_law_425 rfl (wr_id ⟨by omega, by omega⟩) ?_
        refine x_iaload (q := 427) dL_law_426 rfl (Or.inr h31) (by omega) (by rw [hs1.2.1, hln]; omega) ?_
        refine Ex.stk (st' := [.inl v3, .inl v2, .inl v1, .inr (.inr (some 35)), .inl ((o_write v1 v2 v3 s).1)]) (by rw [show iv G1 0 (i + 3) = v3 from (hs1.2.2 _).trans hv3]) ?_
        refine x_invV (q := 430) (as := [.inr (.inr (some 35)), .inl v1, .inl v2, .inl v3]) (rest := [.inl ((o_write v1 v2 v3 s).1)]) dL_law_427 rfl l_11_68 m_X10_write rfl rfl (ft35 hM1.1) (Nat.le_of_ble_eq_true rfl) (CX.scr h31 (CX.up (d := 0 + 2) (by omega) (cm_write 0 hM1 v1 v2 v3 hI.2.2.2.1.1 (by have := hI.2.1.1; omega) hI.2.1.2.1))) (fun r1 G2 hZ => ?_)
        obtain ⟨⟨rfl, hM2, hMo⟩, hs2⟩ := hZ
        have hC2 := RC_Mo hC1 hMo
        have hsc := hs1.trans hs2
        have hI2 : Iv (n + 1) ((o_write v1 v2 v3 s).2) := Iv_mono (by omega) (Iv_write hI v1 v2 v3)
        refine Ex.stk (st' := [.inl ((o_write v1 v2 v3 s).1), .inl ((o_write v1 v2 v3 s).1)]) rfl ?_
        refine x_icmp_eq (q := 433) (t := 517) dL_law_430 rfl (by decide) (fun h430 => ?_) (fun h430 => by exfalso; exact absurd rfl h430)
        refine x_iinc (q := 520) (ls' := [some (.inr (.inr (some 0))), some (.inr (.inr (some 1))), some (.inr (.inr (some 35))), some (.inl (i + 4))]) dL_law_517 rfl rfl (by first | rfl | exact hnl | exact hnl2 _) (by rw [show wr (i + 4) = i + 4 from (wr_id ⟨by omega, by omega⟩)]; rfl) ?_
        refine x_goto (t := 18) dL_law_520 (by decide) ?_
        exact IH _ (by omega) (i + 4) (n + 1) ((o_write v1 v2 v3 s).2) G2 rfl ⟨RC_mono (by omega) hC2, hM2, hI2, hsc.1.trans h30, hsc.2.1.trans hln, fun k => by rw [hsc.2.2]; exact hb k, by omega, by omega, by omega⟩
      · refine x_tableIn (t := 435) (off := 403) dL_law_32 (by omega) (by omega) (by rw [hs32]; rfl) (by decide) ?_
        refine x_aload_n (q := 436) dL_law_435 rfl rfl ?_
        refine x_invV (q := 439) (as := [.inr (.inr (some 1))]) (rest := []) dL_law_436 rfl l_11_69 m_X9_tear rfl rfl (ft1 hC.1) (Nat.le_of_ble_eq_true rfl) (CX.scr h30 (CX.up (d := 0 + 1) (by omega) (cc_tear 0 hC))) (fun r1 G1 hZ => ?_)
        obtain ⟨⟨rfl, hC1, hS1⟩, hs1⟩ := hZ
        have hM1 := RM_Sm hM hS1
        have h31 : tg G1 0 = 30 := hs1.1.trans h30
        refine Ex.stk (st' := [.inl ((o_tear s).1)]) rfl ?_
        refine x_aload_n (q := 440) dL_law_439 rfl rfl ?_
        refine x_invV (q := 443) (as := [.inr (.inr (some 35))]) (rest := [.inl ((o_tear s).1)]) dL_law_440 rfl l_11_72 m_X10_tear rfl rfl (ft35 hM1.1) (Nat.le_of_ble_eq_true rfl) (CX.scr h31 (CX.up (d := 0 + 1) (by omega) (cm_tear 0 hM1))) (fun r1 G2 hZ => ?_)
        obtain ⟨⟨rfl, hM2, hMo⟩, hs2⟩ := hZ
        have hC2 := RC_Mo hC1 hMo
        have hsc := hs1.trans hs2
        have hI2 : Iv (n + 1) ((o_tear s).2) := Iv_mono (by omega) (Iv_tear hI)
        refine Ex.stk (st' := [.inl ((o_tear s).1), .inl ((o_tear s).1)]) rfl ?_
        refine x_icmp_eq (q := 446) (t := 517) dL_law_443 rfl (by decide) (fun h443 => ?_) (fun h443 => by exfalso; exact absurd rfl h443)
        refine x_iinc (q := 520) (ls' := [some (.inr (.inr (some 0))), some (.inr (.inr (some 1))), some (.inr (.inr (some 35))), some (.inl (i + 4))]) dL_law_517 rfl rfl (by first | rfl | exact hnl | exact hnl2 _) (by rw [show wr (i + 4) = i + 4 from (wr_id ⟨by omega, by omega⟩)]; rfl) ?_
        refine x_goto (t := 18) dL_law_520 (by decide) ?_
        exact IH _ (by omega) (i + 4) (n + 1) ((o_tear s).2) G2 rfl ⟨RC_mono (by omega) hC2, hM2, hI2, hsc.1.trans h30, hsc.2.1.trans hln, fun k => by rw [hsc.2.2]; exact hb k, by omega, by omega, by omega⟩
      · refine x_tableIn (t := 448) (off := 416) dL_law_32 (by omega) (by omega) (by rw [hs32]; rfl) (by decide) ?_
        refine x_aload_n (q := 449) dL_law_448 rfl rfl ?_
        refine x_aload_n (q := 450) dL_law_449 rfl rfl ?_
        refine x_iload_n (q := 451) dL_law_450 rfl rfl ?_
        refine x_iconst (q := 452) dL_law_451 rfl (by decide) ?_
        refine x_iadd (q := 453) (z := i + 1) dL_law_452 rfl (wr_id ⟨by omega, by omega⟩) ?_
        refine x_iaload (q := 454) dL_law_453 rfl (Or.inr h30) (by omega) (by rw [hln]; omega) ?_
        refine Ex.stk (st' := [.inl v1, .inr (.inr (some 1))]) (by rw [show iv G 0 (i + 1) = v1 from hv1]) ?_
        refine x_invV (q := 457) (as := [.inr (.inr (some 1)), .inl v1]) (rest := []) dL_law_454 rfl l_11_73 m_X9_seed rfl rfl (ft1 hC.1) (Nat.le_of_ble_eq_true rfl) (CX.scr h30 (CX.up (d := 0 + 1) (by omega) (cc_seed 0 hC v1))) (fun r1 G1 hZ => ?_)
        obtain ⟨⟨rfl, hC1, hS1⟩, hs1⟩ := hZ
        have hM1 := RM_Sm hM hS1
        have h31 : tg G1 0 = 30 := hs1.1.trans h30
        refine Ex.stk (st' := [.inl ((o_seed v1 s).1)]) rfl ?_
        refine x_aload_n (q := 458) dL_law_457 rfl rfl ?_
        refine x_aload_n (q := 459) dL_law_458 rfl rfl ?_
        refine x_iload_n (q := 460) dL_law_459 rfl rfl ?_
        refine x_iconst (q := 461) dL_law_460 rfl (by decide) ?_
        refine x_iadd (q := 462) (z := i + 1) dL_law_461 rfl (wr_id ⟨by omega, by omega⟩) ?_
        refine x_iaload (q := 463) dL_law_462 rfl (Or.inr h31) (by omega) (by rw [hs1.2.1, hln]; omega) ?_
        refine Ex.stk (st' := [.inl v1, .inr (.inr (some 35)), .inl ((o_seed v1 s).1)]) (by rw [show iv G1 0 (i + 1) = v1 from (hs1.2.2 _).trans hv1]) ?_
        refine x_invV (q := 466) (as := [.inr (.inr (some 35)), .inl v1]) (rest := [.inl ((o_seed v1 s).1)]) dL_law_463 rfl l_11_76 m_X10_seed rfl rfl (ft35 hM1.1) (Nat.le_of_ble_eq_true rfl) (CX.scr h31 (CX.up (d := 0 + 1) (by omega) (cm_seed 0 hM1 v1))) (fun r1 G2 hZ => ?_)
        obtain ⟨⟨rfl, hM2, hMo⟩, hs2⟩ := hZ
        have hC2 := RC_Mo hC1 hMo
        have hsc := hs1.trans hs2
        have hI2 : Iv (n + 1) ((o_seed v1 s).2) := Iv_mono (by omega) (Iv_seed hI (by have := hb (i + 1); omega))
        refine Ex.stk (st' := [.inl ((o_seed v1 s).1), .inl ((o_seed v1 s).1)]) rfl ?_
        refine x_icmp_eq (q := 469) (t := 517) dL_law_466 rfl (by decide) (fun h466 => ?_) (fun h466 => by exfalso; exact absurd rfl h466)
        refine x_iinc (q := 520) (ls' := [some (.inr (.inr (some 0))), some (.inr (.inr (some 1))), some (.inr (.inr (some 35))), some (.inl (i + 4))]) dL_law_517 rfl rfl (by first | rfl | exact hnl | exact hnl2 _) (by rw [show wr (i + 4) = i + 4 from (wr_id ⟨by omega, by omega⟩)]; rfl) ?_
        refine x_goto (t := 18) dL_law_520 (by decide) ?_
        exact IH _ (by omega) (i + 4) (n + 1) ((o_seed v1 s).2) G2 rfl ⟨RC_mono (by omega) hC2, hM2, hI2, hsc.1.trans h30, hsc.2.1.trans hln, fun k => by rw [hsc.2.2]; exact hb k, by omega, by omega, by omega⟩
      · refine x_tableIn (t := 471) (off := 439) dL_law_32 (by omega) (by omega) (by rw [hs32]; rfl) (by decide) ?_
        refine x_aload_n (q := 472) dL_law_471 rfl rfl ?_
        refine x_aload_n (q := 473) dL_law_472 rfl rfl ?_
        refine x_iload_n (q := 474) dL_law_473 rfl rfl ?_
        refine x_iconst (q := 475) dL_law_474 rfl (by decide) ?_
        refine x_iadd (q := 476) (z := i + 1) dL_law_475 rfl (wr_id ⟨by omega, by omega⟩) ?_
        refine x_iaload (q := 477) dL_law_476 rfl (Or.inr h30) (by omega) (by rw [hln]; omega) ?_
        refine Ex.stk (st' := [.inl v1, .inr (.inr (some 1))]) (by rw [show iv G 0 (i + 1) = v1 from hv1]) ?_
        refine x_invV (q := 480) (as := [.inr (.inr (some 1)), .inl v1]) (rest := []) dL_law_477 rfl l_11_77 m_X9_keep rfl rfl (ft1 hC.1) (Nat.le_of_ble_eq_true rfl) (CX.scr h30 (CX.up (d := 0 + 2) (by omega) (cc_keep 0 hC v1))) (fun r1 G1 hZ => ?_)
        obtain ⟨⟨rfl, hC1, hS1⟩, hs1⟩ := hZ
        have hM1 := RM_Sm hM hS1
        have h31 : tg G1 0 = 30 := hs1.1.trans h30
        refine Ex.stk (st' := [.inl ((o_keep v1 s).1)]) rfl ?_
        refine x_aload_n (q := 481) dL_law_480 rfl rfl ?_
        refine x_aload_n (q := 482) dL_law_481 rfl rfl ?_
        refine x_iload_n (q := 483) dL_law_482 rfl rfl ?_
        refine x_iconst (q := 484) dL_law_483 rfl (by decide) ?_
        refine x_iadd (q := 485) (z := i + 1) dL_law_484 rfl (wr_id ⟨by omega, by omega⟩) ?_
        refine x_iaload (q := 486) dL_law_485 rfl (Or.inr h31) (by omega) (by rw [hs1.2.1, hln]; omega) ?_
        refine Ex.stk (st' := [.inl v1, .inr (.inr (some 35)), .inl ((o_keep v1 s).1)]) (by rw [show iv G1 0 (i + 1) = v1 from (hs1.2.2 _).trans hv1]) ?_
        refine x_invV (q := 489) (as := [.inr (.inr (some 35)), .inl v1]) (rest := [.inl ((o_keep v1 s).1)]) dL_law_486 rfl l_11_80 m_X10_keep rfl rfl (ft35 hM1.1) (Nat.le_of_ble_eq_true rfl) (CX.scr h31 (CX.up (d := 0 + 3) (by omega) (cm_keepI 0 hM1 v1))) (fun r1 G2 hZ => ?_)
        obtain ⟨⟨rfl, hM2, hMo⟩, hs2⟩ := hZ
        have hC2 := RC_Mo hC1 hMo
        have hsc := hs1.trans hs2
        have hI2 : Iv (n + 1) ((o_keep v1 s).2) := Iv_mono (by omega) (Iv_keep hI v1)
        refine Ex.stk (st' := [.inl ((o_keep v1 s).1), .inl ((o_keep v1 s).1)]) rfl ?_
        refine x_icmp_eq (q := 492) (t := 517) dL_law_489 rfl (by decide) (fun h489 => ?_) (fun h489 => by exfalso; exact absurd rfl h489)
        refine x_iinc (q := 520) (ls' := [some (.inr (.inr (some 0))), some (.inr (.inr (some 1))), some (.inr (.inr (some 35))), some (.inl (i + 4))]) dL_law_517 rfl rfl (by first | rfl | exact hnl | exact hnl2 _) (by rw [show wr (i + 4) = i + 4 from (wr_id ⟨by omega, by omega⟩)]; rfl) ?_
        refine x_goto (t := 18) dL_law_520 (by decide) ?_
        exact IH _ (by omega) (i + 4) (n + 1) ((o_keep v1 s).2) G2 rfl ⟨hC2, hM2, hI2, hsc.1.trans h30, hsc.2.1.trans hln, fun k => by rw [hsc.2.2]; exact hb k, by omega, by omega, by omega⟩
      · refine x_tableIn (t := 494) (off := 462) dL_law_32 (by omega) (by omega) (by rw [hs32]; rfl) (by decide) ?_
        refine x_aload_n (q := 495) dL_law_494 rfl rfl ?_
        refine x_aload_n (q := 496) dL_law_495 rfl rfl ?_
        refine x_iload_n (q := 497) dL_law_496 rfl rfl ?_
        refine x_iconst (q := 498) dL_law_497 rfl (by decide) ?_
        refine x_iadd (q := 499) (z := i + 1) dL_law_498 rfl (wr_id ⟨by omega, by omega⟩) ?_
        refine x_iaload (q := 500) dL_law_499 rfl (Or.inr h30) (by omega) (by rw [hln]; omega) ?_
        refine Ex.stk (st' := [.inl v1, .inr (.inr (some 1))]) (by rw [show iv G 0 (i + 1) = v1 from hv1]) ?_
        refine x_invV (q := 503) (as := [.inr (.inr (some 1)), .inl v1]) (rest := []) dL_law_500 rfl l_11_81 m_X9_goBack rfl rfl (ft1 hC.1) (Nat.le_of_ble_eq_true rfl) (CX.scr h30 (CX.up (d := 0 + 2) (by omega) (cc_goBack 0 hC v1 (fun j q hq => (hI.2.2.1.2.2.2.1 j q hq).2.1)))) (fun r1 G1 hZ => ?_)
        obtain ⟨⟨rfl, hC1, hS1⟩, hs1⟩ := hZ
        have hM1 := RM_Sm hM hS1
        have h31 : tg G1 0 = 30 := hs1.1.trans h30
        refine Ex.stk (st' := [.inl ((o_goBack v1 s).1)]) rfl ?_
        refine x_aload_n (q := 504) dL_law_503 rfl rfl ?_
        refine x_aload_n (q := 505) dL_law_504 rfl rfl ?_
        refine x_iload_n (q := 506) dL_law_505 rfl rfl ?_
        refine x_iconst (q := 507) dL_law_506 rfl (by decide) ?_
        refine x_iadd (q := 508) (z := i + 1) dL_law_507 rfl (wr_id ⟨by omega, by omega⟩) ?_
        refine x_iaload (q := 509) dL_law_508 rfl (Or.inr h31) (by omega) (by rw [hs1.2.1, hln]; omega) ?_
        refine Ex.stk (st' := [.inl v1, .inr (.inr (some 35)), .inl ((o_goBack v1 s).1)]) (by rw [show iv G1 0 (i + 1) = v1 from (hs1.2.2 _).trans hv1]) ?_
        refine x_invV (q := 512) (as := [.inr (.inr (some 35)), .inl v1]) (rest := [.inl ((o_goBack v1 s).1)]) dL_law_509 rfl l_11_84 m_X10_goBack rfl rfl (ft35 hM1.1) (Nat.le_of_ble_eq_true rfl) (CX.scr h31 (CX.up (d := 0 + 3) (by omega) (cm_goBack 0 hM1 v1))) (fun r1 G2 hZ => ?_)
        obtain ⟨⟨rfl, hM2, hMo⟩, hs2⟩ := hZ
        have hC2 := RC_Mo hC1 hMo
        have hsc := hs1.trans hs2
        have hI2 : Iv (n + 1) ((o_goBack v1 s).2) := Iv_mono (by omega) (Iv_goBack hI v1)
        refine Ex.stk (st' := [.inl ((o_goBack v1 s).1), .inl ((o_goBack v1 s).1)]) rfl ?_
        refine x_icmp_eq (q := 515) (t := 517) dL_law_512 rfl (by decide) (fun h512 => ?_) (fun h512 => by exfalso; exact absurd rfl h512)
        refine x_iinc (q := 520) (ls' := [some (.inr (.inr (some 0))), some (.inr (.inr (some 1))), some (.inr (.inr (some 35))), some (.inl (i + 4))]) dL_law_517 rfl rfl (by first | rfl | exact hnl | exact hnl2 _) (by rw [show wr (i + 4) = i + 4 from (wr_id ⟨by omega, by omega⟩)]; rfl) ?_
        refine x_goto (t := 18) dL_law_520 (by decide) ?_
        exact IH _ (by omega) (i + 4) (n + 1) ((o_goBack v1 s).2) G2 rfl ⟨RC_mono (by omega) hC2, hM2, hI2, hsc.1.trans h30, hsc.2.1.trans hln, fun k => by rw [hsc.2.2]; exact hb k, by omega, by omega, by omega⟩
theorem CI_base (L : Nat) (xs : Nat → Int32) : CI (G0 L xs) (nw (G0 L xs) 9 0 (cN 9)) 1 13 [(1, 9, 0)] [] := by
  have z0 : sz (G0 L xs) = 0 := rfl
  refine ⟨rfl, rfl, fun e he => ?_, fun e he => (by cases he), fun a k ha hk => ?_, fun a k ha hk => ?_, fun a ha => ?_, fun e he => ?_⟩
  · rw [List.mem_singleton.mp he]; exact ⟨rfl, rfl⟩
  · rw [iv_nw]; split
    · rfl
    · show (if a = 0 ∧ 0 ≤ k ∧ k < (L : Int) then (xs k.toNat).toInt else 0) = 0
      rw [if_neg (by omega)]
  · rw [rv_nw]; split <;> rfl
  · subst ha
    exact ⟨by rw [tg_nw, if_neg (by omega)], by rw [ln_nw, if_neg (by omega)], fun k => by rw [iv_nw, if_neg (by omega)], fun k => by rw [rv_nw, if_neg (by omega)]⟩
  · rw [List.mem_singleton.mp he]; decide
theorem am_goal : AMgoal := by
  intro L xs hL
  have hb : ∀ k, -2147483648 ≤ iv (G0 L xs) 0 k ∧ iv (G0 L xs) 0 k ≤ 2147483647 := fun k => by
    have h := (gwf_G0 hL xs).2.2.2.2.2.1 0 k
    unfold i32 at h
    omega
  have hE : Ex (1000) (some .boolean) 11 false cL_law 0 (entr [.inr (.inr (some 0))] 4) [] (G0 L xs) LQ := by
    refine Ex.lcl (ls' := [some (.inr (.inr (some 0))), none, none, none]) rfl ?_
    refine x_new (q := 3) dL_law_0 rfl n_11_7 ?_
    refine Ex.stk (st' := [.inr (.inr (some 1))]) rfl ?_
    refine x_dup (q := 4) dL_law_3 rfl rfl ?_
    refine x_invI (q := 7) (as := [.inr (.inr (some 1))]) (rest := [.inr (.inr (some 1))]) dL_law_4 rfl l_11_9 m_X9_init rfl rfl (Nat.le_of_ble_eq_true rfl) (CX.up (d := 0 + 15) (by omega) (cc_init 0 (CI_base L xs))) (fun r1 G1 hZ => ?_)
    obtain ⟨rfl, a1, a2, a3, a4, a5⟩ := hZ
    refine Ex.stk (st' := [.inr (.inr (some 1))]) rfl ?_
    refine x_astore_n (q := 8) (ls' := [some (.inr (.inr (some 0))), some (.inr (.inr (some 1))), none, none]) dL_law_7 rfl (Nat.le_of_ble_eq_true rfl) (by first | rfl | exact hnl | exact hnl2 _) rfl ?_
    refine x_new (q := 11) dL_law_8 rfl n_11_10 ?_
    refine Ex.stk (st' := [.inr (.inr (some 35))]) (by rw [a1]) ?_
    refine x_dup (q := 12) dL_law_11 rfl rfl ?_
    have hMI : MI (nw G1 10 0 (cN 10)) (nw G1 10 0 (cN 10)) 35 0 0 [] [] := by
      refine ⟨by rw [sz_nw, a1], rfl, ⟨fun e he => ?_, fun e he => (by cases he)⟩, fun a k ha hk => ?_, ?_, Sm.rf, fun e he => (by cases he), fun e he => (by cases he), Nat.le_refl _⟩
      · rw [List.mem_singleton.mp he, tg_nw, ln_nw, a1]; exact ⟨rfl, rfl⟩
      · rw [iv_nw]; split
        · rfl
        · exact a4 a k ha
      · rw [iv_nw, a1, if_pos rfl]
    refine x_invI (q := 15) (as := [.inr (.inr (some 35))]) (rest := [.inr (.inr (some 35))]) dL_law_12 rfl l_11_12 m_X10_init rfl rfl (Nat.le_of_ble_eq_true rfl) (CX.up (d := 0 + 12) (by omega) (cm_init 0 hMI)) (fun r1 G2 hZ => ?_)
    obtain ⟨rfl, b1, b2, b3, b4⟩ := hZ
    refine Ex.stk (st' := [.inr (.inr (some 35))]) rfl ?_
    refine x_astore_n (q := 16) (ls' := [some (.inr (.inr (some 0))), some (.inr (.inr (some 1))), some (.inr (.inr (some 35))), none]) dL_law_15 rfl (Nat.le_of_ble_eq_true rfl) (by first | rfl | exact hnl | exact hnl2 _) rfl ?_
    refine x_iconst (q := 17) dL_law_16 rfl (by decide) ?_
    refine x_istore_n (q := 18) (ls' := [some (.inr (.inr (some 0))), some (.inr (.inr (some 1))), some (.inr (.inr (some 35))), some (.inl 0)]) dL_law_17 rfl (Nat.le_of_ble_eq_true rfl) (by first | rfl | exact hnl | exact hnl2 _) rfl ?_
    have hn : Sm (fun a => a ≤ 34) G1 (nw G1 10 0 (cN 10)) := fun a ha => by
      have ha : a ≤ 34 := ha
      exact ⟨by rw [tg_nw, if_neg (by omega)], by rw [ln_nw, if_neg (by omega)], fun k => by rw [iv_nw, if_neg (by omega)], fun k => by rw [rv_nw, if_neg (by omega)]⟩
    have hS := hn.trans b4
    have h0 := hS 0 (by show (0 : Nat) ≤ 34; omega)
    have h1 := a3 0 rfl
    have e1 : sl (G0 L xs) = 0 := rfl
    have e2 : cN 10 = 48 := by decide
    have hR := a5 G2 hS b2 (by rw [b3, sl_nw, a2, e1, e2]; decide)
    exact law_loop hL _ 0 0 s00 G2 rfl ⟨hR, b1, Iv_00, h0.1.trans (h1.1.trans rfl), h0.2.1.trans (h1.2.1.trans rfl), fun k => by rw [h0.2.2.1, h1.2.2.1]; exact hb k, by decide, by decide, by omega⟩
  obtain ⟨n, r, G', h1, h2, h3, h4⟩ := hE
  subst h2
  exact ⟨n, G', h1, h3, h4⟩
