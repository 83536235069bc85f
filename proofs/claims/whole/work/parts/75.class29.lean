/-! THE CLASS: call -/
theorem len_tszL {d : Nat} : ∀ (l : List (Tr d)), l.length ≤ tszL d l := by
  intro l
  induction l with
  | nil => exact Nat.zero_le _
  | cons t l ih => rw [List.length_cons, tszL_cons]; have := tsz_pos d t; omega
theorem infL_cnt {d : Nat} {g : Int → Tr d → List If} : ∀ (l : List (Tr d)) (k : Int), (∀ p ∈ l, ∀ k, ∀ e ∈ g k p, e.2.2.2.2 < (tsz d p : Int)) → ∀ e ∈ infL g k l, e.2.2.2.2 < (tszL d l : Int) := by
  intro l
  induction l with
  | nil => intro k _ e he; cases he
  | cons p l ih =>
    intro k hp e he
    rw [tszL_cons]
    rcases List.mem_append.mp he with h1 | h1
    · have := hp p (List.mem_cons_self ..) k e h1; omega
    · have := ih _ (fun p' hp' => hp p' (List.mem_cons_of_mem _ hp')) e h1; omega
theorem inf_cnt : ∀ (d : Nat) (ns k mb : Int) (t : Tr d), ∀ e ∈ inf d ns k mb t, e.2.2.2.2 < (tsz d t : Int) := by
  intro d
  induction d with
  | zero => intro ns k mb t; exact t.elim
  | succ d ih =>
    intro ns k mb t e he
    rw [tsz_eq]
    rcases List.mem_cons.mp (show e ∈ (t.1, ns, mb, (tsz (d + 1) t : Int), (t.2.length : Int)) :: infL (fun k' p => inf d (ns + 1) k' k p) (k + 1) t.2 from he) with rfl | hm
    · have := len_tszL t.2
      show (t.2.length : Int) < _
      omega
    · have := infL_cnt t.2 (k + 1) (fun p _ k' e' he' => ih (ns + 1) k' k p e' he') e hm
      omega
/-- names and numbers of doings fit into an int -/
def NmOk (T : Tr 6) : Prop := ∀ e ∈ inf 6 1 0 (-1) T, wr (nN e.1) = nN e.1 ∧ wr (nD e.1) = nD e.1
def callE (e : If) (h c : Int → Int) (wh : Int) : Int := if wh = 0 then nF e.1 else if wh = 1 then nX e.1 else if wh = 2 then nV e.1 else if wh = 3 then nN e.1 else if wh = 4 then nD e.1 else if wh = 5 then e.2.2.1 else if wh = 6 then e.2.1 else if wh = 7 then nM e.1 else if wh = 8 then e.2.2.2.2 else if wh = 9 then e.2.2.2.1 else if wh = 10 then (if isOldN h c (nM e.1) = true then 1 else 0) else -1000000002
theorem callA_e {T : Tr 6} {h c : Int → Int} {k wh : Int} {e : If} (k0 : 0 ≤ k) (k1 : k < (tsz 6 T : Int)) (he : (inf 6 1 0 (-1) T)[k.toNat]? = some e) : callA (nad 6 T) h c k wh = callE e h c wh := by
  unfold callA
  rw [nad_tsz, if_pos ⟨k0, k1⟩, inf_nad, List.getElem?_map, he]
  rfl
theorem cc_call0 (d : Nat) {n : Int} {s : Sg} {G : Hp} (hR0 : RC n s G) (k wh : Int) (t1 : tsz 6 s.2.2.2.2.1 ≤ 364) (hk : ¬ (0 ≤ k ∧ k < (tsz 6 s.2.2.2.2.1 : Int))) : CX (d + 3) 86 [.inr (.inr (some 1)), .inl k, .inl wh] G (fun r G' => r = some (.inl (callA s.2.2.2.2.1 s.2.2.2.2.2.1 s.2.2.1.1 k wh)) ∧ G' = G) := by
  have hk0 := hk
  have hC1 := hR0
  obtain ⟨hF, h2, h3, h4, h5, h6⟩ := hR0
  have hrow := h4
  obtain ⟨T, fs, κ, c1, c2, c3, c4, c5, c6, c7, c8, c9, c10, c11, c12, c13, c14, c15, c16, c17, c18⟩ := h6
  rw [← c1, nad_tsz] at hk
  rw [← c1, nad_tsz] at t1
  refine CX.of (d := d + 2) m_X9_call (Nat.le_of_ble_eq_true rfl) ?_
  refine Ex.lcl (ls' := [some (.inr (.inr (some 1))), some (.inl k), some (.inl wh), none]) rfl ?_
  refine x_aload_n (q := 1) dX9_call_0 rfl rfl ?_
  refine x_getR (q := 4) dX9_call_1 rfl f_9_44 rfl (ft1 hF) ?_
  refine Ex.stk (st' := [.inr (.inr (some 17))]) (by rw [fr1_9 hF]) ?_
  refine x_iload_n (q := 5) dX9_call_4 rfl rfl ?_
  refine x_invV (q := 8) (as := [.inr (.inr (some 17)), .inl k]) (rest := []) dX9_call_5 rfl l_9_155 m_X8_numbered rfl rfl (ft17 hF) (Nat.le_of_ble_eq_true rfl) (CX.up (d := 0 + 1) (by omega) (c_numb0 0 hF c4 hk)) (fun r1 G1 hR => ?_)
  obtain ⟨rfl, hG1⟩ := hR
  replace hG1 := hG1.symm
  subst hG1
  refine Ex.stk (st' := [.inr (.inr none)]) rfl ?_
  refine x_astore_n (q := 9) (ls' := [some (.inr (.inr (some 1))), some (.inl k), some (.inl wh), some (.inr (.inr none))]) dX9_call_8 rfl (Nat.le_of_ble_eq_true rfl) (by first | rfl | exact hnl | exact hnl2 _) rfl ?_
  refine x_aload_n (q := 10) dX9_call_9 rfl rfl ?_
  refine x_ifnonnull (q := 13) (t := 16) dX9_call_10 rfl (by decide) (fun a10 h10 => by exfalso; cases h10) (fun h10 => ?_)
  refine x_ldc (q := 15) dX9_call_13 rfl k_9_154 ?_
  refine x_iret dX9_call_15 rfl ?_
  refine ⟨vi_eq ?_, rfl⟩
  unfold callA; rw [if_neg hk0]
theorem cc_call1 (d : Nat) {n : Int} {s : Sg} {G : Hp} (hR0 : RC n s G) (k wh : Int) (t1 : tsz 6 s.2.2.2.2.1 ≤ 364) (hnm : NmOk s.2.2.2.2.1) (hk : 0 ≤ k ∧ k < (tsz 6 s.2.2.2.2.1 : Int)) : CX (d + 3) 86 [.inr (.inr (some 1)), .inl k, .inl wh] G (fun r G' => r = some (.inl (callA s.2.2.2.2.1 s.2.2.2.2.2.1 s.2.2.1.1 k wh)) ∧ G' = G) := by
  have hC1 := hR0
  obtain ⟨hF, h2, h3, h4, h5, h6⟩ := hR0
  have hrow := h4
  obtain ⟨T, fs, κ, c1, c2, c3, c4, c5, c6, c7, c8, c9, c10, c11, c12, c13, c14, c15, c16, c17, c18⟩ := h6
  rw [← c1, nad_tsz] at hk
  rw [← c1, nad_tsz] at t1
  obtain ⟨e, he⟩ : ∃ e, (inf 6 1 0 (-1) T)[k.toNat]? = some e := ⟨_, List.getElem?_eq_getElem (by rw [inf_len]; omega)⟩
  have hI := IA_get _ _ c5 k.toNat e he
  rw [show (0 : Int) + (k.toNat : Int) = k by omega] at hI
  have hm := List.mem_of_getElem? he
  have hct := inf_cnt _ _ _ _ _ e hm
  obtain ⟨⟨q1, q2, q3, q4, q5, q6, q7, q8, q9, q10⟩, l, l1, l2, l3⟩ := TA_inf 6 1 0 (-1) T c2 e hm
  have hw : wr (nN e.1) = nN e.1 ∧ wr (nD e.1) = nD e.1 := hnm (erA e) (by rw [← c1, inf_nad]; exact List.mem_map.mpr ⟨e, hm, rfl⟩)
  refine CX.of (d := d + 2) m_X9_call (Nat.le_of_ble_eq_true rfl) ?_
  refine Ex.lcl (ls' := [some (.inr (.inr (some 1))), some (.inl k), some (.inl wh), none]) rfl ?_
  refine x_aload_n (q := 1) dX9_call_0 rfl rfl ?_
  refine x_getR (q := 4) dX9_call_1 rfl f_9_44 rfl (ft1 hF) ?_
  refine Ex.stk (st' := [.inr (.inr (some 17))]) (by rw [fr1_9 hF]) ?_
  refine x_iload_n (q := 5) dX9_call_4 rfl rfl ?_
  refine x_invV (q := 8) (as := [.inr (.inr (some 17)), .inl k]) (rest := []) dX9_call_5 rfl l_9_155 m_X8_numbered rfl rfl (ft17 hF) (Nat.le_of_ble_eq_true rfl) (CX.up (d := 0 + 1) (by omega) (c_numb1 0 hF c4 (by omega) hk.1 hk.2 hI.1)) (fun r1 G1 hR => ?_)
  obtain ⟨rfl, hG1⟩ := hR
  replace hG1 := hG1.symm
  subst hG1
  refine Ex.stk (st' := [.inr (.inr (some (nAd e.1)))]) rfl ?_
  refine x_astore_n (q := 9) (ls' := [some (.inr (.inr (some 1))), some (.inl k), some (.inl wh), some (.inr (.inr (some (nAd e.1))))]) dX9_call_8 rfl (Nat.le_of_ble_eq_true rfl) (by first | rfl | exact hnl | exact hnl2 _) rfl ?_
  refine x_aload_n (q := 10) dX9_call_9 rfl rfl ?_
  refine x_ifnonnull (q := 13) (t := 16) dX9_call_10 rfl (by decide) (fun a10 h10 => ?_) (fun h10 => by exfalso; cases h10)
  refine x_iload_n (q := 17) dX9_call_16 rfl rfl ?_
  rcases Decidable.em (wh < 0 ∨ 10 < wh) with hs17 | hs17
  · refine x_tableOut (t := 146) dX9_call_17 hs17 (by decide) ?_
    refine x_ldc (q := 148) dX9_call_146 rfl k_9_89 ?_
    refine x_iret dX9_call_148 rfl ?_
    refine ⟨vi_eq ?_, rfl⟩
    rw [← c1, callA_e hk.1 hk.2 he]
    unfold callE
    rw [if_neg (by omega), if_neg (by omega), if_neg (by omega), if_neg (by omega), if_neg (by omega), if_neg (by omega), if_neg (by omega), if_neg (by omega), if_neg (by omega), if_neg (by omega), if_neg (by omega)]
  obtain hs17 | hs17 | hs17 | hs17 | hs17 | hs17 | hs17 | hs17 | hs17 | hs17 | hs17 : wh = 0 ∨ wh = 1 ∨ wh = 2 ∨ wh = 3 ∨ wh = 4 ∨ wh = 5 ∨ wh = 6 ∨ wh = 7 ∨ wh = 8 ∨ wh = 9 ∨ wh = 10 := by omega
  · refine x_tableIn (t := 76) (off := 59) dX9_call_17 (by omega) (by omega) (by rw [hs17]; rfl) (by decide) ?_
    refine x_aload_n (q := 77) dX9_call_76 rfl rfl ?_
    refine x_getI (q := 80) dX9_call_77 rfl f_9_159 rfl q1.1 ?_
    refine Ex.stk (st' := [.inl (nF e.1)]) (by rw [show iv G (nAd e.1) 0 = nF e.1 from q2]) ?_
    refine x_iret dX9_call_80 rfl ?_
    refine ⟨vi_eq ?_, rfl⟩
    rw [← c1, callA_e hk.1 hk.2 he]
    unfold callE
    rw [hs17]
    first | rfl | exact l2
  · refine x_tableIn (t := 81) (off := 64) dX9_call_17 (by omega) (by omega) (by rw [hs17]; rfl) (by decide) ?_
    refine x_aload_n (q := 82) dX9_call_81 rfl rfl ?_
    refine x_getI (q := 85) dX9_call_82 rfl f_9_164 rfl q1.1 ?_
    refine Ex.stk (st' := [.inl (nX e.1)]) (by rw [show iv G (nAd e.1) 1 = nX e.1 from q3]) ?_
    refine x_iret dX9_call_85 rfl ?_
    refine ⟨vi_eq ?_, rfl⟩
    rw [← c1, callA_e hk.1 hk.2 he]
    unfold callE
    rw [hs17]
    first | rfl | exact l2
  · refine x_tableIn (t := 86) (off := 69) dX9_call_17 (by omega) (by omega) (by rw [hs17]; rfl) (by decide) ?_
    refine x_aload_n (q := 87) dX9_call_86 rfl rfl ?_
    refine x_getI (q := 90) dX9_call_87 rfl f_9_167 rfl q1.1 ?_
    refine Ex.stk (st' := [.inl (nV e.1)]) (by rw [show iv G (nAd e.1) 2 = nV e.1 from q4]) ?_
    refine x_iret dX9_call_90 rfl ?_
    refine ⟨vi_eq ?_, rfl⟩
    rw [← c1, callA_e hk.1 hk.2 he]
    unfold callE
    rw [hs17]
    first | rfl | exact l2
  · refine x_tableIn (t := 91) (off := 74) dX9_call_17 (by omega) (by omega) (by rw [hs17]; rfl) (by decide) ?_
    refine x_aload_n (q := 92) dX9_call_91 rfl rfl ?_
    refine x_getI (q := 95) dX9_call_92 rfl f_9_170 rfl q1.1 ?_
    refine Ex.stk (st' := [.inl (nN e.1)]) (by rw [show iv G (nAd e.1) 3 = nN e.1 from (q5.trans hw.1)]) ?_
    refine x_iret dX9_call_95 rfl ?_
    refine ⟨vi_eq ?_, rfl⟩
    rw [← c1, callA_e hk.1 hk.2 he]
    unfold callE
    rw [hs17]
    first | rfl | exact l2
  · refine x_tableIn (t := 96) (off := 79) dX9_call_17 (by omega) (by omega) (by rw [hs17]; rfl) (by decide) ?_
    refine x_aload_n (q := 97) dX9_call_96 rfl rfl ?_
    refine x_getI (q := 100) dX9_call_97 rfl f_9_173 rfl q1.1 ?_
    refine Ex.stk (st' := [.inl (nD e.1)]) (by rw [show iv G (nAd e.1) 4 = nD e.1 from (q6.trans hw.2)]) ?_
    refine x_iret dX9_call_100 rfl ?_
    refine ⟨vi_eq ?_, rfl⟩
    rw [← c1, callA_e hk.1 hk.2 he]
    unfold callE
    rw [hs17]
    first | rfl | exact l2
  · refine x_tableIn (t := 101) (off := 84) dX9_call_17 (by omega) (by omega) (by rw [hs17]; rfl) (by decide) ?_
    refine x_aload_n (q := 102) dX9_call_101 rfl rfl ?_
    refine x_getI (q := 105) dX9_call_102 rfl f_9_176 rfl q1.1 ?_
    refine Ex.stk (st' := [.inl e.2.2.1]) (by rw [show iv G (nAd e.1) 13 = e.2.2.1 from hI.2.1]) ?_
    refine x_iret dX9_call_105 rfl ?_
    refine ⟨vi_eq ?_, rfl⟩
    rw [← c1, callA_e hk.1 hk.2 he]
    unfold callE
    rw [hs17]
    first | rfl | exact l2
  · refine x_tableIn (t := 106) (off := 89) dX9_call_17 (by omega) (by omega) (by rw [hs17]; rfl) (by decide) ?_
    refine x_aload_n (q := 107) dX9_call_106 rfl rfl ?_
    refine x_getI (q := 110) dX9_call_107 rfl f_9_179 rfl q1.1 ?_
    refine Ex.stk (st' := [.inl e.2.1]) (by rw [show iv G (nAd e.1) 5 = e.2.1 from q7]) ?_
    refine x_iret dX9_call_110 rfl ?_
    refine ⟨vi_eq ?_, rfl⟩
    rw [← c1, callA_e hk.1 hk.2 he]
    unfold callE
    rw [hs17]
    first | rfl | exact l2
  · refine x_tableIn (t := 111) (off := 94) dX9_call_17 (by omega) (by omega) (by rw [hs17]; rfl) (by decide) ?_
    refine x_aload_n (q := 112) dX9_call_111 rfl rfl ?_
    refine x_getI (q := 115) dX9_call_112 rfl f_9_182 rfl q1.1 ?_
    refine Ex.stk (st' := [.inl (nM e.1)]) (by rw [show iv G (nAd e.1) 6 = nM e.1 from q8]) ?_
    refine x_iret dX9_call_115 rfl ?_
    refine ⟨vi_eq ?_, rfl⟩
    rw [← c1, callA_e hk.1 hk.2 he]
    unfold callE
    rw [hs17]
    first | rfl | exact l2
  · refine x_tableIn (t := 116) (off := 99) dX9_call_17 (by omega) (by omega) (by rw [hs17]; rfl) (by decide) ?_
    refine x_aload_n (q := 117) dX9_call_116 rfl rfl ?_
    refine x_invV (q := 120) (as := [.inr (.inr (some (nAd e.1)))]) (rest := []) dX9_call_117 rfl l_9_185 m_X1_howManyParts rfl rfl q1.1 (Nat.le_of_ble_eq_true rfl) (CX.up (d := 0 + 1) (by omega) (c_howMany 0 q1.1 l1 l3 (by omega))) (fun r1 G1 hR => ?_)
    obtain ⟨rfl, hG1⟩ := hR
    replace hG1 := hG1.symm
    subst hG1
    refine Ex.stk (st' := [.inl (l.length : Int)]) rfl ?_
    refine x_iret dX9_call_120 rfl ?_
    refine ⟨vi_eq ?_, rfl⟩
    rw [← c1, callA_e hk.1 hk.2 he]
    unfold callE
    rw [hs17]
    first | rfl | exact l2
  · refine x_tableIn (t := 121) (off := 104) dX9_call_17 (by omega) (by omega) (by rw [hs17]; rfl) (by decide) ?_
    refine x_aload_n (q := 122) dX9_call_121 rfl rfl ?_
    refine x_getI (q := 125) dX9_call_122 rfl f_9_188 rfl q1.1 ?_
    refine Ex.stk (st' := [.inl e.2.2.2.1]) (by rw [show iv G (nAd e.1) 14 = e.2.2.2.1 from hI.2.2]) ?_
    refine x_iret dX9_call_125 rfl ?_
    refine ⟨vi_eq ?_, rfl⟩
    rw [← c1, callA_e hk.1 hk.2 he]
    unfold callE
    rw [hs17]
    first | rfl | exact l2
  · refine x_tableIn (t := 126) (off := 109) dX9_call_17 (by omega) (by omega) (by rw [hs17]; rfl) (by decide) ?_
    refine x_aload_n (q := 127) dX9_call_126 rfl rfl ?_
    refine x_aload_n (q := 128) dX9_call_127 rfl rfl ?_
    refine x_getR (q := 131) dX9_call_128 rfl f_9_37 rfl (ft1 hF) ?_
    refine Ex.stk (st' := [.inr (.inr (some 15)), .inr (.inr (some (nAd e.1)))]) (by rw [fr1_6 hF]) ?_
    refine x_getR (q := 134) dX9_call_131 rfl f_9_132 rfl (ft15 hF) ?_
    refine Ex.stk (st' := [.inr (.inr (some 16)), .inr (.inr (some (nAd e.1)))]) (by rw [fr15_0 hF]) ?_
    refine x_invV (q := 137) (as := [.inr (.inr (some (nAd e.1))), .inr (.inr (some 16))]) (rest := []) dX9_call_134 rfl l_9_191 m_X1_isOld rfl rfl q1.1 (Nat.le_of_ble_eq_true rfl) (CX.up (d := 0 + 2) (by omega) (c_isOldC 0 q1 (ft16 hF) (fl16 hF))) (fun r1 G1 hR => ?_)
    obtain ⟨hG1, y, rfl, hy1, hy2⟩ := hR
    replace hG1 := hG1.symm
    subst hG1
    rw [q8, isOldN_held q10 hrow.1] at hy2
    refine Ex.stk (st' := [.inl y]) rfl ?_
    refine x_if_eq (q := 140) (t := 144) dX9_call_137 rfl (by decide) (fun h137 => ?_) (fun h137 => ?_)
    · refine x_iconst (q := 145) dX9_call_144 rfl (by decide) ?_
      refine x_iret dX9_call_145 rfl ?_
      refine ⟨vi_eq ?_, rfl⟩
      rw [← c1, callA_e hk.1 hk.2 he]
      unfold callE
      rw [hs17]
      show _ = (if isOldN s.2.2.2.2.2.1 s.2.2.1.1 (nM e.1) = true then (1 : Int) else 0)
      first | rw [if_pos (hy2.mp (by omega))] | rw [if_neg (fun q => by have := hy2.mpr q; omega)]
    · refine x_iconst (q := 141) dX9_call_140 rfl (by decide) ?_
      refine x_goto (t := 145) dX9_call_141 (by decide) ?_
      refine x_iret dX9_call_145 rfl ?_
      refine ⟨vi_eq ?_, rfl⟩
      rw [← c1, callA_e hk.1 hk.2 he]
      unfold callE
      rw [hs17]
      show _ = (if isOldN s.2.2.2.2.2.1 s.2.2.1.1 (nM e.1) = true then (1 : Int) else 0)
      first | rw [if_pos (hy2.mp (by omega))] | rw [if_neg (fun q => by have := hy2.mpr q; omega)]
theorem cc_call (d : Nat) {n : Int} {s : Sg} {G : Hp} (hR0 : RC n s G) (k wh : Int) (t1 : tsz 6 s.2.2.2.2.1 ≤ 364) (hnm : NmOk s.2.2.2.2.1) : CX (d + 3) 86 [.inr (.inr (some 1)), .inl k, .inl wh] G (fun r G' => r = some (.inl (callA s.2.2.2.2.1 s.2.2.2.2.2.1 s.2.2.1.1 k wh)) ∧ G' = G) := by
  by_cases hk : 0 ≤ k ∧ k < (tsz 6 s.2.2.2.2.1 : Int)
  · exact cc_call1 d hR0 k wh t1 hnm hk
  · exact cc_call0 d hR0 k wh t1 hk
