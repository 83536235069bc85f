/-! THE CLASS: undo -/
def tbM (G : Hp) (wh a b : Int) : Hp := if wh = -1 then si (si G 15 1 a) 15 2 b else si G 16 wh a
def tbD (G : Hp) (L c wh a b : Int) : Hp := si (si (tbM G wh a b) 19 3 ((L + 15) % 16)) 19 4 (c - 1)
theorem c_tb1 (d : Nat) {G : Hp} (hF : FC G) {wh a b L c : Int} (hL : iv G 19 3 = L) (hc : iv G 19 4 = c) (hwh : iv G 20 L = wh) (ha : iv G 21 L = a) (hb : iv G 22 L = b) (L0 : 0 ≤ L) (L1 : L < 16) (c0 : 1 ≤ c) (c1 : c ≤ 16) (hw : wh = -1) : CX (d + 2) 22 [.inr (.inr (some 19)), .inr (.inr (some 15))] G (fun r G1 => r = none ∧ G1 = tbD G L c wh a b) := by
  refine CX.of (d := d + 1) m_X2_takeBackLatest (Nat.le_of_ble_eq_true rfl) ?_
  refine Ex.lcl (ls' := [some (.inr (.inr (some 19))), some (.inr (.inr (some 15))), none]) rfl ?_
  refine x_aload_n (q := 1) dX2_takeBackLatest_0 rfl rfl ?_
  refine x_getI (q := 4) dX2_takeBackLatest_1 rfl f_2_29 rfl (ft19 hF) ?_
  refine Ex.stk (st' := [.inl c]) (by rw [show iv G 19 4 = c from hc]) ?_
  refine x_if_ne (q := 7) (t := 8) dX2_takeBackLatest_4 rfl (by decide) (fun h4 => ?_) (fun h4 => by exfalso; omega)
  refine x_aload_n (q := 9) dX2_takeBackLatest_8 rfl rfl ?_
  refine x_getR (q := 12) dX2_takeBackLatest_9 rfl f_2_9 rfl (ft19 hF) ?_
  refine Ex.stk (st' := [.inr (.inr (some 20))]) (by rw [fr19_0 hF]) ?_
  refine x_aload_n (q := 13) dX2_takeBackLatest_12 rfl rfl ?_
  refine x_getI (q := 16) dX2_takeBackLatest_13 rfl f_2_25 rfl (ft19 hF) ?_
  refine Ex.stk (st' := [.inl L, .inr (.inr (some 20))]) (by rw [show iv G 19 3 = L from hL]) ?_
  refine x_iaload (q := 17) dX2_takeBackLatest_16 rfl (Or.inl (ft20 hF)) (by omega) (by rw [fl20 hF]; omega) ?_
  refine Ex.stk (st' := [.inl wh]) (by rw [show iv G 20 L = wh from hwh]) ?_
  refine x_istore_n (q := 18) (ls' := [some (.inr (.inr (some 19))), some (.inr (.inr (some 15))), some (.inl wh)]) dX2_takeBackLatest_17 rfl (Nat.le_of_ble_eq_true rfl) (by first | rfl | exact hnl | exact hnl2 _) rfl ?_
  refine x_iload_n (q := 19) dX2_takeBackLatest_18 rfl rfl ?_
  refine x_iconst (q := 20) dX2_takeBackLatest_19 rfl (by decide) ?_
  refine x_icmp_ne (q := 23) (t := 52) dX2_takeBackLatest_20 rfl (by decide) (fun h20 => by exfalso; omega) (fun h20 => ?_)
  refine x_aload_n (q := 24) dX2_takeBackLatest_23 rfl rfl ?_
  refine x_aload_n (q := 25) dX2_takeBackLatest_24 rfl rfl ?_
  refine x_getR (q := 28) dX2_takeBackLatest_25 rfl f_2_15 rfl (ft19 hF) ?_
  refine Ex.stk (st' := [.inr (.inr (some 21)), .inr (.inr (some 15))]) (by rw [fr19_1 hF]) ?_
  refine x_aload_n (q := 29) dX2_takeBackLatest_28 rfl rfl ?_
  refine x_getI (q := 32) dX2_takeBackLatest_29 rfl f_2_25 rfl (ft19 hF) ?_
  refine Ex.stk (st' := [.inl L, .inr (.inr (some 21)), .inr (.inr (some 15))]) (by rw [show iv G 19 3 = L from hL]) ?_
  refine x_iaload (q := 33) dX2_takeBackLatest_32 rfl (Or.inl (ft21 hF)) (by omega) (by rw [fl21 hF]; omega) ?_
  refine Ex.stk (st' := [.inl a, .inr (.inr (some 15))]) (by rw [show iv G 21 L = a from ha]) ?_
  refine x_putI (q := 36) dX2_takeBackLatest_33 rfl f_2_38 rfl (fun h => by cases h) (fun h => by cases h) (ft15 hF) ?_
  have hF := FX_si hF 15 1 a
  refine x_aload_n (q := 37) dX2_takeBackLatest_36 rfl rfl ?_
  refine x_aload_n (q := 38) dX2_takeBackLatest_37 rfl rfl ?_
  refine x_getR (q := 41) dX2_takeBackLatest_38 rfl f_2_18 rfl (ft19 hF) ?_
  refine Ex.stk (st' := [.inr (.inr (some 22)), .inr (.inr (some 15))]) (by rw [fr19_2 hF]) ?_
  refine x_aload_n (q := 42) dX2_takeBackLatest_41 rfl rfl ?_
  refine x_getI (q := 45) dX2_takeBackLatest_42 rfl f_2_25 rfl (ft19 hF) ?_
  refine Ex.stk (st' := [.inl L, .inr (.inr (some 22)), .inr (.inr (some 15))]) (by rw [show iv (si G 15 1 a) 19 3 = L from (by first | exact hL | simp [iv_si, iv_sr, iv_nw, hL])]) ?_
  refine x_iaload (q := 46) dX2_takeBackLatest_45 rfl (Or.inl (ft22 hF)) (by omega) (by rw [fl22 hF]; omega) ?_
  refine Ex.stk (st' := [.inl b, .inr (.inr (some 15))]) (by rw [show iv (si G 15 1 a) 22 L = b from (by first | exact hb | simp [iv_si, iv_sr, iv_nw, hb])]) ?_
  refine x_putI (q := 49) dX2_takeBackLatest_46 rfl f_2_43 rfl (fun h => by cases h) (fun h => by cases h) (ft15 hF) ?_
  have hF := FX_si hF 15 2 b
  refine x_goto (t := 74) dX2_takeBackLatest_49 (by decide) ?_
  refine x_aload_n (q := 75) dX2_takeBackLatest_74 rfl rfl ?_
  refine x_aload_n (q := 76) dX2_takeBackLatest_75 rfl rfl ?_
  refine x_getI (q := 79) dX2_takeBackLatest_76 rfl f_2_25 rfl (ft19 hF) ?_
  refine Ex.stk (st' := [.inl L, .inr (.inr (some 19))]) (by rw [show iv (si (si G 15 1 a) 15 2 b) 19 3 = L from (by first | exact hL | simp [iv_si, iv_sr, iv_nw, hL])]) ?_
  refine x_bipush (q := 81) dX2_takeBackLatest_79 rfl (by decide) ?_
  refine x_iadd (q := 82) (z := L + 16) dX2_takeBackLatest_81 rfl (wr_id ⟨by omega, by omega⟩) ?_
  refine x_iconst (q := 83) dX2_takeBackLatest_82 rfl (by decide) ?_
  refine x_isub (q := 84) (z := (L + 16) - 1) dX2_takeBackLatest_83 rfl (wr_id ⟨by omega, by omega⟩) ?_
  refine x_bipush (q := 86) dX2_takeBackLatest_84 rfl (by decide) ?_
  refine x_irem (q := 87) (z := (L + 15) % 16) dX2_takeBackLatest_86 rfl (by omega) (by rw [show L + 16 - 1 = L + 15 by omega]; exact Int.tmod_eq_emod_of_nonneg (by omega)) ?_
  refine x_putI (q := 90) dX2_takeBackLatest_87 rfl f_2_25 rfl (fun h => by cases h) (fun h => by cases h) (ft19 hF) ?_
  have hF := FX_si hF 19 3 ((L + 15) % 16)
  refine x_aload_n (q := 91) dX2_takeBackLatest_90 rfl rfl ?_
  refine x_dup (q := 92) dX2_takeBackLatest_91 rfl rfl ?_
  refine x_getI (q := 95) dX2_takeBackLatest_92 rfl f_2_29 rfl (ft19 hF) ?_
  refine Ex.stk (st' := [.inl c, .inr (.inr (some 19))]) (by rw [show iv (si (si (si G 15 1 a) 15 2 b) 19 3 ((L + 15) % 16)) 19 4 = c from (by first | exact hc | simp [iv_si, iv_sr, iv_nw, hc])]) ?_
  refine x_iconst (q := 96) dX2_takeBackLatest_95 rfl (by decide) ?_
  refine x_isub (q := 97) (z := c - 1) dX2_takeBackLatest_96 rfl (wr_id ⟨by omega, by omega⟩) ?_
  refine x_putI (q := 100) dX2_takeBackLatest_97 rfl f_2_29 rfl (fun h => by cases h) (fun h => by cases h) (ft19 hF) ?_
  have hF := FX_si hF 19 4 (c - 1)
  refine x_vret dX2_takeBackLatest_100 rfl ?_
  refine ⟨rfl, ?_⟩
  unfold tbD tbM; rw [if_pos hw]
theorem c_tb2 (d : Nat) {G : Hp} (hF : FC G) {wh a b L c : Int} (hL : iv G 19 3 = L) (hc : iv G 19 4 = c) (hwh : iv G 20 L = wh) (ha : iv G 21 L = a) (hb : iv G 22 L = b) (L0 : 0 ≤ L) (L1 : L < 16) (c0 : 1 ≤ c) (c1 : c ≤ 16) (w0 : 0 ≤ wh) (w1 : wh < 8) : CX (d + 2) 22 [.inr (.inr (some 19)), .inr (.inr (some 15))] G (fun r G1 => r = none ∧ G1 = tbD G L c wh a b) := by
  refine CX.of (d := d + 1) m_X2_takeBackLatest (Nat.le_of_ble_eq_true rfl) ?_
  refine Ex.lcl (ls' := [some (.inr (.inr (some 19))), some (.inr (.inr (some 15))), none]) rfl ?_
  refine x_aload_n (q := 1) dX2_takeBackLatest_0 rfl rfl ?_
  refine x_getI (q := 4) dX2_takeBackLatest_1 rfl f_2_29 rfl (ft19 hF) ?_
  refine Ex.stk (st' := [.inl c]) (by rw [show iv G 19 4 = c from hc]) ?_
  refine x_if_ne (q := 7) (t := 8) dX2_takeBackLatest_4 rfl (by decide) (fun h4 => ?_) (fun h4 => by exfalso; omega)
  refine x_aload_n (q := 9) dX2_takeBackLatest_8 rfl rfl ?_
  refine x_getR (q := 12) dX2_takeBackLatest_9 rfl f_2_9 rfl (ft19 hF) ?_
  refine Ex.stk (st' := [.inr (.inr (some 20))]) (by rw [fr19_0 hF]) ?_
  refine x_aload_n (q := 13) dX2_takeBackLatest_12 rfl rfl ?_
  refine x_getI (q := 16) dX2_takeBackLatest_13 rfl f_2_25 rfl (ft19 hF) ?_
  refine Ex.stk (st' := [.inl L, .inr (.inr (some 20))]) (by rw [show iv G 19 3 = L from hL]) ?_
  refine x_iaload (q := 17) dX2_takeBackLatest_16 rfl (Or.inl (ft20 hF)) (by omega) (by rw [fl20 hF]; omega) ?_
  refine Ex.stk (st' := [.inl wh]) (by rw [show iv G 20 L = wh from hwh]) ?_
  refine x_istore_n (q := 18) (ls' := [some (.inr (.inr (some 19))), some (.inr (.inr (some 15))), some (.inl wh)]) dX2_takeBackLatest_17 rfl (Nat.le_of_ble_eq_true rfl) (by first | rfl | exact hnl | exact hnl2 _) rfl ?_
  refine x_iload_n (q := 19) dX2_takeBackLatest_18 rfl rfl ?_
  refine x_iconst (q := 20) dX2_takeBackLatest_19 rfl (by decide) ?_
  refine x_icmp_ne (q := 23) (t := 52) dX2_takeBackLatest_20 rfl (by decide) (fun h20 => ?_) (fun h20 => by exfalso; omega)
  refine x_iload_n (q := 53) dX2_takeBackLatest_52 rfl rfl ?_
  refine x_invS (q := 56) (as := [.inl wh]) (rest := []) dX2_takeBackLatest_53 rfl l_2_46 m_X9_isCell rfl rfl (Nat.le_of_ble_eq_true rfl) (Nat.le_of_ble_eq_true rfl) (c_isCell _) (fun r1 G1 hR => ?_)
  obtain ⟨hG1, z53, rfl, z53a, z53b⟩ := hR
  replace hG1 := hG1.symm
  subst hG1
  refine Ex.stk (st' := [.inl z53]) rfl ?_
  refine x_if_eq (q := 59) (t := 74) dX2_takeBackLatest_56 rfl (by decide) (fun h56 => by exfalso; have := z53b.mpr (by omega); omega) (fun h56 => ?_)
  refine x_aload_n (q := 60) dX2_takeBackLatest_59 rfl rfl ?_
  refine x_getR (q := 63) dX2_takeBackLatest_60 rfl f_2_50 rfl (ft15 hF) ?_
  refine Ex.stk (st' := [.inr (.inr (some 16))]) (by rw [fr15_0 hF]) ?_
  refine x_iload_n (q := 64) dX2_takeBackLatest_63 rfl rfl ?_
  refine x_aload_n (q := 65) dX2_takeBackLatest_64 rfl rfl ?_
  refine x_getR (q := 68) dX2_takeBackLatest_65 rfl f_2_15 rfl (ft19 hF) ?_
  refine Ex.stk (st' := [.inr (.inr (some 21)), .inl wh, .inr (.inr (some 16))]) (by rw [fr19_1 hF]) ?_
  refine x_aload_n (q := 69) dX2_takeBackLatest_68 rfl rfl ?_
  refine x_getI (q := 72) dX2_takeBackLatest_69 rfl f_2_25 rfl (ft19 hF) ?_
  refine Ex.stk (st' := [.inl L, .inr (.inr (some 21)), .inl wh, .inr (.inr (some 16))]) (by rw [show iv G 19 3 = L from hL]) ?_
  refine x_iaload (q := 73) dX2_takeBackLatest_72 rfl (Or.inl (ft21 hF)) (by omega) (by rw [fl21 hF]; omega) ?_
  refine Ex.stk (st' := [.inl a, .inl wh, .inr (.inr (some 16))]) (by rw [show iv G 21 L = a from ha]) ?_
  refine x_iastore (q := 74) dX2_takeBackLatest_73 rfl (ft16 hF) (by omega) (by rw [fl16 hF]; omega) ?_
  have hF := FX_si hF 16 wh a
  refine x_aload_n (q := 75) dX2_takeBackLatest_74 rfl rfl ?_
  refine x_aload_n (q := 76) dX2_takeBackLatest_75 rfl rfl ?_
  refine x_getI (q := 79) dX2_takeBackLatest_76 rfl f_2_25 rfl (ft19 hF) ?_
  refine Ex.stk (st' := [.inl L, .inr (.inr (some 19))]) (by rw [show iv (si G 16 wh a) 19 3 = L from (by first | exact hL | simp [iv_si, iv_sr, iv_nw, hL])]) ?_
  refine x_bipush (q := 81) dX2_takeBackLatest_79 rfl (by decide) ?_
  refine x_iadd (q := 82) (z := L + 16) dX2_takeBackLatest_81 rfl (wr_id ⟨by omega, by omega⟩) ?_
  refine x_iconst (q := 83) dX2_takeBackLatest_82 rfl (by decide) ?_
  refine x_isub (q := 84) (z := (L + 16) - 1) dX2_takeBackLatest_83 rfl (wr_id ⟨by omega, by omega⟩) ?_
  refine x_bipush (q := 86) dX2_takeBackLatest_84 rfl (by decide) ?_
  refine x_irem (q := 87) (z := (L + 15) % 16) dX2_takeBackLatest_86 rfl (by omega) (by rw [show L + 16 - 1 = L + 15 by omega]; exact Int.tmod_eq_emod_of_nonneg (by omega)) ?_
  refine x_putI (q := 90) dX2_takeBackLatest_87 rfl f_2_25 rfl (fun h => by cases h) (fun h => by cases h) (ft19 hF) ?_
  have hF := FX_si hF 19 3 ((L + 15) % 16)
  refine x_aload_n (q := 91) dX2_takeBackLatest_90 rfl rfl ?_
  refine x_dup (q := 92) dX2_takeBackLatest_91 rfl rfl ?_
  refine x_getI (q := 95) dX2_takeBackLatest_92 rfl f_2_29 rfl (ft19 hF) ?_
  refine Ex.stk (st' := [.inl c, .inr (.inr (some 19))]) (by rw [show iv (si (si G 16 wh a) 19 3 ((L + 15) % 16)) 19 4 = c from (by first | exact hc | simp [iv_si, iv_sr, iv_nw, hc])]) ?_
  refine x_iconst (q := 96) dX2_takeBackLatest_95 rfl (by decide) ?_
  refine x_isub (q := 97) (z := c - 1) dX2_takeBackLatest_96 rfl (wr_id ⟨by omega, by omega⟩) ?_
  refine x_putI (q := 100) dX2_takeBackLatest_97 rfl f_2_29 rfl (fun h => by cases h) (fun h => by cases h) (ft19 hF) ?_
  have hF := FX_si hF 19 4 (c - 1)
  refine x_vret dX2_takeBackLatest_100 rfl ?_
  refine ⟨rfl, ?_⟩
  unfold tbD tbM; rw [if_neg (by omega)]
theorem tbM_lo (G : Hp) (wh a b : Int) : LoI G (tbM G wh a b) := by
  unfold tbM; split
  · exact ((LoI.rf G).si _ _ (by omega)).si _ _ (by omega)
  · exact (LoI.rf G).si _ _ (by omega)
theorem tbD_lo (G : Hp) (L c wh a b : Int) : LoI G (tbD G L c wh a b) := ((tbM_lo G wh a b).si _ _ (by omega)).si _ _ (by omega)
theorem tbD_o {G : Hp} {L c wh a b : Int} {e : Nat} {k : Int} (he : ¬ e = 15 ∧ ¬ e = 16 ∧ ¬ e = 19 ∨ (e = 15 ∧ k = 3)) : iv (tbD G L c wh a b) e k = iv G e k := by
  unfold tbD tbM; split
  · simp only [iv_si]; rw [if_neg (by omega), if_neg (by omega), if_neg (by omega), if_neg (by omega)]
  · simp only [iv_si]; rw [if_neg (by omega), if_neg (by omega), if_neg (by omega)]
theorem tb_ok {n : Int} {t : Tx} {P : Pg} {r0 q : Int → Int} {hs : List (Int → Int)} {x : (Int → Option ((Int → Int) × Int)) × Int} {b : Bk} {c : Tc} {G : Hp} (h : RC n (t, P, (r0, q :: hs, x), b, c) G) : RC n (t, P, (q, hs, x), b, c) (tbD G (iv G 19 3) (iv G 19 4) (iv G 20 (iv G 19 3)) (iv G 21 (iv G 19 3)) (iv G 22 (iv G 19 3))) := by
  have hC1 := h
  obtain ⟨hF, h2, h3, ⟨k1, k2, k3, k4, ⟨d1, d2, d3, d4⟩, k6⟩, h5, h6⟩ := h
  dsimp only at k1 k2 k3 k4 d3 d4 k6 h2 h3 h5 h6
  have hi := tbD_lo G (iv G 19 3) (iv G 19 4) (iv G 20 (iv G 19 3)) (iv G 21 (iv G 19 3)) (iv G 22 (iv G 19 3))
  have ex : (iv G 19 3 - ((0 : Nat) : Int)) % 16 = iv G 19 3 := by omega
  obtain ⟨e1, e2⟩ := d4 0 q r0 rfl rfl
  rw [ex] at e1 e2
  generalize hwh : iv G 20 (iv G 19 3) = wh at *
  generalize ha : iv G 21 (iv G 19 3) = a at *
  generalize hb : iv G 22 (iv G 19 3) = bb at *
  refine RC_lo hC1 hi (RCt_k h2 (fun k => tbD_o (by omega)) (tbD_o (by omega)) (tbD_o (by omega))) ⟨fun k k0 k9 => ?_, ?_, ?_, (tbD_o (by omega)).trans k4, ⟨?_, ?_, ?_, fun i q' p' hq hp => ?_⟩, RCi_lo k6 hi⟩ (RCb_k h5 (tbD_o (by omega)) (fun k => tbD_o (by omega)) (fun k => tbD_o (by omega)) (fun k => tbD_o (by omega)))
  · show _ = q k
    rw [e2 k k0 (by omega)]
    unfold tbD tbM undo1
    by_cases hw : wh = -1
    · rw [if_pos hw, if_pos hw]; simp only [iv_si, upi]
      rw [if_neg (by omega), if_neg (by omega), if_neg (by omega), if_neg (by omega), if_neg (by omega), if_neg (by omega)]; exact k1 k k0 k9
    · rw [if_neg hw, if_neg hw]; simp only [iv_si, upi]
      rw [if_neg (by omega), if_neg (by omega)]
      by_cases hk : k = wh
      · rw [if_pos ⟨by trivial, hk⟩, if_pos hk]
      · rw [if_neg (fun q => hk q.2), if_neg hk]; exact k1 k k0 k9
  · show _ = q 8
    rw [e2 8 (by decide) (by decide)]
    unfold tbD tbM undo1
    by_cases hw : wh = -1
    · rw [if_pos hw, if_pos hw]; simp [iv_si, upi]
    · rw [if_neg hw, if_neg hw]; simp only [iv_si, upi]
      rw [if_neg (by omega), if_neg (by omega), if_neg (by omega), if_neg (by omega)]; exact k2
  · show _ = q 9
    rw [e2 9 (by decide) (by decide)]
    unfold tbD tbM undo1
    by_cases hw : wh = -1
    · rw [if_pos hw, if_pos hw]; simp [iv_si, upi]
    · rw [if_neg hw, if_neg hw]; simp only [iv_si, upi]
      rw [if_neg (by omega), if_neg (by omega), if_neg (by omega), if_neg (by omega)]; exact k3
  · simp [tbD, iv_si]; omega
  · simp [tbD, iv_si]; omega
  · simp only [List.length_cons] at d3
    simp [tbD, iv_si]; omega
  · have f3 : iv (tbD G (iv G 19 3) (iv G 19 4) wh a bb) 19 3 = (iv G 19 3 + 15) % 16 := by simp [tbD, iv_si]
    have ei : ((iv G 19 3 + 15) % 16 - (i : Int)) % 16 = (iv G 19 3 - ((i + 1 : Nat) : Int)) % 16 := by omega
    rw [f3, ei, tbD_o (by omega), tbD_o (by omega), tbD_o (by omega)]
    exact d4 (i + 1) q' p' hq hp
def ubR : Nat → Rw → Rw
  | 0, r => r
  | n + 1, r => match r.2.1 with
    | [] => r
    | q :: l => ubR n (q, l, r.2.2)
theorem ubR_eq : ∀ (n : Nat) (r : Rw), n ≤ r.2.1.length → ubR n r = (rowAt r n, r.2.1.drop n, r.2.2)
  | 0, r, _ => rfl
  | n + 1, (r0, [], x), h => by simp at h
  | n + 1, (r0, q :: l, x), h => by
    simp only [List.length_cons] at h
    show ubR n (q, l, x) = _
    rw [ubR_eq n (q, l, x) (by dsimp only; omega)]
    have hl : n < (q :: l).length := by rw [List.length_cons]; omega
    simp only [rowAt, List.getElem?_cons_succ, List.drop_succ_cons]
    rw [List.getElem?_eq_getElem hl]
theorem c_tb (d : Nat) {n : Int} {t : Tx} {P : Pg} {r0 q : Int → Int} {hs : List (Int → Int)} {x : (Int → Option ((Int → Int) × Int)) × Int} {b : Bk} {c : Tc} {G : Hp} (h : RC n (t, P, (r0, q :: hs, x), b, c) G) (hl : (q :: hs).length ≤ 16) : CX (d + 2) 22 [.inr (.inr (some 19)), .inr (.inr (some 15))] G (fun r G' => r = none ∧ RC n (t, P, (q, hs, x), b, c) G' ∧ Sm isM G G') := by
  have hr := tb_ok h
  have hd := h.2.2.2.1.2.2.2.2.1
  obtain ⟨d1, d2, d3, d4⟩ := hd
  dsimp only at d3 d4
  have ex : (iv G 19 3 - ((0 : Nat) : Int)) % 16 = iv G 19 3 := by omega
  obtain ⟨e1, -⟩ := d4 0 q r0 rfl rfl
  rw [ex] at e1
  clear d4
  rw [List.length_cons] at hl d3
  rcases e1 with e1 | e1
  · exact CX.mono (c_tb1 d h.1 rfl rfl rfl rfl rfl d1 d2 (by omega) (by omega) e1) (fun r G1 k => ⟨k.1, by rw [k.2]; exact hr, by rw [k.2]; exact (tbD_lo _ _ _ _ _ _).M⟩)
  · exact CX.mono (c_tb2 d h.1 rfl rfl rfl rfl rfl d1 d2 (by omega) (by omega) e1.1 e1.2) (fun r G1 k => ⟨k.1, by rw [k.2]; exact hr, by rw [k.2]; exact (tbD_lo _ _ _ _ _ _).M⟩)
theorem cundo_loop {d : Nat} {n N : Int} {t : Tx} {P : Pg} {b : Bk} {c : Tc} {Q : Option V → Hp → Prop} (N1 : N ≤ 16) : ∀ (m : Nat) (r : Rw) (i : Int) (G : Hp), 0 ≤ i → i + (m : Int) = N → m ≤ r.2.1.length → r.2.1.length ≤ 16 → RC n (t, P, r, b, c) G → (∀ G', RC n (t, P, ubR m r, b, c) G' → Sm isM G G' → Q (some (.inl ((ubR m r).2.1.length : Int))) G') → Ex (d + 2) (some .int) 9 false cX9_undo 30 [some (.inr (.inr (some 1))), some (.inl N), some (.inl i)] [] G Q := by
  intro m
  induction m with
  | zero =>
    intro r i G i0 i1 hm hl hR kk
    have hF := hR.1
    have hc : iv G 19 4 = (r.2.1.length : Int) := hR.2.2.2.1.2.2.2.2.1.2.2.1
    refine x_iload_n (q := 31) dX9_undo_30 rfl rfl ?_
    refine x_iload_n (q := 32) dX9_undo_31 rfl rfl ?_
    refine x_icmp_ge (q := 35) (t := 52) dX9_undo_32 rfl (by decide) (fun h32 => ?_) (fun h32 => by exfalso; omega)
    refine x_aload_n (q := 53) dX9_undo_52 rfl rfl ?_
    refine x_getR (q := 56) dX9_undo_53 rfl f_9_51 rfl (ft1 hF) ?_
    refine Ex.stk (st' := [.inr (.inr (some 19))]) (by rw [fr1_10 hF]) ?_
    refine x_getI (q := 59) dX9_undo_56 rfl f_9_148 rfl (ft19 hF) ?_
    refine Ex.stk (st' := [.inl (r.2.1.length : Int)]) (by rw [show iv G 19 4 = (r.2.1.length : Int) from hc]) ?_
    refine x_iret dX9_undo_59 rfl ?_
    exact kk G hR Sm.rf
  | succ m ih =>
    intro r i G i0 i1 hm hl hR kk
    obtain ⟨r0, hs, x⟩ := r
    cases hs with
    | nil => simp at hm
    | cons q hs =>
    have hF := hR.1
    dsimp only at hl hm
    rw [List.length_cons] at hm
    have hl2 : hs.length ≤ 16 := by rw [List.length_cons] at hl; omega
    refine x_iload_n (q := 31) dX9_undo_30 rfl rfl ?_
    refine x_iload_n (q := 32) dX9_undo_31 rfl rfl ?_
    refine x_icmp_ge (q := 35) (t := 52) dX9_undo_32 rfl (by decide) (fun h32 => by exfalso; omega) (fun h32 => ?_)
    refine x_aload_n (q := 36) dX9_undo_35 rfl rfl ?_
    refine x_getR (q := 39) dX9_undo_36 rfl f_9_51 rfl (ft1 hF) ?_
    refine Ex.stk (st' := [.inr (.inr (some 19))]) (by rw [fr1_10 hF]) ?_
    refine x_aload_n (q := 40) dX9_undo_39 rfl rfl ?_
    refine x_getR (q := 43) dX9_undo_40 rfl f_9_37 rfl (ft1 hF) ?_
    refine Ex.stk (st' := [.inr (.inr (some 15)), .inr (.inr (some 19))]) (by rw [fr1_6 hF]) ?_
    refine x_invV (q := 46) (as := [.inr (.inr (some 19)), .inr (.inr (some 15))]) (rest := []) dX9_undo_43 rfl l_9_231 m_X2_takeBackLatest rfl rfl (ft19 hF) (Nat.le_of_ble_eq_true rfl) (CX.up (d := 0 + 2) (by omega) (c_tb 0 hR hl)) (fun r1 G1 hR1 => ?_)
    obtain ⟨rfl, hR1, hS1⟩ := hR1
    have hF : FC G1 := hR1.1
    refine Ex.stk (st' := []) rfl ?_
    refine x_iinc (q := 49) (ls' := [some (.inr (.inr (some 1))), some (.inl N), some (.inl (i + 1))]) dX9_undo_46 rfl rfl (by first | rfl | exact hnl | exact hnl2 _) (by rw [show wr (i + 1) = i + 1 from (wr_id ⟨by omega, by omega⟩)]; rfl) ?_
    refine x_goto (t := 30) dX9_undo_49 (by decide) ?_
    exact ih (q, hs, x) _ G1 (by omega) (by omega) (by dsimp only; omega) hl2 hR1 (fun G2 k1 k2 => kk G2 k1 (hS1.trans k2))
theorem cc_undo (d : Nat) {n : Int} {s : Sg} {G : Hp} (hR0 : RC n s G) (N : Int) (hl : s.2.2.1.2.1.length ≤ 16) : CX (d + 3) 92 [.inr (.inr (some 1)), .inl N] G (fun r G' => r = some (.inl (o_undo N s).1) ∧ RC n (o_undo N s).2 G' ∧ Sm isM G G') := by
  have hC1 := hR0
  obtain ⟨hF, h2, h3, h4, h5, h6⟩ := hR0
  have hc : iv G 19 4 = (s.2.2.1.2.1.length : Int) := h4.2.2.2.2.1.2.2.1
  refine CX.of (d := d + 2) m_X9_undo (Nat.le_of_ble_eq_true rfl) ?_
  refine Ex.lcl (ls' := [some (.inr (.inr (some 1))), some (.inl N), none]) rfl ?_
  refine x_iload_n (q := 1) dX9_undo_0 rfl rfl ?_
  refine x_iconst (q := 2) dX9_undo_1 rfl (by decide) ?_
  refine x_icmp_lt (q := 5) (t := 11) dX9_undo_2 rfl (by decide) (fun h2 => ?_) (fun h2 => ?_)
  · refine x_ldc (q := 13) dX9_undo_11 rfl k_9_89 ?_
    refine x_iret dX9_undo_13 rfl ?_
    have e : o_undo N s = (-1000000002, s) := if_neg (by omega)
    rw [e]; exact ⟨rfl, hC1, Sm.rf⟩
  · refine x_iload_n (q := 6) dX9_undo_5 rfl rfl ?_
    refine x_bipush (q := 8) dX9_undo_6 rfl (by decide) ?_
    refine x_icmp_le (q := 11) (t := 14) dX9_undo_8 rfl (by decide) (fun h8 => ?_) (fun h8 => ?_)
    · refine x_iload_n (q := 15) dX9_undo_14 rfl rfl ?_
      refine x_aload_n (q := 16) dX9_undo_15 rfl rfl ?_
      refine x_getR (q := 19) dX9_undo_16 rfl f_9_51 rfl (ft1 hF) ?_
      refine Ex.stk (st' := [.inr (.inr (some 19)), .inl N]) (by rw [fr1_10 hF]) ?_
      refine x_getI (q := 22) dX9_undo_19 rfl f_9_148 rfl (ft19 hF) ?_
      refine Ex.stk (st' := [.inl (s.2.2.1.2.1.length : Int), .inl N]) (by rw [show iv G 19 4 = (s.2.2.1.2.1.length : Int) from hc]) ?_
      refine x_icmp_le (q := 25) (t := 28) dX9_undo_22 rfl (by decide) (fun h22 => ?_) (fun h22 => ?_)
      · refine x_iconst (q := 29) dX9_undo_28 rfl (by decide) ?_
        refine x_istore_n (q := 30) (ls' := [some (.inr (.inr (some 1))), some (.inl N), some (.inl 0)]) dX9_undo_29 rfl (Nat.le_of_ble_eq_true rfl) (by first | rfl | exact hnl | exact hnl2 _) rfl ?_
        have e : o_undo N s = ((s.2.2.1.2.1.length : Int) - N, s.1, s.2.1, ubR N.toNat s.2.2.1, s.2.2.2) := by rw [o_undo, if_pos (by omega), if_neg (by omega), ubR_eq _ _ (by omega)]
        rw [e]
        refine cundo_loop (n := n) (t := s.1) (P := s.2.1) (b := s.2.2.2.1) (c := s.2.2.2.2) (by omega) N.toNat s.2.2.1 0 G (by omega) (by omega) (by omega) hl hC1 (fun G2 k1 k2 => ⟨vi_eq ?_, k1, k2⟩)
        rw [ubR_eq _ _ (by omega)]
        simp only [List.length_drop]
        omega
      · refine x_ldc (q := 27) dX9_undo_25 rfl k_9_230 ?_
        refine x_iret dX9_undo_27 rfl ?_
        have e : o_undo N s = (-1000000003, s) := by rw [o_undo, if_pos (by omega), if_pos (by omega)]
        rw [e]; exact ⟨rfl, hC1, Sm.rf⟩
    · refine x_ldc (q := 13) dX9_undo_11 rfl k_9_89 ?_
      refine x_iret dX9_undo_13 rfl ?_
      have e : o_undo N s = (-1000000002, s) := if_neg (by omega)
      rw [e]; exact ⟨rfl, hC1, Sm.rf⟩
