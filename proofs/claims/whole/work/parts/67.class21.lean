/-! THE CLASS: deeds that are remembered -/
def ntD (G : Hp) (L n wh a b : Int) : Hp := si (si (si (si (si G 19 3 ((L + 1) % 16)) 20 ((L + 1) % 16) wh) 21 ((L + 1) % 16) a) 22 ((L + 1) % 16) b) 19 4 (if n + 1 ≤ 16 then n + 1 else 16)
theorem ntD_o {G : Hp} {L n wh a b : Int} {c : Nat} (hc : c < 19 ∨ 22 < c) (k : Int) : iv (ntD G L n wh a b) c k = iv G c k := by
  unfold ntD; simp only [iv_si]
  rw [if_neg (by omega), if_neg (by omega), if_neg (by omega), if_neg (by omega), if_neg (by omega)]
theorem ntD_lo (G : Hp) (L n wh a b : Int) : LoI G (ntD G L n wh a b) := (((((LoI.rf G).si _ _ (by omega)).si _ _ (by omega)).si _ _ (by omega)).si _ _ (by omega)).si _ _ (by omega)
theorem ntD_lo2 {G0 G : Hp} (h : LoI G0 G) (L n wh a b : Int) : LoI G0 (ntD G L n wh a b) := h.trans (ntD_lo G L n wh a b)
theorem RCd_note {r0 r1 : Int → Int} {hs : List (Int → Int)} {G G' : Hp} {wh a b : Int} (h : RCd r0 hs G) (hl : hs.length ≤ 16) (hw : wh = -1 ∨ (0 ≤ wh ∧ wh < 8)) (hu : ∀ k, 0 ≤ k → k < 10 → r0 k = undo1 wh a b r1 k) (he : ∀ (c : Nat) (k : Int), 19 ≤ c → c ≤ 22 → iv G' c k = iv (ntD G (iv G 19 3) (iv G 19 4) wh a b) c k) : RCd r1 ((r0 :: hs).take 16) G' := by
  obtain ⟨h1, h2, h3, h4⟩ := h
  have e3 : iv G' 19 3 = (iv G 19 3 + 1) % 16 := by rw [he 19 3 (by decide) (by decide)]; simp [ntD, iv_si]
  have e4 : iv G' 19 4 = if iv G 19 4 + 1 ≤ 16 then iv G 19 4 + 1 else 16 := by rw [he 19 4 (by decide) (by decide)]; simp [ntD, iv_si]
  have e20 : ∀ k, iv G' 20 k = if k = (iv G 19 3 + 1) % 16 then wh else iv G 20 k := fun k => by rw [he 20 k (by decide) (by decide)]; simp [ntD, iv_si]
  have e21 : ∀ k, iv G' 21 k = if k = (iv G 19 3 + 1) % 16 then a else iv G 21 k := fun k => by rw [he 21 k (by decide) (by decide)]; simp [ntD, iv_si]
  have e22 : ∀ k, iv G' 22 k = if k = (iv G 19 3 + 1) % 16 then b else iv G 22 k := fun k => by rw [he 22 k (by decide) (by decide)]; simp [ntD, iv_si]
  refine ⟨by omega, by omega, ?_, ?_⟩
  · rw [e4, h3, List.length_take, List.length_cons]
    split <;> omega
  · intro i q p hq hp
    have hi : i < 16 := by
      have := (List.getElem?_eq_some_iff.mp hq).1
      rw [List.length_take] at this; omega
    rw [e3]
    cases i with
    | zero =>
      simp at hq hp
      subst hq; subst hp
      have ex : ((iv G 19 3 + 1) % 16 - ((0 : Nat) : Int)) % 16 = (iv G 19 3 + 1) % 16 := by omega
      rw [ex, e20, e21, e22, if_pos rfl, if_pos rfl, if_pos rfl]
      exact ⟨hw, hu⟩
    | succ j =>
      have ex : ((iv G 19 3 + 1) % 16 - ((j + 1 : Nat) : Int)) % 16 = (iv G 19 3 - (j : Int)) % 16 := by omega
      have ne : ¬ ((iv G 19 3 - (j : Int)) % 16 = (iv G 19 3 + 1) % 16) := by omega
      rw [ex, e20, e21, e22, if_neg ne, if_neg ne, if_neg ne]
      rw [List.getElem?_take_of_lt hi, List.getElem?_cons_succ] at hq
      rw [List.getElem?_cons_succ, List.getElem?_take_of_lt (by omega)] at hp
      exact h4 j q p hq hp
theorem c_noteD (d : Nat) {G : Hp} (hF : FC G) {wh a b L n : Int} (hL : iv G 19 3 = L) (hn : iv G 19 4 = n) (L0 : 0 ≤ L) (L1 : L < 16) (n0 : 0 ≤ n) (n1 : n ≤ 16) : CX (d + 2) 20 [.inr (.inr (some 19)), .inl wh, .inl a, .inl b] G (fun r G1 => r = none ∧ G1 = ntD G L n wh a b) := by
  refine CX.of (d := d + 1) m_X2_note (Nat.le_of_ble_eq_true rfl) ?_
  refine Ex.lcl (ls' := [some (.inr (.inr (some 19))), some (.inl wh), some (.inl a), some (.inl b)]) rfl ?_
  refine x_aload_n (q := 1) dX2_note_0 rfl rfl ?_
  refine x_aload_n (q := 2) dX2_note_1 rfl rfl ?_
  refine x_getI (q := 5) dX2_note_2 rfl f_2_25 rfl (ft19 hF) ?_
  refine Ex.stk (st' := [.inl L, .inr (.inr (some 19))]) (by rw [show iv G 19 3 = L from hL]) ?_
  refine x_iconst (q := 6) dX2_note_5 rfl (by decide) ?_
  refine x_iadd (q := 7) (z := L + 1) dX2_note_6 rfl (wr_id ⟨by omega, by omega⟩) ?_
  refine x_bipush (q := 9) dX2_note_7 rfl (by decide) ?_
  refine x_irem (q := 10) (z := (L + 1) % 16) dX2_note_9 rfl (by omega) (Int.tmod_eq_emod_of_nonneg (by omega)) ?_
  refine x_putI (q := 13) dX2_note_10 rfl f_2_25 rfl (fun h => by cases h) (fun h => by cases h) (ft19 hF) ?_
  have hF := FX_si hF 19 3 ((L + 1) % 16)
  refine x_aload_n (q := 14) dX2_note_13 rfl rfl ?_
  refine x_getR (q := 17) dX2_note_14 rfl f_2_9 rfl (ft19 hF) ?_
  refine Ex.stk (st' := [.inr (.inr (some 20))]) (by rw [fr19_0 hF]) ?_
  refine x_aload_n (q := 18) dX2_note_17 rfl rfl ?_
  refine x_getI (q := 21) dX2_note_18 rfl f_2_25 rfl (ft19 hF) ?_
  refine Ex.stk (st' := [.inl ((L + 1) % 16), .inr (.inr (some 20))]) (by rw [show iv (si G 19 3 ((L + 1) % 16)) 19 3 = (L + 1) % 16 from (by simp [iv_si, iv_sr])]) ?_
  refine x_iload_n (q := 22) dX2_note_21 rfl rfl ?_
  refine x_iastore (q := 23) dX2_note_22 rfl (ft20 hF) (by omega) (by rw [fl20 hF]; omega) ?_
  have hF := FX_si hF 20 ((L + 1) % 16) wh
  refine x_aload_n (q := 24) dX2_note_23 rfl rfl ?_
  refine x_getR (q := 27) dX2_note_24 rfl f_2_15 rfl (ft19 hF) ?_
  refine Ex.stk (st' := [.inr (.inr (some 21))]) (by rw [fr19_1 hF]) ?_
  refine x_aload_n (q := 28) dX2_note_27 rfl rfl ?_
  refine x_getI (q := 31) dX2_note_28 rfl f_2_25 rfl (ft19 hF) ?_
  refine Ex.stk (st' := [.inl ((L + 1) % 16), .inr (.inr (some 21))]) (by rw [show iv (si (si G 19 3 ((L + 1) % 16)) 20 ((L + 1) % 16) wh) 19 3 = (L + 1) % 16 from (by simp [iv_si, iv_sr])]) ?_
  refine x_iload_n (q := 32) dX2_note_31 rfl rfl ?_
  refine x_iastore (q := 33) dX2_note_32 rfl (ft21 hF) (by omega) (by rw [fl21 hF]; omega) ?_
  have hF := FX_si hF 21 ((L + 1) % 16) a
  refine x_aload_n (q := 34) dX2_note_33 rfl rfl ?_
  refine x_getR (q := 37) dX2_note_34 rfl f_2_18 rfl (ft19 hF) ?_
  refine Ex.stk (st' := [.inr (.inr (some 22))]) (by rw [fr19_2 hF]) ?_
  refine x_aload_n (q := 38) dX2_note_37 rfl rfl ?_
  refine x_getI (q := 41) dX2_note_38 rfl f_2_25 rfl (ft19 hF) ?_
  refine Ex.stk (st' := [.inl ((L + 1) % 16), .inr (.inr (some 22))]) (by rw [show iv (si (si (si G 19 3 ((L + 1) % 16)) 20 ((L + 1) % 16) wh) 21 ((L + 1) % 16) a) 19 3 = (L + 1) % 16 from (by simp [iv_si, iv_sr])]) ?_
  refine x_iload_n (q := 42) dX2_note_41 rfl rfl ?_
  refine x_iastore (q := 43) dX2_note_42 rfl (ft22 hF) (by omega) (by rw [fl22 hF]; omega) ?_
  have hF := FX_si hF 22 ((L + 1) % 16) b
  refine x_aload_n (q := 44) dX2_note_43 rfl rfl ?_
  refine x_aload_n (q := 45) dX2_note_44 rfl rfl ?_
  refine x_getI (q := 48) dX2_note_45 rfl f_2_29 rfl (ft19 hF) ?_
  refine Ex.stk (st' := [.inl n, .inr (.inr (some 19))]) (by rw [show iv (si (si (si (si G 19 3 ((L + 1) % 16)) 20 ((L + 1) % 16) wh) 21 ((L + 1) % 16) a) 22 ((L + 1) % 16) b) 19 4 = n from (by first | exact hn | simp [iv_si, iv_sr, iv_nw, hn])]) ?_
  refine x_iconst (q := 49) dX2_note_48 rfl (by decide) ?_
  refine x_iadd (q := 50) (z := n + 1) dX2_note_49 rfl (wr_id ⟨by omega, by omega⟩) ?_
  refine x_bipush (q := 52) dX2_note_50 rfl (by decide) ?_
  refine x_invS (q := 55) (as := [.inl (n + 1), .inl 16]) (rest := [.inr (.inr (some 19))]) dX2_note_52 rfl l_2_32 m_J9_min_7cf53 rfl rfl (Nat.le_of_ble_eq_true rfl) (Nat.le_of_ble_eq_true rfl) (c_min _) (fun r1 G1 hR => ?_)
  obtain ⟨hG1, rfl⟩ := hR
  replace hG1 := hG1.symm
  subst hG1
  refine Ex.stk (st' := [.inl (if n + 1 ≤ 16 then n + 1 else 16), .inr (.inr (some 19))]) rfl ?_
  refine x_putI (q := 58) dX2_note_55 rfl f_2_29 rfl (fun h => by cases h) (fun h => by cases h) (ft19 hF) ?_
  have hF := FX_si hF 19 4 (if n + 1 ≤ 16 then n + 1 else 16)
  refine x_vret dX2_note_58 rfl ?_
  exact ⟨rfl, rfl⟩
theorem c_noteCl (d : Nat) {G : Hp} (hF : FC G) {wh a L n : Int} (hL : iv G 19 3 = L) (hn : iv G 19 4 = n) (L0 : 0 ≤ L) (L1 : L < 16) (n0 : 0 ≤ n) (n1 : n ≤ 16) : CX (d + 3) 18 [.inr (.inr (some 19)), .inl wh, .inl a] G (fun r G1 => r = none ∧ G1 = ntD G L n wh a 0) := by
  refine CX.of (d := d + 2) m_X2_noteCell (Nat.le_of_ble_eq_true rfl) ?_
  refine Ex.lcl (ls' := [some (.inr (.inr (some 19))), some (.inl wh), some (.inl a)]) rfl ?_
  refine x_aload_n (q := 1) dX2_noteCell_0 rfl rfl ?_
  refine x_iload_n (q := 2) dX2_noteCell_1 rfl rfl ?_
  refine x_iload_n (q := 3) dX2_noteCell_2 rfl rfl ?_
  refine x_iconst (q := 4) dX2_noteCell_3 rfl (by decide) ?_
  refine x_invV (q := 7) (as := [.inr (.inr (some 19)), .inl wh, .inl a, .inl 0]) (rest := []) dX2_noteCell_4 rfl l_2_21 m_X2_note rfl rfl (ft19 hF) (Nat.le_of_ble_eq_true rfl) (c_noteD _ hF hL hn L0 L1 n0 n1) (fun r1 G1 hR => ?_)
  obtain ⟨rfl, rfl⟩ := hR
  have hF : FC (ntD G L n wh a 0) := FX_Io hF (ntD_lo G _ _ _ _ _).1
  refine Ex.stk (st' := []) rfl ?_
  refine x_vret dX2_noteCell_7 rfl ?_
  exact ⟨rfl, rfl⟩
theorem c_noteAm (d : Nat) {G : Hp} (hF : FC G) {a b L n : Int} (hL : iv G 19 3 = L) (hn : iv G 19 4 = n) (L0 : 0 ≤ L) (L1 : L < 16) (n0 : 0 ≤ n) (n1 : n ≤ 16) : CX (d + 3) 19 [.inr (.inr (some 19)), .inl a, .inl b] G (fun r G1 => r = none ∧ G1 = ntD G L n (-1) a b) := by
  refine CX.of (d := d + 2) m_X2_noteAim (Nat.le_of_ble_eq_true rfl) ?_
  refine Ex.lcl (ls' := [some (.inr (.inr (some 19))), some (.inl a), some (.inl b)]) rfl ?_
  refine x_aload_n (q := 1) dX2_noteAim_0 rfl rfl ?_
  refine x_iconst (q := 2) dX2_noteAim_1 rfl (by decide) ?_
  refine x_iload_n (q := 3) dX2_noteAim_2 rfl rfl ?_
  refine x_iload_n (q := 4) dX2_noteAim_3 rfl rfl ?_
  refine x_invV (q := 7) (as := [.inr (.inr (some 19)), .inl (-1), .inl a, .inl b]) (rest := []) dX2_noteAim_4 rfl l_2_21 m_X2_note rfl rfl (ft19 hF) (Nat.le_of_ble_eq_true rfl) (c_noteD _ hF hL hn L0 L1 n0 n1) (fun r1 G1 hR => ?_)
  obtain ⟨rfl, rfl⟩ := hR
  have hF : FC (ntD G L n (-1) a b) := FX_Io hF (ntD_lo G _ _ _ _ _).1
  refine Ex.stk (st' := []) rfl ?_
  refine x_vret dX2_noteAim_7 rfl ?_
  exact ⟨rfl, rfl⟩
theorem cc_change (d : Nat) {n : Int} {s : Sg} {G : Hp} (hR0 : RC n s G) (i v : Int) (i0 : 0 ≤ i) (i1 : i < 8) (hl : s.2.2.1.2.1.length ≤ 16) : CX (d + 4) 104 [.inr (.inr (some 1)), .inl i, .inl v] G (fun r G' => r = some (.inl (s.2.2.1.1 i)) ∧ RC n (s.1, s.2.1, remR s.2.2.1 (upi s.2.2.1.1 i v), s.2.2.2) G' ∧ Sm isM G G') := by
  have hC1 := hR0
  obtain ⟨hF, h2, h3, h4, h5, h6⟩ := hR0
  have hrow := h4
  obtain ⟨L0, L1, hn, hdd⟩ := h4.2.2.2.2.1
  have hL : iv G 19 3 = iv G 19 3 := rfl
  have n0 : (0 : Int) ≤ (s.2.2.1.2.1.length : Int) := by omega
  have n1 : (s.2.2.1.2.1.length : Int) ≤ 16 := by omega
  refine CX.of (d := d + 3) m_X9_changeCell (Nat.le_of_ble_eq_true rfl) ?_
  refine Ex.lcl (ls' := [some (.inr (.inr (some 1))), some (.inl i), some (.inl v), none]) rfl ?_
  refine x_aload_n (q := 1) dX9_changeCell_0 rfl rfl ?_
  refine x_getR (q := 4) dX9_changeCell_1 rfl f_9_37 rfl (ft1 hF) ?_
  refine Ex.stk (st' := [.inr (.inr (some 15))]) (by rw [fr1_6 hF]) ?_
  refine x_getR (q := 7) dX9_changeCell_4 rfl f_9_132 rfl (ft15 hF) ?_
  refine Ex.stk (st' := [.inr (.inr (some 16))]) (by rw [fr15_0 hF]) ?_
  refine x_iload_n (q := 8) dX9_changeCell_7 rfl rfl ?_
  refine x_iaload (q := 9) dX9_changeCell_8 rfl (Or.inl (ft16 hF)) (by omega) (by rw [fl16 hF]; omega) ?_
  refine Ex.stk (st' := [.inl (s.2.2.1.1 i)]) (by rw [show iv G 16 i = s.2.2.1.1 i from h4.1 i i0 i1]) ?_
  refine x_istore_n (q := 10) (ls' := [some (.inr (.inr (some 1))), some (.inl i), some (.inl v), some (.inl (s.2.2.1.1 i))]) dX9_changeCell_9 rfl (Nat.le_of_ble_eq_true rfl) (by first | rfl | exact hnl | exact hnl2 _) rfl ?_
  refine x_aload_n (q := 11) dX9_changeCell_10 rfl rfl ?_
  refine x_getR (q := 14) dX9_changeCell_11 rfl f_9_51 rfl (ft1 hF) ?_
  refine Ex.stk (st' := [.inr (.inr (some 19))]) (by rw [fr1_10 hF]) ?_
  refine x_iload_n (q := 15) dX9_changeCell_14 rfl rfl ?_
  refine x_iload_n (q := 16) dX9_changeCell_15 rfl rfl ?_
  refine x_invV (q := 19) (as := [.inr (.inr (some 19)), .inl i, .inl (s.2.2.1.1 i)]) (rest := []) dX9_changeCell_16 rfl l_9_269 m_X2_noteCell rfl rfl (ft19 hF) (Nat.le_of_ble_eq_true rfl) (c_noteCl _ hF hL hn L0 L1 n0 n1) (fun r1 G1 hR => ?_)
  obtain ⟨rfl, rfl⟩ := hR
  have hF : FC (ntD G (iv G 19 3) (s.2.2.1.2.1.length : Int) i (s.2.2.1.1 i) 0) := FX_Io hF (ntD_lo G _ _ _ _ _).1
  refine Ex.stk (st' := []) rfl ?_
  refine x_aload_n (q := 20) dX9_changeCell_19 rfl rfl ?_
  refine x_getR (q := 23) dX9_changeCell_20 rfl f_9_37 rfl (ft1 hF) ?_
  refine Ex.stk (st' := [.inr (.inr (some 15))]) (by rw [fr1_6 hF]) ?_
  refine x_getR (q := 26) dX9_changeCell_23 rfl f_9_132 rfl (ft15 hF) ?_
  refine Ex.stk (st' := [.inr (.inr (some 16))]) (by rw [fr15_0 hF]) ?_
  refine x_iload_n (q := 27) dX9_changeCell_26 rfl rfl ?_
  refine x_iload_n (q := 28) dX9_changeCell_27 rfl rfl ?_
  refine x_iastore (q := 29) dX9_changeCell_28 rfl (ft16 hF) (by omega) (by rw [fl16 hF]; omega) ?_
  have hF := FX_si hF 16 i v
  refine x_iload_n (q := 30) dX9_changeCell_29 rfl rfl ?_
  refine x_iret dX9_changeCell_30 rfl ?_
  have hi : LoI G (si (ntD G (iv G 19 3) (s.2.2.1.2.1.length : Int) i (s.2.2.1.1 i) 0) 16 i v) := (ntD_lo G _ _ _ _ _).si _ _ (by omega)
  have ho : ∀ (c : Nat) (k : Int), (c < 16 ∨ c = 17 ∨ c = 18 ∨ 22 < c) → iv (si (ntD G (iv G 19 3) (s.2.2.1.2.1.length : Int) i (s.2.2.1.1 i) 0) 16 i v) c k = iv G c k := fun c k hc => by rw [iv_si, if_neg (by omega), ntD_o (by omega)]
  refine ⟨rfl, RC_lo (t := s.1) (P := s.2.1) (r := s.2.2.1) (b := s.2.2.2.1) (c := s.2.2.2.2) hC1 hi (RCt_k h2 (fun k => ho _ k (by omega)) (ho _ _ (by omega)) (ho _ _ (by omega))) ⟨fun k k0 k1 => ?_, ?_, ?_, (ho 15 3 (by omega)).trans hrow.2.2.2.1, ?_, RCi_lo hrow.2.2.2.2.2 hi⟩ (RCb_k h5 (ho _ _ (by omega)) (fun k => ho _ k (by omega)) (fun k => ho _ k (by omega)) (fun k => ho _ k (by omega))), hi.M⟩
  · show _ = upi s.2.2.1.1 i v k
    rw [iv_si]
    unfold upi
    by_cases hk : k = i
    · rw [if_pos ⟨rfl, hk⟩, if_pos hk]
    · rw [if_neg (fun q => hk q.2), if_neg hk, ntD_o (by omega)]; exact hrow.1 k k0 k1
  · show _ = upi s.2.2.1.1 i v 8
    unfold upi; rw [if_neg (by omega), ho 15 1 (by omega)]; exact hrow.2.1
  · show _ = upi s.2.2.1.1 i v 9
    unfold upi; rw [if_neg (by omega), ho 15 2 (by omega)]; exact hrow.2.2.1
  · refine RCd_note (wh := i) (a := s.2.2.1.1 i) (b := 0) hrow.2.2.2.2.1 hl (by omega) (fun k k0 k1 => ?_) (fun c k c0 c1 => by rw [iv_si, if_neg (by omega), hn])
    unfold undo1; rw [if_neg (by omega)]
    show _ = upi (upi s.2.2.1.1 i v) i (s.2.2.1.1 i) k
    unfold upi
    by_cases hk : k = i
    · rw [if_pos hk, hk]
    · rw [if_neg hk, if_neg hk]
