/-! THE CLASS: the first call of all -/
def MF (G G' : Hp) : Prop := sz G' = 34 ∧ sl G' = sl G + 23 ∧ (∀ a, a ≤ 32 → tg G' a = tg G a ∧ ln G' a = ln G a) ∧ (∀ (a : Nat) (k : Int), a ≤ 32 → rv G' a k = rv G a k) ∧ (∀ (a : Nat) (k : Int), a ≤ 32 → a ≠ 30 → ¬ (a = 29 ∧ (k = 3 ∨ k = 6 ∨ k = 7)) → iv G' a k = iv G a k) ∧ iv G' 29 3 = 0 ∧ iv G' 29 6 = 1 ∧ CO G' 33 ∧ (iv G' 33 0 = 0 ∧ iv G' 33 1 = 0 ∧ iv G' 33 2 = 0 ∧ iv G' 33 3 = 0 ∧ iv G' 33 4 = 1 ∧ iv G' 33 5 = 1 ∧ iv G' 33 6 = 0 ∧ iv G' 33 12 = 0) ∧ rv G' 33 8 = none ∧ ∀ (a : Nat) (k : Int), 34 < a → iv G' a k = iv G a k
theorem c_make0 (d : Nat) {G : Hp} (hF : FC G) (hz : sz G = 32) (hf : rv G 28 0 = none) (hpa : rv G 29 4 = some 11) {p : Int} (hp : PF p G) (h3 : iv G 29 3 = 0) (h6 : iv G 29 6 = 0) (h7 : iv G 29 7 = 0) : CX (d + 8) 30 [.inr (.inr (some 29)), .inl 0, .inl 0, .inl 1] G (fun r G' => r = some (.inr (.inr (some 33))) ∧ MF G G') := by
  refine CX.of (d := d + 7) m_X3_make (Nat.le_of_ble_eq_true rfl) ?_
  refine Ex.lcl (ls' := [some (.inr (.inr (some 29))), some (.inl 0), some (.inl 0), some (.inl 1), none]) rfl ?_
  refine x_aload_n (q := 1) dX3_make_0 rfl rfl ?_
  refine x_getR (q := 4) dX3_make_1 rfl f_3_19 rfl (ft29 hF) ?_
  refine Ex.stk (st' := [.inr (.inr (some 28))]) (by rw [fr29_1 hF]) ?_
  refine x_invV (q := 7) (as := [.inr (.inr (some 28))]) (rest := []) dX3_make_4 rfl l_3_74 m_X4_take rfl rfl (ft28 hF) (Nat.le_of_ble_eq_true rfl) (CX.up (d := 0 + 2) (by omega) (c_take0 0 (ft28 hF) hf)) (fun r1 G1 hZ => ?_)
  obtain ⟨rfl, hG1⟩ := hZ
  rw [hz] at hG1 ⊢
  have a1 : sz G1 = 34 := by rw [hG1]; show sz G + 1 + 1 = 34; rw [hz]
  have a2 : sl G1 = sl G + 23 := by rw [hG1]; rfl
  have a3 : ∀ a, a ≤ 32 → tg G1 a = tg G a ∧ ln G1 a = ln G a := fun a ha => by
    rw [hG1, tg_sr, ln_sr, tg_nw, ln_nw, tg_nw, ln_nw, sz_nw, hz, if_neg (by omega), if_neg (by omega), if_neg (by omega), if_neg (by omega)]; exact ⟨rfl, rfl⟩
  have a4 : ∀ (a : Nat) (k : Int), a ≤ 32 → rv G1 a k = rv G a k := fun a k ha => by
    rw [hG1, rv_sr, if_neg (by omega), rv_nw, rv_nw, sz_nw, hz, if_neg (by omega), if_neg (by omega)]
  have a5 : ∀ (a : Nat) (k : Int), (a ≤ 32 ∨ 34 < a) → iv G1 a k = iv G a k := fun a k ha => by
    rw [hG1, iv_sr, iv_nw, iv_nw, sz_nw, hz, if_neg (by omega), if_neg (by omega)]
  have a6 : CO G1 33 := by
    rw [hG1]
    refine ⟨?_, ?_, ?_, ?_⟩
    · rw [tg_sr, tg_nw, sz_nw, hz, if_neg (by omega), tg_nw, hz, if_pos rfl]
    · rw [rv_sr, if_pos ⟨rfl, rfl⟩]
    · rw [tg_sr, tg_nw, sz_nw, hz, if_pos rfl]
    · rw [ln_sr, ln_nw, sz_nw, hz, if_pos rfl]
  have hF1 : FC G1 := ⟨fun e he => by
    have q1 : ∀ e ∈ fcT, e.1 ≤ 32 := by decide
    rw [(a3 _ (q1 e he)).1, (a3 _ (q1 e he)).2]; exact hF.1 e he, fun e he => by
    have q1 : ∀ e ∈ fcR, e.1 ≤ 32 := by decide
    rw [a4 _ _ (q1 e he)]; exact hF.2 e he⟩
  clear hF
  have hF := hF1
  clear hF1 hG1
  refine Ex.stk (st' := [.inr (.inr (some 33))]) rfl ?_
  refine x_astore (q := 9) (ls' := [some (.inr (.inr (some 29))), some (.inl 0), some (.inl 0), some (.inl 1), some (.inr (.inr (some 33)))]) dX3_make_7 rfl (Nat.le_of_ble_eq_true rfl) (by first | rfl | exact hnl | exact hnl2 _) rfl ?_
  refine x_aload (q := 11) dX3_make_9 rfl rfl ?_
  refine x_iload_n (q := 12) dX3_make_11 rfl rfl ?_
  refine x_iload_n (q := 13) dX3_make_12 rfl rfl ?_
  refine x_iload_n (q := 14) dX3_make_13 rfl rfl ?_
  refine x_aload_n (q := 15) dX3_make_14 rfl rfl ?_
  refine x_getI (q := 18) dX3_make_15 rfl f_3_27 rfl (ft29 hF) ?_
  refine Ex.stk (st' := [.inl 0, .inl 1, .inl 0, .inl 0, .inr (.inr (some 33))]) (by rw [show iv G1 29 6 = 0 from (by simp [iv_si, iv_sr, (a5 29 6 (by omega)).trans h6])]) ?_
  refine x_invV (q := 21) (as := [.inr (.inr (some 33)), .inl 0, .inl 0, .inl 1, .inl 0]) (rest := []) dX3_make_18 rfl l_3_80 m_X1_begin rfl rfl a6.1 (Nat.le_of_ble_eq_true rfl) (CX.up (d := 0 + 1) (by omega) (c_beginC 0 (a := 33) a6)) (fun r1 Gz hZ => ?_)
  obtain ⟨rfl, hGz⟩ := hZ
  subst hGz
  have hF := FX_si (FX_sr (FX_si (FX_si (FX_si (FX_si (FX_si (FX_si hF 33 0 0) 33 1 0) 33 5 1) 33 3 0) 33 2 0) 33 4 0) (a := 33) (k := 8) none (by decide)) 33 12 0
  refine Ex.stk (st' := []) rfl ?_
  refine x_aload_n (q := 22) dX3_make_21 rfl rfl ?_
  refine x_dup (q := 23) dX3_make_22 rfl rfl ?_
  refine x_getI (q := 26) dX3_make_23 rfl f_3_27 rfl (ft29 hF) ?_
  refine Ex.stk (st' := [.inl 0, .inr (.inr (some 29))]) (by rw [show iv (si (sr (si (si (si (si (si (si G1 33 0 0) 33 1 0) 33 5 1) 33 3 0) 33 2 0) 33 4 0) 33 8 none) 33 12 0) 29 6 = 0 from (by simp [iv_si, iv_sr, (a5 29 6 (by omega)).trans h6])]) ?_
  refine x_iconst (q := 27) dX3_make_26 rfl (by decide) ?_
  refine x_iadd (q := 28) (z := 0 + 1) dX3_make_27 rfl (wr_id ⟨by omega, by omega⟩) ?_
  refine x_putI (q := 31) dX3_make_28 rfl f_3_27 rfl (fun h => by cases h) (fun h => by cases h) (ft29 hF) ?_
  have hF := FX_si hF 29 6 (0 + 1)
  refine x_aload_n (q := 32) dX3_make_31 rfl rfl ?_
  refine x_dup (q := 33) dX3_make_32 rfl rfl ?_
  refine x_getI (q := 36) dX3_make_33 rfl f_3_65 rfl (ft29 hF) ?_
  refine Ex.stk (st' := [.inl 0, .inr (.inr (some 29))]) (by rw [show iv (si (si (sr (si (si (si (si (si (si G1 33 0 0) 33 1 0) 33 5 1) 33 3 0) 33 2 0) 33 4 0) 33 8 none) 33 12 0) 29 6 (0 + 1)) 29 7 = 0 from (by simp [iv_si, iv_sr, (a5 29 7 (by omega)).trans h7])]) ?_
  refine x_iconst (q := 37) dX3_make_36 rfl (by decide) ?_
  refine x_iadd (q := 38) (z := 0 + 1) dX3_make_37 rfl (wr_id ⟨by omega, by omega⟩) ?_
  refine x_putI (q := 41) dX3_make_38 rfl f_3_65 rfl (fun h => by cases h) (fun h => by cases h) (ft29 hF) ?_
  have hF := FX_si hF 29 7 (0 + 1)
  obtain ⟨G3, hG3⟩ : ∃ G3, G3 = (si (si (si (sr (si (si (si (si (si (si G1 33 0 0) 33 1 0) 33 5 1) 33 3 0) 33 2 0) 33 4 0) 33 8 none) 33 12 0) 29 6 (0 + 1)) 29 7 (0 + 1)) := ⟨_, rfl⟩
  rw [← hG3] at hF
  rw [← hG3]
  have b1 : ∀ (a : Nat) (k : Int), a ≠ 33 → ¬ (a = 29 ∧ (k = 6 ∨ k = 7)) → iv G3 a k = iv G1 a k := fun a k x y => by
    subst hG3
    rw [iv_si, if_neg (by omega), iv_si, if_neg (by omega), iv_si, if_neg (by omega), iv_sr, iv_si, if_neg (by omega), iv_si, if_neg (by omega), iv_si, if_neg (by omega), iv_si, if_neg (by omega), iv_si, if_neg (by omega), iv_si, if_neg (by omega)]
  have b2 : ∀ (a : Nat) (k : Int), ¬ (a = 33 ∧ k = 8) → rv G3 a k = rv G1 a k := fun a k x => by
    subst hG3
    rw [rv_si, rv_si, rv_si, rv_sr, if_neg x, rv_si, rv_si, rv_si, rv_si, rv_si, rv_si]
  have b3 : rv G3 33 8 = none := by subst hG3; simp [rv_si, rv_sr]
  have b4 : iv G3 29 6 = 1 := by subst hG3; simp [iv_si, iv_sr]
  have b5 : iv G3 33 0 = 0 := by subst hG3; simp [iv_si, iv_sr]
  have b6 : iv G3 33 1 = 0 := by subst hG3; simp [iv_si, iv_sr]
  have b7 : iv G3 33 3 = 0 := by subst hG3; simp [iv_si, iv_sr]
  have b8 : iv G3 33 4 = wr 0 := by subst hG3; simp [iv_si, iv_sr]; rfl
  have b9 : iv G3 33 5 = 1 := by subst hG3; simp [iv_si, iv_sr]
  have b10 : iv G3 33 12 = 0 := by subst hG3; simp [iv_si, iv_sr]
  have b11 : (∀ a, tg G3 a = tg G1 a ∧ ln G3 a = ln G1 a) ∧ sz G3 = sz G1 ∧ sl G3 = sl G1 := by subst hG3; exact ⟨fun _ => ⟨rfl, rfl⟩, rfl, rfl⟩
  have b12 : CO G3 33 := ⟨(b11.1 33).1.trans a6.1, (b2 33 7 (by omega)).trans a6.2.1, (b11.1 34).1.trans a6.2.2.1, (b11.1 34).2.trans a6.2.2.2⟩
  have b13 : PF p G3 := PF_k hp (fun a k x y => (b1 a k (by omega) (by omega)).trans (a5 a k (by omega)))
  have b14 : rv G3 29 4 = some 11 := (b2 29 4 (by omega)).trans ((a4 29 4 (by omega)).trans hpa)
  have b15 : iv G3 29 3 = 0 := (b1 29 3 (by omega) (by omega)).trans ((a5 29 3 (by omega)).trans h3)
  refine x_aload_n (q := 42) dX3_make_41 rfl rfl ?_
  refine x_aload (q := 44) dX3_make_42 rfl rfl ?_
  refine x_invV (q := 47) (as := [.inr (.inr (some 29)), .inr (.inr (some 33))]) (rest := []) dX3_make_44 rfl l_3_84 m_X3_goThrough rfl rfl (ft29 hF) (Nat.le_of_ble_eq_true rfl) (CX.of m_X3_goThrough (Nat.le_of_ble_eq_true rfl) ?_) (fun _ _ h => h)
  refine Ex.lcl (ls' := [some (.inr (.inr (some 29))), some (.inr (.inr (some 33))), none, none, none]) rfl ?_
  refine x_aload_n (q := 1) dX3_goThrough_0 rfl rfl ?_
  refine x_invV (q := 4) (as := [.inr (.inr (some 33))]) (rest := []) dX3_goThrough_1 rfl l_3_114 m_X1_beginDoing rfl rfl b12.1 (Nat.le_of_ble_eq_true rfl) (CX.up (d := 0 + 1) (by omega) (c_beginDoing 0 (a := 33) b12 b8)) (fun r1 Gz hZ => ?_)
  obtain ⟨rfl, hGz⟩ := hZ
  rw [b3] at hGz
  obtain ⟨hF4, e1, e2, e3, e4, e5⟩ : FC Gz ∧ (∀ (a : Nat) (k : Int), a ≠ 33 → iv Gz a k = iv G3 a k) ∧ (∀ (a : Nat) (k : Int), a ≠ 33 → rv Gz a k = rv G3 a k) ∧ rv Gz 33 11 = none ∧ iv Gz 33 0 = 0 ∧ CO Gz 33 := by
    subst hGz
    refine ⟨FX_sr (FX_sr (FX_sr (FX_si (FX_si hF 33 4 _) 33 6 0) (a := 33) (k := 11) _ (by decide)) (a := 33) (k := 8) none (by decide)) (a := 33) (k := 9) none (by decide), fun a k x => ?_, fun a k x => ?_, ?_, ?_, b12.1, ?_, b12.2.2.1, b12.2.2.2⟩
    · rw [iv_sr, iv_sr, iv_sr, iv_si, if_neg (by omega), iv_si, if_neg (by omega)]
    · rw [rv_sr, if_neg (by omega), rv_sr, if_neg (by omega), rv_sr, if_neg (by omega), rv_si, rv_si]
    · simp [rv_si, rv_sr]
    · simp [iv_si, iv_sr, b5]
    · rw [rv_sr, if_neg (by omega), rv_sr, if_neg (by omega), rv_sr, if_neg (by omega), rv_si, rv_si]; exact b12.2.1
  clear hF
  have hF := hF4
  have e6 : rv Gz 29 4 = some 11 := (e2 29 4 (by omega)).trans b14
  have e7 : PF p Gz := PF_k b13 (fun a k x y => e1 a k (by omega))
  have e8 : iv Gz 29 3 = 0 := (e1 29 3 (by omega)).trans b15
  have hE : ENs 29 30 11 Gz := ⟨ft29 hF, fr29_0 hF, fr29_1 hF, fr29_2 hF, e6, ft30 hF, fl30 hF, ft15 hF, fr15_0 hF, ft16 hF, fl16 hF, ft28 hF, PGs_FC hF (Or.inr rfl), Or.inl ⟨rfl, rfl⟩, Or.inr rfl⟩
  refine Ex.stk (st' := []) rfl ?_
  refine x_aload_n (q := 5) dX3_goThrough_4 rfl rfl ?_
  refine x_getR (q := 8) dX3_goThrough_5 rfl f_3_23 rfl (ft29 hF) ?_
  refine Ex.stk (st' := [.inr (.inr (some 11))]) (by rw [show rv Gz 29 4 = some 11 from e6]) ?_
  refine x_aload_n (q := 9) dX3_goThrough_8 rfl rfl ?_
  refine x_getI (q := 12) dX3_goThrough_9 rfl f_3_117 rfl e5.1 ?_
  refine Ex.stk (st' := [.inl 0, .inr (.inr (some 11))]) (by rw [show iv Gz 33 0 = 0 from e4]) ?_
  refine x_invV (q := 15) (as := [.inr (.inr (some 11)), .inl 0]) (rest := []) dX3_goThrough_12 rfl l_3_120 m_X5_startOf rfl rfl (ft11 hF) (Nat.le_of_ble_eq_true rfl) (CX.up (d := 0 + 2) (by omega) (c_startOf 0 (PGs_FC hF (Or.inr rfl)) e7.1 (by decide) (by decide) (by decide))) (fun r1 Gx hZ => ?_)
  obtain ⟨hGx, rfl⟩ := hZ
  replace hGx := hGx.symm
  subst hGx
  refine Ex.stk (st' := [.inl p]) (by rw [show iv Gz (11 + 3) 0 = p from e7.2.2.1]; rfl) ?_
  refine x_istore_n (q := 16) (ls' := [some (.inr (.inr (some 29))), some (.inr (.inr (some 33))), some (.inl p), none, none]) dX3_goThrough_15 rfl (Nat.le_of_ble_eq_true rfl) (by first | rfl | exact hnl | exact hnl2 _) rfl ?_
  refine x_iconst (q := 17) dX3_goThrough_16 rfl (by decide) ?_
  refine x_istore_n (q := 18) (ls' := [some (.inr (.inr (some 29))), some (.inr (.inr (some 33))), some (.inl p), some (.inl 0), none]) dX3_goThrough_17 rfl (Nat.le_of_ble_eq_true rfl) (by first | rfl | exact hnl | exact hnl2 _) rfl ?_
  refine x_iload_n (q := 19) dX3_goThrough_18 rfl rfl ?_
  refine x_sipush (q := 22) dX3_goThrough_19 rfl (by decide) ?_
  refine x_icmp_ge (q := 25) (t := 60) dX3_goThrough_22 rfl (by decide) (fun h22 => by exfalso; omega) (fun h22 => ?_)
  refine x_aload_n (q := 26) dX3_goThrough_25 rfl rfl ?_
  refine x_getR (q := 29) dX3_goThrough_26 rfl f_3_23 rfl (ft29 hF) ?_
  refine Ex.stk (st' := [.inr (.inr (some 11))]) (by rw [show rv Gz 29 4 = some 11 from e6]) ?_
  refine x_iload_n (q := 30) dX3_goThrough_29 rfl rfl ?_
  refine x_invV (q := 33) (as := [.inr (.inr (some 11)), .inl p]) (rest := []) dX3_goThrough_30 rfl l_3_126 m_X5_stepAt rfl rfl (ft11 hF) (Nat.le_of_ble_eq_true rfl) (CX.up (d := 0 + 1) (by omega) (c_stepAt 0 (PGs_FC hF (Or.inr rfl)) (n := iv Gz 11 3) rfl e7.2.1 (by have := e7.2.2.2; omega) (by have := e7.2.2.2; omega))) (fun r1 Gx hZ => ?_)
  obtain ⟨hGx, rfl⟩ := hZ
  replace hGx := hGx.symm
  subst hGx
  refine Ex.stk (st' := [.inl 0]) (by rw [show iv Gz (11 + 1) (p) = 0 from e7.2.2.2.2.1]; rfl) ?_
  refine x_istore (q := 35) (ls' := [some (.inr (.inr (some 29))), some (.inr (.inr (some 33))), some (.inl p), some (.inl 0), some (.inl 0)]) dX3_goThrough_33 rfl (Nat.le_of_ble_eq_true rfl) (by first | rfl | exact hnl | exact hnl2 _) rfl ?_
  refine x_iload (q := 37) dX3_goThrough_35 rfl rfl ?_
  refine x_bipush (q := 39) dX3_goThrough_37 rfl (by decide) ?_
  refine x_icmp_ne (q := 42) (t := 45) dX3_goThrough_39 rfl (by decide) (fun h39 => ?_) (fun h39 => by exfalso; omega)
  refine x_aload_n (q := 46) dX3_goThrough_45 rfl rfl ?_
  refine x_aload_n (q := 47) dX3_goThrough_46 rfl rfl ?_
  refine x_iload (q := 49) dX3_goThrough_47 rfl rfl ?_
  refine x_iload_n (q := 50) dX3_goThrough_49 rfl rfl ?_
  refine x_invV (q := 53) (as := [.inr (.inr (some 29)), .inr (.inr (some 33)), .inl 0, .inl p]) (rest := []) dX3_goThrough_50 rfl l_3_129 m_X3_takeStep rfl rfl (ft29 hF) (Nat.le_of_ble_eq_true rfl) (CX.up (d := 0 + 2) (by omega) (c_ts0 0 hE e8 e5 (n := iv Gz 11 3) rfl e7.2.1 e7.2.2.2.1 (by have := e7.2.2.2; omega) (vl := 0) e7.2.2.2.2.2.1 (by decide) (by decide))) (fun r1 Gy hZ => ?_)
  obtain ⟨rfl, hGy⟩ := hZ
  obtain ⟨hF5, u1, u2, u3, u4⟩ : FC Gy ∧ (∀ (a : Nat) (k : Int), a ≠ 30 → ¬ (a = 29 ∧ k = 3) → iv Gy a k = iv Gz a k) ∧ (∀ (a : Nat) (k : Int), rv Gy a k = rv Gz a k) ∧ iv Gy 29 3 = 1 ∧ iv Gy 30 0 = 0 := by
    subst hGy
    refine ⟨FX_si (FX_si hF 30 0 0) 29 3 (0 + 1), fun a k x y => ?_, fun a k => rfl, ?_, ?_⟩
    · rw [iv_si, if_neg (by omega), iv_si, if_neg (by omega)]
    · simp [iv_si]
    · simp [iv_si]
  have u7 : PF p Gy := PF_k e7 (fun a k x y => u1 a k (by omega) (by omega))
  clear hF
  have hF := hF5
  refine Ex.stk (st' := [.inl (p + 1)]) rfl ?_
  refine x_istore_n (q := 54) (ls' := [some (.inr (.inr (some 29))), some (.inr (.inr (some 33))), some (.inl (p + 1)), some (.inl 0), some (.inl 0)]) dX3_goThrough_53 rfl (Nat.le_of_ble_eq_true rfl) (by first | rfl | exact hnl | exact hnl2 _) rfl ?_
  refine x_iinc (q := 57) (ls' := [some (.inr (.inr (some 29))), some (.inr (.inr (some 33))), some (.inl (p + 1)), some (.inl (0 + 1)), some (.inl 0)]) dX3_goThrough_54 rfl rfl (by first | rfl | exact hnl | exact hnl2 _) (by rw [show wr (0 + 1) = 0 + 1 from (wr_id ⟨by omega, by omega⟩)]; rfl) ?_
  refine x_goto (t := 18) dX3_goThrough_57 (by decide) ?_
  refine x_iload_n (q := 19) dX3_goThrough_18 rfl rfl ?_
  refine x_sipush (q := 22) dX3_goThrough_19 rfl (by decide) ?_
  refine x_icmp_ge (q := 25) (t := 60) dX3_goThrough_22 rfl (by decide) (fun h22 => by exfalso; omega) (fun h22 => ?_)
  refine x_aload_n (q := 26) dX3_goThrough_25 rfl rfl ?_
  refine x_getR (q := 29) dX3_goThrough_26 rfl f_3_23 rfl (ft29 hF) ?_
  refine Ex.stk (st' := [.inr (.inr (some 11))]) (by rw [show rv Gy 29 4 = some 11 from (u2 29 4).trans e6]) ?_
  refine x_iload_n (q := 30) dX3_goThrough_29 rfl rfl ?_
  refine x_invV (q := 33) (as := [.inr (.inr (some 11)), .inl (p + 1)]) (rest := []) dX3_goThrough_30 rfl l_3_126 m_X5_stepAt rfl rfl (ft11 hF) (Nat.le_of_ble_eq_true rfl) (CX.up (d := 0 + 1) (by omega) (c_stepAt 0 (PGs_FC hF (Or.inr rfl)) (n := iv Gy 11 3) rfl u7.2.1 (by have := u7.2.2.2; omega) (by have := u7.2.2.2; omega))) (fun r1 Gx hZ => ?_)
  obtain ⟨hGx, rfl⟩ := hZ
  replace hGx := hGx.symm
  subst hGx
  refine Ex.stk (st' := [.inl 11]) (by rw [show iv Gy (11 + 1) (p + 1) = 11 from u7.2.2.2.2.2.2.1]; rfl) ?_
  refine x_istore (q := 35) (ls' := [some (.inr (.inr (some 29))), some (.inr (.inr (some 33))), some (.inl (p + 1)), some (.inl (0 + 1)), some (.inl 11)]) dX3_goThrough_33 rfl (Nat.le_of_ble_eq_true rfl) (by first | rfl | exact hnl | exact hnl2 _) rfl ?_
  refine x_iload (q := 37) dX3_goThrough_35 rfl rfl ?_
  refine x_bipush (q := 39) dX3_goThrough_37 rfl (by decide) ?_
  refine x_icmp_ne (q := 42) (t := 45) dX3_goThrough_39 rfl (by decide) (fun h39 => by exfalso; omega) (fun h39 => ?_)
  refine x_goto (t := 60) dX3_goThrough_42 (by decide) ?_
  refine x_aload_n (q := 61) dX3_goThrough_60 rfl rfl ?_
  refine x_aload_n (q := 62) dX3_goThrough_61 rfl rfl ?_
  refine x_invV (q := 65) (as := [.inr (.inr (some 29))]) (rest := [.inr (.inr (some 33))]) dX3_goThrough_62 rfl l_3_133 m_X3_pop rfl rfl (ft29 hF) (Nat.le_of_ble_eq_true rfl) (CX.up (d := 0 + 1) (by omega) (c_popC 0 (mk := 29) (sk := 30) (ft29 hF) (fr29_2 hF) (ft30 hF) (fl30 hF) u3 (by decide) (by decide) (by decide))) (fun r1 Gx hZ => ?_)
  obtain ⟨rfl, hGx⟩ := hZ
  subst hGx
  have hF := FX_si hF 29 3 (1 - 1)
  refine Ex.stk (st' := [.inl 0, .inr (.inr (some 33))]) (by rw [show iv Gy 30 (1 - 1) = 0 from u4]; rfl) ?_
  refine x_putI (q := 68) dX3_goThrough_65 rfl f_3_108 rfl (fun h => by cases h) (fun h => by cases h) (show tg Gy 33 = 1 by rw [hGy]; exact e5.1) ?_
  have hF := FX_si hF 33 2 0
  refine x_aload_n (q := 69) dX3_goThrough_68 rfl rfl ?_
  refine x_aload_n (q := 70) dX3_goThrough_69 rfl rfl ?_
  refine x_getR (q := 73) dX3_goThrough_70 rfl f_3_137 rfl (show tg Gy 33 = 1 by rw [hGy]; exact e5.1) ?_
  refine Ex.stk (st' := [.inr (.inr none), .inr (.inr (some 29))]) (by rw [show rv (si (si Gy 29 3 (1 - 1)) 33 2 0) 33 11 = none from (by rw [rv_si, rv_si]; exact (u2 33 11).trans e3)]) ?_
  refine x_aconst_null (q := 74) dX3_goThrough_73 rfl ?_
  refine x_invV (q := 77) (as := [.inr (.inr (some 29)), .inr (.inr none), .inr (.inr none)]) (rest := []) dX3_goThrough_74 rfl l_3_140 m_X3_letGoChain rfl rfl (ft29 hF) (Nat.le_of_ble_eq_true rfl) (CX.of m_X3_letGoChain (Nat.le_of_ble_eq_true rfl) ?_) (fun _ _ h => h)
  refine Ex.lcl (ls' := [some (.inr (.inr (some 29))), some (.inr (.inr none)), some (.inr (.inr none)), none, none]) rfl ?_
  refine x_aload_n (q := 1) dX3_letGoChain_0 rfl rfl ?_
  refine x_astore_n (q := 2) (ls' := [some (.inr (.inr (some 29))), some (.inr (.inr none)), some (.inr (.inr none)), some (.inr (.inr none)), none]) dX3_letGoChain_1 rfl (Nat.le_of_ble_eq_true rfl) (by first | rfl | exact hnl | exact hnl2 _) rfl ?_
  refine x_aload_n (q := 3) dX3_letGoChain_2 rfl rfl ?_
  refine x_ifnull (q := 6) (t := 28) dX3_letGoChain_3 rfl (by decide) (fun h3 => ?_) (fun a3 h3 => by exfalso; cases h3)
  refine x_vret dX3_letGoChain_28 rfl ?_
  refine Ex.stk (st' := []) rfl ?_
  refine x_aload_n (q := 78) dX3_goThrough_77 rfl rfl ?_
  refine x_aconst_null (q := 79) dX3_goThrough_78 rfl ?_
  refine x_putR (q := 82) dX3_goThrough_79 rfl f_3_137 rfl (fun h => by cases h) (show tg Gy 33 = 1 by rw [hGy]; exact e5.1) ?_
  have hF := FX_sr hF (a := 33) (k := 11) none (by decide)
  refine x_vret dX3_goThrough_82 rfl ?_
  refine Ex.stk (st' := []) rfl ?_
  refine x_aload (q := 49) dX3_make_47 rfl rfl ?_
  refine x_aret dX3_make_49 rfl ?_
  refine ⟨rfl, ?_⟩
  obtain ⟨G9, hG9⟩ : ∃ G9, G9 = (sr (si (si Gy 29 3 (1 - 1)) 33 2 0) 33 11 none) := ⟨_, rfl⟩
  rw [← hG9]
  have v1 : ∀ (a : Nat) (k : Int), ¬ (a = 33 ∧ k = 2) → ¬ (a = 29 ∧ k = 3) → iv G9 a k = iv Gy a k := fun a k x y => by
    subst hG9
    rw [iv_sr, iv_si, if_neg x, iv_si, if_neg y]
  have v2 : ∀ (a : Nat) (k : Int), ¬ (a = 33 ∧ k = 11) → rv G9 a k = rv Gy a k := fun a k x => by
    subst hG9
    rw [rv_sr, if_neg x, rv_si, rv_si]
  have v3 : (∀ a, tg G9 a = tg Gy a ∧ ln G9 a = ln Gy a) ∧ sz G9 = sz Gy ∧ sl G9 = sl Gy := by subst hG9; exact ⟨fun _ => ⟨rfl, rfl⟩, rfl, rfl⟩
  have v4 : (∀ a, tg Gy a = tg Gz a ∧ ln Gy a = ln Gz a) ∧ sz Gy = sz Gz ∧ sl Gy = sl Gz := by rw [hGy]; exact ⟨fun _ => ⟨rfl, rfl⟩, rfl, rfl⟩
  have v5 : (∀ a, tg Gz a = tg G3 a ∧ ln Gz a = ln G3 a) ∧ sz Gz = sz G3 ∧ sl Gz = sl G3 := by rw [hGz]; exact ⟨fun _ => ⟨rfl, rfl⟩, rfl, rfl⟩
  have z1 : ∀ k : Int, k ≠ 4 → k ≠ 6 → iv Gz 33 k = iv G3 33 k := fun k x y => by
    rw [hGz, iv_sr, iv_sr, iv_sr, iv_si, if_neg (by omega), iv_si, if_neg (by omega)]
  have z4 : iv Gz 33 4 = 1 := by rw [hGz, iv_sr, iv_sr, iv_sr, iv_si, if_neg (by omega), iv_si, if_pos ⟨rfl, rfl⟩]; rfl
  have z6 : iv Gz 33 6 = 0 := by rw [hGz, iv_sr, iv_sr, iv_sr, iv_si, if_pos ⟨rfl, rfl⟩]
  have z8 : rv Gz 33 8 = none := by rw [hGz]; simp [rv_si, rv_sr]
  have y1 : ∀ k : Int, k ≠ 2 → iv G9 33 k = iv Gz 33 k := fun k x => (v1 33 k (by omega) (by omega)).trans (u1 33 k (by omega) (by omega))
  have tt : ∀ a, tg G9 a = tg G1 a ∧ ln G9 a = ln G1 a := fun a => ⟨(v3.1 a).1.trans ((v4.1 a).1.trans ((v5.1 a).1.trans (b11.1 a).1)), (v3.1 a).2.trans ((v4.1 a).2.trans ((v5.1 a).2.trans (b11.1 a).2))⟩
  refine ⟨(v3.2.1.trans (v4.2.1.trans (v5.2.1.trans b11.2.1))).trans a1, (v3.2.2.trans (v4.2.2.trans (v5.2.2.trans b11.2.2))).trans a2, fun a ha => ⟨(tt a).1.trans (a3 a ha).1, (tt a).2.trans (a3 a ha).2⟩, fun a k ha => (v2 a k (by omega)).trans ((u2 a k).trans ((e2 a k (by omega)).trans ((b2 a k (by omega)).trans (a4 a k ha)))), fun a k ha hb hc => (v1 a k (by omega) (by omega)).trans ((u1 a k hb (by omega)).trans ((e1 a k (by omega)).trans ((b1 a k (by omega) (by omega)).trans (a5 a k (Or.inl ha))))), ?_, ?_, ?_, ⟨?_, ?_, ?_, ?_, ?_, ?_, ?_, ?_⟩, ?_, fun a k ha => (v1 a k (by omega) (by omega)).trans ((u1 a k (by omega) (by omega)).trans ((e1 a k (by omega)).trans ((b1 a k (by omega) (by omega)).trans (a5 a k (Or.inr ha)))))⟩
  · subst hG9; rw [iv_sr, iv_si, if_neg (by omega), iv_si, if_pos ⟨rfl, rfl⟩]; rfl
  · exact (v1 29 6 (by omega) (by omega)).trans ((u1 29 6 (by omega) (by omega)).trans ((e1 29 6 (by omega)).trans b4))
  · exact ⟨(tt 33).1.trans a6.1, (v2 33 7 (by omega)).trans ((u2 33 7).trans e5.2.1), (tt 34).1.trans a6.2.2.1, (tt 34).2.trans a6.2.2.2⟩
  · exact (y1 0 (by omega)).trans ((z1 0 (by omega) (by omega)).trans b5)
  · exact (y1 1 (by omega)).trans ((z1 1 (by omega) (by omega)).trans b6)
  · subst hG9; rw [iv_sr, iv_si, if_pos ⟨rfl, rfl⟩]
  · exact (y1 3 (by omega)).trans ((z1 3 (by omega) (by omega)).trans b7)
  · exact (y1 4 (by omega)).trans z4
  · exact (y1 5 (by omega)).trans ((z1 5 (by omega) (by omega)).trans b9)
  · exact (y1 6 (by omega)).trans z6
  · exact (y1 12 (by omega)).trans ((z1 12 (by omega) (by omega)).trans b10)
  · exact (v2 33 8 (by omega)).trans ((u2 33 8).trans z8)
