/-! THE CLASS: one step of a body -/
/-- what stays as it is while calls are made: the maker, its stack, the scene, the pool, the program -/
def ENs (mk sk pa : Nat) (G : Hp) : Prop := tg G mk = 3 ∧ rv G mk 0 = some 15 ∧ rv G mk 1 = some 28 ∧ rv G mk 2 = some sk ∧ rv G mk 4 = some pa ∧ tg G sk = 20 ∧ ln G sk = 960 ∧ tg G 15 = 7 ∧ rv G 15 0 = some 16 ∧ tg G 16 = 20 ∧ ln G 16 = 8 ∧ tg G 28 = 4 ∧ PGs pa G ∧ ((mk = 29 ∧ sk = 30) ∨ (mk = 31 ∧ sk = 32)) ∧ (pa = 7 ∨ pa = 11)
theorem ENs_ne {mk sk pa : Nat} {G : Hp} (h : ENs mk sk pa G) : sk ≠ mk := by
  have := h.2.2.2.2.2.2.2.2.2.2.2.2.2.1
  omega
def opc (c : Int) : Int := if c = 43 then 4 else if c = 45 then 5 else if c = 42 then 6 else 7
theorem c_join4 (d : Nat) {G : Hp} {mk sk pa : Nat} (hE : ENs mk sk pa G) {tp : Int} (h3 : iv G mk 3 = tp) (t0 : 2 ≤ tp) (t1 : tp ≤ 960) {x y : Int} (hx : 0 ≤ x ∧ x ≤ 996) (hy : 0 ≤ y ∧ y ≤ 996) (hvx : iv G sk (tp - 1 - 1) = x) (hvy : iv G sk (tp - 1) = y) : CX (d + 2) 35 [.inr (.inr (some mk)), .inl 4] G (fun r G1 => r = none ∧ G1 = si (si (si (si G mk 3 (tp - 1)) mk 3 (tp - 1 - 1)) sk (tp - 1 - 1) (opv 43 x y)) mk 3 (tp - 1 - 1 + 1)) := by
  refine CX.of (d := d + 1) m_X3_joinTwo (Nat.le_of_ble_eq_true rfl) ?_
  refine Ex.lcl (ls' := [some (.inr (.inr (some mk))), some (.inl 4), none, none]) rfl ?_
  refine x_aload_n (q := 1) dX3_joinTwo_0 rfl rfl ?_
  refine x_invV (q := 4) (as := [.inr (.inr (some mk))]) (rest := []) dX3_joinTwo_1 rfl l_3_133 m_X3_pop rfl rfl hE.1 (Nat.le_of_ble_eq_true rfl) (c_popC _ (G := G) (hE.1) (hE.2.2.2.1) hE.2.2.2.2.2.1 hE.2.2.2.2.2.2.1 (tp := tp) h3 (ENs_ne hE) (by omega) (by omega)) (fun r1 G1 hR => ?_)
  obtain ⟨rfl, rfl⟩ := hR
  refine Ex.stk (st' := [.inl y]) (by rw [show iv G sk (tp - 1) = y from hvy]; rfl) ?_
  refine x_istore_n (q := 5) (ls' := [some (.inr (.inr (some mk))), some (.inl 4), some (.inl y), none]) dX3_joinTwo_4 rfl (Nat.le_of_ble_eq_true rfl) (by first | rfl | exact hnl | exact hnl2 _) rfl ?_
  refine x_aload_n (q := 6) dX3_joinTwo_5 rfl rfl ?_
  refine x_invV (q := 9) (as := [.inr (.inr (some mk))]) (rest := []) dX3_joinTwo_6 rfl l_3_133 m_X3_pop rfl rfl hE.1 (Nat.le_of_ble_eq_true rfl) (c_popC _ (G := si G mk 3 (tp - 1)) (hE.1) (hE.2.2.2.1) hE.2.2.2.2.2.1 hE.2.2.2.2.2.2.1 (tp := tp - 1) (by simp [iv_si]) (ENs_ne hE) (by omega) (by omega)) (fun r1 G1 hR => ?_)
  obtain ⟨rfl, rfl⟩ := hR
  refine Ex.stk (st' := [.inl x]) (by rw [show iv (si G mk 3 (tp - 1)) sk (tp - 1 - 1) = x from (by rw [iv_si, if_neg (fun q => ENs_ne hE q.1)]; exact hvx)]; rfl) ?_
  refine x_istore_n (q := 10) (ls' := [some (.inr (.inr (some mk))), some (.inl 4), some (.inl y), some (.inl x)]) dX3_joinTwo_9 rfl (Nat.le_of_ble_eq_true rfl) (by first | rfl | exact hnl | exact hnl2 _) rfl ?_
  refine x_iload_n (q := 11) dX3_joinTwo_10 rfl rfl ?_
  refine x_tableIn (t := 36) (off := 25) dX3_joinTwo_11 (by decide) (by decide) rfl (by decide) ?_
  refine x_aload_n (q := 37) dX3_joinTwo_36 rfl rfl ?_
  refine x_iload_n (q := 38) dX3_joinTwo_37 rfl rfl ?_
  refine x_iload_n (q := 39) dX3_joinTwo_38 rfl rfl ?_
  refine x_iadd (q := 40) (z := x + y) dX3_joinTwo_39 rfl (wr_id ⟨by omega, by omega⟩) ?_
  refine x_sipush (q := 43) dX3_joinTwo_40 rfl (by decide) ?_
  refine x_irem (q := 44) (z := (x + y) % 997) dX3_joinTwo_43 rfl (by omega) (Int.tmod_eq_emod_of_nonneg (by first | omega | exact Int.mul_nonneg (by omega) (by omega))) ?_
  refine x_invV (q := 47) (as := [.inr (.inr (some mk)), .inl ((x + y) % 997)]) (rest := []) dX3_joinTwo_44 rfl l_3_147 m_X3_push rfl rfl hE.1 (Nat.le_of_ble_eq_true rfl) (c_pushC _ (G := si (si G mk 3 (tp - 1)) mk 3 (tp - 1 - 1)) (hE.1) (hE.2.2.2.1) hE.2.2.2.2.2.1 hE.2.2.2.2.2.2.1 (tp := tp - 1 - 1) (by simp [iv_si]) (ENs_ne hE) (by omega) (by omega)) (fun r1 G1 hR => ?_)
  obtain ⟨rfl, rfl⟩ := hR
  refine Ex.stk (st' := []) rfl ?_
  refine x_goto (t := 96) dX3_joinTwo_47 (by decide) ?_
  refine x_vret dX3_joinTwo_96 rfl ?_
  refine ⟨rfl, ?_⟩
  first | (congr 2; done) | (congr 2; unfold opv; ((repeat' split) <;> first | rfl | omega))
theorem c_join5 (d : Nat) {G : Hp} {mk sk pa : Nat} (hE : ENs mk sk pa G) {tp : Int} (h3 : iv G mk 3 = tp) (t0 : 2 ≤ tp) (t1 : tp ≤ 960) {x y : Int} (hx : 0 ≤ x ∧ x ≤ 996) (hy : 0 ≤ y ∧ y ≤ 996) (hvx : iv G sk (tp - 1 - 1) = x) (hvy : iv G sk (tp - 1) = y) : CX (d + 2) 35 [.inr (.inr (some mk)), .inl 5] G (fun r G1 => r = none ∧ G1 = si (si (si (si G mk 3 (tp - 1)) mk 3 (tp - 1 - 1)) sk (tp - 1 - 1) (opv 45 x y)) mk 3 (tp - 1 - 1 + 1)) := by
  refine CX.of (d := d + 1) m_X3_joinTwo (Nat.le_of_ble_eq_true rfl) ?_
  refine Ex.lcl (ls' := [some (.inr (.inr (some mk))), some (.inl 5), none, none]) rfl ?_
  refine x_aload_n (q := 1) dX3_joinTwo_0 rfl rfl ?_
  refine x_invV (q := 4) (as := [.inr (.inr (some mk))]) (rest := []) dX3_joinTwo_1 rfl l_3_133 m_X3_pop rfl rfl hE.1 (Nat.le_of_ble_eq_true rfl) (c_popC _ (G := G) (hE.1) (hE.2.2.2.1) hE.2.2.2.2.2.1 hE.2.2.2.2.2.2.1 (tp := tp) h3 (ENs_ne hE) (by omega) (by omega)) (fun r1 G1 hR => ?_)
  obtain ⟨rfl, rfl⟩ := hR
  refine Ex.stk (st' := [.inl y]) (by rw [show iv G sk (tp - 1) = y from hvy]; rfl) ?_
  refine x_istore_n (q := 5) (ls' := [some (.inr (.inr (some mk))), some (.inl 5), some (.inl y), none]) dX3_joinTwo_4 rfl (Nat.le_of_ble_eq_true rfl) (by first | rfl | exact hnl | exact hnl2 _) rfl ?_
  refine x_aload_n (q := 6) dX3_joinTwo_5 rfl rfl ?_
  refine x_invV (q := 9) (as := [.inr (.inr (some mk))]) (rest := []) dX3_joinTwo_6 rfl l_3_133 m_X3_pop rfl rfl hE.1 (Nat.le_of_ble_eq_true rfl) (c_popC _ (G := si G mk 3 (tp - 1)) (hE.1) (hE.2.2.2.1) hE.2.2.2.2.2.1 hE.2.2.2.2.2.2.1 (tp := tp - 1) (by simp [iv_si]) (ENs_ne hE) (by omega) (by omega)) (fun r1 G1 hR => ?_)
  obtain ⟨rfl, rfl⟩ := hR
  refine Ex.stk (st' := [.inl x]) (by rw [show iv (si G mk 3 (tp - 1)) sk (tp - 1 - 1) = x from (by rw [iv_si, if_neg (fun q => ENs_ne hE q.1)]; exact hvx)]; rfl) ?_
  refine x_istore_n (q := 10) (ls' := [some (.inr (.inr (some mk))), some (.inl 5), some (.inl y), some (.inl x)]) dX3_joinTwo_9 rfl (Nat.le_of_ble_eq_true rfl) (by first | rfl | exact hnl | exact hnl2 _) rfl ?_
  refine x_iload_n (q := 11) dX3_joinTwo_10 rfl rfl ?_
  refine x_tableIn (t := 50) (off := 39) dX3_joinTwo_11 (by decide) (by decide) rfl (by decide) ?_
  refine x_aload_n (q := 51) dX3_joinTwo_50 rfl rfl ?_
  refine x_iload_n (q := 52) dX3_joinTwo_51 rfl rfl ?_
  refine x_iload_n (q := 53) dX3_joinTwo_52 rfl rfl ?_
  refine x_isub (q := 54) (z := x - y) dX3_joinTwo_53 rfl (wr_id ⟨by omega, by omega⟩) ?_
  refine x_sipush (q := 57) dX3_joinTwo_54 rfl (by decide) ?_
  refine x_iadd (q := 58) (z := (x - y) + 997) dX3_joinTwo_57 rfl (wr_id ⟨by omega, by omega⟩) ?_
  refine x_sipush (q := 61) dX3_joinTwo_58 rfl (by decide) ?_
  refine x_irem (q := 62) (z := ((x - y) + 997) % 997) dX3_joinTwo_61 rfl (by omega) (Int.tmod_eq_emod_of_nonneg (by first | omega | exact Int.mul_nonneg (by omega) (by omega))) ?_
  refine x_invV (q := 65) (as := [.inr (.inr (some mk)), .inl (((x - y) + 997) % 997)]) (rest := []) dX3_joinTwo_62 rfl l_3_147 m_X3_push rfl rfl hE.1 (Nat.le_of_ble_eq_true rfl) (c_pushC _ (G := si (si G mk 3 (tp - 1)) mk 3 (tp - 1 - 1)) (hE.1) (hE.2.2.2.1) hE.2.2.2.2.2.1 hE.2.2.2.2.2.2.1 (tp := tp - 1 - 1) (by simp [iv_si]) (ENs_ne hE) (by omega) (by omega)) (fun r1 G1 hR => ?_)
  obtain ⟨rfl, rfl⟩ := hR
  refine Ex.stk (st' := []) rfl ?_
  refine x_goto (t := 96) dX3_joinTwo_65 (by decide) ?_
  refine x_vret dX3_joinTwo_96 rfl ?_
  refine ⟨rfl, ?_⟩
  first | (congr 2; done) | (congr 2; unfold opv; ((repeat' split) <;> first | rfl | omega))
theorem c_join6 (d : Nat) {G : Hp} {mk sk pa : Nat} (hE : ENs mk sk pa G) {tp : Int} (h3 : iv G mk 3 = tp) (t0 : 2 ≤ tp) (t1 : tp ≤ 960) {x y : Int} (hx : 0 ≤ x ∧ x ≤ 996) (hy : 0 ≤ y ∧ y ≤ 996) (hvx : iv G sk (tp - 1 - 1) = x) (hvy : iv G sk (tp - 1) = y) : CX (d + 2) 35 [.inr (.inr (some mk)), .inl 6] G (fun r G1 => r = none ∧ G1 = si (si (si (si G mk 3 (tp - 1)) mk 3 (tp - 1 - 1)) sk (tp - 1 - 1) (opv 42 x y)) mk 3 (tp - 1 - 1 + 1)) := by
  refine CX.of (d := d + 1) m_X3_joinTwo (Nat.le_of_ble_eq_true rfl) ?_
  refine Ex.lcl (ls' := [some (.inr (.inr (some mk))), some (.inl 6), none, none]) rfl ?_
  refine x_aload_n (q := 1) dX3_joinTwo_0 rfl rfl ?_
  refine x_invV (q := 4) (as := [.inr (.inr (some mk))]) (rest := []) dX3_joinTwo_1 rfl l_3_133 m_X3_pop rfl rfl hE.1 (Nat.le_of_ble_eq_true rfl) (c_popC _ (G := G) (hE.1) (hE.2.2.2.1) hE.2.2.2.2.2.1 hE.2.2.2.2.2.2.1 (tp := tp) h3 (ENs_ne hE) (by omega) (by omega)) (fun r1 G1 hR => ?_)
  obtain ⟨rfl, rfl⟩ := hR
  refine Ex.stk (st' := [.inl y]) (by rw [show iv G sk (tp - 1) = y from hvy]; rfl) ?_
  refine x_istore_n (q := 5) (ls' := [some (.inr (.inr (some mk))), some (.inl 6), some (.inl y), none]) dX3_joinTwo_4 rfl (Nat.le_of_ble_eq_true rfl) (by first | rfl | exact hnl | exact hnl2 _) rfl ?_
  refine x_aload_n (q := 6) dX3_joinTwo_5 rfl rfl ?_
  refine x_invV (q := 9) (as := [.inr (.inr (some mk))]) (rest := []) dX3_joinTwo_6 rfl l_3_133 m_X3_pop rfl rfl hE.1 (Nat.le_of_ble_eq_true rfl) (c_popC _ (G := si G mk 3 (tp - 1)) (hE.1) (hE.2.2.2.1) hE.2.2.2.2.2.1 hE.2.2.2.2.2.2.1 (tp := tp - 1) (by simp [iv_si]) (ENs_ne hE) (by omega) (by omega)) (fun r1 G1 hR => ?_)
  obtain ⟨rfl, rfl⟩ := hR
  refine Ex.stk (st' := [.inl x]) (by rw [show iv (si G mk 3 (tp - 1)) sk (tp - 1 - 1) = x from (by rw [iv_si, if_neg (fun q => ENs_ne hE q.1)]; exact hvx)]; rfl) ?_
  refine x_istore_n (q := 10) (ls' := [some (.inr (.inr (some mk))), some (.inl 6), some (.inl y), some (.inl x)]) dX3_joinTwo_9 rfl (Nat.le_of_ble_eq_true rfl) (by first | rfl | exact hnl | exact hnl2 _) rfl ?_
  refine x_iload_n (q := 11) dX3_joinTwo_10 rfl rfl ?_
  refine x_tableIn (t := 68) (off := 57) dX3_joinTwo_11 (by decide) (by decide) rfl (by decide) ?_
  refine x_aload_n (q := 69) dX3_joinTwo_68 rfl rfl ?_
  refine x_iload_n (q := 70) dX3_joinTwo_69 rfl rfl ?_
  refine x_iload_n (q := 71) dX3_joinTwo_70 rfl rfl ?_
  refine x_imul (q := 72) (z := x * y) dX3_joinTwo_71 rfl (wr_id ⟨by have := Int.mul_nonneg hx.1 hy.1; omega, by have := Int.mul_le_mul hx.2 hy.2 hy.1 (by omega : (0 : Int) ≤ 996); omega⟩) ?_
  refine x_sipush (q := 75) dX3_joinTwo_72 rfl (by decide) ?_
  refine x_irem (q := 76) (z := (x * y) % 997) dX3_joinTwo_75 rfl (by omega) (Int.tmod_eq_emod_of_nonneg (by first | omega | exact Int.mul_nonneg (by omega) (by omega))) ?_
  refine x_invV (q := 79) (as := [.inr (.inr (some mk)), .inl ((x * y) % 997)]) (rest := []) dX3_joinTwo_76 rfl l_3_147 m_X3_push rfl rfl hE.1 (Nat.le_of_ble_eq_true rfl) (c_pushC _ (G := si (si G mk 3 (tp - 1)) mk 3 (tp - 1 - 1)) (hE.1) (hE.2.2.2.1) hE.2.2.2.2.2.1 hE.2.2.2.2.2.2.1 (tp := tp - 1 - 1) (by simp [iv_si]) (ENs_ne hE) (by omega) (by omega)) (fun r1 G1 hR => ?_)
  obtain ⟨rfl, rfl⟩ := hR
  refine Ex.stk (st' := []) rfl ?_
  refine x_goto (t := 96) dX3_joinTwo_79 (by decide) ?_
  refine x_vret dX3_joinTwo_96 rfl ?_
  refine ⟨rfl, ?_⟩
  first | (congr 2; done) | (congr 2; unfold opv; ((repeat' split) <;> first | rfl | omega))
theorem c_join7 (d : Nat) {G : Hp} {mk sk pa : Nat} (hE : ENs mk sk pa G) {tp : Int} (h3 : iv G mk 3 = tp) (t0 : 2 ≤ tp) (t1 : tp ≤ 960) {x y : Int} (hx : 0 ≤ x ∧ x ≤ 996) (hy : 0 ≤ y ∧ y ≤ 996) (hvx : iv G sk (tp - 1 - 1) = x) (hvy : iv G sk (tp - 1) = y) : CX (d + 2) 35 [.inr (.inr (some mk)), .inl 7] G (fun r G1 => r = none ∧ G1 = si (si (si (si G mk 3 (tp - 1)) mk 3 (tp - 1 - 1)) sk (tp - 1 - 1) (opv 60 x y)) mk 3 (tp - 1 - 1 + 1)) := by
  refine CX.of (d := d + 1) m_X3_joinTwo (Nat.le_of_ble_eq_true rfl) ?_
  refine Ex.lcl (ls' := [some (.inr (.inr (some mk))), some (.inl 7), none, none]) rfl ?_
  refine x_aload_n (q := 1) dX3_joinTwo_0 rfl rfl ?_
  refine x_invV (q := 4) (as := [.inr (.inr (some mk))]) (rest := []) dX3_joinTwo_1 rfl l_3_133 m_X3_pop rfl rfl hE.1 (Nat.le_of_ble_eq_true rfl) (c_popC _ (G := G) (hE.1) (hE.2.2.2.1) hE.2.2.2.2.2.1 hE.2.2.2.2.2.2.1 (tp := tp) h3 (ENs_ne hE) (by omega) (by omega)) (fun r1 G1 hR => ?_)
  obtain ⟨rfl, rfl⟩ := hR
  refine Ex.stk (st' := [.inl y]) (by rw [show iv G sk (tp - 1) = y from hvy]; rfl) ?_
  refine x_istore_n (q := 5) (ls' := [some (.inr (.inr (some mk))), some (.inl 7), some (.inl y), none]) dX3_joinTwo_4 rfl (Nat.le_of_ble_eq_true rfl) (by first | rfl | exact hnl | exact hnl2 _) rfl ?_
  refine x_aload_n (q := 6) dX3_joinTwo_5 rfl rfl ?_
  refine x_invV (q := 9) (as := [.inr (.inr (some mk))]) (rest := []) dX3_joinTwo_6 rfl l_3_133 m_X3_pop rfl rfl hE.1 (Nat.le_of_ble_eq_true rfl) (c_popC _ (G := si G mk 3 (tp - 1)) (hE.1) (hE.2.2.2.1) hE.2.2.2.2.2.1 hE.2.2.2.2.2.2.1 (tp := tp - 1) (by simp [iv_si]) (ENs_ne hE) (by omega) (by omega)) (fun r1 G1 hR => ?_)
  obtain ⟨rfl, rfl⟩ := hR
  refine Ex.stk (st' := [.inl x]) (by rw [show iv (si G mk 3 (tp - 1)) sk (tp - 1 - 1) = x from (by rw [iv_si, if_neg (fun q => ENs_ne hE q.1)]; exact hvx)]; rfl) ?_
  refine x_istore_n (q := 10) (ls' := [some (.inr (.inr (some mk))), some (.inl 7), some (.inl y), some (.inl x)]) dX3_joinTwo_9 rfl (Nat.le_of_ble_eq_true rfl) (by first | rfl | exact hnl | exact hnl2 _) rfl ?_
  refine x_iload_n (q := 11) dX3_joinTwo_10 rfl rfl ?_
  refine x_tableOut (t := 82) dX3_joinTwo_11 (by decide) (by decide) ?_
  refine x_aload_n (q := 83) dX3_joinTwo_82 rfl rfl ?_
  refine x_iload_n (q := 84) dX3_joinTwo_83 rfl rfl ?_
  refine x_iload_n (q := 85) dX3_joinTwo_84 rfl rfl ?_
  refine x_icmp_ge (q := 88) (t := 92) dX3_joinTwo_85 rfl (by decide) (fun h85 => ?_) (fun h85 => ?_)
  · refine x_iconst (q := 93) dX3_joinTwo_92 rfl (by decide) ?_
    refine x_invV (q := 96) (as := [.inr (.inr (some mk)), .inl 0]) (rest := []) dX3_joinTwo_93 rfl l_3_147 m_X3_push rfl rfl hE.1 (Nat.le_of_ble_eq_true rfl) (c_pushC _ (G := si (si G mk 3 (tp - 1)) mk 3 (tp - 1 - 1)) (hE.1) (hE.2.2.2.1) hE.2.2.2.2.2.1 hE.2.2.2.2.2.2.1 (tp := tp - 1 - 1) (by simp [iv_si]) (ENs_ne hE) (by omega) (by omega)) (fun r1 G1 hR => ?_)
    obtain ⟨rfl, rfl⟩ := hR
    refine Ex.stk (st' := []) rfl ?_
    refine x_vret dX3_joinTwo_96 rfl ?_
    refine ⟨rfl, ?_⟩
    first | (congr 2; done) | (congr 2; unfold opv; ((repeat' split) <;> first | rfl | omega))
  · refine x_iconst (q := 89) dX3_joinTwo_88 rfl (by decide) ?_
    refine x_goto (t := 93) dX3_joinTwo_89 (by decide) ?_
    refine x_invV (q := 96) (as := [.inr (.inr (some mk)), .inl 1]) (rest := []) dX3_joinTwo_93 rfl l_3_147 m_X3_push rfl rfl hE.1 (Nat.le_of_ble_eq_true rfl) (c_pushC _ (G := si (si G mk 3 (tp - 1)) mk 3 (tp - 1 - 1)) (hE.1) (hE.2.2.2.1) hE.2.2.2.2.2.1 hE.2.2.2.2.2.2.1 (tp := tp - 1 - 1) (by simp [iv_si]) (ENs_ne hE) (by omega) (by omega)) (fun r1 G1 hR => ?_)
    obtain ⟨rfl, rfl⟩ := hR
    refine Ex.stk (st' := []) rfl ?_
    refine x_vret dX3_joinTwo_96 rfl ?_
    refine ⟨rfl, ?_⟩
    first | (congr 2; done) | (congr 2; unfold opv; ((repeat' split) <;> first | rfl | omega))
theorem c_readCell (d : Nat) {G : Hp} {mk sk pa : Nat} (hE : ENs mk sk pa G) {a : Nat} (hc : CO G a) (a33 : 33 ≤ a) {v m cv : Int} (hm : iv G a 6 = m) (v0 : 0 ≤ v) (v1 : v ≤ 996) (hcv : iv G 16 (v % 8) = cv) : CX (d + 2) 36 [.inr (.inr (some mk)), .inr (.inr (some a)), .inl v] G (fun r G1 => r = some (.inl cv) ∧ G1 = si (si G a 6 (bor m (bit (v % 8)))) (a + 1) (v % 8) cv) := by
  refine CX.of (d := d + 1) m_X3_readCell (Nat.le_of_ble_eq_true rfl) ?_
  refine Ex.lcl (ls' := [some (.inr (.inr (some mk))), some (.inr (.inr (some a))), some (.inl v), none]) rfl ?_
  refine x_iload_n (q := 1) dX3_readCell_0 rfl rfl ?_
  refine x_bipush (q := 3) dX3_readCell_1 rfl (by decide) ?_
  refine x_invS (q := 6) (as := [.inl v, .inl 8]) (rest := []) dX3_readCell_3 rfl l_3_164 m_J9_floorMod_7cf53 rfl rfl (Nat.le_of_ble_eq_true rfl) (Nat.le_of_ble_eq_true rfl) (c_floorMod _ v0 v1) (fun r1 G1 hR => ?_)
  obtain ⟨hG1, rfl⟩ := hR
  replace hG1 := hG1.symm
  subst hG1
  refine Ex.stk (st' := [.inl (v % 8)]) rfl ?_
  refine x_istore_n (q := 7) (ls' := [some (.inr (.inr (some mk))), some (.inr (.inr (some a))), some (.inl v), some (.inl (v % 8))]) dX3_readCell_6 rfl (Nat.le_of_ble_eq_true rfl) (by first | rfl | exact hnl | exact hnl2 _) rfl ?_
  refine x_aload_n (q := 8) dX3_readCell_7 rfl rfl ?_
  refine x_iload_n (q := 9) dX3_readCell_8 rfl rfl ?_
  refine x_aload_n (q := 10) dX3_readCell_9 rfl rfl ?_
  refine x_getR (q := 13) dX3_readCell_10 rfl f_3_15 rfl hE.1 ?_
  refine Ex.stk (st' := [.inr (.inr (some 15)), .inl (v % 8), .inr (.inr (some a))]) (by rw [show rv G mk 0 = some 15 from (by first | exact hE.2.1 | simp [rv_sr, rv_si, rv_nw, hE.2.1])]) ?_
  refine x_getR (q := 16) dX3_readCell_13 rfl f_3_90 rfl hE.2.2.2.2.2.2.2.1 ?_
  refine Ex.stk (st' := [.inr (.inr (some 16)), .inl (v % 8), .inr (.inr (some a))]) (by rw [show rv G 15 0 = some 16 from (by first | exact hE.2.2.2.2.2.2.2.2.1 | simp [rv_sr, rv_si, rv_nw, hE.2.2.2.2.2.2.2.2.1])]) ?_
  refine x_iload_n (q := 17) dX3_readCell_16 rfl rfl ?_
  refine x_iaload (q := 18) dX3_readCell_17 rfl (Or.inl hE.2.2.2.2.2.2.2.2.2.1) (by omega) (by rw [show ln G 16 = 8 from hE.2.2.2.2.2.2.2.2.2.2.1]; omega) ?_
  refine Ex.stk (st' := [.inl cv, .inl (v % 8), .inr (.inr (some a))]) (by rw [show iv G 16 (v % 8) = cv from hcv]) ?_
  refine x_invV (q := 21) (as := [.inr (.inr (some a)), .inl (v % 8), .inl cv]) (rest := []) dX3_readCell_18 rfl l_3_170 m_X1_noteRead rfl rfl hc.1 (Nat.le_of_ble_eq_true rfl) (c_noteRead _ hc hm (by omega) (by omega)) (fun r1 G1 hR => ?_)
  obtain ⟨rfl, rfl⟩ := hR
  refine Ex.stk (st' := []) rfl ?_
  refine x_aload_n (q := 22) dX3_readCell_21 rfl rfl ?_
  refine x_getR (q := 25) dX3_readCell_22 rfl f_3_15 rfl hE.1 ?_
  refine Ex.stk (st' := [.inr (.inr (some 15))]) (by rw [show rv (si (si G a 6 (bor m (bit (v % 8)))) (a + 1) (v % 8) cv) mk 0 = some 15 from (by first | exact hE.2.1 | simp [rv_sr, rv_si, rv_nw, hE.2.1])]) ?_
  refine x_getR (q := 28) dX3_readCell_25 rfl f_3_90 rfl hE.2.2.2.2.2.2.2.1 ?_
  refine Ex.stk (st' := [.inr (.inr (some 16))]) (by rw [show rv (si (si G a 6 (bor m (bit (v % 8)))) (a + 1) (v % 8) cv) 15 0 = some 16 from (by first | exact hE.2.2.2.2.2.2.2.2.1 | simp [rv_sr, rv_si, rv_nw, hE.2.2.2.2.2.2.2.2.1])]) ?_
  refine x_iload_n (q := 29) dX3_readCell_28 rfl rfl ?_
  refine x_iaload (q := 30) dX3_readCell_29 rfl (Or.inl hE.2.2.2.2.2.2.2.2.2.1) (by omega) (by rw [show ln (si (si G a 6 (bor m (bit (v % 8)))) (a + 1) (v % 8) cv) 16 = 8 from hE.2.2.2.2.2.2.2.2.2.2.1]; omega) ?_
  refine Ex.stk (st' := [.inl cv]) (by rw [show iv (si (si G a 6 (bor m (bit (v % 8)))) (a + 1) (v % 8) cv) 16 (v % 8) = cv from (by rw [iv_si, if_neg (by omega), iv_si, if_neg (by omega)]; exact hcv)]) ?_
  refine x_iret dX3_readCell_30 rfl ?_
  exact ⟨rfl, rfl⟩
theorem c_ts0 (d : Nat) {G : Hp} {mk sk pa : Nat} (hE : ENs mk sk pa G) {tp : Int} (h3 : iv G mk 3 = tp) {a : Nat} (hc : CO G a) {n p vl : Int} (hn : iv G pa 3 = n) (n1 : n ≤ 320) (p0 : 0 ≤ p) (p1 : p < n) (hvl : iv G (pa + 2) p = vl) (t0 : 0 ≤ tp) (t1 : tp < 960) : CX (d + 2) 34 [.inr (.inr (some mk)), .inr (.inr (some a)), .inl 0, .inl p] G (fun r G1 => r = some (.inl (p + 1)) ∧ G1 = si (si G sk tp vl) mk 3 (tp + 1)) := by
  refine CX.of (d := d + 1) m_X3_takeStep (Nat.le_of_ble_eq_true rfl) ?_
  refine Ex.lcl (ls' := [some (.inr (.inr (some mk))), some (.inr (.inr (some a))), some (.inl 0), some (.inl p), none]) rfl ?_
  refine x_aload_n (q := 1) dX3_takeStep_0 rfl rfl ?_
  refine x_getR (q := 4) dX3_takeStep_1 rfl f_3_23 rfl hE.1 ?_
  refine Ex.stk (st' := [.inr (.inr (some pa))]) (by rw [show rv G mk 4 = some pa from (by first | exact hE.2.2.2.2.1 | simp [rv_sr, rv_si, rv_nw, hE.2.2.2.2.1])]) ?_
  refine x_iload_n (q := 5) dX3_takeStep_4 rfl rfl ?_
  refine x_invV (q := 8) (as := [.inr (.inr (some pa)), .inl p]) (rest := []) dX3_takeStep_5 rfl l_3_144 m_X5_valueAt rfl rfl hE.2.2.2.2.2.2.2.2.2.2.2.2.1.1 (Nat.le_of_ble_eq_true rfl) (c_valueAt _ (G := G) hE.2.2.2.2.2.2.2.2.2.2.2.2.1 hn n1 p0 p1) (fun r1 G1 hR => ?_)
  obtain ⟨hG1, rfl⟩ := hR
  replace hG1 := hG1.symm
  subst hG1
  refine Ex.stk (st' := [.inl vl]) (by rw [hvl]; rfl) ?_
  refine x_istore (q := 10) (ls' := [some (.inr (.inr (some mk))), some (.inr (.inr (some a))), some (.inl 0), some (.inl p), some (.inl vl)]) dX3_takeStep_8 rfl (Nat.le_of_ble_eq_true rfl) (by first | rfl | exact hnl | exact hnl2 _) rfl ?_
  refine x_iload_n (q := 11) dX3_takeStep_10 rfl rfl ?_
  refine x_tableIn (t := 68) (off := 57) dX3_takeStep_11 (by decide) (by decide) rfl (by decide) ?_
  refine x_aload_n (q := 69) dX3_takeStep_68 rfl rfl ?_
  refine x_iload (q := 71) dX3_takeStep_69 rfl rfl ?_
  refine x_invV (q := 74) (as := [.inr (.inr (some mk)), .inl vl]) (rest := []) dX3_takeStep_71 rfl l_3_147 m_X3_push rfl rfl hE.1 (Nat.le_of_ble_eq_true rfl) (c_pushC _ (G := G) (hE.1) (hE.2.2.2.1) hE.2.2.2.2.2.1 hE.2.2.2.2.2.2.1 (tp := tp) h3 (ENs_ne hE) (by omega) (by omega)) (fun r1 G1 hR => ?_)
  obtain ⟨rfl, rfl⟩ := hR
  refine Ex.stk (st' := []) rfl ?_
  refine x_goto (t := 146) dX3_takeStep_74 (by decide) ?_
  refine x_iload_n (q := 147) dX3_takeStep_146 rfl rfl ?_
  refine x_iconst (q := 148) dX3_takeStep_147 rfl (by decide) ?_
  refine x_iadd (q := 149) (z := p + 1) dX3_takeStep_148 rfl (wr_id ⟨by omega, by omega⟩) ?_
  refine x_iret dX3_takeStep_149 rfl ?_
  exact ⟨rfl, rfl⟩
theorem c_ts1 (d : Nat) {G : Hp} {mk sk pa : Nat} (hE : ENs mk sk pa G) {tp : Int} (h3 : iv G mk 3 = tp) {a : Nat} (hc : CO G a) {n p vl : Int} (hn : iv G pa 3 = n) (n1 : n ≤ 320) (p0 : 0 ≤ p) (p1 : p < n) (hvl : iv G (pa + 2) p = vl) (t0 : 0 ≤ tp) (t1 : tp < 960) {x : Int} (hx : iv G a 1 = x) : CX (d + 2) 34 [.inr (.inr (some mk)), .inr (.inr (some a)), .inl 1, .inl p] G (fun r G1 => r = some (.inl (p + 1)) ∧ G1 = si (si G sk tp x) mk 3 (tp + 1)) := by
  refine CX.of (d := d + 1) m_X3_takeStep (Nat.le_of_ble_eq_true rfl) ?_
  refine Ex.lcl (ls' := [some (.inr (.inr (some mk))), some (.inr (.inr (some a))), some (.inl 1), some (.inl p), none]) rfl ?_
  refine x_aload_n (q := 1) dX3_takeStep_0 rfl rfl ?_
  refine x_getR (q := 4) dX3_takeStep_1 rfl f_3_23 rfl hE.1 ?_
  refine Ex.stk (st' := [.inr (.inr (some pa))]) (by rw [show rv G mk 4 = some pa from (by first | exact hE.2.2.2.2.1 | simp [rv_sr, rv_si, rv_nw, hE.2.2.2.2.1])]) ?_
  refine x_iload_n (q := 5) dX3_takeStep_4 rfl rfl ?_
  refine x_invV (q := 8) (as := [.inr (.inr (some pa)), .inl p]) (rest := []) dX3_takeStep_5 rfl l_3_144 m_X5_valueAt rfl rfl hE.2.2.2.2.2.2.2.2.2.2.2.2.1.1 (Nat.le_of_ble_eq_true rfl) (c_valueAt _ (G := G) hE.2.2.2.2.2.2.2.2.2.2.2.2.1 hn n1 p0 p1) (fun r1 G1 hR => ?_)
  obtain ⟨hG1, rfl⟩ := hR
  replace hG1 := hG1.symm
  subst hG1
  refine Ex.stk (st' := [.inl vl]) (by rw [hvl]; rfl) ?_
  refine x_istore (q := 10) (ls' := [some (.inr (.inr (some mk))), some (.inr (.inr (some a))), some (.inl 1), some (.inl p), some (.inl vl)]) dX3_takeStep_8 rfl (Nat.le_of_ble_eq_true rfl) (by first | rfl | exact hnl | exact hnl2 _) rfl ?_
  refine x_iload_n (q := 11) dX3_takeStep_10 rfl rfl ?_
  refine x_tableIn (t := 77) (off := 66) dX3_takeStep_11 (by decide) (by decide) rfl (by decide) ?_
  refine x_aload_n (q := 78) dX3_takeStep_77 rfl rfl ?_
  refine x_aload_n (q := 79) dX3_takeStep_78 rfl rfl ?_
  refine x_getI (q := 82) dX3_takeStep_79 rfl f_3_151 rfl hc.1 ?_
  refine Ex.stk (st' := [.inl x, .inr (.inr (some mk))]) (by rw [show iv G a 1 = x from hx]) ?_
  refine x_invV (q := 85) (as := [.inr (.inr (some mk)), .inl x]) (rest := []) dX3_takeStep_82 rfl l_3_147 m_X3_push rfl rfl hE.1 (Nat.le_of_ble_eq_true rfl) (c_pushC _ (G := G) (hE.1) (hE.2.2.2.1) hE.2.2.2.2.2.1 hE.2.2.2.2.2.2.1 (tp := tp) h3 (ENs_ne hE) (by omega) (by omega)) (fun r1 G1 hR => ?_)
  obtain ⟨rfl, rfl⟩ := hR
  refine Ex.stk (st' := []) rfl ?_
  refine x_goto (t := 146) dX3_takeStep_85 (by decide) ?_
  refine x_iload_n (q := 147) dX3_takeStep_146 rfl rfl ?_
  refine x_iconst (q := 148) dX3_takeStep_147 rfl (by decide) ?_
  refine x_iadd (q := 149) (z := p + 1) dX3_takeStep_148 rfl (wr_id ⟨by omega, by omega⟩) ?_
  refine x_iret dX3_takeStep_149 rfl ?_
  exact ⟨rfl, rfl⟩
theorem c_ts2 (d : Nat) {G : Hp} {mk sk pa : Nat} (hE : ENs mk sk pa G) {tp : Int} (h3 : iv G mk 3 = tp) {a : Nat} (hc : CO G a) {n p vl : Int} (hn : iv G pa 3 = n) (n1 : n ≤ 320) (p0 : 0 ≤ p) (p1 : p < n) (hvl : iv G (pa + 2) p = vl) (t0 : 1 ≤ tp) (t1 : tp ≤ 960) (a33 : 33 ≤ a) {v m cv : Int} (hm : iv G a 6 = m) (hv : iv G sk (tp - 1) = v) (v0 : 0 ≤ v) (v1 : v ≤ 996) (hcv : iv G 16 (v % 8) = cv) : CX (d + 3) 34 [.inr (.inr (some mk)), .inr (.inr (some a)), .inl 2, .inl p] G (fun r G1 => r = some (.inl (p + 1)) ∧ G1 = si (si (si (si (si G mk 3 (tp - 1)) a 6 (bor m (bit (v % 8)))) (a + 1) (v % 8) cv) sk (tp - 1) cv) mk 3 (tp - 1 + 1)) := by
  refine CX.of (d := d + 2) m_X3_takeStep (Nat.le_of_ble_eq_true rfl) ?_
  refine Ex.lcl (ls' := [some (.inr (.inr (some mk))), some (.inr (.inr (some a))), some (.inl 2), some (.inl p), none]) rfl ?_
  refine x_aload_n (q := 1) dX3_takeStep_0 rfl rfl ?_
  refine x_getR (q := 4) dX3_takeStep_1 rfl f_3_23 rfl hE.1 ?_
  refine Ex.stk (st' := [.inr (.inr (some pa))]) (by rw [show rv G mk 4 = some pa from (by first | exact hE.2.2.2.2.1 | simp [rv_sr, rv_si, rv_nw, hE.2.2.2.2.1])]) ?_
  refine x_iload_n (q := 5) dX3_takeStep_4 rfl rfl ?_
  refine x_invV (q := 8) (as := [.inr (.inr (some pa)), .inl p]) (rest := []) dX3_takeStep_5 rfl l_3_144 m_X5_valueAt rfl rfl hE.2.2.2.2.2.2.2.2.2.2.2.2.1.1 (Nat.le_of_ble_eq_true rfl) (c_valueAt _ (G := G) hE.2.2.2.2.2.2.2.2.2.2.2.2.1 hn n1 p0 p1) (fun r1 G1 hR => ?_)
  obtain ⟨hG1, rfl⟩ := hR
  replace hG1 := hG1.symm
  subst hG1
  refine Ex.stk (st' := [.inl vl]) (by rw [hvl]; rfl) ?_
  refine x_istore (q := 10) (ls' := [some (.inr (.inr (some mk))), some (.inr (.inr (some a))), some (.inl 2), some (.inl p), some (.inl vl)]) dX3_takeStep_8 rfl (Nat.le_of_ble_eq_true rfl) (by first | rfl | exact hnl | exact hnl2 _) rfl ?_
  refine x_iload_n (q := 11) dX3_takeStep_10 rfl rfl ?_
  refine x_tableIn (t := 88) (off := 77) dX3_takeStep_11 (by decide) (by decide) rfl (by decide) ?_
  refine x_aload_n (q := 89) dX3_takeStep_88 rfl rfl ?_
  refine x_aload_n (q := 90) dX3_takeStep_89 rfl rfl ?_
  refine x_aload_n (q := 91) dX3_takeStep_90 rfl rfl ?_
  refine x_aload_n (q := 92) dX3_takeStep_91 rfl rfl ?_
  refine x_invV (q := 95) (as := [.inr (.inr (some mk))]) (rest := [.inr (.inr (some a)), .inr (.inr (some mk)), .inr (.inr (some mk))]) dX3_takeStep_92 rfl l_3_133 m_X3_pop rfl rfl hE.1 (Nat.le_of_ble_eq_true rfl) (c_popC _ (G := G) (hE.1) (hE.2.2.2.1) hE.2.2.2.2.2.1 hE.2.2.2.2.2.2.1 (tp := tp) h3 (ENs_ne hE) (by omega) (by omega)) (fun r1 G1 hR => ?_)
  obtain ⟨rfl, rfl⟩ := hR
  refine Ex.stk (st' := [.inl v, .inr (.inr (some a)), .inr (.inr (some mk)), .inr (.inr (some mk))]) (by rw [show iv G sk (tp - 1) = v from hv]; rfl) ?_
  refine x_invV (q := 98) (as := [.inr (.inr (some mk)), .inr (.inr (some a)), .inl v]) (rest := [.inr (.inr (some mk))]) dX3_takeStep_95 rfl l_3_154 m_X3_readCell rfl rfl hE.1 (Nat.le_of_ble_eq_true rfl) (c_readCell _ (G := si G mk 3 (tp - 1)) hE hc a33 (m := m) (cv := cv) (by rw [iv_si, if_neg (by have := hE.2.2.2.2.2.2.2.2.2.2.2.2.2.1; omega)]; exact hm) v0 v1 (by rw [iv_si, if_neg (by have := hE.2.2.2.2.2.2.2.2.2.2.2.2.2.1; omega)]; exact hcv)) (fun r1 G1 hR => ?_)
  obtain ⟨rfl, rfl⟩ := hR
  refine Ex.stk (st' := [.inl cv, .inr (.inr (some mk))]) rfl ?_
  refine x_invV (q := 101) (as := [.inr (.inr (some mk)), .inl cv]) (rest := []) dX3_takeStep_98 rfl l_3_147 m_X3_push rfl rfl hE.1 (Nat.le_of_ble_eq_true rfl) (c_pushC _ (G := si (si (si G mk 3 (tp - 1)) a 6 (bor m (bit (v % 8)))) (a + 1) (v % 8) cv) (hE.1) (hE.2.2.2.1) hE.2.2.2.2.2.1 hE.2.2.2.2.2.2.1 (tp := tp - 1) (by have hq := hE.2.2.2.2.2.2.2.2.2.2.2.2.2.1; rw [iv_si, if_neg (by omega), iv_si, if_neg (by omega), iv_si, if_pos ⟨rfl, rfl⟩]) (ENs_ne hE) (by omega) (by omega)) (fun r1 G1 hR => ?_)
  obtain ⟨rfl, rfl⟩ := hR
  refine Ex.stk (st' := []) rfl ?_
  refine x_goto (t := 146) dX3_takeStep_101 (by decide) ?_
  refine x_iload_n (q := 147) dX3_takeStep_146 rfl rfl ?_
  refine x_iconst (q := 148) dX3_takeStep_147 rfl (by decide) ?_
  refine x_iadd (q := 149) (z := p + 1) dX3_takeStep_148 rfl (wr_id ⟨by omega, by omega⟩) ?_
  refine x_iret dX3_takeStep_149 rfl ?_
  exact ⟨rfl, rfl⟩
theorem c_ts3 (d : Nat) {G : Hp} {mk sk pa : Nat} (hE : ENs mk sk pa G) {tp : Int} (h3 : iv G mk 3 = tp) {a : Nat} (hc : CO G a) {n p vl : Int} (hn : iv G pa 3 = n) (n1 : n ≤ 320) (p0 : 0 ≤ p) (p1 : p < n) (hvl : iv G (pa + 2) p = vl) (t0 : 1 ≤ tp) (t1 : tp ≤ 960) {v u : Int} (hv : iv G sk (tp - 1) = v) {R : Hp → Prop} (hJE : ∀ G1, R G1 → ENs mk sk pa G1) (hJ3 : ∀ G1, R G1 → iv G1 mk 3 = tp - 1) (hC : CX (d + 1) 37 [.inr (.inr (some mk)), .inr (.inr (some a)), .inl vl, .inl v] (si G mk 3 (tp - 1)) (fun r G1 => r = some (.inl u) ∧ R G1)) : CX (d + 2) 34 [.inr (.inr (some mk)), .inr (.inr (some a)), .inl 3, .inl p] G (fun r G1 => r = some (.inl (p + 1)) ∧ ∃ G2, R G2 ∧ G1 = si (si G2 sk (tp - 1) u) mk 3 (tp - 1 + 1)) := by
  refine CX.of (d := d + 1) m_X3_takeStep (Nat.le_of_ble_eq_true rfl) ?_
  refine Ex.lcl (ls' := [some (.inr (.inr (some mk))), some (.inr (.inr (some a))), some (.inl 3), some (.inl p), none]) rfl ?_
  refine x_aload_n (q := 1) dX3_takeStep_0 rfl rfl ?_
  refine x_getR (q := 4) dX3_takeStep_1 rfl f_3_23 rfl hE.1 ?_
  refine Ex.stk (st' := [.inr (.inr (some pa))]) (by rw [show rv G mk 4 = some pa from (by first | exact hE.2.2.2.2.1 | simp [rv_sr, rv_si, rv_nw, hE.2.2.2.2.1])]) ?_
  refine x_iload_n (q := 5) dX3_takeStep_4 rfl rfl ?_
  refine x_invV (q := 8) (as := [.inr (.inr (some pa)), .inl p]) (rest := []) dX3_takeStep_5 rfl l_3_144 m_X5_valueAt rfl rfl hE.2.2.2.2.2.2.2.2.2.2.2.2.1.1 (Nat.le_of_ble_eq_true rfl) (c_valueAt _ (G := G) hE.2.2.2.2.2.2.2.2.2.2.2.2.1 hn n1 p0 p1) (fun r1 G1 hR => ?_)
  obtain ⟨hG1, rfl⟩ := hR
  replace hG1 := hG1.symm
  subst hG1
  refine Ex.stk (st' := [.inl vl]) (by rw [hvl]; rfl) ?_
  refine x_istore (q := 10) (ls' := [some (.inr (.inr (some mk))), some (.inr (.inr (some a))), some (.inl 3), some (.inl p), some (.inl vl)]) dX3_takeStep_8 rfl (Nat.le_of_ble_eq_true rfl) (by first | rfl | exact hnl | exact hnl2 _) rfl ?_
  refine x_iload_n (q := 11) dX3_takeStep_10 rfl rfl ?_
  refine x_tableIn (t := 104) (off := 93) dX3_takeStep_11 (by decide) (by decide) rfl (by decide) ?_
  refine x_aload_n (q := 105) dX3_takeStep_104 rfl rfl ?_
  refine x_aload_n (q := 106) dX3_takeStep_105 rfl rfl ?_
  refine x_aload_n (q := 107) dX3_takeStep_106 rfl rfl ?_
  refine x_iload (q := 109) dX3_takeStep_107 rfl rfl ?_
  refine x_aload_n (q := 110) dX3_takeStep_109 rfl rfl ?_
  refine x_invV (q := 113) (as := [.inr (.inr (some mk))]) (rest := [.inl vl, .inr (.inr (some a)), .inr (.inr (some mk)), .inr (.inr (some mk))]) dX3_takeStep_110 rfl l_3_133 m_X3_pop rfl rfl hE.1 (Nat.le_of_ble_eq_true rfl) (c_popC _ (G := G) (hE.1) (hE.2.2.2.1) hE.2.2.2.2.2.1 hE.2.2.2.2.2.2.1 (tp := tp) h3 (ENs_ne hE) (by omega) (by omega)) (fun r1 G1 hR => ?_)
  obtain ⟨rfl, rfl⟩ := hR
  refine Ex.stk (st' := [.inl v, .inl vl, .inr (.inr (some a)), .inr (.inr (some mk)), .inr (.inr (some mk))]) (by rw [show iv G sk (tp - 1) = v from hv]; rfl) ?_
  refine x_invV (q := 116) (as := [.inr (.inr (some mk)), .inr (.inr (some a)), .inl vl, .inl v]) (rest := [.inr (.inr (some mk))]) dX3_takeStep_113 rfl l_3_158 m_X3_whatPartTells rfl rfl hE.1 (Nat.le_of_ble_eq_true rfl) hC (fun r1 G1 hR => ?_)
  obtain ⟨rfl, hR⟩ := hR
  have hE := hJE _ hR
  have h3 := hJ3 _ hR
  refine Ex.stk (st' := [.inl u, .inr (.inr (some mk))]) rfl ?_
  refine x_invV (q := 119) (as := [.inr (.inr (some mk)), .inl u]) (rest := []) dX3_takeStep_116 rfl l_3_147 m_X3_push rfl rfl hE.1 (Nat.le_of_ble_eq_true rfl) (c_pushC _ (G := G1) (hE.1) (hE.2.2.2.1) hE.2.2.2.2.2.1 hE.2.2.2.2.2.2.1 (tp := tp - 1) h3 (ENs_ne hE) (by omega) (by omega)) (fun r1 G1 hR => ?_)
  obtain ⟨rfl, rfl⟩ := hR
  refine Ex.stk (st' := []) rfl ?_
  refine x_goto (t := 146) dX3_takeStep_119 (by decide) ?_
  refine x_iload_n (q := 147) dX3_takeStep_146 rfl rfl ?_
  refine x_iconst (q := 148) dX3_takeStep_147 rfl (by decide) ?_
  refine x_iadd (q := 149) (z := p + 1) dX3_takeStep_148 rfl (wr_id ⟨by omega, by omega⟩) ?_
  refine x_iret dX3_takeStep_149 rfl ?_
  exact ⟨rfl, G1, hR, rfl⟩
theorem c_ts4 (d : Nat) {G : Hp} {mk sk pa : Nat} (hE : ENs mk sk pa G) {tp : Int} (h3 : iv G mk 3 = tp) {a : Nat} (hc : CO G a) {n p vl : Int} (hn : iv G pa 3 = n) (n1 : n ≤ 320) (p0 : 0 ≤ p) (p1 : p < n) (hvl : iv G (pa + 2) p = vl) (t0 : 2 ≤ tp) (t1 : tp ≤ 960) {x y : Int} (hx : 0 ≤ x ∧ x ≤ 996) (hy : 0 ≤ y ∧ y ≤ 996) (hvx : iv G sk (tp - 1 - 1) = x) (hvy : iv G sk (tp - 1) = y) : CX (d + 3) 34 [.inr (.inr (some mk)), .inr (.inr (some a)), .inl 4, .inl p] G (fun r G1 => r = some (.inl (p + 1)) ∧ G1 = si (si (si (si G mk 3 (tp - 1)) mk 3 (tp - 1 - 1)) sk (tp - 1 - 1) (opv 43 x y)) mk 3 (tp - 1 - 1 + 1)) := by
  refine CX.of (d := d + 2) m_X3_takeStep (Nat.le_of_ble_eq_true rfl) ?_
  refine Ex.lcl (ls' := [some (.inr (.inr (some mk))), some (.inr (.inr (some a))), some (.inl 4), some (.inl p), none]) rfl ?_
  refine x_aload_n (q := 1) dX3_takeStep_0 rfl rfl ?_
  refine x_getR (q := 4) dX3_takeStep_1 rfl f_3_23 rfl hE.1 ?_
  refine Ex.stk (st' := [.inr (.inr (some pa))]) (by rw [show rv G mk 4 = some pa from (by first | exact hE.2.2.2.2.1 | simp [rv_sr, rv_si, rv_nw, hE.2.2.2.2.1])]) ?_
  refine x_iload_n (q := 5) dX3_takeStep_4 rfl rfl ?_
  refine x_invV (q := 8) (as := [.inr (.inr (some pa)), .inl p]) (rest := []) dX3_takeStep_5 rfl l_3_144 m_X5_valueAt rfl rfl hE.2.2.2.2.2.2.2.2.2.2.2.2.1.1 (Nat.le_of_ble_eq_true rfl) (c_valueAt _ (G := G) hE.2.2.2.2.2.2.2.2.2.2.2.2.1 hn n1 p0 p1) (fun r1 G1 hR => ?_)
  obtain ⟨hG1, rfl⟩ := hR
  replace hG1 := hG1.symm
  subst hG1
  refine Ex.stk (st' := [.inl vl]) (by rw [hvl]; rfl) ?_
  refine x_istore (q := 10) (ls' := [some (.inr (.inr (some mk))), some (.inr (.inr (some a))), some (.inl 4), some (.inl p), some (.inl vl)]) dX3_takeStep_8 rfl (Nat.le_of_ble_eq_true rfl) (by first | rfl | exact hnl | exact hnl2 _) rfl ?_
  refine x_iload_n (q := 11) dX3_takeStep_10 rfl rfl ?_
  refine x_tableIn (t := 141) (off := 130) dX3_takeStep_11 (by decide) (by decide) rfl (by decide) ?_
  refine x_aload_n (q := 142) dX3_takeStep_141 rfl rfl ?_
  refine x_iload_n (q := 143) dX3_takeStep_142 rfl rfl ?_
  refine x_invV (q := 146) (as := [.inr (.inr (some mk)), .inl 4]) (rest := []) dX3_takeStep_143 rfl l_3_161 m_X3_joinTwo rfl rfl hE.1 (Nat.le_of_ble_eq_true rfl) (c_join4 _ hE h3 t0 t1 hx hy hvx hvy) (fun r1 G1 hR => ?_)
  obtain ⟨rfl, rfl⟩ := hR
  refine Ex.stk (st' := []) rfl ?_
  refine x_iload_n (q := 147) dX3_takeStep_146 rfl rfl ?_
  refine x_iconst (q := 148) dX3_takeStep_147 rfl (by decide) ?_
  refine x_iadd (q := 149) (z := p + 1) dX3_takeStep_148 rfl (wr_id ⟨by omega, by omega⟩) ?_
  refine x_iret dX3_takeStep_149 rfl ?_
  exact ⟨rfl, rfl⟩
theorem c_ts5 (d : Nat) {G : Hp} {mk sk pa : Nat} (hE : ENs mk sk pa G) {tp : Int} (h3 : iv G mk 3 = tp) {a : Nat} (hc : CO G a) {n p vl : Int} (hn : iv G pa 3 = n) (n1 : n ≤ 320) (p0 : 0 ≤ p) (p1 : p < n) (hvl : iv G (pa + 2) p = vl) (t0 : 2 ≤ tp) (t1 : tp ≤ 960) {x y : Int} (hx : 0 ≤ x ∧ x ≤ 996) (hy : 0 ≤ y ∧ y ≤ 996) (hvx : iv G sk (tp - 1 - 1) = x) (hvy : iv G sk (tp - 1) = y) : CX (d + 3) 34 [.inr (.inr (some mk)), .inr (.inr (some a)), .inl 5, .inl p] G (fun r G1 => r = some (.inl (p + 1)) ∧ G1 = si (si (si (si G mk 3 (tp - 1)) mk 3 (tp - 1 - 1)) sk (tp - 1 - 1) (opv 45 x y)) mk 3 (tp - 1 - 1 + 1)) := by
  refine CX.of (d := d + 2) m_X3_takeStep (Nat.le_of_ble_eq_true rfl) ?_
  refine Ex.lcl (ls' := [some (.inr (.inr (some mk))), some (.inr (.inr (some a))), some (.inl 5), some (.inl p), none]) rfl ?_
  refine x_aload_n (q := 1) dX3_takeStep_0 rfl rfl ?_
  refine x_getR (q := 4) dX3_takeStep_1 rfl f_3_23 rfl hE.1 ?_
  refine Ex.stk (st' := [.inr (.inr (some pa))]) (by rw [show rv G mk 4 = some pa from (by first | exact hE.2.2.2.2.1 | simp [rv_sr, rv_si, rv_nw, hE.2.2.2.2.1])]) ?_
  refine x_iload_n (q := 5) dX3_takeStep_4 rfl rfl ?_
  refine x_invV (q := 8) (as := [.inr (.inr (some pa)), .inl p]) (rest := []) dX3_takeStep_5 rfl l_3_144 m_X5_valueAt rfl rfl hE.2.2.2.2.2.2.2.2.2.2.2.2.1.1 (Nat.le_of_ble_eq_true rfl) (c_valueAt _ (G := G) hE.2.2.2.2.2.2.2.2.2.2.2.2.1 hn n1 p0 p1) (fun r1 G1 hR => ?_)
  obtain ⟨hG1, rfl⟩ := hR
  replace hG1 := hG1.symm
  subst hG1
  refine Ex.stk (st' := [.inl vl]) (by rw [hvl]; rfl) ?_
  refine x_istore (q := 10) (ls' := [some (.inr (.inr (some mk))), some (.inr (.inr (some a))), some (.inl 5), some (.inl p), some (.inl vl)]) dX3_takeStep_8 rfl (Nat.le_of_ble_eq_true rfl) (by first | rfl | exact hnl | exact hnl2 _) rfl ?_
  refine x_iload_n (q := 11) dX3_takeStep_10 rfl rfl ?_
  refine x_tableIn (t := 141) (off := 130) dX3_takeStep_11 (by decide) (by decide) rfl (by decide) ?_
  refine x_aload_n (q := 142) dX3_takeStep_141 rfl rfl ?_
  refine x_iload_n (q := 143) dX3_takeStep_142 rfl rfl ?_
  refine x_invV (q := 146) (as := [.inr (.inr (some mk)), .inl 5]) (rest := []) dX3_takeStep_143 rfl l_3_161 m_X3_joinTwo rfl rfl hE.1 (Nat.le_of_ble_eq_true rfl) (c_join5 _ hE h3 t0 t1 hx hy hvx hvy) (fun r1 G1 hR => ?_)
  obtain ⟨rfl, rfl⟩ := hR
  refine Ex.stk (st' := []) rfl ?_
  refine x_iload_n (q := 147) dX3_takeStep_146 rfl rfl ?_
  refine x_iconst (q := 148) dX3_takeStep_147 rfl (by decide) ?_
  refine x_iadd (q := 149) (z := p + 1) dX3_takeStep_148 rfl (wr_id ⟨by omega, by omega⟩) ?_
  refine x_iret dX3_takeStep_149 rfl ?_
  exact ⟨rfl, rfl⟩
theorem c_ts6 (d : Nat) {G : Hp} {mk sk pa : Nat} (hE : ENs mk sk pa G) {tp : Int} (h3 : iv G mk 3 = tp) {a : Nat} (hc : CO G a) {n p vl : Int} (hn : iv G pa 3 = n) (n1 : n ≤ 320) (p0 : 0 ≤ p) (p1 : p < n) (hvl : iv G (pa + 2) p = vl) (t0 : 2 ≤ tp) (t1 : tp ≤ 960) {x y : Int} (hx : 0 ≤ x ∧ x ≤ 996) (hy : 0 ≤ y ∧ y ≤ 996) (hvx : iv G sk (tp - 1 - 1) = x) (hvy : iv G sk (tp - 1) = y) : CX (d + 3) 34 [.inr (.inr (some mk)), .inr (.inr (some a)), .inl 6, .inl p] G (fun r G1 => r = some (.inl (p + 1)) ∧ G1 = si (si (si (si G mk 3 (tp - 1)) mk 3 (tp - 1 - 1)) sk (tp - 1 - 1) (opv 42 x y)) mk 3 (tp - 1 - 1 + 1)) := by
  refine CX.of (d := d + 2) m_X3_takeStep (Nat.le_of_ble_eq_true rfl) ?_
  refine Ex.lcl (ls' := [some (.inr (.inr (some mk))), some (.inr (.inr (some a))), some (.inl 6), some (.inl p), none]) rfl ?_
  refine x_aload_n (q := 1) dX3_takeStep_0 rfl rfl ?_
  refine x_getR (q := 4) dX3_takeStep_1 rfl f_3_23 rfl hE.1 ?_
  refine Ex.stk (st' := [.inr (.inr (some pa))]) (by rw [show rv G mk 4 = some pa from (by first | exact hE.2.2.2.2.1 | simp [rv_sr, rv_si, rv_nw, hE.2.2.2.2.1])]) ?_
  refine x_iload_n (q := 5) dX3_takeStep_4 rfl rfl ?_
  refine x_invV (q := 8) (as := [.inr (.inr (some pa)), .inl p]) (rest := []) dX3_takeStep_5 rfl l_3_144 m_X5_valueAt rfl rfl hE.2.2.2.2.2.2.2.2.2.2.2.2.1.1 (Nat.le_of_ble_eq_true rfl) (c_valueAt _ (G := G) hE.2.2.2.2.2.2.2.2.2.2.2.2.1 hn n1 p0 p1) (fun r1 G1 hR => ?_)
  obtain ⟨hG1, rfl⟩ := hR
  replace hG1 := hG1.symm
  subst hG1
  refine Ex.stk (st' := [.inl vl]) (by rw [hvl]; rfl) ?_
  refine x_istore (q := 10) (ls' := [some (.inr (.inr (some mk))), some (.inr (.inr (some a))), some (.inl 6), some (.inl p), some (.inl vl)]) dX3_takeStep_8 rfl (Nat.le_of_ble_eq_true rfl) (by first | rfl | exact hnl | exact hnl2 _) rfl ?_
  refine x_iload_n (q := 11) dX3_takeStep_10 rfl rfl ?_
  refine x_tableIn (t := 141) (off := 130) dX3_takeStep_11 (by decide) (by decide) rfl (by decide) ?_
  refine x_aload_n (q := 142) dX3_takeStep_141 rfl rfl ?_
  refine x_iload_n (q := 143) dX3_takeStep_142 rfl rfl ?_
  refine x_invV (q := 146) (as := [.inr (.inr (some mk)), .inl 6]) (rest := []) dX3_takeStep_143 rfl l_3_161 m_X3_joinTwo rfl rfl hE.1 (Nat.le_of_ble_eq_true rfl) (c_join6 _ hE h3 t0 t1 hx hy hvx hvy) (fun r1 G1 hR => ?_)
  obtain ⟨rfl, rfl⟩ := hR
  refine Ex.stk (st' := []) rfl ?_
  refine x_iload_n (q := 147) dX3_takeStep_146 rfl rfl ?_
  refine x_iconst (q := 148) dX3_takeStep_147 rfl (by decide) ?_
  refine x_iadd (q := 149) (z := p + 1) dX3_takeStep_148 rfl (wr_id ⟨by omega, by omega⟩) ?_
  refine x_iret dX3_takeStep_149 rfl ?_
  exact ⟨rfl, rfl⟩
theorem c_ts7 (d : Nat) {G : Hp} {mk sk pa : Nat} (hE : ENs mk sk pa G) {tp : Int} (h3 : iv G mk 3 = tp) {a : Nat} (hc : CO G a) {n p vl : Int} (hn : iv G pa 3 = n) (n1 : n ≤ 320) (p0 : 0 ≤ p) (p1 : p < n) (hvl : iv G (pa + 2) p = vl) (t0 : 2 ≤ tp) (t1 : tp ≤ 960) {x y : Int} (hx : 0 ≤ x ∧ x ≤ 996) (hy : 0 ≤ y ∧ y ≤ 996) (hvx : iv G sk (tp - 1 - 1) = x) (hvy : iv G sk (tp - 1) = y) : CX (d + 3) 34 [.inr (.inr (some mk)), .inr (.inr (some a)), .inl 7, .inl p] G (fun r G1 => r = some (.inl (p + 1)) ∧ G1 = si (si (si (si G mk 3 (tp - 1)) mk 3 (tp - 1 - 1)) sk (tp - 1 - 1) (opv 60 x y)) mk 3 (tp - 1 - 1 + 1)) := by
  refine CX.of (d := d + 2) m_X3_takeStep (Nat.le_of_ble_eq_true rfl) ?_
  refine Ex.lcl (ls' := [some (.inr (.inr (some mk))), some (.inr (.inr (some a))), some (.inl 7), some (.inl p), none]) rfl ?_
  refine x_aload_n (q := 1) dX3_takeStep_0 rfl rfl ?_
  refine x_getR (q := 4) dX3_takeStep_1 rfl f_3_23 rfl hE.1 ?_
  refine Ex.stk (st' := [.inr (.inr (some pa))]) (by rw [show rv G mk 4 = some pa from (by first | exact hE.2.2.2.2.1 | simp [rv_sr, rv_si, rv_nw, hE.2.2.2.2.1])]) ?_
  refine x_iload_n (q := 5) dX3_takeStep_4 rfl rfl ?_
  refine x_invV (q := 8) (as := [.inr (.inr (some pa)), .inl p]) (rest := []) dX3_takeStep_5 rfl l_3_144 m_X5_valueAt rfl rfl hE.2.2.2.2.2.2.2.2.2.2.2.2.1.1 (Nat.le_of_ble_eq_true rfl) (c_valueAt _ (G := G) hE.2.2.2.2.2.2.2.2.2.2.2.2.1 hn n1 p0 p1) (fun r1 G1 hR => ?_)
  obtain ⟨hG1, rfl⟩ := hR
  replace hG1 := hG1.symm
  subst hG1
  refine Ex.stk (st' := [.inl vl]) (by rw [hvl]; rfl) ?_
  refine x_istore (q := 10) (ls' := [some (.inr (.inr (some mk))), some (.inr (.inr (some a))), some (.inl 7), some (.inl p), some (.inl vl)]) dX3_takeStep_8 rfl (Nat.le_of_ble_eq_true rfl) (by first | rfl | exact hnl | exact hnl2 _) rfl ?_
  refine x_iload_n (q := 11) dX3_takeStep_10 rfl rfl ?_
  refine x_tableIn (t := 141) (off := 130) dX3_takeStep_11 (by decide) (by decide) rfl (by decide) ?_
  refine x_aload_n (q := 142) dX3_takeStep_141 rfl rfl ?_
  refine x_iload_n (q := 143) dX3_takeStep_142 rfl rfl ?_
  refine x_invV (q := 146) (as := [.inr (.inr (some mk)), .inl 7]) (rest := []) dX3_takeStep_143 rfl l_3_161 m_X3_joinTwo rfl rfl hE.1 (Nat.le_of_ble_eq_true rfl) (c_join7 _ hE h3 t0 t1 hx hy hvx hvy) (fun r1 G1 hR => ?_)
  obtain ⟨rfl, rfl⟩ := hR
  refine Ex.stk (st' := []) rfl ?_
  refine x_iload_n (q := 147) dX3_takeStep_146 rfl rfl ?_
  refine x_iconst (q := 148) dX3_takeStep_147 rfl (by decide) ?_
  refine x_iadd (q := 149) (z := p + 1) dX3_takeStep_148 rfl (wr_id ⟨by omega, by omega⟩) ?_
  refine x_iret dX3_takeStep_149 rfl ?_
  exact ⟨rfl, rfl⟩
theorem c_ts9 (d : Nat) {G : Hp} {mk sk pa : Nat} (hE : ENs mk sk pa G) {tp : Int} (h3 : iv G mk 3 = tp) {a : Nat} (hc : CO G a) {n p vl : Int} (hn : iv G pa 3 = n) (n1 : n ≤ 320) (p0 : 0 ≤ p) (p1 : p < n) (hvl : iv G (pa + 2) p = vl) (t0 : 1 ≤ tp) (t1 : tp ≤ 960) {v : Int} (hv : iv G sk (tp - 1) = v) : CX (d + 2) 34 [.inr (.inr (some mk)), .inr (.inr (some a)), .inl 9, .inl p] G (fun r G1 => r = some (.inl (if v = 0 then vl else p + 1)) ∧ G1 = si G mk 3 (tp - 1)) := by
  refine CX.of (d := d + 1) m_X3_takeStep (Nat.le_of_ble_eq_true rfl) ?_
  refine Ex.lcl (ls' := [some (.inr (.inr (some mk))), some (.inr (.inr (some a))), some (.inl 9), some (.inl p), none]) rfl ?_
  refine x_aload_n (q := 1) dX3_takeStep_0 rfl rfl ?_
  refine x_getR (q := 4) dX3_takeStep_1 rfl f_3_23 rfl hE.1 ?_
  refine Ex.stk (st' := [.inr (.inr (some pa))]) (by rw [show rv G mk 4 = some pa from (by first | exact hE.2.2.2.2.1 | simp [rv_sr, rv_si, rv_nw, hE.2.2.2.2.1])]) ?_
  refine x_iload_n (q := 5) dX3_takeStep_4 rfl rfl ?_
  refine x_invV (q := 8) (as := [.inr (.inr (some pa)), .inl p]) (rest := []) dX3_takeStep_5 rfl l_3_144 m_X5_valueAt rfl rfl hE.2.2.2.2.2.2.2.2.2.2.2.2.1.1 (Nat.le_of_ble_eq_true rfl) (c_valueAt _ (G := G) hE.2.2.2.2.2.2.2.2.2.2.2.2.1 hn n1 p0 p1) (fun r1 G1 hR => ?_)
  obtain ⟨hG1, rfl⟩ := hR
  replace hG1 := hG1.symm
  subst hG1
  refine Ex.stk (st' := [.inl vl]) (by rw [hvl]; rfl) ?_
  refine x_istore (q := 10) (ls' := [some (.inr (.inr (some mk))), some (.inr (.inr (some a))), some (.inl 9), some (.inl p), some (.inl vl)]) dX3_takeStep_8 rfl (Nat.le_of_ble_eq_true rfl) (by first | rfl | exact hnl | exact hnl2 _) rfl ?_
  refine x_iload_n (q := 11) dX3_takeStep_10 rfl rfl ?_
  refine x_tableIn (t := 125) (off := 114) dX3_takeStep_11 (by decide) (by decide) rfl (by decide) ?_
  refine x_aload_n (q := 126) dX3_takeStep_125 rfl rfl ?_
  refine x_invV (q := 129) (as := [.inr (.inr (some mk))]) (rest := []) dX3_takeStep_126 rfl l_3_133 m_X3_pop rfl rfl hE.1 (Nat.le_of_ble_eq_true rfl) (c_popC _ (G := G) (hE.1) (hE.2.2.2.1) hE.2.2.2.2.2.1 hE.2.2.2.2.2.2.1 (tp := tp) h3 (ENs_ne hE) (by omega) (by omega)) (fun r1 G1 hR => ?_)
  obtain ⟨rfl, rfl⟩ := hR
  refine Ex.stk (st' := [.inl v]) (by rw [show iv G sk (tp - 1) = v from hv]; rfl) ?_
  refine x_if_ne (q := 132) (t := 137) dX3_takeStep_129 rfl (by decide) (fun h129 => ?_) (fun h129 => ?_)
  · refine x_iload_n (q := 138) dX3_takeStep_137 rfl rfl ?_
    refine x_iconst (q := 139) dX3_takeStep_138 rfl (by decide) ?_
    refine x_iadd (q := 140) (z := p + 1) dX3_takeStep_139 rfl (wr_id ⟨by omega, by omega⟩) ?_
    refine x_iret dX3_takeStep_140 rfl ?_
    refine ⟨vi_eq ?_, rfl⟩
    first | rw [if_pos (by omega)] | rw [if_neg (by omega)]
  · refine x_iload (q := 134) dX3_takeStep_132 rfl rfl ?_
    refine x_goto (t := 140) dX3_takeStep_134 (by decide) ?_
    refine x_iret dX3_takeStep_140 rfl ?_
    refine ⟨vi_eq ?_, rfl⟩
    first | rw [if_pos (by omega)] | rw [if_neg (by omega)]
theorem c_ts10 (d : Nat) {G : Hp} {mk sk pa : Nat} (hE : ENs mk sk pa G) {tp : Int} (h3 : iv G mk 3 = tp) {a : Nat} (hc : CO G a) {n p vl : Int} (hn : iv G pa 3 = n) (n1 : n ≤ 320) (p0 : 0 ≤ p) (p1 : p < n) (hvl : iv G (pa + 2) p = vl) : CX (d + 2) 34 [.inr (.inr (some mk)), .inr (.inr (some a)), .inl 10, .inl p] G (fun r G1 => r = some (.inl vl) ∧ G1 = G) := by
  refine CX.of (d := d + 1) m_X3_takeStep (Nat.le_of_ble_eq_true rfl) ?_
  refine Ex.lcl (ls' := [some (.inr (.inr (some mk))), some (.inr (.inr (some a))), some (.inl 10), some (.inl p), none]) rfl ?_
  refine x_aload_n (q := 1) dX3_takeStep_0 rfl rfl ?_
  refine x_getR (q := 4) dX3_takeStep_1 rfl f_3_23 rfl hE.1 ?_
  refine Ex.stk (st' := [.inr (.inr (some pa))]) (by rw [show rv G mk 4 = some pa from (by first | exact hE.2.2.2.2.1 | simp [rv_sr, rv_si, rv_nw, hE.2.2.2.2.1])]) ?_
  refine x_iload_n (q := 5) dX3_takeStep_4 rfl rfl ?_
  refine x_invV (q := 8) (as := [.inr (.inr (some pa)), .inl p]) (rest := []) dX3_takeStep_5 rfl l_3_144 m_X5_valueAt rfl rfl hE.2.2.2.2.2.2.2.2.2.2.2.2.1.1 (Nat.le_of_ble_eq_true rfl) (c_valueAt _ (G := G) hE.2.2.2.2.2.2.2.2.2.2.2.2.1 hn n1 p0 p1) (fun r1 G1 hR => ?_)
  obtain ⟨hG1, rfl⟩ := hR
  replace hG1 := hG1.symm
  subst hG1
  refine Ex.stk (st' := [.inl vl]) (by rw [hvl]; rfl) ?_
  refine x_istore (q := 10) (ls' := [some (.inr (.inr (some mk))), some (.inr (.inr (some a))), some (.inl 10), some (.inl p), some (.inl vl)]) dX3_takeStep_8 rfl (Nat.le_of_ble_eq_true rfl) (by first | rfl | exact hnl | exact hnl2 _) rfl ?_
  refine x_iload_n (q := 11) dX3_takeStep_10 rfl rfl ?_
  refine x_tableIn (t := 122) (off := 111) dX3_takeStep_11 (by decide) (by decide) rfl (by decide) ?_
  refine x_iload (q := 124) dX3_takeStep_122 rfl rfl ?_
  refine x_iret dX3_takeStep_124 rfl ?_
  exact ⟨rfl, rfl⟩
theorem gt_turn {d : Nat} {G : Hp} {mk sk pa a : Nat} (hE : ENs mk sk pa G) {n p k sv p' : Int} {l4 : Option V} (hl4 : isL l4 = false) (hn : iv G pa 3 = n) (n1 : n ≤ 320) (p0 : 0 ≤ p) (p1 : p < n) (hsv : iv G (pa + 1) p = sv) (h11 : sv ≠ 11) (k0 : 0 ≤ k) (k1 : k < 320) {R : Hp → Prop} {Q : Option V → Hp → Prop} (hC : CX (d + 1) 34 [.inr (.inr (some mk)), .inr (.inr (some a)), .inl sv, .inl p] G (fun r G1 => r = some (.inl p') ∧ R G1)) (kk : ∀ G1, R G1 → Ex (d + 1) none 3 false cX3_goThrough 18 [some (.inr (.inr (some mk))), some (.inr (.inr (some a))), some (.inl p'), some (.inl (k + 1)), some (.inl sv)] [] G1 Q) : Ex (d + 1) none 3 false cX3_goThrough 18 [some (.inr (.inr (some mk))), some (.inr (.inr (some a))), some (.inl p), some (.inl k), l4] [] G Q := by
  have hnl : noL [some (.inr (.inr (some mk))), some (.inr (.inr (some a))), some (.inl p), some (.inl k), l4] = true := by simp [noL, isL] at hl4 ⊢; exact hl4
  refine x_iload_n (q := 19) dX3_goThrough_18 rfl rfl ?_
  refine x_sipush (q := 22) dX3_goThrough_19 rfl (by decide) ?_
  refine x_icmp_ge (q := 25) (t := 60) dX3_goThrough_22 rfl (by decide) (fun h22 => by exfalso; omega) (fun h22 => ?_)
  refine x_aload_n (q := 26) dX3_goThrough_25 rfl rfl ?_
  refine x_getR (q := 29) dX3_goThrough_26 rfl f_3_23 rfl hE.1 ?_
  refine Ex.stk (st' := [.inr (.inr (some pa))]) (by rw [show rv G mk 4 = some pa from (by first | exact hE.2.2.2.2.1 | simp [rv_sr, rv_si, rv_nw, hE.2.2.2.2.1])]) ?_
  refine x_iload_n (q := 30) dX3_goThrough_29 rfl rfl ?_
  refine x_invV (q := 33) (as := [.inr (.inr (some pa)), .inl p]) (rest := []) dX3_goThrough_30 rfl l_3_126 m_X5_stepAt rfl rfl hE.2.2.2.2.2.2.2.2.2.2.2.2.1.1 (Nat.le_of_ble_eq_true rfl) (c_stepAt _ hE.2.2.2.2.2.2.2.2.2.2.2.2.1 hn n1 p0 p1) (fun r1 G1 hR => ?_)
  obtain ⟨hG1, rfl⟩ := hR
  replace hG1 := hG1.symm
  subst hG1
  refine Ex.stk (st' := [.inl sv]) (by rw [hsv]; rfl) ?_
  refine x_istore (q := 35) (ls' := [some (.inr (.inr (some mk))), some (.inr (.inr (some a))), some (.inl p), some (.inl k), some (.inl sv)]) dX3_goThrough_33 rfl (Nat.le_of_ble_eq_true rfl) (by first | rfl | exact hnl | exact hnl2 _) rfl ?_
  refine x_iload (q := 37) dX3_goThrough_35 rfl rfl ?_
  refine x_bipush (q := 39) dX3_goThrough_37 rfl (by decide) ?_
  refine x_icmp_ne (q := 42) (t := 45) dX3_goThrough_39 rfl (by decide) (fun h39 => ?_) (fun h39 => by exfalso; exact h11 h39)
  refine x_aload_n (q := 46) dX3_goThrough_45 rfl rfl ?_
  refine x_aload_n (q := 47) dX3_goThrough_46 rfl rfl ?_
  refine x_iload (q := 49) dX3_goThrough_47 rfl rfl ?_
  refine x_iload_n (q := 50) dX3_goThrough_49 rfl rfl ?_
  refine x_invV (q := 53) (as := [.inr (.inr (some mk)), .inr (.inr (some a)), .inl sv, .inl p]) (rest := []) dX3_goThrough_50 rfl l_3_129 m_X3_takeStep rfl rfl hE.1 (Nat.le_of_ble_eq_true rfl) hC (fun r1 G1 hR => ?_)
  obtain ⟨rfl, hR⟩ := hR
  refine Ex.stk (st' := [.inl p']) rfl ?_
  refine x_istore_n (q := 54) (ls' := [some (.inr (.inr (some mk))), some (.inr (.inr (some a))), some (.inl p'), some (.inl k), some (.inl sv)]) dX3_goThrough_53 rfl (Nat.le_of_ble_eq_true rfl) (by first | rfl | exact hnl | exact hnl2 _) rfl ?_
  refine x_iinc (q := 57) (ls' := [some (.inr (.inr (some mk))), some (.inr (.inr (some a))), some (.inl p'), some (.inl (k + 1)), some (.inl sv)]) dX3_goThrough_54 rfl rfl (by first | rfl | exact hnl | exact hnl2 _) (by rw [show wr (k + 1) = k + 1 from (wr_id ⟨by omega, by omega⟩)]; rfl) ?_
  refine x_goto (t := 18) dX3_goThrough_57 (by decide) ?_
  exact kk G1 hR
