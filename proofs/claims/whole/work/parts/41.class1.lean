/-! THE CLASS, leaves: programs, stacks, calls -/
def PGs (pa : Nat) (G : Hp) : Prop := tg G pa = 5 ∧ rv G pa 0 = some (pa + 1) ∧ rv G pa 1 = some (pa + 2) ∧ rv G pa 2 = some (pa + 3) ∧ tg G (pa + 1) = 20 ∧ ln G (pa + 1) = 320 ∧ tg G (pa + 2) = 20 ∧ ln G (pa + 2) = 320 ∧ tg G (pa + 3) = 20 ∧ ln G (pa + 3) = 5
/-- a call object -/
def CO (G : Hp) (a : Nat) : Prop := tg G a = 1 ∧ rv G a 7 = some (a + 1) ∧ tg G (a + 1) = 20 ∧ ln G (a + 1) = 8
/-- a chain by next -/
def Chn (G : Hp) : Option Nat → List Nat → Prop
  | r, [] => r = none
  | r, a :: l => r = some a ∧ Chn G (rv G a 10) l
theorem c_tellsOf (d : Nat) {G : Hp} {pa : Nat} (hp : PGs pa G) {mn f : Int} (hm : iv G pa 4 = mn) : CX (d + 1) 52 [.inr (.inr (some pa)), .inl f] G (fun r G1 => G1 = G ∧ ∃ z, r = some (.inl z) ∧ (z = 0 ∨ z = 1) ∧ (z = 1 ↔ 0 ≤ f ∧ f < mn)) := by
  refine CX.of (d := d + 0) m_X5_tellsOf (Nat.le_of_ble_eq_true rfl) ?_
  refine Ex.lcl (ls' := [some (.inr (.inr (some pa))), some (.inl f)]) rfl ?_
  refine x_iload_n (q := 1) dX5_tellsOf_0 rfl rfl ?_
  refine x_if_lt (q := 4) (t := 16) dX5_tellsOf_1 rfl (by decide) (fun h1 => ?_) (fun h1 => ?_)
  · refine x_iconst (q := 17) dX5_tellsOf_16 rfl (by decide) ?_
    refine x_zret dX5_tellsOf_17 rfl (by decide) ?_
    exact ⟨rfl, 0, rfl, by omega, by omega⟩
  · refine x_iload_n (q := 5) dX5_tellsOf_4 rfl rfl ?_
    refine x_aload_n (q := 6) dX5_tellsOf_5 rfl rfl ?_
    refine x_getI (q := 9) dX5_tellsOf_6 rfl f_5_25 rfl hp.1 ?_
    refine Ex.stk (st' := [.inl mn, .inl f]) (by rw [show iv G pa 4 = mn from hm]) ?_
    refine x_icmp_ge (q := 12) (t := 16) dX5_tellsOf_9 rfl (by decide) (fun h9 => ?_) (fun h9 => ?_)
    · refine x_iconst (q := 17) dX5_tellsOf_16 rfl (by decide) ?_
      refine x_zret dX5_tellsOf_17 rfl (by decide) ?_
      exact ⟨rfl, 0, rfl, by omega, by omega⟩
    · refine x_iconst (q := 13) dX5_tellsOf_12 rfl (by decide) ?_
      refine x_goto (t := 17) dX5_tellsOf_13 (by decide) ?_
      refine x_zret dX5_tellsOf_17 rfl (by decide) ?_
      exact ⟨rfl, 1, rfl, by omega, by omega⟩
theorem c_startOf (d : Nat) {G : Hp} {pa : Nat} (hp : PGs pa G) {mn f : Int} (hm : iv G pa 4 = mn) (m5 : mn ≤ 5) (f0 : 0 ≤ f) (f1 : f < mn) : CX (d + 2) 53 [.inr (.inr (some pa)), .inl f] G (fun r G1 => G1 = G ∧ r = some (.inl (iv G (pa + 3) f))) := by
  refine CX.of (d := d + 1) m_X5_startOf (Nat.le_of_ble_eq_true rfl) ?_
  refine Ex.lcl (ls' := [some (.inr (.inr (some pa))), some (.inl f)]) rfl ?_
  refine x_aload_n (q := 1) dX5_startOf_0 rfl rfl ?_
  refine x_iload_n (q := 2) dX5_startOf_1 rfl rfl ?_
  refine x_invV (q := 5) (as := [.inr (.inr (some pa)), .inl f]) (rest := []) dX5_startOf_2 rfl l_5_32 m_X5_tellsOf rfl rfl hp.1 (Nat.le_of_ble_eq_true rfl) (c_tellsOf _ hp hm) (fun r1 G1 hR => ?_)
  obtain ⟨hG1, z2, rfl, z2a, z2b⟩ := hR
  replace hG1 := hG1.symm
  subst hG1
  refine Ex.stk (st' := [.inl z2]) rfl ?_
  refine x_if_eq (q := 8) (t := 17) dX5_startOf_5 rfl (by decide) (fun h5 => by exfalso; omega) (fun h5 => ?_)
  refine x_aload_n (q := 9) dX5_startOf_8 rfl rfl ?_
  refine x_getR (q := 12) dX5_startOf_9 rfl f_5_18 rfl hp.1 ?_
  refine Ex.stk (st' := [.inr (.inr (some (pa + 3)))]) (by rw [show rv G pa 2 = some (pa + 3) from (by first | exact hp.2.2.2.1 | simp [rv_sr, rv_si, rv_nw, hp.2.2.2.1])]) ?_
  refine x_iload_n (q := 13) dX5_startOf_12 rfl rfl ?_
  refine x_iaload (q := 14) dX5_startOf_13 rfl (Or.inl hp.2.2.2.2.2.2.2.2.1) (by omega) (by rw [show ln G (pa + 3) = 5 from hp.2.2.2.2.2.2.2.2.2]; omega) ?_
  refine x_goto (t := 18) dX5_startOf_14 (by decide) ?_
  refine x_iret dX5_startOf_18 rfl ?_
  exact ⟨rfl, rfl⟩
theorem c_stepAt (d : Nat) {G : Hp} {pa : Nat} (hp : PGs pa G) {n p : Int} (hn : iv G pa 3 = n) (n1 : n ≤ 320) (p0 : 0 ≤ p) (p1 : p < n) : CX (d + 1) 54 [.inr (.inr (some pa)), .inl p] G (fun r G1 => G1 = G ∧ r = some (.inl (iv G (pa + 1) p))) := by
  refine CX.of (d := d + 0) m_X5_stepAt (Nat.le_of_ble_eq_true rfl) ?_
  refine Ex.lcl (ls' := [some (.inr (.inr (some pa))), some (.inl p)]) rfl ?_
  refine x_iload_n (q := 1) dX5_stepAt_0 rfl rfl ?_
  refine x_if_lt (q := 4) (t := 21) dX5_stepAt_1 rfl (by decide) (fun h1 => by exfalso; omega) (fun h1 => ?_)
  refine x_iload_n (q := 5) dX5_stepAt_4 rfl rfl ?_
  refine x_aload_n (q := 6) dX5_stepAt_5 rfl rfl ?_
  refine x_getI (q := 9) dX5_stepAt_6 rfl f_5_21 rfl hp.1 ?_
  refine Ex.stk (st' := [.inl n, .inl p]) (by rw [show iv G pa 3 = n from hn]) ?_
  refine x_icmp_ge (q := 12) (t := 21) dX5_stepAt_9 rfl (by decide) (fun h9 => by exfalso; omega) (fun h9 => ?_)
  refine x_aload_n (q := 13) dX5_stepAt_12 rfl rfl ?_
  refine x_getR (q := 16) dX5_stepAt_13 rfl f_5_9 rfl hp.1 ?_
  refine Ex.stk (st' := [.inr (.inr (some (pa + 1)))]) (by rw [show rv G pa 0 = some (pa + 1) from (by first | exact hp.2.1 | simp [rv_sr, rv_si, rv_nw, hp.2.1])]) ?_
  refine x_iload_n (q := 17) dX5_stepAt_16 rfl rfl ?_
  refine x_iaload (q := 18) dX5_stepAt_17 rfl (Or.inl hp.2.2.2.2.1) (by omega) (by rw [show ln G (pa + 1) = 320 from hp.2.2.2.2.2.1]; omega) ?_
  refine x_goto (t := 23) dX5_stepAt_18 (by decide) ?_
  refine x_iret dX5_stepAt_23 rfl ?_
  exact ⟨rfl, rfl⟩
theorem c_valueAt (d : Nat) {G : Hp} {pa : Nat} (hp : PGs pa G) {n p : Int} (hn : iv G pa 3 = n) (n1 : n ≤ 320) (p0 : 0 ≤ p) (p1 : p < n) : CX (d + 1) 55 [.inr (.inr (some pa)), .inl p] G (fun r G1 => G1 = G ∧ r = some (.inl (iv G (pa + 2) p))) := by
  refine CX.of (d := d + 0) m_X5_valueAt (Nat.le_of_ble_eq_true rfl) ?_
  refine Ex.lcl (ls' := [some (.inr (.inr (some pa))), some (.inl p)]) rfl ?_
  refine x_iload_n (q := 1) dX5_valueAt_0 rfl rfl ?_
  refine x_if_lt (q := 4) (t := 21) dX5_valueAt_1 rfl (by decide) (fun h1 => by exfalso; omega) (fun h1 => ?_)
  refine x_iload_n (q := 5) dX5_valueAt_4 rfl rfl ?_
  refine x_aload_n (q := 6) dX5_valueAt_5 rfl rfl ?_
  refine x_getI (q := 9) dX5_valueAt_6 rfl f_5_21 rfl hp.1 ?_
  refine Ex.stk (st' := [.inl n, .inl p]) (by rw [show iv G pa 3 = n from hn]) ?_
  refine x_icmp_ge (q := 12) (t := 21) dX5_valueAt_9 rfl (by decide) (fun h9 => by exfalso; omega) (fun h9 => ?_)
  refine x_aload_n (q := 13) dX5_valueAt_12 rfl rfl ?_
  refine x_getR (q := 16) dX5_valueAt_13 rfl f_5_15 rfl hp.1 ?_
  refine Ex.stk (st' := [.inr (.inr (some (pa + 2)))]) (by rw [show rv G pa 1 = some (pa + 2) from (by first | exact hp.2.2.1 | simp [rv_sr, rv_si, rv_nw, hp.2.2.1])]) ?_
  refine x_iload_n (q := 17) dX5_valueAt_16 rfl rfl ?_
  refine x_iaload (q := 18) dX5_valueAt_17 rfl (Or.inl hp.2.2.2.2.2.2.1) (by omega) (by rw [show ln G (pa + 2) = 320 from hp.2.2.2.2.2.2.2.1]; omega) ?_
  refine x_goto (t := 22) dX5_valueAt_18 (by decide) ?_
  refine x_iret dX5_valueAt_22 rfl ?_
  exact ⟨rfl, rfl⟩
theorem c_min (d : Nat) {G : Hp} {x y : Int} : CX (d + 1) 165 [.inl x, .inl y] G (fun r G1 => G1 = G ∧ r = some (.inl (if x ≤ y then x else y))) := by
  refine CX.of (d := d + 0) m_J9_min_7cf53 (Nat.le_of_ble_eq_true rfl) ?_
  refine Ex.lcl (ls' := [some (.inl x), some (.inl y)]) rfl ?_
  refine x_iload_n (q := 1) dJ9_min_7cf53_0 rfl rfl ?_
  refine x_iload_n (q := 2) dJ9_min_7cf53_1 rfl rfl ?_
  refine x_icmp_gt (q := 5) (t := 9) dJ9_min_7cf53_2 rfl (by decide) (fun h2 => ?_) (fun h2 => ?_)
  · refine x_iload_n (q := 10) dJ9_min_7cf53_9 rfl rfl ?_
    refine x_iret dJ9_min_7cf53_10 rfl ?_
    refine ⟨rfl, vi_eq ?_⟩
    first | rw [if_pos (by omega)] | rw [if_neg (by omega)]
  · refine x_iload_n (q := 6) dJ9_min_7cf53_5 rfl rfl ?_
    refine x_goto (t := 10) dJ9_min_7cf53_6 (by decide) ?_
    refine x_iret dJ9_min_7cf53_10 rfl ?_
    refine ⟨rfl, vi_eq ?_⟩
    first | rw [if_pos (by omega)] | rw [if_neg (by omega)]
theorem c_max (d : Nat) {G : Hp} {x y : Int} : CX (d + 1) 164 [.inl x, .inl y] G (fun r G1 => G1 = G ∧ r = some (.inl (if x < y then y else x))) := by
  refine CX.of (d := d + 0) m_J9_max_7cf53 (Nat.le_of_ble_eq_true rfl) ?_
  refine Ex.lcl (ls' := [some (.inl x), some (.inl y)]) rfl ?_
  refine x_iload_n (q := 1) dJ9_max_7cf53_0 rfl rfl ?_
  refine x_iload_n (q := 2) dJ9_max_7cf53_1 rfl rfl ?_
  refine x_icmp_lt (q := 5) (t := 9) dJ9_max_7cf53_2 rfl (by decide) (fun h2 => ?_) (fun h2 => ?_)
  · refine x_iload_n (q := 10) dJ9_max_7cf53_9 rfl rfl ?_
    refine x_iret dJ9_max_7cf53_10 rfl ?_
    refine ⟨rfl, vi_eq ?_⟩
    split <;> omega
  · refine x_iload_n (q := 6) dJ9_max_7cf53_5 rfl rfl ?_
    refine x_goto (t := 10) dJ9_max_7cf53_6 (by decide) ?_
    refine x_iret dJ9_max_7cf53_10 rfl ?_
    refine ⟨rfl, vi_eq ?_⟩
    split <;> omega
theorem xor8 {v : Int} (h0 : 0 ≤ v) (h1 : v ≤ 996) : 0 ≤ (Int32.ofInt v ^^^ Int32.ofInt 8).toInt := by
  have h : ∀ n : Fin 997, 0 ≤ (Int32.ofInt (n.val : Int) ^^^ Int32.ofInt 8).toInt := by decide +kernel
  have := h ⟨v.toNat, by omega⟩
  rw [show (((⟨v.toNat, by omega⟩ : Fin 997).val : Nat) : Int) = v from by show ((v.toNat : Nat) : Int) = v; omega] at this
  exact this
theorem c_floorMod (d : Nat) {G : Hp} {v : Int} (v0 : 0 ≤ v) (v1 : v ≤ 996) : CX (d + 1) 163 [.inl v, .inl 8] G (fun r G1 => G1 = G ∧ r = some (.inl (v % 8))) := by
  have hx := xor8 v0 v1
  refine CX.of (d := d + 0) m_J9_floorMod_7cf53 (Nat.le_of_ble_eq_true rfl) ?_
  refine Ex.lcl (ls' := [some (.inl v), some (.inl 8), none]) rfl ?_
  refine x_iload_n (q := 1) dJ9_floorMod_7cf53_0 rfl rfl ?_
  refine x_iload_n (q := 2) dJ9_floorMod_7cf53_1 rfl rfl ?_
  refine x_irem (q := 3) (z := v % 8) dJ9_floorMod_7cf53_2 rfl (by omega) (Int.tmod_eq_emod_of_nonneg v0) ?_
  refine x_istore_n (q := 4) (ls' := [some (.inl v), some (.inl 8), some (.inl (v % 8))]) dJ9_floorMod_7cf53_3 rfl (Nat.le_of_ble_eq_true rfl) (by first | rfl | exact hnl | exact hnl2 _) rfl ?_
  refine x_iload_n (q := 5) dJ9_floorMod_7cf53_4 rfl rfl ?_
  refine x_iload_n (q := 6) dJ9_floorMod_7cf53_5 rfl rfl ?_
  refine x_ixor (q := 7) (z := (Int32.ofInt v ^^^ Int32.ofInt 8).toInt) dJ9_floorMod_7cf53_6 rfl rfl ?_
  refine x_if_ge (q := 10) (t := 18) dJ9_floorMod_7cf53_7 rfl (by decide) (fun h7 => ?_) (fun h7 => by exfalso; omega)
  refine x_iload_n (q := 19) dJ9_floorMod_7cf53_18 rfl rfl ?_
  refine x_iret dJ9_floorMod_7cf53_19 rfl ?_
  exact ⟨rfl, rfl⟩
theorem c_pushC (d : Nat) {G : Hp} {mk sk : Nat} (hm : tg G mk = 3) (hs : rv G mk 2 = some sk) (ht : tg G sk = 20) (hl : ln G sk = 960) {tp : Int} (h3 : iv G mk 3 = tp) (hne : sk ≠ mk) {v : Int} (t0 : 0 ≤ tp) (t1 : tp < 960) : CX (d + 1) 41 [.inr (.inr (some mk)), .inl v] G (fun r G1 => r = none ∧ G1 = si (si G sk tp v) mk 3 (tp + 1)) := by
  refine CX.of (d := d + 0) m_X3_push (Nat.le_of_ble_eq_true rfl) ?_
  refine Ex.lcl (ls' := [some (.inr (.inr (some mk))), some (.inl v)]) rfl ?_
  refine x_aload_n (q := 1) dX3_push_0 rfl rfl ?_
  refine x_getI (q := 4) dX3_push_1 rfl f_3_191 rfl hm ?_
  refine Ex.stk (st' := [.inl tp]) (by rw [show iv G mk 3 = tp from h3]) ?_
  refine x_aload_n (q := 5) dX3_push_4 rfl rfl ?_
  refine x_getR (q := 8) dX3_push_5 rfl f_3_9 rfl hm ?_
  refine Ex.stk (st' := [.inr (.inr (some sk)), .inl tp]) (by rw [show rv G mk 2 = some sk from (by first | exact hs | simp [rv_sr, rv_si, rv_nw, hs])]) ?_
  refine x_arraylength (q := 9) dX3_push_8 rfl (Or.inl ht) ?_
  refine Ex.stk (st' := [.inl 960, .inl tp]) (by rw [show ln G sk = 960 from hl]) ?_
  refine x_icmp_ge (q := 12) (t := 32) dX3_push_9 rfl (by decide) (fun h9 => by exfalso; omega) (fun h9 => ?_)
  refine x_aload_n (q := 13) dX3_push_12 rfl rfl ?_
  refine x_getR (q := 16) dX3_push_13 rfl f_3_9 rfl hm ?_
  refine Ex.stk (st' := [.inr (.inr (some sk))]) (by rw [show rv G mk 2 = some sk from (by first | exact hs | simp [rv_sr, rv_si, rv_nw, hs])]) ?_
  refine x_aload_n (q := 17) dX3_push_16 rfl rfl ?_
  refine x_getI (q := 20) dX3_push_17 rfl f_3_191 rfl hm ?_
  refine Ex.stk (st' := [.inl tp, .inr (.inr (some sk))]) (by rw [show iv G mk 3 = tp from h3]) ?_
  refine x_iload_n (q := 21) dX3_push_20 rfl rfl ?_
  refine x_iastore (q := 22) dX3_push_21 rfl ht (by omega) (by rw [show ln G sk = 960 from hl]; omega) ?_
  refine x_aload_n (q := 23) dX3_push_22 rfl rfl ?_
  refine x_dup (q := 24) dX3_push_23 rfl rfl ?_
  refine x_getI (q := 27) dX3_push_24 rfl f_3_191 rfl hm ?_
  refine Ex.stk (st' := [.inl tp, .inr (.inr (some mk))]) (by rw [show iv (si G sk tp v) mk 3 = tp from (by simp [iv_si, hne.symm, h3])]) ?_
  refine x_iconst (q := 28) dX3_push_27 rfl (by decide) ?_
  refine x_iadd (q := 29) (z := tp + 1) dX3_push_28 rfl (wr_id ⟨by omega, by omega⟩) ?_
  refine x_putI (q := 32) dX3_push_29 rfl f_3_191 rfl (fun h => by cases h) (fun h => by cases h) hm ?_
  refine x_vret dX3_push_32 rfl ?_
  exact ⟨rfl, rfl⟩
theorem c_popC (d : Nat) {G : Hp} {mk sk : Nat} (hm : tg G mk = 3) (hs : rv G mk 2 = some sk) (ht : tg G sk = 20) (hl : ln G sk = 960) {tp : Int} (h3 : iv G mk 3 = tp) (hne : sk ≠ mk) (t0 : 1 ≤ tp) (t1 : tp ≤ 960) : CX (d + 1) 42 [.inr (.inr (some mk))] G (fun r G1 => r = some (.inl (iv G sk (tp - 1))) ∧ G1 = si G mk 3 (tp - 1)) := by
  refine CX.of (d := d + 0) m_X3_pop (Nat.le_of_ble_eq_true rfl) ?_
  refine Ex.lcl (ls' := [some (.inr (.inr (some mk)))]) rfl ?_
  refine x_aload_n (q := 1) dX3_pop_0 rfl rfl ?_
  refine x_getI (q := 4) dX3_pop_1 rfl f_3_191 rfl hm ?_
  refine Ex.stk (st' := [.inl tp]) (by rw [show iv G mk 3 = tp from h3]) ?_
  refine x_if_ne (q := 7) (t := 9) dX3_pop_4 rfl (by decide) (fun h4 => ?_) (fun h4 => by exfalso; omega)
  refine x_aload_n (q := 10) dX3_pop_9 rfl rfl ?_
  refine x_dup (q := 11) dX3_pop_10 rfl rfl ?_
  refine x_getI (q := 14) dX3_pop_11 rfl f_3_191 rfl hm ?_
  refine Ex.stk (st' := [.inl tp, .inr (.inr (some mk))]) (by rw [show iv G mk 3 = tp from h3]) ?_
  refine x_iconst (q := 15) dX3_pop_14 rfl (by decide) ?_
  refine x_isub (q := 16) (z := tp - 1) dX3_pop_15 rfl (wr_id ⟨by omega, by omega⟩) ?_
  refine x_putI (q := 19) dX3_pop_16 rfl f_3_191 rfl (fun h => by cases h) (fun h => by cases h) hm ?_
  refine x_aload_n (q := 20) dX3_pop_19 rfl rfl ?_
  refine x_getR (q := 23) dX3_pop_20 rfl f_3_9 rfl hm ?_
  refine Ex.stk (st' := [.inr (.inr (some sk))]) (by rw [show rv (si G mk 3 (tp - 1)) mk 2 = some sk from (by first | exact hs | simp [rv_sr, rv_si, rv_nw, hs])]) ?_
  refine x_aload_n (q := 24) dX3_pop_23 rfl rfl ?_
  refine x_getI (q := 27) dX3_pop_24 rfl f_3_191 rfl hm ?_
  refine Ex.stk (st' := [.inl (tp - 1), .inr (.inr (some sk))]) (by rw [show iv (si G mk 3 (tp - 1)) mk 3 = tp - 1 from (by simp [iv_si, iv_sr])]) ?_
  refine x_iaload (q := 28) dX3_pop_27 rfl (Or.inl ht) (by omega) (by rw [show ln (si G mk 3 (tp - 1)) sk = 960 from hl]; omega) ?_
  refine x_iret dX3_pop_28 rfl ?_
  refine ⟨vi_eq ?_, rfl⟩
  rw [iv_si, if_neg (fun q => hne q.1)]
theorem c_isOf (d : Nat) {G : Hp} {a : Nat} (hc : CO G a) {f x f1 x1 : Int} (hf : iv G a 0 = f1) (hx : iv G a 1 = x1) : CX (d + 1) 12 [.inr (.inr (some a)), .inl f, .inl x] G (fun r G1 => G1 = G ∧ ∃ z, r = some (.inl z) ∧ (z = 0 ∨ z = 1) ∧ (z = 1 ↔ f1 = f ∧ x1 = x)) := by
  refine CX.of (d := d + 0) m_X1_isOf (Nat.le_of_ble_eq_true rfl) ?_
  refine Ex.lcl (ls' := [some (.inr (.inr (some a))), some (.inl f), some (.inl x)]) rfl ?_
  refine x_aload_n (q := 1) dX1_isOf_0 rfl rfl ?_
  refine x_getI (q := 4) dX1_isOf_1 rfl f_1_15 rfl hc.1 ?_
  refine Ex.stk (st' := [.inl f1]) (by rw [show iv G a 0 = f1 from hf]) ?_
  refine x_iload_n (q := 5) dX1_isOf_4 rfl rfl ?_
  refine x_icmp_ne (q := 8) (t := 20) dX1_isOf_5 rfl (by decide) (fun h5 => ?_) (fun h5 => ?_)
  · refine x_iconst (q := 21) dX1_isOf_20 rfl (by decide) ?_
    refine x_zret dX1_isOf_21 rfl (by decide) ?_
    exact ⟨rfl, 0, rfl, by omega, by omega⟩
  · refine x_aload_n (q := 9) dX1_isOf_8 rfl rfl ?_
    refine x_getI (q := 12) dX1_isOf_9 rfl f_1_19 rfl hc.1 ?_
    refine Ex.stk (st' := [.inl x1]) (by rw [show iv G a 1 = x1 from hx]) ?_
    refine x_iload_n (q := 13) dX1_isOf_12 rfl rfl ?_
    refine x_icmp_ne (q := 16) (t := 20) dX1_isOf_13 rfl (by decide) (fun h13 => ?_) (fun h13 => ?_)
    · refine x_iconst (q := 21) dX1_isOf_20 rfl (by decide) ?_
      refine x_zret dX1_isOf_21 rfl (by decide) ?_
      exact ⟨rfl, 0, rfl, by omega, by omega⟩
    · refine x_iconst (q := 17) dX1_isOf_16 rfl (by decide) ?_
      refine x_goto (t := 21) dX1_isOf_17 (by decide) ?_
      refine x_zret dX1_isOf_21 rfl (by decide) ?_
      exact ⟨rfl, 1, rfl, by omega, by omega⟩
theorem c_beginC (d : Nat) {G : Hp} {a : Nat} (hc : CO G a) {f x ns nm : Int} : CX (d + 1) 7 [.inr (.inr (some a)), .inl f, .inl x, .inl ns, .inl nm] G (fun r G1 => r = none ∧ G1 = si (sr (si (si (si (si (si (si G a 0 f) a 1 x) a 5 ns) a 3 nm) a 2 0) a 4 0) a 8 none) a 12 0) := by
  refine CX.of (d := d + 0) m_X1_begin (Nat.le_of_ble_eq_true rfl) ?_
  refine Ex.lcl (ls' := [some (.inr (.inr (some a))), some (.inl f), some (.inl x), some (.inl ns), some (.inl nm)]) rfl ?_
  refine x_aload_n (q := 1) dX1_begin_0 rfl rfl ?_
  refine x_iload_n (q := 2) dX1_begin_1 rfl rfl ?_
  refine x_putI (q := 5) dX1_begin_2 rfl f_1_15 rfl (fun h => by cases h) (fun h => by cases h) hc.1 ?_
  refine x_aload_n (q := 6) dX1_begin_5 rfl rfl ?_
  refine x_iload_n (q := 7) dX1_begin_6 rfl rfl ?_
  refine x_putI (q := 10) dX1_begin_7 rfl f_1_19 rfl (fun h => by cases h) (fun h => by cases h) hc.1 ?_
  refine x_aload_n (q := 11) dX1_begin_10 rfl rfl ?_
  refine x_iload_n (q := 12) dX1_begin_11 rfl rfl ?_
  refine x_putI (q := 15) dX1_begin_12 rfl f_1_22 rfl (fun h => by cases h) (fun h => by cases h) hc.1 ?_
  refine x_aload_n (q := 16) dX1_begin_15 rfl rfl ?_
  refine x_iload (q := 18) dX1_begin_16 rfl rfl ?_
  refine x_putI (q := 21) dX1_begin_18 rfl f_1_25 rfl (fun h => by cases h) (fun h => by cases h) hc.1 ?_
  refine x_aload_n (q := 22) dX1_begin_21 rfl rfl ?_
  refine x_iconst (q := 23) dX1_begin_22 rfl (by decide) ?_
  refine x_putI (q := 26) dX1_begin_23 rfl f_1_28 rfl (fun h => by cases h) (fun h => by cases h) hc.1 ?_
  refine x_aload_n (q := 27) dX1_begin_26 rfl rfl ?_
  refine x_iconst (q := 28) dX1_begin_27 rfl (by decide) ?_
  refine x_putI (q := 31) dX1_begin_28 rfl f_1_31 rfl (fun h => by cases h) (fun h => by cases h) hc.1 ?_
  refine x_aload_n (q := 32) dX1_begin_31 rfl rfl ?_
  refine x_aconst_null (q := 33) dX1_begin_32 rfl ?_
  refine x_putR (q := 36) dX1_begin_33 rfl f_1_34 rfl (fun h => by cases h) hc.1 ?_
  refine x_aload_n (q := 37) dX1_begin_36 rfl rfl ?_
  refine x_iconst (q := 38) dX1_begin_37 rfl (by decide) ?_
  refine x_putI (q := 41) dX1_begin_38 rfl f_1_38 rfl (fun h => by cases h) (fun h => by cases h) hc.1 ?_
  refine x_vret dX1_begin_41 rfl ?_
  exact ⟨rfl, rfl⟩
theorem wr_add (x y : Int) : wr (wr x + y) = wr (x + y) := by unfold wr; exact Int.bmod_add_bmod
theorem c_beginDoing (d : Nat) {G : Hp} {a : Nat} (hc : CO G a) {dn : Int} (hd : iv G a 4 = wr dn) : CX (d + 1) 8 [.inr (.inr (some a))] G (fun r G1 => r = none ∧ G1 = sr (sr (sr (si (si G a 4 (wr (dn + 1))) a 6 0) a 11 (rv G a 8)) a 8 none) a 9 none) := by
  refine CX.of (d := d + 0) m_X1_beginDoing (Nat.le_of_ble_eq_true rfl) ?_
  refine Ex.lcl (ls' := [some (.inr (.inr (some a)))]) rfl ?_
  refine x_aload_n (q := 1) dX1_beginDoing_0 rfl rfl ?_
  refine x_dup (q := 2) dX1_beginDoing_1 rfl rfl ?_
  refine x_getI (q := 5) dX1_beginDoing_2 rfl f_1_31 rfl hc.1 ?_
  refine Ex.stk (st' := [.inl (wr dn), .inr (.inr (some a))]) (by rw [show iv G a 4 = wr dn from hd]) ?_
  refine x_iconst (q := 6) dX1_beginDoing_5 rfl (by decide) ?_
  refine x_iadd (q := 7) (z := wr (dn + 1)) dX1_beginDoing_6 rfl (wr_add dn 1) ?_
  refine x_putI (q := 10) dX1_beginDoing_7 rfl f_1_31 rfl (fun h => by cases h) (fun h => by cases h) hc.1 ?_
  refine x_aload_n (q := 11) dX1_beginDoing_10 rfl rfl ?_
  refine x_iconst (q := 12) dX1_beginDoing_11 rfl (by decide) ?_
  refine x_putI (q := 15) dX1_beginDoing_12 rfl f_1_41 rfl (fun h => by cases h) (fun h => by cases h) hc.1 ?_
  refine x_aload_n (q := 16) dX1_beginDoing_15 rfl rfl ?_
  refine x_aload_n (q := 17) dX1_beginDoing_16 rfl rfl ?_
  refine x_getR (q := 20) dX1_beginDoing_17 rfl f_1_34 rfl hc.1 ?_
  refine x_putR (q := 23) dX1_beginDoing_20 rfl f_1_44 rfl (fun h => by cases h) hc.1 ?_
  refine x_aload_n (q := 24) dX1_beginDoing_23 rfl rfl ?_
  refine x_aconst_null (q := 25) dX1_beginDoing_24 rfl ?_
  refine x_putR (q := 28) dX1_beginDoing_25 rfl f_1_34 rfl (fun h => by cases h) hc.1 ?_
  refine x_aload_n (q := 29) dX1_beginDoing_28 rfl rfl ?_
  refine x_aconst_null (q := 30) dX1_beginDoing_29 rfl ?_
  refine x_putR (q := 33) dX1_beginDoing_30 rfl f_1_47 rfl (fun h => by cases h) hc.1 ?_
  refine x_vret dX1_beginDoing_33 rfl ?_
  exact ⟨rfl, rfl⟩
theorem c_noteRead (d : Nat) {G : Hp} {a : Nat} (hc : CO G a) {i v m : Int} (hm : iv G a 6 = m) (i0 : 0 ≤ i) (i1 : i < 8) : CX (d + 1) 11 [.inr (.inr (some a)), .inl i, .inl v] G (fun r G1 => r = none ∧ G1 = si (si G a 6 (bor m (bit i))) (a + 1) i v) := by
  refine CX.of (d := d + 0) m_X1_noteRead (Nat.le_of_ble_eq_true rfl) ?_
  refine Ex.lcl (ls' := [some (.inr (.inr (some a))), some (.inl i), some (.inl v)]) rfl ?_
  refine x_iload_n (q := 1) dX1_noteRead_0 rfl rfl ?_
  refine x_if_lt (q := 4) (t := 29) dX1_noteRead_1 rfl (by decide) (fun h1 => by exfalso; omega) (fun h1 => ?_)
  refine x_iload_n (q := 5) dX1_noteRead_4 rfl rfl ?_
  refine x_bipush (q := 7) dX1_noteRead_5 rfl (by decide) ?_
  refine x_icmp_ge (q := 10) (t := 29) dX1_noteRead_7 rfl (by decide) (fun h7 => by exfalso; omega) (fun h7 => ?_)
  refine x_aload_n (q := 11) dX1_noteRead_10 rfl rfl ?_
  refine x_dup (q := 12) dX1_noteRead_11 rfl rfl ?_
  refine x_getI (q := 15) dX1_noteRead_12 rfl f_1_41 rfl hc.1 ?_
  refine Ex.stk (st' := [.inl m, .inr (.inr (some a))]) (by rw [show iv G a 6 = m from hm]) ?_
  refine x_iconst (q := 16) dX1_noteRead_15 rfl (by decide) ?_
  refine x_iload_n (q := 17) dX1_noteRead_16 rfl rfl ?_
  refine x_ishl (q := 18) (z := bit i) dX1_noteRead_17 rfl rfl ?_
  refine x_ior (q := 19) (z := bor m (bit i)) dX1_noteRead_18 rfl rfl ?_
  refine x_putI (q := 22) dX1_noteRead_19 rfl f_1_41 rfl (fun h => by cases h) (fun h => by cases h) hc.1 ?_
  refine x_aload_n (q := 23) dX1_noteRead_22 rfl rfl ?_
  refine x_getR (q := 26) dX1_noteRead_23 rfl f_1_9 rfl hc.1 ?_
  refine Ex.stk (st' := [.inr (.inr (some (a + 1)))]) (by rw [show rv (si G a 6 (bor m (bit i))) a 7 = some (a + 1) from (by first | exact hc.2.1 | simp [rv_sr, rv_si, rv_nw, hc.2.1])]) ?_
  refine x_iload_n (q := 27) dX1_noteRead_26 rfl rfl ?_
  refine x_iload_n (q := 28) dX1_noteRead_27 rfl rfl ?_
  refine x_iastore (q := 29) dX1_noteRead_28 rfl hc.2.2.1 (by omega) (by rw [show ln (si G a 6 (bor m (bit i))) (a + 1) = 8 from hc.2.2.2]; omega) ?_
  refine x_vret dX1_noteRead_29 rfl ?_
  exact ⟨rfl, rfl⟩
theorem c_addPart1 (d : Nat) {G : Hp} {a : Nat} (hc : CO G a) {b l : Nat} (hb : tg G b = 1) (hll : tg G l = 1) (hl : rv G a 9 = some l) (hab : a ≠ b) : CX (d + 1) 9 [.inr (.inr (some a)), .inr (.inr (some b))] G (fun r G1 => r = none ∧ G1 = sr (sr (sr G b 10 none) l 10 (some b)) a 9 (some b)) := by
  refine CX.of (d := d + 0) m_X1_addPart (Nat.le_of_ble_eq_true rfl) ?_
  refine Ex.lcl (ls' := [some (.inr (.inr (some a))), some (.inr (.inr (some b)))]) rfl ?_
  refine x_aload_n (q := 1) dX1_addPart_0 rfl rfl ?_
  refine x_aconst_null (q := 2) dX1_addPart_1 rfl ?_
  refine x_putR (q := 5) dX1_addPart_2 rfl f_1_50 rfl (fun h => by cases h) hb ?_
  refine x_aload_n (q := 6) dX1_addPart_5 rfl rfl ?_
  refine x_getR (q := 9) dX1_addPart_6 rfl f_1_47 rfl hc.1 ?_
  refine Ex.stk (st' := [.inr (.inr (some l))]) (by rw [show rv (sr G b 10 none) a 9 = some l from (by rw [rv_sr, if_neg (fun q => hab q.1)]; exact hl)]) ?_
  refine x_ifnonnull (q := 12) (t := 20) dX1_addPart_9 rfl (by decide) (fun a9 h9 => ?_) (fun h9 => by exfalso; cases h9)
  refine x_aload_n (q := 21) dX1_addPart_20 rfl rfl ?_
  refine x_getR (q := 24) dX1_addPart_21 rfl f_1_47 rfl hc.1 ?_
  refine Ex.stk (st' := [.inr (.inr (some l))]) (by rw [show rv (sr G b 10 none) a 9 = some l from (by rw [rv_sr, if_neg (fun q => hab q.1)]; exact hl)]) ?_
  refine x_aload_n (q := 25) dX1_addPart_24 rfl rfl ?_
  refine x_putR (q := 28) dX1_addPart_25 rfl f_1_50 rfl (fun h => by cases h) hll ?_
  refine x_aload_n (q := 29) dX1_addPart_28 rfl rfl ?_
  refine x_aload_n (q := 30) dX1_addPart_29 rfl rfl ?_
  refine x_putR (q := 33) dX1_addPart_30 rfl f_1_47 rfl (fun h => by cases h) hc.1 ?_
  refine x_vret dX1_addPart_33 rfl ?_
  exact ⟨rfl, rfl⟩
theorem c_addPart0 (d : Nat) {G : Hp} {a : Nat} (hc : CO G a) {b : Nat} (hb : tg G b = 1) (hl : rv G a 9 = none) (hab : a ≠ b) : CX (d + 1) 9 [.inr (.inr (some a)), .inr (.inr (some b))] G (fun r G1 => r = none ∧ G1 = sr (sr (sr G b 10 none) a 8 (some b)) a 9 (some b)) := by
  refine CX.of (d := d + 0) m_X1_addPart (Nat.le_of_ble_eq_true rfl) ?_
  refine Ex.lcl (ls' := [some (.inr (.inr (some a))), some (.inr (.inr (some b)))]) rfl ?_
  refine x_aload_n (q := 1) dX1_addPart_0 rfl rfl ?_
  refine x_aconst_null (q := 2) dX1_addPart_1 rfl ?_
  refine x_putR (q := 5) dX1_addPart_2 rfl f_1_50 rfl (fun h => by cases h) hb ?_
  refine x_aload_n (q := 6) dX1_addPart_5 rfl rfl ?_
  refine x_getR (q := 9) dX1_addPart_6 rfl f_1_47 rfl hc.1 ?_
  refine Ex.stk (st' := [.inr (.inr none)]) (by rw [show rv (sr G b 10 none) a 9 = none from (by rw [rv_sr, if_neg (fun q => hab q.1)]; exact hl)]) ?_
  refine x_ifnonnull (q := 12) (t := 20) dX1_addPart_9 rfl (by decide) (fun a9 h9 => by exfalso; cases h9) (fun h9 => ?_)
  refine x_aload_n (q := 13) dX1_addPart_12 rfl rfl ?_
  refine x_aload_n (q := 14) dX1_addPart_13 rfl rfl ?_
  refine x_putR (q := 17) dX1_addPart_14 rfl f_1_34 rfl (fun h => by cases h) hc.1 ?_
  refine x_goto (t := 28) dX1_addPart_17 (by decide) ?_
  refine x_aload_n (q := 29) dX1_addPart_28 rfl rfl ?_
  refine x_aload_n (q := 30) dX1_addPart_29 rfl rfl ?_
  refine x_putR (q := 33) dX1_addPart_30 rfl f_1_47 rfl (fun h => by cases h) hc.1 ?_
  refine x_vret dX1_addPart_33 rfl ?_
  exact ⟨rfl, rfl⟩
theorem isOldC_loop {d : Nat} {G : Hp} {Q : Option V → Hp → Prop} {a : Nat} (hc : CO G a) (h16 : tg G 16 = 20) (hl16 : ln G 16 = 8) (k1 : (∃ j, 0 ≤ j ∧ j < 8 ∧ rb (iv G a 6) j = 1 ∧ iv G (a + 1) j ≠ iv G 16 j) → Q (some (.inl 1)) G) (k0 : (¬ ∃ j, 0 ≤ j ∧ j < 8 ∧ rb (iv G a 6) j = 1 ∧ iv G (a + 1) j ≠ iv G 16 j) → Q (some (.inl 0)) G) : ∀ (n : Nat) (i : Int), 0 ≤ i → i + (n : Int) = 8 → (¬ ∃ j, 0 ≤ j ∧ j < i ∧ rb (iv G a 6) j = 1 ∧ iv G (a + 1) j ≠ iv G 16 j) → Ex (d) (some .boolean) 1 false cX1_isOld 10 [some (.inr (.inr (some a))), some (.inr (.inr (some 16))), some (.inl 8), some (.inl i)] [] G Q := by
  intro n
  induction n with
  | zero =>
    intro i i0 i1 hno
    have hi : i = 8 := by omega
    subst hi
    refine x_iload_n (q := 11) dX1_isOld_10 rfl rfl ?_
    refine x_iload_n (q := 12) dX1_isOld_11 rfl rfl ?_
    refine x_icmp_ge (q := 15) (t := 46) dX1_isOld_12 rfl (by decide) (fun h12 => ?_) (fun h12 => by exfalso; omega)
    refine x_iconst (q := 47) dX1_isOld_46 rfl (by decide) ?_
    refine x_zret dX1_isOld_47 rfl (by decide) ?_
    exact k0 hno
  | succ n ih =>
    intro i i0 i1 hno
    have hrb := rb01 (iv G a 6) i
    refine x_iload_n (q := 11) dX1_isOld_10 rfl rfl ?_
    refine x_iload_n (q := 12) dX1_isOld_11 rfl rfl ?_
    refine x_icmp_ge (q := 15) (t := 46) dX1_isOld_12 rfl (by decide) (fun h12 => by exfalso; omega) (fun h12 => ?_)
    refine x_aload_n (q := 16) dX1_isOld_15 rfl rfl ?_
    refine x_getI (q := 19) dX1_isOld_16 rfl f_1_41 rfl hc.1 ?_
    refine x_iload_n (q := 20) dX1_isOld_19 rfl rfl ?_
    refine x_ishr (q := 21) (z := (Int32.ofInt (iv G a 6) >>> (Int32.ofInt i &&& 31)).toInt) dX1_isOld_20 rfl rfl ?_
    refine x_iconst (q := 22) dX1_isOld_21 rfl (by decide) ?_
    refine x_iand (q := 23) (z := rb (iv G a 6) i) dX1_isOld_22 rfl rfl ?_
    refine x_if_eq (q := 26) (t := 40) dX1_isOld_23 rfl (by decide) (fun h23 => ?_) (fun h23 => ?_)
    · refine x_iinc (q := 43) (ls' := [some (.inr (.inr (some a))), some (.inr (.inr (some 16))), some (.inl 8), some (.inl (i + 1))]) dX1_isOld_40 rfl rfl (by first | rfl | exact hnl | exact hnl2 _) (by rw [show wr (i + 1) = i + 1 from (wr_id ⟨by omega, by omega⟩)]; rfl) ?_
      refine x_goto (t := 10) dX1_isOld_43 (by decide) ?_
      refine ih (i + 1) (by omega) (by omega) ?_
      rintro ⟨j, j0, j1, j2, j3⟩
      by_cases hj : j = i
      · subst hj; first | omega | exact j3 h35
      · exact hno ⟨j, j0, by omega, j2, j3⟩
    · refine x_aload_n (q := 27) dX1_isOld_26 rfl rfl ?_
      refine x_getR (q := 30) dX1_isOld_27 rfl f_1_9 rfl hc.1 ?_
      refine Ex.stk (st' := [.inr (.inr (some (a + 1)))]) (by rw [show rv G a 7 = some (a + 1) from (by first | exact hc.2.1 | simp [rv_sr, rv_si, rv_nw, hc.2.1])]) ?_
      refine x_iload_n (q := 31) dX1_isOld_30 rfl rfl ?_
      refine x_iaload (q := 32) dX1_isOld_31 rfl (Or.inl hc.2.2.1) (by omega) (by rw [show ln G (a + 1) = 8 from hc.2.2.2]; omega) ?_
      refine x_aload_n (q := 33) dX1_isOld_32 rfl rfl ?_
      refine x_iload_n (q := 34) dX1_isOld_33 rfl rfl ?_
      refine x_iaload (q := 35) dX1_isOld_34 rfl (Or.inl h16) (by omega) (by rw [show ln G 16 = 8 from hl16]; omega) ?_
      refine x_icmp_eq (q := 38) (t := 40) dX1_isOld_35 rfl (by decide) (fun h35 => ?_) (fun h35 => ?_)
      · refine x_iinc (q := 43) (ls' := [some (.inr (.inr (some a))), some (.inr (.inr (some 16))), some (.inl 8), some (.inl (i + 1))]) dX1_isOld_40 rfl rfl (by first | rfl | exact hnl | exact hnl2 _) (by rw [show wr (i + 1) = i + 1 from (wr_id ⟨by omega, by omega⟩)]; rfl) ?_
        refine x_goto (t := 10) dX1_isOld_43 (by decide) ?_
        refine ih (i + 1) (by omega) (by omega) ?_
        rintro ⟨j, j0, j1, j2, j3⟩
        by_cases hj : j = i
        · subst hj; first | omega | exact j3 h35
        · exact hno ⟨j, j0, by omega, j2, j3⟩
      · refine x_iconst (q := 39) dX1_isOld_38 rfl (by decide) ?_
        refine x_zret dX1_isOld_39 rfl (by decide) ?_
        exact k1 ⟨i, i0, by omega, by omega, h35⟩
theorem c_isOldC (d : Nat) {G : Hp} {a : Nat} (hc : CO G a) (h16 : tg G 16 = 20) (hl16 : ln G 16 = 8) : CX (d + 2) 13 [.inr (.inr (some a)), .inr (.inr (some 16))] G (fun r G1 => G1 = G ∧ ∃ z, r = some (.inl z) ∧ (z = 0 ∨ z = 1) ∧ (z = 1 ↔ isOldN (iv G (a + 1)) (iv G 16) (iv G a 6) = true)) := by
  refine CX.of (d := d + 1) m_X1_isOld (Nat.le_of_ble_eq_true rfl) ?_
  refine Ex.lcl (ls' := [some (.inr (.inr (some a))), some (.inr (.inr (some 16))), none, none]) rfl ?_
  refine x_aload_n (q := 1) dX1_isOld_0 rfl rfl ?_
  refine x_arraylength (q := 2) dX1_isOld_1 rfl (Or.inl h16) ?_
  refine Ex.stk (st' := [.inl 8]) (by rw [hl16]) ?_
  refine x_bipush (q := 4) dX1_isOld_2 rfl (by decide) ?_
  refine x_invS (q := 7) (as := [.inl 8, .inl 8]) (rest := []) dX1_isOld_4 rfl l_1_57 m_J9_min_7cf53 rfl rfl (Nat.le_of_ble_eq_true rfl) (Nat.le_of_ble_eq_true rfl) (c_min _) (fun r1 G1 hR => ?_)
  obtain ⟨hG1, rfl⟩ := hR
  replace hG1 := hG1.symm
  subst hG1
  refine Ex.stk (st' := [.inl 8]) rfl ?_
  refine x_istore_n (q := 8) (ls' := [some (.inr (.inr (some a))), some (.inr (.inr (some 16))), some (.inl 8), none]) dX1_isOld_7 rfl (Nat.le_of_ble_eq_true rfl) (by first | rfl | exact hnl | exact hnl2 _) rfl ?_
  refine x_iconst (q := 9) dX1_isOld_8 rfl (by decide) ?_
  refine x_istore_n (q := 10) (ls' := [some (.inr (.inr (some a))), some (.inr (.inr (some 16))), some (.inl 8), some (.inl 0)]) dX1_isOld_9 rfl (Nat.le_of_ble_eq_true rfl) (by first | rfl | exact hnl | exact hnl2 _) rfl ?_
  exact isOldC_loop hc h16 hl16 (fun h => ⟨rfl, 1, rfl, Or.inr rfl, fun _ => isOldN_iff.mpr h, fun _ => rfl⟩) (fun h => ⟨rfl, 0, rfl, Or.inl rfl, (fun q => absurd q (by decide)), fun q => absurd (isOldN_iff.mp q) h⟩) 8 0 (by decide) (by decide) (fun ⟨j, j0, j1, _⟩ => by omega)
/-- the first of a function and argument -/
def fsF (G : Hp) (f x : Int) : List Nat → Option Nat
  | [] => none
  | b :: l => if iv G b 0 = f ∧ iv G b 1 = x then some b else fsF G f x l
theorem fsf_loop {d : Nat} {G : Hp} {Q : Option V → Hp → Prop} {a : Nat} {f x : Int} : ∀ (l : List Nat) (r : Option Nat), Chn G r l → (∀ b ∈ l, CO G b) → Q (some (.inr (.inr (fsF G f x l)))) G → Ex (d + 1) (some (.object "TakenUpCalls$Call")) 1 false cX1_firstSoFar 5 [some (.inr (.inr (some a))), some (.inl f), some (.inl x), some (.inr (.inr r))] [] G Q := by
  intro l
  induction l with
  | nil =>
    intro r h hall kk
    have hr : r = none := h
    subst hr
    refine x_aload_n (q := 6) dX1_firstSoFar_5 rfl rfl ?_
    refine x_ifnull (q := 9) (t := 28) dX1_firstSoFar_6 rfl (by decide) (fun h6 => ?_) (fun a6 h6 => by exfalso; cases h6)
    refine x_aconst_null (q := 29) dX1_firstSoFar_28 rfl ?_
    refine x_aret dX1_firstSoFar_29 rfl ?_
    exact kk
  | cons b l ih =>
    intro r h hall kk
    obtain ⟨rfl, h2⟩ := h
    simp only [fsF] at kk
    refine x_aload_n (q := 6) dX1_firstSoFar_5 rfl rfl ?_
    refine x_ifnull (q := 9) (t := 28) dX1_firstSoFar_6 rfl (by decide) (fun h6 => by exfalso; cases h6) (fun a6 h6 => ?_)
    refine x_aload_n (q := 10) dX1_firstSoFar_9 rfl rfl ?_
    refine x_iload_n (q := 11) dX1_firstSoFar_10 rfl rfl ?_
    refine x_iload_n (q := 12) dX1_firstSoFar_11 rfl rfl ?_
    refine x_invV (q := 15) (as := [.inr (.inr (some b)), .inl f, .inl x]) (rest := []) dX1_firstSoFar_12 rfl l_1_53 m_X1_isOf rfl rfl (hall b (List.mem_cons_self ..)).1 (Nat.le_of_ble_eq_true rfl) (c_isOf _ (hall b (List.mem_cons_self ..)) rfl rfl) (fun r1 G1 hR => ?_)
    obtain ⟨hG1, z12, rfl, z12a, z12b⟩ := hR
    replace hG1 := hG1.symm
    subst hG1
    refine Ex.stk (st' := [.inl z12]) rfl ?_
    refine x_if_eq (q := 18) (t := 20) dX1_firstSoFar_15 rfl (by decide) (fun h15 => ?_) (fun h15 => ?_)
    · refine x_aload_n (q := 21) dX1_firstSoFar_20 rfl rfl ?_
      refine x_getR (q := 24) dX1_firstSoFar_21 rfl f_1_50 rfl (hall b (List.mem_cons_self ..)).1 ?_
      refine x_astore_n (q := 25) (ls' := [some (.inr (.inr (some a))), some (.inl f), some (.inl x), some (.inr (.inr (rv G b 10)))]) dX1_firstSoFar_24 rfl (Nat.le_of_ble_eq_true rfl) (by first | rfl | exact hnl | exact hnl2 _) rfl ?_
      refine x_goto (t := 5) dX1_firstSoFar_25 (by decide) ?_
      rw [if_neg (fun q => by have := z12b.mpr q; omega)] at kk
      exact ih _ h2 (fun b hb => hall b (List.mem_cons_of_mem _ hb)) kk
    · refine x_aload_n (q := 19) dX1_firstSoFar_18 rfl rfl ?_
      refine x_aret dX1_firstSoFar_19 rfl ?_
      rw [if_pos (z12b.mp (by omega))] at kk; exact kk
theorem c_firstSoFar (d : Nat) {G : Hp} {a : Nat} (hc : CO G a) {f x : Int} {l : List Nat} (hch : Chn G (rv G a 11) l) (hall : ∀ b ∈ l, CO G b) : CX (d + 2) 10 [.inr (.inr (some a)), .inl f, .inl x] G (fun r G1 => G1 = G ∧ r = some (.inr (.inr (fsF G f x l)))) := by
  refine CX.of (d := d + 1) m_X1_firstSoFar (Nat.le_of_ble_eq_true rfl) ?_
  refine Ex.lcl (ls' := [some (.inr (.inr (some a))), some (.inl f), some (.inl x), none]) rfl ?_
  refine x_aload_n (q := 1) dX1_firstSoFar_0 rfl rfl ?_
  refine x_getR (q := 4) dX1_firstSoFar_1 rfl f_1_44 rfl hc.1 ?_
  refine x_astore_n (q := 5) (ls' := [some (.inr (.inr (some a))), some (.inl f), some (.inl x), some (.inr (.inr (rv G a 11)))]) dX1_firstSoFar_4 rfl (Nat.le_of_ble_eq_true rfl) (by first | rfl | exact hnl | exact hnl2 _) rfl ?_
  exact fsf_loop l _ hch hall ⟨rfl, rfl⟩
theorem c_take1 (d : Nat) {G : Hp} (h28 : tg G 28 = 4) {a : Nat} (hf : rv G 28 0 = some a) (ha : tg G a = 1) : CX (d + 2) 44 [.inr (.inr (some 28))] G (fun r G1 => r = some (.inr (.inr (some a))) ∧ G1 = sr (sr G 28 0 (rv G a 10)) a 10 none) := by
  refine CX.of (d := d + 1) m_X4_take (Nat.le_of_ble_eq_true rfl) ?_
  refine Ex.lcl (ls' := [some (.inr (.inr (some 28))), none]) rfl ?_
  refine x_aload_n (q := 1) dX4_take_0 rfl rfl ?_
  refine x_getR (q := 4) dX4_take_1 rfl f_4_7 rfl h28 ?_
  refine Ex.stk (st' := [.inr (.inr (some a))]) (by rw [show rv G 28 0 = some a from (by first | exact hf | simp [rv_sr, rv_si, rv_nw, hf])]) ?_
  refine x_astore_n (q := 5) (ls' := [some (.inr (.inr (some 28))), some (.inr (.inr (some a)))]) dX4_take_4 rfl (Nat.le_of_ble_eq_true rfl) (by first | rfl | exact hnl | exact hnl2 _) rfl ?_
  refine x_aload_n (q := 6) dX4_take_5 rfl rfl ?_
  refine x_ifnonnull (q := 9) (t := 17) dX4_take_6 rfl (by decide) (fun a6 h6 => ?_) (fun h6 => by exfalso; cases h6)
  refine x_aload_n (q := 18) dX4_take_17 rfl rfl ?_
  refine x_aload_n (q := 19) dX4_take_18 rfl rfl ?_
  refine x_getR (q := 22) dX4_take_19 rfl f_4_16 rfl ha ?_
  refine x_putR (q := 25) dX4_take_22 rfl f_4_7 rfl (fun h => by cases h) h28 ?_
  refine x_aload_n (q := 26) dX4_take_25 rfl rfl ?_
  refine x_aconst_null (q := 27) dX4_take_26 rfl ?_
  refine x_putR (q := 30) dX4_take_27 rfl f_4_16 rfl (fun h => by cases h) ha ?_
  refine x_aload_n (q := 31) dX4_take_30 rfl rfl ?_
  refine x_aret dX4_take_31 rfl ?_
  exact ⟨rfl, rfl⟩
theorem c_cinit (d : Nat) {G : Hp} {a : Nat} (ha : tg G a = 1) (hz : sz G = a) : CX (d + 1) 6 [.inr (.inr (some a))] G (fun r G1 => r = none ∧ G1 = sr (nw G 20 8 (8 : Int).toNat) a 7 (some (a + 1))) := by
  refine CX.of (d := d + 0) m_X1_init (Nat.le_of_ble_eq_true rfl) ?_
  refine Ex.lcl (ls' := [some (.inr (.inr (some a)))]) rfl ?_
  refine x_aload_n (q := 1) dX1_init_0 rfl rfl ?_
  refine x_objI (q := 4) dX1_init_1 rfl l_1_3 (Nat.le_of_ble_eq_true rfl) ?_
  refine x_aload_n (q := 5) dX1_init_4 rfl rfl ?_
  refine x_bipush (q := 7) dX1_init_5 rfl (by decide) ?_
  refine x_newarray (q := 9) dX1_init_7 rfl (by decide) ?_
  refine x_putR (q := 12) dX1_init_9 rfl f_1_9 rfl (fun _ => ⟨rfl, rfl⟩) (by rw [tg_nw, if_neg (by omega)]; exact ha) ?_
  refine x_vret dX1_init_12 rfl ?_
  exact ⟨rfl, by rw [hz]⟩
theorem c_take0 (d : Nat) {G : Hp} (h28 : tg G 28 = 4) (hf : rv G 28 0 = none) : CX (d + 2) 44 [.inr (.inr (some 28))] G (fun r G1 => r = some (.inr (.inr (some (sz G + 1)))) ∧ G1 = sr (nw (nw G 1 0 (cN 1)) 20 8 (8 : Int).toNat) (sz G + 1) 7 (some (sz G + 1 + 1))) := by
  refine CX.of (d := d + 1) m_X4_take (Nat.le_of_ble_eq_true rfl) ?_
  refine Ex.lcl (ls' := [some (.inr (.inr (some 28))), none]) rfl ?_
  refine x_aload_n (q := 1) dX4_take_0 rfl rfl ?_
  refine x_getR (q := 4) dX4_take_1 rfl f_4_7 rfl h28 ?_
  refine Ex.stk (st' := [.inr (.inr none)]) (by rw [show rv G 28 0 = none from (by first | exact hf | simp [rv_sr, rv_si, rv_nw, hf])]) ?_
  refine x_astore_n (q := 5) (ls' := [some (.inr (.inr (some 28))), some (.inr (.inr none))]) dX4_take_4 rfl (Nat.le_of_ble_eq_true rfl) (by first | rfl | exact hnl | exact hnl2 _) rfl ?_
  refine x_aload_n (q := 6) dX4_take_5 rfl rfl ?_
  refine x_ifnonnull (q := 9) (t := 17) dX4_take_6 rfl (by decide) (fun a6 h6 => by exfalso; cases h6) (fun h6 => ?_)
  refine x_new (q := 12) dX4_take_9 rfl n_4_13 ?_
  refine x_dup (q := 13) dX4_take_12 rfl rfl ?_
  refine x_invI (q := 16) (as := [.inr (.inr (some (sz G + 1)))]) (rest := [.inr (.inr (some (sz G + 1)))]) dX4_take_13 rfl l_4_15 m_X1_init rfl rfl (Nat.le_of_ble_eq_true rfl) (c_cinit _ (a := sz G + 1) (by rw [tg_nw, if_pos rfl]) rfl) (fun r1 G1 hR => ?_)
  obtain ⟨rfl, rfl⟩ := hR
  refine Ex.stk (st' := [.inr (.inr (some (sz G + 1)))]) rfl ?_
  refine x_aret dX4_take_16 rfl ?_
  exact ⟨rfl, rfl⟩
theorem c_giveBack (d : Nat) {G : Hp} (h28 : tg G 28 = 4) {a : Nat} (ha : tg G a = 1) (hne : ¬ 28 = a) : CX (d + 1) 45 [.inr (.inr (some 28)), .inr (.inr (some a))] G (fun r G1 => r = none ∧ G1 = sr (sr (sr (sr G a 8 none) a 11 none) a 10 (rv G 28 0)) 28 0 (some a)) := by
  refine CX.of (d := d + 0) m_X4_giveBack (Nat.le_of_ble_eq_true rfl) ?_
  refine Ex.lcl (ls' := [some (.inr (.inr (some 28))), some (.inr (.inr (some a)))]) rfl ?_
  refine x_aload_n (q := 1) dX4_giveBack_0 rfl rfl ?_
  refine x_aconst_null (q := 2) dX4_giveBack_1 rfl ?_
  refine x_putR (q := 5) dX4_giveBack_2 rfl f_4_19 rfl (fun h => by cases h) ha ?_
  refine x_aload_n (q := 6) dX4_giveBack_5 rfl rfl ?_
  refine x_aconst_null (q := 7) dX4_giveBack_6 rfl ?_
  refine x_putR (q := 10) dX4_giveBack_7 rfl f_4_22 rfl (fun h => by cases h) ha ?_
  refine x_aload_n (q := 11) dX4_giveBack_10 rfl rfl ?_
  refine x_aload_n (q := 12) dX4_giveBack_11 rfl rfl ?_
  refine x_getR (q := 15) dX4_giveBack_12 rfl f_4_7 rfl h28 ?_
  refine Ex.stk (st' := [.inr (.inr (rv G 28 0)), .inr (.inr (some a))]) (by rw [show rv (sr (sr G a 8 none) a 11 none) 28 0 = rv G 28 0 from (by simp [rv_sr, hne])]) ?_
  refine x_putR (q := 18) dX4_giveBack_15 rfl f_4_16 rfl (fun h => by cases h) ha ?_
  refine x_aload_n (q := 19) dX4_giveBack_18 rfl rfl ?_
  refine x_aload_n (q := 20) dX4_giveBack_19 rfl rfl ?_
  refine x_putR (q := 23) dX4_giveBack_20 rfl f_4_7 rfl (fun h => by cases h) h28 ?_
  refine x_vret dX4_giveBack_23 rfl ?_
  exact ⟨rfl, rfl⟩
