/-! DEEDS: what calls answer and leave, as pure functions; THE MODEL does them -/
def RowOk (m : Int) (r : Int → Int) : Prop := Cok r ∧ 0 ≤ r 8 ∧ r 8 < m ∧ 0 ≤ r 9 ∧ r 9 ≤ 996
def o_feed (l : Int) (s : Sg) : Int × Sg := if 0 ≤ l ∧ l ≤ 255 then (if s.1.2.1 = 160 then (-1000000004, s) else (s.1.2.1 + 1, (upi s.1.1 s.1.2.1 l, s.1.2.1 + 1, s.1.2.2), s.2)) else (-1000000002, s)
def o_cell (i : Int) (s : Sg) : Int := if 0 ≤ i ∧ i ≤ 7 then s.2.2.1.1 i else -1000000001
def o_tear (s : Sg) : Int × Sg := ((s.2.2.2.1.length : Int), s.1, s.2.1, s.2.2.1, [], s.2.2.2.2)
def o_seed (v : Int) (s : Sg) : Int × Sg := if v < 0 then (-1000000002, s) else (s.2.2.1.2.2.2, s.1, s.2.1, (s.2.2.1.1, s.2.2.1.2.1, s.2.2.1.2.2.1, v), s.2.2.2)
def o_write (f x v : Int) (s : Sg) : Int × Sg := if 0 ≤ f ∧ f < s.2.1.2.2 then (if 0 ≤ x ∧ x ≤ 996 then (if s.2.2.2.1.length = 20 then (-1000000004, s) else ((s.2.2.2.1.length : Int) + 1, s.1, s.2.1, s.2.2.1, s.2.2.2.1 ++ [(f, x, v)], s.2.2.2.2)) else (-1000000002, s)) else (-1000000001, s)
def remR (r : Rw) (n : Int → Int) : Rw := (n, (r.1 :: r.2.1).take 16, r.2.2)
def o_set (i v : Int) (s : Sg) : Int × Sg := if 0 ≤ i ∧ i ≤ 7 then (if 0 ≤ v ∧ v ≤ 996 then (s.2.2.1.1 i, s.1, s.2.1, remR s.2.2.1 (upi s.2.2.1.1 i v), s.2.2.2) else (-1000000002, s)) else (-1000000001, s)
def o_aim (f x : Int) (s : Sg) : Int × Sg := if 0 ≤ f ∧ f < s.2.1.2.2 then (if 0 ≤ x ∧ x ≤ 996 then ((if s.2.2.1.1 8 = f ∧ s.2.2.1.1 9 = x then 0 else 1), s.1, s.2.1, remR s.2.2.1 (upi (upi s.2.2.1.1 8 f) 9 x), s.2.2.2) else (-1000000002, s)) else (-1000000001, s)
def drw (z : Int) : Int := (z * 1103515245 + 12345) % 2147483648
def dr1 (r : Rw) : Rw := (upi r.1 (drw r.2.2.2 / 65536 % 8) (drw (drw r.2.2.2) / 65536 % 10), (r.1 :: r.2.1).take 16, r.2.2.1, drw (drw r.2.2.2))
def drN : Nat → Rw → Rw
  | 0, r => r
  | n + 1, r => drN n (dr1 r)
def o_drift (n : Int) (s : Sg) : Int × Sg := if 1 ≤ n ∧ n ≤ 12 then ((drN n.toNat s.2.2.1).2.2.2, s.1, s.2.1, drN n.toNat s.2.2.1, s.2.2.2) else (-1000000002, s)
def rowAt (r : Rw) (n : Nat) : Int → Int := match (r.1 :: r.2.1)[n]? with
  | some q => q
  | none => r.1
def o_undo (n : Int) (s : Sg) : Int × Sg := if 1 ≤ n ∧ n ≤ 16 then (if (s.2.2.1.2.1.length : Int) < n then (-1000000003, s) else ((s.2.2.1.2.1.length : Int) - n, s.1, s.2.1, (rowAt s.2.2.1 n.toNat, s.2.2.1.2.1.drop n.toNat, s.2.2.1.2.2), s.2.2.2)) else (-1000000002, s)
def o_keep (i : Int) (s : Sg) : Int × Sg := if 0 ≤ i ∧ i ≤ 1 then (1, s.1, s.2.1, (s.2.2.1.1, [], (fun j => if j = i then some (s.2.2.1.1, s.2.2.1.2.2.2) else s.2.2.1.2.2.1 j), s.2.2.1.2.2.2), s.2.2.2) else (-1000000001, s)
def o_goBack (i : Int) (s : Sg) : Int × Sg := if 0 ≤ i ∧ i ≤ 1 then (match s.2.2.1.2.2.1 i with
  | none => (-1000000003, s)
  | some q => if q.1 8 < s.2.1.2.2 then (1, s.1, s.2.1, (q.1, [], s.2.2.1.2.2.1, q.2), s.2.2.2) else (-1000000003, s)) else (-1000000001, s)
theorem iv_cp36 (G : Hp) (f t n : Int) (c : Nat) (j : Int) : iv (cp G 36 f 36 t n) c j = if c = 36 ∧ t ≤ j ∧ j < t + n then iv G 36 (f + (j - t)) else iv G c j := rfl
theorem Mo.cp36 {G G' : Hp} (h : Mo G G') (f t n : Int) : Mo G (cp G' 36 f 36 t n) := ⟨h.1, fun b j hb => by rw [iv_cp36, if_neg (by omega)]; exact h.2 b j hb⟩
theorem hp_ext {G G' : Hp} (h1 : Io G G') (h2 : ∀ a k, iv G' a k = iv G a k) : G' = G := by
  obtain ⟨t, l, i, r, s, z⟩ := G
  obtain ⟨t', l', i', r', s', z'⟩ := G'
  obtain ⟨e1, e2, e3, e4, e5⟩ := h1
  have a1 : t' = t := funext e1
  have a2 : l' = l := funext e2
  have a3 : r' = r := funext (fun a => funext (fun k => e3 a k))
  have a4 : i' = i := funext (fun a => funext (fun k => h2 a k))
  have a5 : s' = s := e4
  have a6 : z' = z := e5
  subst a1 a2 a3 a4 a5 a6
  rfl
theorem cp36_0 (G : Hp) (f t : Int) : cp G 36 f 36 t 0 = G := hp_ext (Io.rf G) (fun a k => by rw [iv_cp36, if_neg (by omega)])
theorem cp36_1 (G : Hp) {f t i : Int} (h : i < 10) (hd : f + 10 ≤ t ∨ t + 10 ≤ f ∨ t ≤ f) (i0 : 0 ≤ i) : si (cp G 36 f 36 t i) 36 (t + i) (iv (cp G 36 f 36 t i) 36 (f + i)) = cp G 36 f 36 t (i + 1) := hp_ext (G := cp G 36 f 36 t (i + 1)) (Io.rf G) (fun a k => by
  rw [iv_si, iv_cp36, iv_cp36, iv_cp36]
  by_cases hc : a = 36 ∧ k = t + i
  · rw [if_pos hc, if_neg (by omega), if_pos (by omega), show f + (k - t) = f + i from by omega]
  · rw [if_neg hc]
    by_cases h2 : a = 36 ∧ t ≤ k ∧ k < t + i
    · rw [if_pos h2, if_pos (by omega)]
    · rw [if_neg h2, if_neg (by omega)])
theorem copy_loop {d : Nat} {G : Hp} {Q : Option V → Hp → Prop} (hF : FM G) {f t : Int} (f0 : 0 ≤ f) (f1 : f + 10 ≤ 190) (t0 : 0 ≤ t) (t1 : t + 10 ≤ 190) (hd : f + 10 ≤ t ∨ t + 10 ≤ f ∨ t ≤ f) (kk : Q none (cp G 36 f 36 t 10)) : ∀ (n : Nat) (i : Int), 0 ≤ i → i + (n : Int) = 10 → Ex (d) none 10 false cX10_copyRow 2 [some (.inr (.inr (some 35))), some (.inl f), some (.inl t), some (.inl i)] [] (cp G 36 f 36 t i) Q := by
  intro n
  induction n with
  | zero =>
    intro i i0 i1
    have hi : i = 10 := by omega
    subst hi
    refine x_iload_n (q := 3) dX10_copyRow_2 rfl rfl ?_
    refine x_bipush (q := 5) dX10_copyRow_3 rfl (by decide) ?_
    refine x_icmp_ge (q := 8) (t := 30) dX10_copyRow_5 rfl (by decide) (fun h5 => ?_) (fun h5 => by exfalso; omega)
    refine x_vret dX10_copyRow_30 rfl ?_
    exact kk
  | succ n ih =>
    intro i i0 i1
    have hF : FM (cp G 36 f 36 t i) := hF
    refine x_iload_n (q := 3) dX10_copyRow_2 rfl rfl ?_
    refine x_bipush (q := 5) dX10_copyRow_3 rfl (by decide) ?_
    refine x_icmp_ge (q := 8) (t := 30) dX10_copyRow_5 rfl (by decide) (fun h5 => by exfalso; omega) (fun h5 => ?_)
    refine x_aload_n (q := 9) dX10_copyRow_8 rfl rfl ?_
    refine x_getR (q := 12) dX10_copyRow_9 rfl f_10_7 rfl (ft35 hF) ?_
    refine Ex.stk (st' := [.inr (.inr (some 36))]) (by rw [fr35_0 hF]) ?_
    refine x_iload_n (q := 13) dX10_copyRow_12 rfl rfl ?_
    refine x_iload_n (q := 14) dX10_copyRow_13 rfl rfl ?_
    refine x_iadd (q := 15) (z := t + i) dX10_copyRow_14 rfl (wr_id ⟨by omega, by omega⟩) ?_
    refine x_aload_n (q := 16) dX10_copyRow_15 rfl rfl ?_
    refine x_getR (q := 19) dX10_copyRow_16 rfl f_10_7 rfl (ft35 hF) ?_
    refine Ex.stk (st' := [.inr (.inr (some 36)), .inl (t + i), .inr (.inr (some 36))]) (by rw [fr35_0 hF]) ?_
    refine x_iload_n (q := 20) dX10_copyRow_19 rfl rfl ?_
    refine x_iload_n (q := 21) dX10_copyRow_20 rfl rfl ?_
    refine x_iadd (q := 22) (z := f + i) dX10_copyRow_21 rfl (wr_id ⟨by omega, by omega⟩) ?_
    refine x_iaload (q := 23) dX10_copyRow_22 rfl (Or.inl (ft36 hF)) (by omega) (by rw [fl36 hF]; omega) ?_
    refine x_iastore (q := 24) dX10_copyRow_23 rfl (ft36 hF) (by omega) (by rw [fl36 hF]; omega) ?_
    have hF := FX_si hF 36 (t + i) (iv (cp G 36 f 36 t i) 36 (f + i))
    refine x_iinc (q := 27) (ls' := [some (.inr (.inr (some 35))), some (.inl f), some (.inl t), some (.inl (i + 1))]) dX10_copyRow_24 rfl rfl (by first | rfl | exact hnl | exact hnl2 _) (by rw [show wr (i + 1) = i + 1 from (wr_id ⟨by omega, by omega⟩)]; rfl) ?_
    refine x_goto (t := 2) dX10_copyRow_27 (by decide) ?_
    rw [cp36_1 G (by omega) hd i0]
    exact ih (i + 1) (by omega) (by omega)
theorem c_copyRow (d : Nat) {G : Hp} (hF : FM G) {f t : Int} (f0 : 0 ≤ f) (f1 : f + 10 ≤ 190) (t0 : 0 ≤ t) (t1 : t + 10 ≤ 190) (hd : f + 10 ≤ t ∨ t + 10 ≤ f ∨ t ≤ f) : CX (d + 1) 111 [.inr (.inr (some 35)), .inl f, .inl t] G (fun r G1 => r = none ∧ G1 = cp G 36 f 36 t 10) := by
  refine CX.of (d := d + 0) m_X10_copyRow (Nat.le_of_ble_eq_true rfl) ?_
  refine Ex.lcl (ls' := [some (.inr (.inr (some 35))), some (.inl f), some (.inl t), none]) rfl ?_
  refine x_iconst (q := 1) dX10_copyRow_0 rfl (by decide) ?_
  refine x_istore_n (q := 2) (ls' := [some (.inr (.inr (some 35))), some (.inl f), some (.inl t), some (.inl 0)]) dX10_copyRow_1 rfl (Nat.le_of_ble_eq_true rfl) (by first | rfl | exact hnl | exact hnl2 _) rfl ?_
  refine Ex.mem (cp36_0 G f t).symm ?_
  exact copy_loop hF f0 f1 t0 t1 hd ⟨rfl, rfl⟩ 10 0 (by decide) (by decide)
theorem cp36_up (G : Hp) {j : Int} (j0 : 1 ≤ j) (j1 : j ≤ 16) : cp (cp G 36 (10 * j) 36 (10 * j + 10) (160 - 10 * j)) 36 (10 * (j - 1)) 36 (10 * j) 10 = cp G 36 (10 * (j - 1)) 36 (10 * (j - 1) + 10) (160 - 10 * (j - 1)) := hp_ext (G := cp G 36 (10 * (j - 1)) 36 (10 * (j - 1) + 10) (160 - 10 * (j - 1))) (Io.rf G) (fun a k => by
  simp only [iv_cp36]
  by_cases h1 : a = 36 ∧ 10 * j ≤ k ∧ k < 10 * j + 10
  · rw [if_pos h1, if_neg (by omega), if_pos (by omega)]; congr 1; omega
  · rw [if_neg h1]
    by_cases h2 : a = 36 ∧ 10 * j + 10 ≤ k ∧ k < 10 * j + 10 + (160 - 10 * j)
    · rw [if_pos h2, if_pos (by omega)]; congr 1; omega
    · rw [if_neg h2, if_neg (by omega)])
def remG (G : Hp) : Hp := si (cp G 36 0 36 10 160) 35 1 (if iv G 35 1 < 16 then iv G 35 1 + 1 else 16)
theorem rem_loop {d : Nat} {G : Hp} {Q : Option V → Hp → Prop} (hF : FM G) (h0 : 0 ≤ iv G 35 1) (kk : Q none (remG G)) : ∀ (n : Nat) (j : Int), j = (n : Int) → j ≤ 16 → Ex (d + 1) none 10 false cX10_remember 3 [some (.inr (.inr (some 35))), some (.inl j)] [] (cp G 36 (10 * j) 36 (10 * j + 10) (160 - 10 * j)) Q := by
  intro n
  induction n with
  | zero =>
    intro j j0 j1
    have hj : j = 0 := by omega
    subst hj
    have hF : FM (cp G 36 (10 * 0) 36 (10 * 0 + 10) (160 - 10 * 0)) := hF
    have h1 : iv (cp G 36 (10 * 0) 36 (10 * 0 + 10) (160 - 10 * 0)) 35 1 = iv G 35 1 := by rw [iv_cp36, if_neg (by omega)]
    refine x_iload_n (q := 4) dX10_remember_3 rfl rfl ?_
    refine x_if_le (q := 7) (t := 27) dX10_remember_4 rfl (by decide) (fun h4 => ?_) (fun h4 => by exfalso; omega)
    refine x_aload_n (q := 28) dX10_remember_27 rfl rfl ?_
    refine x_aload_n (q := 29) dX10_remember_28 rfl rfl ?_
    refine x_getI (q := 32) dX10_remember_29 rfl f_10_105 rfl (ft35 hF) ?_
    refine Ex.stk (st' := [.inl (iv G 35 1), .inr (.inr (some 35))]) (by rw [show iv (cp G 36 (10 * 0) 36 (10 * 0 + 10) (160 - 10 * 0)) 35 1 = iv G 35 1 from (by first | exact h1 | simp [iv_si, iv_sr, iv_nw, h1])]) ?_
    refine x_bipush (q := 34) dX10_remember_32 rfl (by decide) ?_
    refine x_icmp_ge (q := 37) (t := 46) dX10_remember_34 rfl (by decide) (fun h34 => ?_) (fun h34 => ?_)
    · refine x_bipush (q := 48) dX10_remember_46 rfl (by decide) ?_
      refine x_putI (q := 51) dX10_remember_48 rfl f_10_105 rfl (fun h => by cases h) (fun h => by cases h) (ft35 hF) ?_
      have hF := FX_si hF 35 1 16
      refine x_vret dX10_remember_51 rfl ?_
      unfold remG at kk
      first | (rw [if_pos (by omega)] at kk; exact kk) | (rw [if_neg (by omega)] at kk; exact kk)
    · refine x_aload_n (q := 38) dX10_remember_37 rfl rfl ?_
      refine x_getI (q := 41) dX10_remember_38 rfl f_10_105 rfl (ft35 hF) ?_
      refine Ex.stk (st' := [.inl (iv G 35 1), .inr (.inr (some 35))]) (by rw [show iv (cp G 36 (10 * 0) 36 (10 * 0 + 10) (160 - 10 * 0)) 35 1 = iv G 35 1 from (by first | exact h1 | simp [iv_si, iv_sr, iv_nw, h1])]) ?_
      refine x_iconst (q := 42) dX10_remember_41 rfl (by decide) ?_
      refine x_iadd (q := 43) (z := (iv G 35 1) + 1) dX10_remember_42 rfl (wr_id ⟨by omega, by omega⟩) ?_
      refine x_goto (t := 48) dX10_remember_43 (by decide) ?_
      refine x_putI (q := 51) dX10_remember_48 rfl f_10_105 rfl (fun h => by cases h) (fun h => by cases h) (ft35 hF) ?_
      have hF := FX_si hF 35 1 ((iv G 35 1) + 1)
      refine x_vret dX10_remember_51 rfl ?_
      unfold remG at kk
      first | (rw [if_pos (by omega)] at kk; exact kk) | (rw [if_neg (by omega)] at kk; exact kk)
  | succ n ih =>
    intro j j0 j1
    have hF : FM (cp G 36 (10 * j) 36 (10 * j + 10) (160 - 10 * j)) := hF
    refine x_iload_n (q := 4) dX10_remember_3 rfl rfl ?_
    refine x_if_le (q := 7) (t := 27) dX10_remember_4 rfl (by decide) (fun h4 => by exfalso; omega) (fun h4 => ?_)
    refine x_aload_n (q := 8) dX10_remember_7 rfl rfl ?_
    refine x_bipush (q := 10) dX10_remember_8 rfl (by decide) ?_
    refine x_iload_n (q := 11) dX10_remember_10 rfl rfl ?_
    refine x_iconst (q := 12) dX10_remember_11 rfl (by decide) ?_
    refine x_isub (q := 13) (z := j - 1) dX10_remember_12 rfl (wr_id ⟨by omega, by omega⟩) ?_
    refine x_imul (q := 14) (z := 10 * (j - 1)) dX10_remember_13 rfl (wr_id ⟨by omega, by omega⟩) ?_
    refine x_bipush (q := 16) dX10_remember_14 rfl (by decide) ?_
    refine x_iload_n (q := 17) dX10_remember_16 rfl rfl ?_
    refine x_imul (q := 18) (z := 10 * j) dX10_remember_17 rfl (wr_id ⟨by omega, by omega⟩) ?_
    refine x_invV (q := 21) (as := [.inr (.inr (some 35)), .inl (10 * (j - 1)), .inl (10 * j)]) (rest := []) dX10_remember_18 rfl l_10_101 m_X10_copyRow rfl rfl (ft35 hF) (Nat.le_of_ble_eq_true rfl) (c_copyRow _ hF (by omega) (by omega) (by omega) (by omega) (by omega)) (fun r1 G1 hR => ?_)
    obtain ⟨rfl, rfl⟩ := hR
    have hF : FM (cp (cp G 36 (10 * j) 36 (10 * j + 10) (160 - 10 * j)) 36 (10 * (j - 1)) 36 (10 * j) 10) := hF
    refine Ex.stk (st' := []) rfl ?_
    refine x_iinc (q := 24) (ls' := [some (.inr (.inr (some 35))), some (.inl (j + (-1)))]) dX10_remember_21 rfl rfl (by first | rfl | exact hnl | exact hnl2 _) (by rw [show wr (j + (-1)) = j + (-1) from (wr_id ⟨by omega, by omega⟩)]; rfl) ?_
    refine x_goto (t := 3) dX10_remember_24 (by decide) ?_
    rw [cp36_up G (by omega) j1]
    exact ih (j + (-1)) (by omega) (by omega)
theorem c_remember (d : Nat) {G : Hp} (hF : FM G) (h0 : 0 ≤ iv G 35 1) : CX (d + 2) 112 [.inr (.inr (some 35))] G (fun r G1 => r = none ∧ G1 = remG G) := by
  refine CX.of (d := d + 1) m_X10_remember (Nat.le_of_ble_eq_true rfl) ?_
  refine Ex.lcl (ls' := [some (.inr (.inr (some 35))), none]) rfl ?_
  refine x_bipush (q := 2) dX10_remember_0 rfl (by decide) ?_
  refine x_istore_n (q := 3) (ls' := [some (.inr (.inr (some 35))), some (.inl 16)]) dX10_remember_2 rfl (Nat.le_of_ble_eq_true rfl) (by first | rfl | exact hnl | exact hnl2 _) rfl ?_
  have e : G = cp G 36 (10 * 16) 36 (10 * 16 + 10) (160 - 10 * 16) := Eq.symm (hp_ext (Io.rf G) (fun a k => by rw [iv_cp36, if_neg (by omega)]))
  refine Ex.mem e ?_
  exact rem_loop hF h0 ⟨rfl, rfl⟩ 16 16 rfl (by decide)
theorem remG_lo (G : Hp) {k : Int} (h : k < 10) : iv (remG G) 36 k = iv G 36 k := by
  unfold remG; rw [iv_si, if_neg (by omega), iv_cp36, if_neg (by omega)]
/-- a deed: the row that was is remembered -/
theorem RMr_rem {r : Rw} {G G' : Hp} {n : Int → Int} (h : RMr r G) (hl : r.2.1.length ≤ 16) (h1 : ∀ k, 0 ≤ k → k < 10 → iv G' 36 k = n k) (h2 : ∀ k, 10 ≤ k → iv G' 36 k = iv (remG G) 36 k) (h3 : iv G' 35 1 = iv (remG G) 35 1) (h4 : ∀ k, iv G' 37 k = iv G 37 k) (h5 : iv G' 35 2 = iv G 35 2) {z : Int} (h6 : iv G' 35 3 = z) : RMr (n, (r.1 :: r.2.1).take 16, r.2.2.1, z) G' := by
  obtain ⟨a1, ⟨a2, a3⟩, a4, a5⟩ := h
  have e1 : iv (remG G) 35 1 = if iv G 35 1 < 16 then iv G 35 1 + 1 else 16 := by unfold remG; rw [iv_si, if_pos ⟨rfl, rfl⟩]
  have e2 : ∀ k, 10 ≤ k → k < 170 → iv (remG G) 36 k = iv G 36 (k - 10) := fun k k0 k1 => by
    unfold remG; rw [iv_si, if_neg (by omega), iv_cp36, if_pos (by omega), show (0 : Int) + (k - 10) = k - 10 from by omega]
  have e3 : ∀ k, 170 ≤ k → iv (remG G) 36 k = iv G 36 k := fun k k0 => by
    unfold remG; rw [iv_si, if_neg (by omega), iv_cp36, if_neg (by omega)]
  refine ⟨h1, ⟨?_, fun i q hq k k0 k1 => ?_⟩, RMi_k a4 (fun k k0 _ => (h2 k (by omega)).trans (e3 k k0)) h4 h5, h6⟩
  · rw [h3, e1, a2]
    show _ = (((r.1 :: r.2.1).take 16).length : Int)
    rw [List.length_take, List.length_cons]
    split <;> omega
  · have hq : ((r.1 :: r.2.1).take 16)[i]? = some q := hq
    have hi : i < 16 := by
      have := (List.getElem?_eq_some_iff.mp hq).1
      rw [List.length_take] at this; omega
    rw [List.getElem?_take_of_lt hi] at hq
    rw [h2 _ (by omega), e2 _ (by omega) (by omega)]
    cases i with
    | zero =>
      have : r.1 = q := Option.some.inj hq
      rw [← this, ← a1 k k0 k1]; congr 1; omega
    | succ i =>
      have hq2 : r.2.1[i]? = some q := hq
      rw [← a3 i q hq2 k k0 k1]; congr 1; omega
theorem Mo.rem {G G' : Hp} (h : Mo G G') : Mo G (remG G') := (h.cp36 0 10 160).si 1 _ (by decide) (by decide)
theorem remG_o (G : Hp) {a : Nat} {k : Int} (h : a ≠ 36) (h2 : ¬ (a = 35 ∧ k = 1)) : iv (remG G) a k = iv G a k := by
  unfold remG; rw [iv_si, if_neg h2, iv_cp36, if_neg (by omega)]
theorem cm_feed (d : Nat) {s : Sg} {G : Hp} (hR0 : RM s G) (l : Int) (n0 : 0 ≤ s.1.2.1) (n1 : s.1.2.1 ≤ 160) : CX (d + 2) 138 [.inr (.inr (some 35)), .inl l] G (fun r G' => r = some (.inl (o_feed l s).1) ∧ RM (o_feed l s).2 G' ∧ Mo G G') := by
  have hR1 := hR0
  obtain ⟨hF, h2, h3, h4, h5, h6⟩ := hR0
  refine CX.of (d := d + 1) m_X10_feed (Nat.le_of_ble_eq_true rfl) ?_
  refine Ex.lcl (ls' := [some (.inr (.inr (some 35))), some (.inl l)]) rfl ?_
  refine x_iload_n (q := 1) dX10_feed_0 rfl rfl ?_
  refine x_i2l (q := 2) dX10_feed_1 rfl ?_
  refine x_lconst (q := 3) (x := 0) dX10_feed_2 rfl rfl ?_
  refine x_ldc2_w (q := 6) dX10_feed_3 rfl j_10_237 ?_
  refine x_invS (q := 9) (as := [.inr (.inl l), .inr (.inl 0), .inr (.inl 255)]) (rest := []) dX10_feed_6 rfl l_10_131 m_X10_in rfl rfl (Nat.le_of_ble_eq_true rfl) (Nat.le_of_ble_eq_true rfl) (c_in _) (fun r1 G1 hR => ?_)
  obtain ⟨hG1, z6, rfl, z6a, z6b⟩ := hR
  replace hG1 := hG1.symm
  subst hG1
  refine Ex.stk (st' := [.inl z6]) rfl ?_
  refine x_if_ne (q := 12) (t := 15) dX10_feed_9 rfl (by decide) (fun h9 => ?_) (fun h9 => ?_)
  · refine x_aload_n (q := 16) dX10_feed_15 rfl rfl ?_
    refine x_getI (q := 19) dX10_feed_16 rfl f_10_227 rfl (ft35 hF) ?_
    refine Ex.stk (st' := [.inl s.1.2.1]) (by rw [show iv G 35 6 = s.1.2.1 from h2.2.1]) ?_
    refine x_sipush (q := 22) dX10_feed_19 rfl (by decide) ?_
    refine x_icmp_ne (q := 25) (t := 28) dX10_feed_22 rfl (by decide) (fun h22 => ?_) (fun h22 => ?_)
    · refine x_aload_n (q := 29) dX10_feed_28 rfl rfl ?_
      refine x_getR (q := 32) dX10_feed_29 rfl f_10_16 rfl (ft35 hF) ?_
      refine Ex.stk (st' := [.inr (.inr (some 38))]) (by rw [fr35_5 hF]) ?_
      refine x_aload_n (q := 33) dX10_feed_32 rfl rfl ?_
      refine x_getI (q := 36) dX10_feed_33 rfl f_10_227 rfl (ft35 hF) ?_
      refine Ex.stk (st' := [.inl s.1.2.1, .inr (.inr (some 38))]) (by rw [show iv G 35 6 = s.1.2.1 from h2.2.1]) ?_
      refine x_iload_n (q := 37) dX10_feed_36 rfl rfl ?_
      refine x_iastore (q := 38) dX10_feed_37 rfl (ft38 hF) (by omega) (by rw [fl38 hF]; omega) ?_
      have hF := FX_si hF 38 s.1.2.1 l
      refine x_aload_n (q := 39) dX10_feed_38 rfl rfl ?_
      refine x_dup (q := 40) dX10_feed_39 rfl rfl ?_
      refine x_getI (q := 43) dX10_feed_40 rfl f_10_227 rfl (ft35 hF) ?_
      refine Ex.stk (st' := [.inl s.1.2.1, .inr (.inr (some 35))]) (by rw [show iv (si G 38 s.1.2.1 l) 35 6 = s.1.2.1 from (by first | exact h2.2.1 | simp [iv_si, iv_sr, iv_nw, h2.2.1])]) ?_
      refine x_iconst (q := 44) dX10_feed_43 rfl (by decide) ?_
      refine x_iadd (q := 45) (z := s.1.2.1 + 1) dX10_feed_44 rfl (wr_id ⟨by omega, by omega⟩) ?_
      refine x_putI (q := 48) dX10_feed_45 rfl f_10_227 rfl (fun h => by cases h) (fun h => by cases h) (ft35 hF) ?_
      have hF := FX_si hF 35 6 (s.1.2.1 + 1)
      refine x_aload_n (q := 49) dX10_feed_48 rfl rfl ?_
      refine x_getI (q := 52) dX10_feed_49 rfl f_10_227 rfl (ft35 hF) ?_
      refine Ex.stk (st' := [.inl (s.1.2.1 + 1)]) (by rw [show iv (si (si G 38 s.1.2.1 l) 35 6 (s.1.2.1 + 1)) 35 6 = s.1.2.1 + 1 from (by simp [iv_si, iv_sr])]) ?_
      refine x_iret dX10_feed_52 rfl ?_
      have e : o_feed l s = (s.1.2.1 + 1, (upi s.1.1 s.1.2.1 l, s.1.2.1 + 1, s.1.2.2), s.2) := by rw [o_feed, if_pos (z6b.mp (by omega)), if_neg h22]
      rw [e]
      refine ⟨rfl, ⟨hF, ⟨fun k k0 k1 => ?_, by simp [iv_si], by simp [iv_si, h2.2.2]⟩, RMp_k h3 (fun k => by simp [iv_si]) (fun k => by simp [iv_si]) (by simp [iv_si]), RMr_k h4 (fun k => by simp [iv_si]) (fun k => by simp [iv_si]) (by simp [iv_si]) (by simp [iv_si]) (by simp [iv_si]), RMb_k h5 (fun k => by simp [iv_si]) (fun k => by simp [iv_si]) (fun k => by simp [iv_si]) (by simp [iv_si]), RMc_k h6 (fun a k g1 g2 => by simp only [iv_si]; repeat rw [if_neg (by omega)]) (by simp [iv_si]) (fun k g1 g2 => by simp only [iv_si]; repeat rw [if_neg (by omega)])⟩, ((Mo.rf G).si _ _ (by decide) (by decide)).si _ _ (by decide) (by decide)⟩
      show iv _ 38 k = upi s.1.1 s.1.2.1 l k
      unfold upi
      simp only [iv_si]
      rw [if_neg (by omega)]
      dsimp only at k1
      by_cases hk : k = s.1.2.1
      · rw [if_pos ⟨by trivial, hk⟩, if_pos hk]
      · rw [if_neg (fun q => hk q.2), if_neg hk]; exact h2.1 k k0 (by omega)
    · refine x_ldc (q := 27) dX10_feed_25 rfl k_10_240 ?_
      refine x_iret dX10_feed_27 rfl ?_
      have e : o_feed l s = (-1000000004, s) := by rw [o_feed, if_pos (z6b.mp (by omega)), if_pos h22]
      rw [e]; exact ⟨rfl, hR1, Mo.rf G⟩
  · refine x_ldc (q := 14) dX10_feed_12 rfl k_10_239 ?_
    refine x_iret dX10_feed_14 rfl ?_
    have e : o_feed l s = (-1000000002, s) := if_neg (fun q => by have := z6b.mpr q; omega)
    rw [e]; exact ⟨rfl, hR1, Mo.rf G⟩
theorem cm_fault (d : Nat) {s : Sg} {G : Hp} (hR0 : RM s G) : CX (d + 1) 140 [.inr (.inr (some 35))] G (fun r G' => r = some (.inl s.1.2.2) ∧ G' = G) := by
  obtain ⟨hF, h2, h3, h4, h5, h6⟩ := hR0
  refine CX.of (d := d + 0) m_X10_fault (Nat.le_of_ble_eq_true rfl) ?_
  refine Ex.lcl (ls' := [some (.inr (.inr (some 35)))]) rfl ?_
  refine x_aload_n (q := 1) dX10_fault_0 rfl rfl ?_
  refine x_getI (q := 4) dX10_fault_1 rfl f_10_19 rfl (ft35 hF) ?_
  refine Ex.stk (st' := [.inl s.1.2.2]) (by rw [show iv G 35 7 = s.1.2.2 from h2.2.2]) ?_
  refine x_iret dX10_fault_4 rfl ?_
  exact ⟨rfl, rfl⟩
theorem cm_cell (d : Nat) {s : Sg} {G : Hp} (hR0 : RM s G) (i : Int) : CX (d + 2) 147 [.inr (.inr (some 35)), .inl i] G (fun r G' => r = some (.inl (o_cell i s)) ∧ G' = G) := by
  obtain ⟨hF, h2, h3, h4, h5, h6⟩ := hR0
  refine CX.of (d := d + 1) m_X10_cell (Nat.le_of_ble_eq_true rfl) ?_
  refine Ex.lcl (ls' := [some (.inr (.inr (some 35))), some (.inl i)]) rfl ?_
  refine x_iload_n (q := 1) dX10_cell_0 rfl rfl ?_
  refine x_i2l (q := 2) dX10_cell_1 rfl ?_
  refine x_lconst (q := 3) (x := 0) dX10_cell_2 rfl rfl ?_
  refine x_ldc2_w (q := 6) dX10_cell_3 rfl j_10_269 ?_
  refine x_invS (q := 9) (as := [.inr (.inl i), .inr (.inl 0), .inr (.inl 7)]) (rest := []) dX10_cell_6 rfl l_10_131 m_X10_in rfl rfl (Nat.le_of_ble_eq_true rfl) (Nat.le_of_ble_eq_true rfl) (c_in _) (fun r1 G1 hR => ?_)
  obtain ⟨hG1, z6, rfl, z6a, z6b⟩ := hR
  replace hG1 := hG1.symm
  subst hG1
  refine Ex.stk (st' := [.inl z6]) rfl ?_
  refine x_if_eq (q := 12) (t := 21) dX10_cell_9 rfl (by decide) (fun h9 => ?_) (fun h9 => ?_)
  · refine x_ldc_w (q := 24) dX10_cell_21 rfl k_10_271 ?_
    refine x_iret dX10_cell_24 rfl ?_
    rw [o_cell, if_neg (fun q => by have := z6b.mpr q; omega)]; exact ⟨rfl, rfl⟩
  · refine x_aload_n (q := 13) dX10_cell_12 rfl rfl ?_
    refine x_getR (q := 16) dX10_cell_13 rfl f_10_7 rfl (ft35 hF) ?_
    refine Ex.stk (st' := [.inr (.inr (some 36))]) (by rw [fr35_0 hF]) ?_
    refine x_iload_n (q := 17) dX10_cell_16 rfl rfl ?_
    refine x_iaload (q := 18) dX10_cell_17 rfl (Or.inl (ft36 hF)) (by have := z6b.mp (by omega); omega) (by rw [fl36 hF]; have := z6b.mp (by omega); omega) ?_
    refine x_goto (t := 24) dX10_cell_18 (by decide) ?_
    refine x_iret dX10_cell_24 rfl ?_
    have hz := z6b.mp (by omega)
    rw [o_cell, if_pos hz, ← h4.1 i (by omega) (by omega)]; exact ⟨rfl, rfl⟩
theorem cm_tear (d : Nat) {s : Sg} {G : Hp} (hR0 : RM s G) : CX (d + 1) 159 [.inr (.inr (some 35))] G (fun r G' => r = some (.inl (o_tear s).1) ∧ RM (o_tear s).2 G' ∧ Mo G G') := by
  obtain ⟨hF, h2, h3, h4, h5, h6⟩ := hR0
  refine CX.of (d := d + 0) m_X10_tear (Nat.le_of_ble_eq_true rfl) ?_
  refine Ex.lcl (ls' := [some (.inr (.inr (some 35))), none]) rfl ?_
  refine x_aload_n (q := 1) dX10_tear_0 rfl rfl ?_
  refine x_getI (q := 4) dX10_tear_1 rfl f_10_247 rfl (ft35 hF) ?_
  refine Ex.stk (st' := [.inl (s.2.2.2.1.length : Int)]) (by rw [show iv G 35 11 = (s.2.2.2.1.length : Int) from h5.1]) ?_
  refine x_istore_n (q := 5) (ls' := [some (.inr (.inr (some 35))), some (.inl (s.2.2.2.1.length : Int))]) dX10_tear_4 rfl (Nat.le_of_ble_eq_true rfl) (by first | rfl | exact hnl | exact hnl2 _) rfl ?_
  refine x_aload_n (q := 6) dX10_tear_5 rfl rfl ?_
  refine x_iconst (q := 7) dX10_tear_6 rfl (by decide) ?_
  refine x_putI (q := 10) dX10_tear_7 rfl f_10_247 rfl (fun h => by cases h) (fun h => by cases h) (ft35 hF) ?_
  have hF := FX_si hF 35 11 0
  refine x_iload_n (q := 11) dX10_tear_10 rfl rfl ?_
  refine x_iret dX10_tear_11 rfl ?_
  exact ⟨rfl, ⟨hF, RMt_k h2 (fun k => by simp [iv_si]) (by simp [iv_si]) (by simp [iv_si]), RMp_k h3 (fun k => by simp [iv_si]) (fun k => by simp [iv_si]) (by simp [iv_si]), RMr_k h4 (fun k => by simp [iv_si]) (fun k => by simp [iv_si]) (by simp [iv_si]) (by simp [iv_si]) (by simp [iv_si]), ⟨by simp [iv_si, o_tear], fun i e he => by simp [o_tear] at he⟩, RMc_k h6 (fun a k g1 g2 => by simp only [iv_si]; repeat rw [if_neg (by omega)]) (by simp [iv_si]) (fun k g1 g2 => by simp only [iv_si]; repeat rw [if_neg (by omega)])⟩, (Mo.rf G).si _ _ (by decide) (by decide)⟩
theorem cm_seed (d : Nat) {s : Sg} {G : Hp} (hR0 : RM s G) (v : Int) : CX (d + 1) 160 [.inr (.inr (some 35)), .inl v] G (fun r G' => r = some (.inl (o_seed v s).1) ∧ RM (o_seed v s).2 G' ∧ Mo G G') := by
  have hR1 := hR0
  obtain ⟨hF, h2, h3, h4, h5, h6⟩ := hR0
  refine CX.of (d := d + 0) m_X10_seed (Nat.le_of_ble_eq_true rfl) ?_
  refine Ex.lcl (ls' := [some (.inr (.inr (some 35))), some (.inl v), none]) rfl ?_
  refine x_iload_n (q := 1) dX10_seed_0 rfl rfl ?_
  refine x_if_ge (q := 4) (t := 7) dX10_seed_1 rfl (by decide) (fun h1 => ?_) (fun h1 => ?_)
  · refine x_aload_n (q := 8) dX10_seed_7 rfl rfl ?_
    refine x_getI (q := 11) dX10_seed_8 rfl f_10_283 rfl (ft35 hF) ?_
    refine Ex.stk (st' := [.inl s.2.2.1.2.2.2]) (by rw [show iv G 35 3 = s.2.2.1.2.2.2 from h4.2.2.2]) ?_
    refine x_istore_n (q := 12) (ls' := [some (.inr (.inr (some 35))), some (.inl v), some (.inl s.2.2.1.2.2.2)]) dX10_seed_11 rfl (Nat.le_of_ble_eq_true rfl) (by first | rfl | exact hnl | exact hnl2 _) rfl ?_
    refine x_aload_n (q := 13) dX10_seed_12 rfl rfl ?_
    refine x_iload_n (q := 14) dX10_seed_13 rfl rfl ?_
    refine x_putI (q := 17) dX10_seed_14 rfl f_10_283 rfl (fun h => by cases h) (fun h => by cases h) (ft35 hF) ?_
    have hF := FX_si hF 35 3 v
    refine x_iload_n (q := 18) dX10_seed_17 rfl rfl ?_
    refine x_iret dX10_seed_18 rfl ?_
    have e : o_seed v s = (s.2.2.1.2.2.2, s.1, s.2.1, (s.2.2.1.1, s.2.2.1.2.1, s.2.2.1.2.2.1, v), s.2.2.2) := if_neg (by omega)
    rw [e]
    exact ⟨rfl, ⟨hF, RMt_k h2 (fun k => by simp [iv_si]) (by simp [iv_si]) (by simp [iv_si]), RMp_k h3 (fun k => by simp [iv_si]) (fun k => by simp [iv_si]) (by simp [iv_si]), ⟨fun k k0 k1 => (by simp [iv_si] : iv _ 36 k = iv G 36 k).trans (h4.1 k k0 k1), RMh_k h4.2.1 (fun k _ => by simp [iv_si]) (by simp [iv_si]), RMi_k h4.2.2.1 (fun k _ _ => by simp [iv_si]) (fun k => by simp [iv_si]) (by simp [iv_si]), by simp [iv_si]⟩, RMb_k h5 (fun k => by simp [iv_si]) (fun k => by simp [iv_si]) (fun k => by simp [iv_si]) (by simp [iv_si]), RMc_k h6 (fun a k g1 g2 => by simp only [iv_si]; repeat rw [if_neg (by omega)]) (by simp [iv_si]) (fun k g1 g2 => by simp only [iv_si]; repeat rw [if_neg (by omega)])⟩, (Mo.rf G).si _ _ (by decide) (by decide)⟩
  · refine x_ldc (q := 6) dX10_seed_4 rfl k_10_239 ?_
    refine x_iret dX10_seed_6 rfl ?_
    have e : o_seed v s = (-1000000002, s) := if_pos h1
    rw [e]; exact ⟨rfl, hR1, Mo.rf G⟩
theorem cm_write (d : Nat) {s : Sg} {G : Hp} (hR0 : RM s G) (f x v : Int) (hl : s.2.2.2.1.length ≤ 20) (m0 : 0 ≤ s.2.1.2.2) (m1 : s.2.1.2.2 ≤ 5) : CX (d + 2) 158 [.inr (.inr (some 35)), .inl f, .inl x, .inl v] G (fun r G' => r = some (.inl (o_write f x v s).1) ∧ RM (o_write f x v s).2 G' ∧ Mo G G') := by
  have hR1 := hR0
  obtain ⟨hF, h2, h3, h4, h5, h6⟩ := hR0
  refine CX.of (d := d + 1) m_X10_write (Nat.le_of_ble_eq_true rfl) ?_
  refine Ex.lcl (ls' := [some (.inr (.inr (some 35))), some (.inl f), some (.inl x), some (.inl v)]) rfl ?_
  refine x_iload_n (q := 1) dX10_write_0 rfl rfl ?_
  refine x_i2l (q := 2) dX10_write_1 rfl ?_
  refine x_lconst (q := 3) (x := 0) dX10_write_2 rfl rfl ?_
  refine x_aload_n (q := 4) dX10_write_3 rfl rfl ?_
  refine x_getI (q := 7) dX10_write_4 rfl f_10_95 rfl (ft35 hF) ?_
  refine Ex.stk (st' := [.inl s.2.1.2.2, .inr (.inl 0), .inr (.inl f)]) (by rw [show iv G 35 14 = s.2.1.2.2 from h3.2.2]) ?_
  refine x_iconst (q := 8) dX10_write_7 rfl (by decide) ?_
  refine x_isub (q := 9) (z := s.2.1.2.2 - 1) dX10_write_8 rfl (wr_id ⟨by omega, by omega⟩) ?_
  refine x_i2l (q := 10) dX10_write_9 rfl ?_
  refine x_invS (q := 13) (as := [.inr (.inl f), .inr (.inl 0), .inr (.inl (s.2.1.2.2 - 1))]) (rest := []) dX10_write_10 rfl l_10_131 m_X10_in rfl rfl (Nat.le_of_ble_eq_true rfl) (Nat.le_of_ble_eq_true rfl) (c_in _) (fun r1 G1 hR => ?_)
  obtain ⟨hG1, z10, rfl, z10a, z10b⟩ := hR
  replace hG1 := hG1.symm
  subst hG1
  refine Ex.stk (st' := [.inl z10]) rfl ?_
  refine x_if_ne (q := 16) (t := 20) dX10_write_13 rfl (by decide) (fun h13 => ?_) (fun h13 => ?_)
  · refine x_iload_n (q := 21) dX10_write_20 rfl rfl ?_
    refine x_i2l (q := 22) dX10_write_21 rfl ?_
    refine x_lconst (q := 23) (x := 0) dX10_write_22 rfl rfl ?_
    refine x_ldc2_w (q := 26) dX10_write_23 rfl j_10_278 ?_
    refine x_invS (q := 29) (as := [.inr (.inl x), .inr (.inl 0), .inr (.inl 996)]) (rest := []) dX10_write_26 rfl l_10_131 m_X10_in rfl rfl (Nat.le_of_ble_eq_true rfl) (Nat.le_of_ble_eq_true rfl) (c_in _) (fun r1 G1 hR => ?_)
    obtain ⟨hG1, z26, rfl, z26a, z26b⟩ := hR
    replace hG1 := hG1.symm
    subst hG1
    refine Ex.stk (st' := [.inl z26]) rfl ?_
    refine x_if_ne (q := 32) (t := 35) dX10_write_29 rfl (by decide) (fun h29 => ?_) (fun h29 => ?_)
    · refine x_aload_n (q := 36) dX10_write_35 rfl rfl ?_
      refine x_getI (q := 39) dX10_write_36 rfl f_10_247 rfl (ft35 hF) ?_
      refine Ex.stk (st' := [.inl (s.2.2.2.1.length : Int)]) (by rw [show iv G 35 11 = (s.2.2.2.1.length : Int) from h5.1]) ?_
      refine x_bipush (q := 41) dX10_write_39 rfl (by decide) ?_
      refine x_icmp_ne (q := 44) (t := 47) dX10_write_41 rfl (by decide) (fun h41 => ?_) (fun h41 => ?_)
      · refine x_aload_n (q := 48) dX10_write_47 rfl rfl ?_
        refine x_getR (q := 51) dX10_write_48 rfl f_10_23 rfl (ft35 hF) ?_
        refine Ex.stk (st' := [.inr (.inr (some 39))]) (by rw [fr35_8 hF]) ?_
        refine x_aload_n (q := 52) dX10_write_51 rfl rfl ?_
        refine x_getI (q := 55) dX10_write_52 rfl f_10_247 rfl (ft35 hF) ?_
        refine Ex.stk (st' := [.inl (s.2.2.2.1.length : Int), .inr (.inr (some 39))]) (by rw [show iv G 35 11 = (s.2.2.2.1.length : Int) from h5.1]) ?_
        refine x_iload_n (q := 56) dX10_write_55 rfl rfl ?_
        refine x_iastore (q := 57) dX10_write_56 rfl (ft39 hF) (by omega) (by rw [fl39 hF]; omega) ?_
        have hF := FX_si hF 39 (s.2.2.2.1.length : Int) f
        refine x_aload_n (q := 58) dX10_write_57 rfl rfl ?_
        refine x_getR (q := 61) dX10_write_58 rfl f_10_26 rfl (ft35 hF) ?_
        refine Ex.stk (st' := [.inr (.inr (some 40))]) (by rw [fr35_9 hF]) ?_
        refine x_aload_n (q := 62) dX10_write_61 rfl rfl ?_
        refine x_getI (q := 65) dX10_write_62 rfl f_10_247 rfl (ft35 hF) ?_
        refine Ex.stk (st' := [.inl (s.2.2.2.1.length : Int), .inr (.inr (some 40))]) (by rw [show iv (si G 39 (s.2.2.2.1.length : Int) f) 35 11 = (s.2.2.2.1.length : Int) from (by first | exact h5.1 | simp [iv_si, iv_sr, iv_nw, h5.1])]) ?_
        refine x_iload_n (q := 66) dX10_write_65 rfl rfl ?_
        refine x_iastore (q := 67) dX10_write_66 rfl (ft40 hF) (by omega) (by rw [fl40 hF]; omega) ?_
        have hF := FX_si hF 40 (s.2.2.2.1.length : Int) x
        refine x_aload_n (q := 68) dX10_write_67 rfl rfl ?_
        refine x_getR (q := 71) dX10_write_68 rfl f_10_29 rfl (ft35 hF) ?_
        refine Ex.stk (st' := [.inr (.inr (some 41))]) (by rw [fr35_10 hF]) ?_
        refine x_aload_n (q := 72) dX10_write_71 rfl rfl ?_
        refine x_getI (q := 75) dX10_write_72 rfl f_10_247 rfl (ft35 hF) ?_
        refine Ex.stk (st' := [.inl (s.2.2.2.1.length : Int), .inr (.inr (some 41))]) (by rw [show iv (si (si G 39 (s.2.2.2.1.length : Int) f) 40 (s.2.2.2.1.length : Int) x) 35 11 = (s.2.2.2.1.length : Int) from (by first | exact h5.1 | simp [iv_si, iv_sr, iv_nw, h5.1])]) ?_
        refine x_iload_n (q := 76) dX10_write_75 rfl rfl ?_
        refine x_iastore (q := 77) dX10_write_76 rfl (ft41 hF) (by omega) (by rw [fl41 hF]; omega) ?_
        have hF := FX_si hF 41 (s.2.2.2.1.length : Int) v
        refine x_aload_n (q := 78) dX10_write_77 rfl rfl ?_
        refine x_dup (q := 79) dX10_write_78 rfl rfl ?_
        refine x_getI (q := 82) dX10_write_79 rfl f_10_247 rfl (ft35 hF) ?_
        refine Ex.stk (st' := [.inl (s.2.2.2.1.length : Int), .inr (.inr (some 35))]) (by rw [show iv (si (si (si G 39 (s.2.2.2.1.length : Int) f) 40 (s.2.2.2.1.length : Int) x) 41 (s.2.2.2.1.length : Int) v) 35 11 = (s.2.2.2.1.length : Int) from (by first | exact h5.1 | simp [iv_si, iv_sr, iv_nw, h5.1])]) ?_
        refine x_iconst (q := 83) dX10_write_82 rfl (by decide) ?_
        refine x_iadd (q := 84) (z := (s.2.2.2.1.length : Int) + 1) dX10_write_83 rfl (wr_id ⟨by omega, by omega⟩) ?_
        refine x_putI (q := 87) dX10_write_84 rfl f_10_247 rfl (fun h => by cases h) (fun h => by cases h) (ft35 hF) ?_
        have hF := FX_si hF 35 11 ((s.2.2.2.1.length : Int) + 1)
        refine x_aload_n (q := 88) dX10_write_87 rfl rfl ?_
        refine x_getI (q := 91) dX10_write_88 rfl f_10_247 rfl (ft35 hF) ?_
        refine Ex.stk (st' := [.inl ((s.2.2.2.1.length : Int) + 1)]) (by rw [show iv (si (si (si (si G 39 (s.2.2.2.1.length : Int) f) 40 (s.2.2.2.1.length : Int) x) 41 (s.2.2.2.1.length : Int) v) 35 11 ((s.2.2.2.1.length : Int) + 1)) 35 11 = (s.2.2.2.1.length : Int) + 1 from (by simp [iv_si, iv_sr])]) ?_
        refine x_iret dX10_write_91 rfl ?_
        have hz := z10b.mp (by omega)
        have e : o_write f x v s = ((s.2.2.2.1.length : Int) + 1, s.1, s.2.1, s.2.2.1, s.2.2.2.1 ++ [(f, x, v)], s.2.2.2.2) := by rw [o_write, if_pos ⟨hz.1, by omega⟩, if_pos (z26b.mp (by omega)), if_neg (by omega)]
        rw [e]
        refine ⟨rfl, ⟨hF, RMt_k h2 (fun k => by simp [iv_si]) (by simp [iv_si]) (by simp [iv_si]), RMp_k h3 (fun k => by simp [iv_si]) (fun k => by simp [iv_si]) (by simp [iv_si]), RMr_k h4 (fun k => by simp [iv_si]) (fun k => by simp [iv_si]) (by simp [iv_si]) (by simp [iv_si]) (by simp [iv_si]), ⟨by simp [iv_si], fun i e he => ?_⟩, RMc_k h6 (fun a k g1 g2 => by simp only [iv_si]; repeat rw [if_neg (by omega)]) (by simp [iv_si]) (fun k g1 g2 => by simp only [iv_si]; repeat rw [if_neg (by omega)])⟩, ((((Mo.rf G).si _ _ (by decide) (by decide)).si _ _ (by decide) (by decide)).si _ _ (by decide) (by decide)).si _ _ (by decide) (by decide)⟩
        have he : (s.2.2.2.1 ++ [(f, x, v)])[i]? = some e := he
        by_cases hi : i < s.2.2.2.1.length
        · rw [List.getElem?_append_left hi] at he
          have hx : ¬ ((i : Int) = (s.2.2.2.1.length : Int)) := by omega
          simp [iv_si, hx]
          exact h5.2 i e he
        · rw [List.getElem?_append_right (by omega)] at he
          have hi2 : i = s.2.2.2.1.length := by
            have := (List.getElem?_eq_some_iff.mp he).1
            simp at this; omega
          subst hi2
          simp at he
          subst he
          simp [iv_si]
      · refine x_ldc (q := 46) dX10_write_44 rfl k_10_240 ?_
        refine x_iret dX10_write_46 rfl ?_
        have hz := z10b.mp (by omega)
        have e : o_write f x v s = (-1000000004, s) := by rw [o_write, if_pos ⟨hz.1, by omega⟩, if_pos (z26b.mp (by omega)), if_pos (by omega)]
        rw [e]; exact ⟨rfl, hR1, Mo.rf G⟩
    · refine x_ldc (q := 34) dX10_write_32 rfl k_10_239 ?_
      refine x_iret dX10_write_34 rfl ?_
      have hz := z10b.mp (by omega)
      have e : o_write f x v s = (-1000000002, s) := by rw [o_write, if_pos ⟨hz.1, by omega⟩, if_neg (fun q => by have := z26b.mpr q; omega)]
      rw [e]; exact ⟨rfl, hR1, Mo.rf G⟩
  · refine x_ldc_w (q := 19) dX10_write_16 rfl k_10_271 ?_
    refine x_iret dX10_write_19 rfl ?_
    have e : o_write f x v s = (-1000000001, s) := if_neg (fun q => by have := z10b.mpr ⟨q.1, by omega⟩; omega)
    rw [e]; exact ⟨rfl, hR1, Mo.rf G⟩

theorem cm_set (d : Nat) {s : Sg} {G : Hp} (hR0 : RM s G) (i v : Int) (hl : s.2.2.1.2.1.length ≤ 16) : CX (d + 3) 152 [.inr (.inr (some 35)), .inl i, .inl v] G (fun r G' => r = some (.inl (o_set i v s).1) ∧ RM (o_set i v s).2 G' ∧ Mo G G') := by
  have hR1 := hR0
  obtain ⟨hF, h2, h3, h4, h5, h6⟩ := hR0
  refine CX.of (d := d + 2) m_X10_set (Nat.le_of_ble_eq_true rfl) ?_
  refine Ex.lcl (ls' := [some (.inr (.inr (some 35))), some (.inl i), some (.inl v), none]) rfl ?_
  refine x_iload_n (q := 1) dX10_set_0 rfl rfl ?_
  refine x_i2l (q := 2) dX10_set_1 rfl ?_
  refine x_lconst (q := 3) (x := 0) dX10_set_2 rfl rfl ?_
  refine x_ldc2_w (q := 6) dX10_set_3 rfl j_10_269 ?_
  refine x_invS (q := 9) (as := [.inr (.inl i), .inr (.inl 0), .inr (.inl 7)]) (rest := []) dX10_set_6 rfl l_10_131 m_X10_in rfl rfl (Nat.le_of_ble_eq_true rfl) (Nat.le_of_ble_eq_true rfl) (c_in _) (fun r1 G1 hR => ?_)
  obtain ⟨hG1, z6, rfl, z6a, z6b⟩ := hR
  replace hG1 := hG1.symm
  subst hG1
  refine Ex.stk (st' := [.inl z6]) rfl ?_
  refine x_if_ne (q := 12) (t := 16) dX10_set_9 rfl (by decide) (fun h9 => ?_) (fun h9 => ?_)
  · refine x_iload_n (q := 17) dX10_set_16 rfl rfl ?_
    refine x_i2l (q := 18) dX10_set_17 rfl ?_
    refine x_lconst (q := 19) (x := 0) dX10_set_18 rfl rfl ?_
    refine x_ldc2_w (q := 22) dX10_set_19 rfl j_10_278 ?_
    refine x_invS (q := 25) (as := [.inr (.inl v), .inr (.inl 0), .inr (.inl 996)]) (rest := []) dX10_set_22 rfl l_10_131 m_X10_in rfl rfl (Nat.le_of_ble_eq_true rfl) (Nat.le_of_ble_eq_true rfl) (c_in _) (fun r1 G1 hR => ?_)
    obtain ⟨hG1, z22, rfl, z22a, z22b⟩ := hR
    replace hG1 := hG1.symm
    subst hG1
    refine Ex.stk (st' := [.inl z22]) rfl ?_
    refine x_if_ne (q := 28) (t := 31) dX10_set_25 rfl (by decide) (fun h25 => ?_) (fun h25 => ?_)
    · have hz := z6b.mp (by omega)
      have hz2 := z22b.mp (by omega)
      refine x_aload_n (q := 32) dX10_set_31 rfl rfl ?_
      refine x_invV (q := 35) (as := [.inr (.inr (some 35))]) (rest := []) dX10_set_32 rfl l_10_280 m_X10_remember rfl rfl (ft35 hF) (Nat.le_of_ble_eq_true rfl) (c_remember _ hF (by rw [h4.2.1.1]; omega)) (fun r1 G1 hR => ?_)
      obtain ⟨rfl, rfl⟩ := hR
      have hF : FM (remG G) := hF
      refine Ex.stk (st' := []) rfl ?_
      refine x_aload_n (q := 36) dX10_set_35 rfl rfl ?_
      refine x_getR (q := 39) dX10_set_36 rfl f_10_7 rfl (ft35 hF) ?_
      refine Ex.stk (st' := [.inr (.inr (some 36))]) (by rw [fr35_0 hF]) ?_
      refine x_iload_n (q := 40) dX10_set_39 rfl rfl ?_
      refine x_iaload (q := 41) dX10_set_40 rfl (Or.inl (ft36 hF)) (by omega) (by rw [fl36 hF]; omega) ?_
      refine x_istore_n (q := 42) (ls' := [some (.inr (.inr (some 35))), some (.inl i), some (.inl v), some (.inl (iv (remG G) 36 i))]) dX10_set_41 rfl (Nat.le_of_ble_eq_true rfl) (by first | rfl | exact hnl | exact hnl2 _) rfl ?_
      refine x_aload_n (q := 43) dX10_set_42 rfl rfl ?_
      refine x_getR (q := 46) dX10_set_43 rfl f_10_7 rfl (ft35 hF) ?_
      refine Ex.stk (st' := [.inr (.inr (some 36))]) (by rw [fr35_0 hF]) ?_
      refine x_iload_n (q := 47) dX10_set_46 rfl rfl ?_
      refine x_iload_n (q := 48) dX10_set_47 rfl rfl ?_
      refine x_iastore (q := 49) dX10_set_48 rfl (ft36 hF) (by omega) (by rw [fl36 hF]; omega) ?_
      have hF := FX_si hF 36 i v
      refine x_iload_n (q := 50) dX10_set_49 rfl rfl ?_
      refine x_iret dX10_set_50 rfl ?_
      have e : o_set i v s = (s.2.2.1.1 i, s.1, s.2.1, remR s.2.2.1 (upi s.2.2.1.1 i v), s.2.2.2) := by rw [o_set, if_pos hz, if_pos hz2]
      rw [e, remG_lo G (by omega), h4.1 i (by omega) (by omega)]
      refine ⟨rfl, ⟨hF, RMt_k h2 (fun k => by simp only [iv_si]; rw [if_neg (by omega)]; exact remG_o G (by decide) (by omega)) (by simp only [iv_si]; rw [if_neg (by omega)]; exact remG_o G (by decide) (by decide)) (by simp only [iv_si]; rw [if_neg (by omega)]; exact remG_o G (by decide) (by decide)), RMp_k h3 (fun k => by simp only [iv_si]; rw [if_neg (by omega)]; exact remG_o G (by decide) (by omega)) (fun k => by simp only [iv_si]; rw [if_neg (by omega)]; exact remG_o G (by decide) (by omega)) (by simp only [iv_si]; rw [if_neg (by omega)]; exact remG_o G (by decide) (by decide)), RMr_rem h4 hl (fun k k0 k1 => ?_) (fun k k0 => by simp only [iv_si]; rw [if_neg (by omega)]) (by simp only [iv_si]; rw [if_neg (by omega)]) (fun k => by simp only [iv_si]; rw [if_neg (by omega)]; exact remG_o G (by decide) (by omega)) (by simp only [iv_si]; rw [if_neg (by omega)]; exact remG_o G (by decide) (by decide)) (Eq.trans (by simp only [iv_si]; rw [if_neg (by omega)]; exact remG_o G (by decide) (by decide)) h4.2.2.2), RMb_k h5 (fun k => by simp only [iv_si]; rw [if_neg (by omega)]; exact remG_o G (by decide) (by omega)) (fun k => by simp only [iv_si]; rw [if_neg (by omega)]; exact remG_o G (by decide) (by omega)) (fun k => by simp only [iv_si]; rw [if_neg (by omega)]; exact remG_o G (by decide) (by omega)) (by simp only [iv_si]; rw [if_neg (by omega)]; exact remG_o G (by decide) (by decide)), RMc_k h6 (fun a k g1 g2 => by simp only [iv_si]; rw [if_neg (by omega)]; exact remG_o G (by omega) (by omega)) (by simp only [iv_si]; rw [if_neg (by omega)]; exact remG_o G (by decide) (by decide)) (fun k g1 g2 => by simp only [iv_si]; rw [if_neg (by omega)]; exact remG_o G (by decide) (by omega))⟩, ((Mo.rf G).rem).si _ _ (by decide) (by decide)⟩
      unfold upi
      simp only [iv_si]
      by_cases hk : k = i
      · rw [if_pos ⟨by trivial, hk⟩, if_pos hk]
      · rw [if_neg (fun q => hk q.2), if_neg hk, remG_lo G (by omega)]; exact h4.1 k k0 k1
    · refine x_ldc (q := 30) dX10_set_28 rfl k_10_239 ?_
      refine x_iret dX10_set_30 rfl ?_
      have e : o_set i v s = (-1000000002, s) := by rw [o_set, if_pos (z6b.mp (by omega)), if_neg (fun q => by have := z22b.mpr q; omega)]
      rw [e]; exact ⟨rfl, hR1, Mo.rf G⟩
  · refine x_ldc_w (q := 15) dX10_set_12 rfl k_10_271 ?_
    refine x_iret dX10_set_15 rfl ?_
    have e : o_set i v s = (-1000000001, s) := if_neg (fun q => by have := z6b.mpr q; omega)
    rw [e]; exact ⟨rfl, hR1, Mo.rf G⟩
theorem cm_aim (d : Nat) {s : Sg} {G : Hp} (hR0 : RM s G) (f x : Int) (hl : s.2.2.1.2.1.length ≤ 16) (m0 : 0 ≤ s.2.1.2.2) (m1 : s.2.1.2.2 ≤ 5) : CX (d + 3) 153 [.inr (.inr (some 35)), .inl f, .inl x] G (fun r G' => r = some (.inl (o_aim f x s).1) ∧ RM (o_aim f x s).2 G' ∧ Mo G G') := by
  have hR1 := hR0
  obtain ⟨hF, h2, h3, h4, h5, h6⟩ := hR0
  refine CX.of (d := d + 2) m_X10_aim (Nat.le_of_ble_eq_true rfl) ?_
  refine Ex.lcl (ls' := [some (.inr (.inr (some 35))), some (.inl f), some (.inl x), none]) rfl ?_
  refine x_iload_n (q := 1) dX10_aim_0 rfl rfl ?_
  refine x_i2l (q := 2) dX10_aim_1 rfl ?_
  refine x_lconst (q := 3) (x := 0) dX10_aim_2 rfl rfl ?_
  refine x_aload_n (q := 4) dX10_aim_3 rfl rfl ?_
  refine x_getI (q := 7) dX10_aim_4 rfl f_10_95 rfl (ft35 hF) ?_
  refine Ex.stk (st' := [.inl s.2.1.2.2, .inr (.inl 0), .inr (.inl f)]) (by rw [show iv G 35 14 = s.2.1.2.2 from h3.2.2]) ?_
  refine x_iconst (q := 8) dX10_aim_7 rfl (by decide) ?_
  refine x_isub (q := 9) (z := s.2.1.2.2 - 1) dX10_aim_8 rfl (wr_id ⟨by omega, by omega⟩) ?_
  refine x_i2l (q := 10) dX10_aim_9 rfl ?_
  refine x_invS (q := 13) (as := [.inr (.inl f), .inr (.inl 0), .inr (.inl (s.2.1.2.2 - 1))]) (rest := []) dX10_aim_10 rfl l_10_131 m_X10_in rfl rfl (Nat.le_of_ble_eq_true rfl) (Nat.le_of_ble_eq_true rfl) (c_in _) (fun r1 G1 hR => ?_)
  obtain ⟨hG1, z10, rfl, z10a, z10b⟩ := hR
  replace hG1 := hG1.symm
  subst hG1
  refine Ex.stk (st' := [.inl z10]) rfl ?_
  refine x_if_ne (q := 16) (t := 20) dX10_aim_13 rfl (by decide) (fun h13 => ?_) (fun h13 => ?_)
  · refine x_iload_n (q := 21) dX10_aim_20 rfl rfl ?_
    refine x_i2l (q := 22) dX10_aim_21 rfl ?_
    refine x_lconst (q := 23) (x := 0) dX10_aim_22 rfl rfl ?_
    refine x_ldc2_w (q := 26) dX10_aim_23 rfl j_10_278 ?_
    refine x_invS (q := 29) (as := [.inr (.inl x), .inr (.inl 0), .inr (.inl 996)]) (rest := []) dX10_aim_26 rfl l_10_131 m_X10_in rfl rfl (Nat.le_of_ble_eq_true rfl) (Nat.le_of_ble_eq_true rfl) (c_in _) (fun r1 G1 hR => ?_)
    obtain ⟨hG1, z26, rfl, z26a, z26b⟩ := hR
    replace hG1 := hG1.symm
    subst hG1
    refine Ex.stk (st' := [.inl z26]) rfl ?_
    refine x_if_ne (q := 32) (t := 35) dX10_aim_29 rfl (by decide) (fun h29 => ?_) (fun h29 => ?_)
    · have hz := z10b.mp (by omega)
      have hz2 := z26b.mp (by omega)
      clear z10b z26b
      refine x_aload_n (q := 36) dX10_aim_35 rfl rfl ?_
      refine x_invV (q := 39) (as := [.inr (.inr (some 35))]) (rest := []) dX10_aim_36 rfl l_10_280 m_X10_remember rfl rfl (ft35 hF) (Nat.le_of_ble_eq_true rfl) (c_remember _ hF (by rw [h4.2.1.1]; omega)) (fun r1 G1 hR => ?_)
      obtain ⟨rfl, rfl⟩ := hR
      have hF : FM (remG G) := hF
      refine Ex.stk (st' := []) rfl ?_
      refine x_aload_n (q := 40) dX10_aim_39 rfl rfl ?_
      refine x_getR (q := 43) dX10_aim_40 rfl f_10_7 rfl (ft35 hF) ?_
      refine Ex.stk (st' := [.inr (.inr (some 36))]) (by rw [fr35_0 hF]) ?_
      refine x_bipush (q := 45) dX10_aim_43 rfl (by decide) ?_
      refine x_iaload (q := 46) dX10_aim_45 rfl (Or.inl (ft36 hF)) (by omega) (by rw [fl36 hF]; omega) ?_
      refine Ex.stk (st' := [.inl (s.2.2.1.1 8)]) (by rw [show iv (remG G) 36 8 = s.2.2.1.1 8 from (remG_lo G (by decide)).trans (h4.1 8 (by decide) (by decide))]) ?_
      refine x_iload_n (q := 47) dX10_aim_46 rfl rfl ?_
      refine x_icmp_ne (q := 50) (t := 61) dX10_aim_47 rfl (by decide) (fun h47 => ?_) (fun h47 => ?_)
      · refine x_iconst (q := 62) dX10_aim_61 rfl (by decide) ?_
        refine x_goto (t := 66) dX10_aim_62 (by decide) ?_
        refine x_istore_n (q := 67) (ls' := [some (.inr (.inr (some 35))), some (.inl f), some (.inl x), some (.inl 1)]) dX10_aim_66 rfl (Nat.le_of_ble_eq_true rfl) (by first | rfl | exact hnl | exact hnl2 _) rfl ?_
        refine x_aload_n (q := 68) dX10_aim_67 rfl rfl ?_
        refine x_getR (q := 71) dX10_aim_68 rfl f_10_7 rfl (ft35 hF) ?_
        refine Ex.stk (st' := [.inr (.inr (some 36))]) (by rw [fr35_0 hF]) ?_
        refine x_bipush (q := 73) dX10_aim_71 rfl (by decide) ?_
        refine x_iload_n (q := 74) dX10_aim_73 rfl rfl ?_
        refine x_iastore (q := 75) dX10_aim_74 rfl (ft36 hF) (by omega) (by rw [fl36 hF]; omega) ?_
        have hF := FX_si hF 36 8 f
        refine x_aload_n (q := 76) dX10_aim_75 rfl rfl ?_
        refine x_getR (q := 79) dX10_aim_76 rfl f_10_7 rfl (ft35 hF) ?_
        refine Ex.stk (st' := [.inr (.inr (some 36))]) (by rw [fr35_0 hF]) ?_
        refine x_bipush (q := 81) dX10_aim_79 rfl (by decide) ?_
        refine x_iload_n (q := 82) dX10_aim_81 rfl rfl ?_
        refine x_iastore (q := 83) dX10_aim_82 rfl (ft36 hF) (by omega) (by rw [fl36 hF]; omega) ?_
        have hF := FX_si hF 36 9 x
        refine x_iload_n (q := 84) dX10_aim_83 rfl rfl ?_
        refine x_if_eq (q := 87) (t := 91) dX10_aim_84 rfl (by decide) (fun h84 => by exfalso; omega) (fun h84 => ?_)
        refine x_iconst (q := 88) dX10_aim_87 rfl (by decide) ?_
        refine x_goto (t := 92) dX10_aim_88 (by decide) ?_
        refine x_iret dX10_aim_92 rfl ?_
        have e : o_aim f x s = (1, s.1, s.2.1, remR s.2.2.1 (upi (upi s.2.2.1.1 8 f) 9 x), s.2.2.2) := by
          rw [o_aim, if_pos ⟨hz.1, by omega⟩, if_pos hz2]
          first | rw [if_pos (by omega)] | rw [if_neg (by omega)]
        rw [e]
        refine ⟨rfl, ⟨hF, RMt_k h2 (fun k => by simp only [iv_si]; rw [if_neg (by omega)]; rw [if_neg (by omega)]; exact remG_o G (by decide) (by omega)) (by simp only [iv_si]; rw [if_neg (by omega)]; rw [if_neg (by omega)]; exact remG_o G (by decide) (by decide)) (by simp only [iv_si]; rw [if_neg (by omega)]; rw [if_neg (by omega)]; exact remG_o G (by decide) (by decide)), RMp_k h3 (fun k => by simp only [iv_si]; rw [if_neg (by omega)]; rw [if_neg (by omega)]; exact remG_o G (by decide) (by omega)) (fun k => by simp only [iv_si]; rw [if_neg (by omega)]; rw [if_neg (by omega)]; exact remG_o G (by decide) (by omega)) (by simp only [iv_si]; rw [if_neg (by omega)]; rw [if_neg (by omega)]; exact remG_o G (by decide) (by decide)), RMr_rem h4 hl (fun k k0 k1 => ?_) (fun k k0 => by simp only [iv_si]; rw [if_neg (by omega)]; rw [if_neg (by omega)]) (by simp only [iv_si]; rw [if_neg (by omega)]; rw [if_neg (by omega)]) (fun k => by simp only [iv_si]; rw [if_neg (by omega)]; rw [if_neg (by omega)]; exact remG_o G (by decide) (by omega)) (by simp only [iv_si]; rw [if_neg (by omega)]; rw [if_neg (by omega)]; exact remG_o G (by decide) (by decide)) (Eq.trans (by simp only [iv_si]; rw [if_neg (by omega)]; rw [if_neg (by omega)]; exact remG_o G (by decide) (by decide)) h4.2.2.2), RMb_k h5 (fun k => by simp only [iv_si]; rw [if_neg (by omega)]; rw [if_neg (by omega)]; exact remG_o G (by decide) (by omega)) (fun k => by simp only [iv_si]; rw [if_neg (by omega)]; rw [if_neg (by omega)]; exact remG_o G (by decide) (by omega)) (fun k => by simp only [iv_si]; rw [if_neg (by omega)]; rw [if_neg (by omega)]; exact remG_o G (by decide) (by omega)) (by simp only [iv_si]; rw [if_neg (by omega)]; rw [if_neg (by omega)]; exact remG_o G (by decide) (by decide)), RMc_k h6 (fun a k g1 g2 => by simp only [iv_si]; rw [if_neg (by omega)]; rw [if_neg (by omega)]; exact remG_o G (by omega) (by omega)) (by simp only [iv_si]; rw [if_neg (by omega)]; rw [if_neg (by omega)]; exact remG_o G (by decide) (by decide)) (fun k g1 g2 => by simp only [iv_si]; rw [if_neg (by omega)]; rw [if_neg (by omega)]; exact remG_o G (by decide) (by omega))⟩, (((Mo.rf G).rem).si _ _ (by decide) (by decide)).si _ _ (by decide) (by decide)⟩
        unfold upi
        simp only [iv_si]
        by_cases hk : k = 9
        · rw [if_pos ⟨by trivial, hk⟩, if_pos hk]
        · rw [if_neg (fun q => hk q.2), if_neg hk]
          by_cases hk : k = 8
          · rw [if_pos ⟨by trivial, hk⟩, if_pos hk]
          · rw [if_neg (fun q => hk q.2), if_neg hk, remG_lo G (by omega)]; exact h4.1 k k0 k1
      · refine x_aload_n (q := 51) dX10_aim_50 rfl rfl ?_
        refine x_getR (q := 54) dX10_aim_51 rfl f_10_7 rfl (ft35 hF) ?_
        refine Ex.stk (st' := [.inr (.inr (some 36))]) (by rw [fr35_0 hF]) ?_
        refine x_bipush (q := 56) dX10_aim_54 rfl (by decide) ?_
        refine x_iaload (q := 57) dX10_aim_56 rfl (Or.inl (ft36 hF)) (by omega) (by rw [fl36 hF]; omega) ?_
        refine Ex.stk (st' := [.inl (s.2.2.1.1 9)]) (by rw [show iv (remG G) 36 9 = s.2.2.1.1 9 from (remG_lo G (by decide)).trans (h4.1 9 (by decide) (by decide))]) ?_
        refine x_iload_n (q := 58) dX10_aim_57 rfl rfl ?_
        refine x_icmp_eq (q := 61) (t := 65) dX10_aim_58 rfl (by decide) (fun h58 => ?_) (fun h58 => ?_)
        · refine x_iconst (q := 66) dX10_aim_65 rfl (by decide) ?_
          refine x_istore_n (q := 67) (ls' := [some (.inr (.inr (some 35))), some (.inl f), some (.inl x), some (.inl 0)]) dX10_aim_66 rfl (Nat.le_of_ble_eq_true rfl) (by first | rfl | exact hnl | exact hnl2 _) rfl ?_
          refine x_aload_n (q := 68) dX10_aim_67 rfl rfl ?_
          refine x_getR (q := 71) dX10_aim_68 rfl f_10_7 rfl (ft35 hF) ?_
          refine Ex.stk (st' := [.inr (.inr (some 36))]) (by rw [fr35_0 hF]) ?_
          refine x_bipush (q := 73) dX10_aim_71 rfl (by decide) ?_
          refine x_iload_n (q := 74) dX10_aim_73 rfl rfl ?_
          refine x_iastore (q := 75) dX10_aim_74 rfl (ft36 hF) (by omega) (by rw [fl36 hF]; omega) ?_
          have hF := FX_si hF 36 8 f
          refine x_aload_n (q := 76) dX10_aim_75 rfl rfl ?_
          refine x_getR (q := 79) dX10_aim_76 rfl f_10_7 rfl (ft35 hF) ?_
          refine Ex.stk (st' := [.inr (.inr (some 36))]) (by rw [fr35_0 hF]) ?_
          refine x_bipush (q := 81) dX10_aim_79 rfl (by decide) ?_
          refine x_iload_n (q := 82) dX10_aim_81 rfl rfl ?_
          refine x_iastore (q := 83) dX10_aim_82 rfl (ft36 hF) (by omega) (by rw [fl36 hF]; omega) ?_
          have hF := FX_si hF 36 9 x
          refine x_iload_n (q := 84) dX10_aim_83 rfl rfl ?_
          refine x_if_eq (q := 87) (t := 91) dX10_aim_84 rfl (by decide) (fun h84 => ?_) (fun h84 => by exfalso; omega)
          refine x_iconst (q := 92) dX10_aim_91 rfl (by decide) ?_
          refine x_iret dX10_aim_92 rfl ?_
          have e : o_aim f x s = (0, s.1, s.2.1, remR s.2.2.1 (upi (upi s.2.2.1.1 8 f) 9 x), s.2.2.2) := by
            rw [o_aim, if_pos ⟨hz.1, by omega⟩, if_pos hz2]
            first | rw [if_pos (by omega)] | rw [if_neg (by omega)]
          rw [e]
          refine ⟨rfl, ⟨hF, RMt_k h2 (fun k => by simp only [iv_si]; rw [if_neg (by omega)]; rw [if_neg (by omega)]; exact remG_o G (by decide) (by omega)) (by simp only [iv_si]; rw [if_neg (by omega)]; rw [if_neg (by omega)]; exact remG_o G (by decide) (by decide)) (by simp only [iv_si]; rw [if_neg (by omega)]; rw [if_neg (by omega)]; exact remG_o G (by decide) (by decide)), RMp_k h3 (fun k => by simp only [iv_si]; rw [if_neg (by omega)]; rw [if_neg (by omega)]; exact remG_o G (by decide) (by omega)) (fun k => by simp only [iv_si]; rw [if_neg (by omega)]; rw [if_neg (by omega)]; exact remG_o G (by decide) (by omega)) (by simp only [iv_si]; rw [if_neg (by omega)]; rw [if_neg (by omega)]; exact remG_o G (by decide) (by decide)), RMr_rem h4 hl (fun k k0 k1 => ?_) (fun k k0 => by simp only [iv_si]; rw [if_neg (by omega)]; rw [if_neg (by omega)]) (by simp only [iv_si]; rw [if_neg (by omega)]; rw [if_neg (by omega)]) (fun k => by simp only [iv_si]; rw [if_neg (by omega)]; rw [if_neg (by omega)]; exact remG_o G (by decide) (by omega)) (by simp only [iv_si]; rw [if_neg (by omega)]; rw [if_neg (by omega)]; exact remG_o G (by decide) (by decide)) (Eq.trans (by simp only [iv_si]; rw [if_neg (by omega)]; rw [if_neg (by omega)]; exact remG_o G (by decide) (by decide)) h4.2.2.2), RMb_k h5 (fun k => by simp only [iv_si]; rw [if_neg (by omega)]; rw [if_neg (by omega)]; exact remG_o G (by decide) (by omega)) (fun k => by simp only [iv_si]; rw [if_neg (by omega)]; rw [if_neg (by omega)]; exact remG_o G (by decide) (by omega)) (fun k => by simp only [iv_si]; rw [if_neg (by omega)]; rw [if_neg (by omega)]; exact remG_o G (by decide) (by omega)) (by simp only [iv_si]; rw [if_neg (by omega)]; rw [if_neg (by omega)]; exact remG_o G (by decide) (by decide)), RMc_k h6 (fun a k g1 g2 => by simp only [iv_si]; rw [if_neg (by omega)]; rw [if_neg (by omega)]; exact remG_o G (by omega) (by omega)) (by simp only [iv_si]; rw [if_neg (by omega)]; rw [if_neg (by omega)]; exact remG_o G (by decide) (by decide)) (fun k g1 g2 => by simp only [iv_si]; rw [if_neg (by omega)]; rw [if_neg (by omega)]; exact remG_o G (by decide) (by omega))⟩, (((Mo.rf G).rem).si _ _ (by decide) (by decide)).si _ _ (by decide) (by decide)⟩
          unfold upi
          simp only [iv_si]
          by_cases hk : k = 9
          · rw [if_pos ⟨by trivial, hk⟩, if_pos hk]
          · rw [if_neg (fun q => hk q.2), if_neg hk]
            by_cases hk : k = 8
            · rw [if_pos ⟨by trivial, hk⟩, if_pos hk]
            · rw [if_neg (fun q => hk q.2), if_neg hk, remG_lo G (by omega)]; exact h4.1 k k0 k1
        · refine x_iconst (q := 62) dX10_aim_61 rfl (by decide) ?_
          refine x_goto (t := 66) dX10_aim_62 (by decide) ?_
          refine x_istore_n (q := 67) (ls' := [some (.inr (.inr (some 35))), some (.inl f), some (.inl x), some (.inl 1)]) dX10_aim_66 rfl (Nat.le_of_ble_eq_true rfl) (by first | rfl | exact hnl | exact hnl2 _) rfl ?_
          refine x_aload_n (q := 68) dX10_aim_67 rfl rfl ?_
          refine x_getR (q := 71) dX10_aim_68 rfl f_10_7 rfl (ft35 hF) ?_
          refine Ex.stk (st' := [.inr (.inr (some 36))]) (by rw [fr35_0 hF]) ?_
          refine x_bipush (q := 73) dX10_aim_71 rfl (by decide) ?_
          refine x_iload_n (q := 74) dX10_aim_73 rfl rfl ?_
          refine x_iastore (q := 75) dX10_aim_74 rfl (ft36 hF) (by omega) (by rw [fl36 hF]; omega) ?_
          have hF := FX_si hF 36 8 f
          refine x_aload_n (q := 76) dX10_aim_75 rfl rfl ?_
          refine x_getR (q := 79) dX10_aim_76 rfl f_10_7 rfl (ft35 hF) ?_
          refine Ex.stk (st' := [.inr (.inr (some 36))]) (by rw [fr35_0 hF]) ?_
          refine x_bipush (q := 81) dX10_aim_79 rfl (by decide) ?_
          refine x_iload_n (q := 82) dX10_aim_81 rfl rfl ?_
          refine x_iastore (q := 83) dX10_aim_82 rfl (ft36 hF) (by omega) (by rw [fl36 hF]; omega) ?_
          have hF := FX_si hF 36 9 x
          refine x_iload_n (q := 84) dX10_aim_83 rfl rfl ?_
          refine x_if_eq (q := 87) (t := 91) dX10_aim_84 rfl (by decide) (fun h84 => by exfalso; omega) (fun h84 => ?_)
          refine x_iconst (q := 88) dX10_aim_87 rfl (by decide) ?_
          refine x_goto (t := 92) dX10_aim_88 (by decide) ?_
          refine x_iret dX10_aim_92 rfl ?_
          have e : o_aim f x s = (1, s.1, s.2.1, remR s.2.2.1 (upi (upi s.2.2.1.1 8 f) 9 x), s.2.2.2) := by
            rw [o_aim, if_pos ⟨hz.1, by omega⟩, if_pos hz2]
            first | rw [if_pos (by omega)] | rw [if_neg (by omega)]
          rw [e]
          refine ⟨rfl, ⟨hF, RMt_k h2 (fun k => by simp only [iv_si]; rw [if_neg (by omega)]; rw [if_neg (by omega)]; exact remG_o G (by decide) (by omega)) (by simp only [iv_si]; rw [if_neg (by omega)]; rw [if_neg (by omega)]; exact remG_o G (by decide) (by decide)) (by simp only [iv_si]; rw [if_neg (by omega)]; rw [if_neg (by omega)]; exact remG_o G (by decide) (by decide)), RMp_k h3 (fun k => by simp only [iv_si]; rw [if_neg (by omega)]; rw [if_neg (by omega)]; exact remG_o G (by decide) (by omega)) (fun k => by simp only [iv_si]; rw [if_neg (by omega)]; rw [if_neg (by omega)]; exact remG_o G (by decide) (by omega)) (by simp only [iv_si]; rw [if_neg (by omega)]; rw [if_neg (by omega)]; exact remG_o G (by decide) (by decide)), RMr_rem h4 hl (fun k k0 k1 => ?_) (fun k k0 => by simp only [iv_si]; rw [if_neg (by omega)]; rw [if_neg (by omega)]) (by simp only [iv_si]; rw [if_neg (by omega)]; rw [if_neg (by omega)]) (fun k => by simp only [iv_si]; rw [if_neg (by omega)]; rw [if_neg (by omega)]; exact remG_o G (by decide) (by omega)) (by simp only [iv_si]; rw [if_neg (by omega)]; rw [if_neg (by omega)]; exact remG_o G (by decide) (by decide)) (Eq.trans (by simp only [iv_si]; rw [if_neg (by omega)]; rw [if_neg (by omega)]; exact remG_o G (by decide) (by decide)) h4.2.2.2), RMb_k h5 (fun k => by simp only [iv_si]; rw [if_neg (by omega)]; rw [if_neg (by omega)]; exact remG_o G (by decide) (by omega)) (fun k => by simp only [iv_si]; rw [if_neg (by omega)]; rw [if_neg (by omega)]; exact remG_o G (by decide) (by omega)) (fun k => by simp only [iv_si]; rw [if_neg (by omega)]; rw [if_neg (by omega)]; exact remG_o G (by decide) (by omega)) (by simp only [iv_si]; rw [if_neg (by omega)]; rw [if_neg (by omega)]; exact remG_o G (by decide) (by decide)), RMc_k h6 (fun a k g1 g2 => by simp only [iv_si]; rw [if_neg (by omega)]; rw [if_neg (by omega)]; exact remG_o G (by omega) (by omega)) (by simp only [iv_si]; rw [if_neg (by omega)]; rw [if_neg (by omega)]; exact remG_o G (by decide) (by decide)) (fun k g1 g2 => by simp only [iv_si]; rw [if_neg (by omega)]; rw [if_neg (by omega)]; exact remG_o G (by decide) (by omega))⟩, (((Mo.rf G).rem).si _ _ (by decide) (by decide)).si _ _ (by decide) (by decide)⟩
          unfold upi
          simp only [iv_si]
          by_cases hk : k = 9
          · rw [if_pos ⟨by trivial, hk⟩, if_pos hk]
          · rw [if_neg (fun q => hk q.2), if_neg hk]
            by_cases hk : k = 8
            · rw [if_pos ⟨by trivial, hk⟩, if_pos hk]
            · rw [if_neg (fun q => hk q.2), if_neg hk, remG_lo G (by omega)]; exact h4.1 k k0 k1
    · refine x_ldc (q := 34) dX10_aim_32 rfl k_10_239 ?_
      refine x_iret dX10_aim_34 rfl ?_
      have hz := z10b.mp (by omega)
      have e : o_aim f x s = (-1000000002, s) := by rw [o_aim, if_pos ⟨hz.1, by omega⟩, if_neg (fun q => by have := z26b.mpr q; omega)]
      rw [e]; exact ⟨rfl, hR1, Mo.rf G⟩
  · refine x_ldc_w (q := 19) dX10_aim_16 rfl k_10_271 ?_
    refine x_iret dX10_aim_19 rfl ?_
    have e : o_aim f x s = (-1000000001, s) := if_neg (fun q => by have := z10b.mpr ⟨q.1, by omega⟩; omega)
    rw [e]; exact ⟨rfl, hR1, Mo.rf G⟩
