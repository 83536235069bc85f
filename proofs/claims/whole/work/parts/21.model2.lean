/-! THE MODEL: the machine that goes through terms -/
theorem si_si (G : Hp) (a : Nat) (k v v' : Int) : si (si G a k v) a k v' = si G a k v' := by
  unfold si
  simp only [Prod.mk.injEq, true_and, and_true]
  funext b j
  by_cases h : b = a ∧ j = k
  · rw [if_pos h, if_pos h]
  · rw [if_neg h, if_neg h, if_neg h]
theorem si_self (G : Hp) (a : Nat) (k v : Int) (h : iv G a k = v) : si G a k v = G := by
  obtain ⟨g1, g2, g3, g4, g5⟩ := G
  unfold si
  simp only [Prod.mk.injEq, true_and, and_true]
  funext b j
  by_cases hb : b = a ∧ j = k
  · rw [if_pos hb, hb.1, hb.2, ← h]; rfl
  · rw [if_neg hb]
theorem si_comm (G : Hp) {a b : Nat} {j k : Int} (v v' : Int) (h : ¬ (a = b ∧ j = k)) : si (si G a j v) b k v' = si (si G b k v') a j v := by
  unfold si
  simp only [Prod.mk.injEq, true_and, and_true]
  funext c i
  by_cases h1 : c = a ∧ i = j
  · have h2 : ¬ (c = b ∧ i = k) := fun h2 => h ⟨h1.1.symm.trans h2.1, h1.2.symm.trans h2.2⟩
    simp only [if_pos h1, if_neg h2]
  · by_cases h2 : c = b ∧ i = k
    · simp only [if_neg h1, if_pos h2]
    · simp only [if_neg h1, if_neg h2]
theorem wnt_bd (c : Int) : 0 ≤ wnt c ∧ wnt c ≤ 3 := by
  unfold wnt; (repeat' split) <;> omega
/-- a well formed term from a to b, at most n deep -/
def Tm (cd : Int → Int) : Nat → Int → Int → Prop
  | 0, _, _ => False
  | n + 1, a, b => (((48 ≤ cd a ∧ cd a ≤ 57) ∨ cd a = 110) ∧ b = a + 1) ∨ (cd a = 120 ∧ Tm cd n (a + 1) b) ∨ (cd a = 102 ∧ 48 ≤ cd (a + 1) ∧ cd (a + 1) ≤ 52 ∧ Tm cd n (a + 2) b) ∨ ((cd a = 43 ∨ cd a = 45 ∨ cd a = 42 ∨ cd a = 60) ∧ ∃ m, Tm cd n (a + 1) m ∧ Tm cd n m b) ∨ (cd a = 63 ∧ ∃ m1 m2, Tm cd n (a + 1) m1 ∧ Tm cd n m1 m2 ∧ Tm cd n m2 b)
theorem Tm_lt {cd : Int → Int} : ∀ {n : Nat} {a b : Int}, Tm cd n a b → a < b := by
  intro n
  induction n with
  | zero => intro a b h; exact h.elim
  | succ n ih =>
    intro a b h
    rcases h with ⟨-, h⟩ | ⟨-, h⟩ | ⟨-, -, -, h⟩ | ⟨-, m, h1, h2⟩ | ⟨-, m1, m2, h1, h2, h3⟩
    · omega
    · have := ih h; omega
    · have := ih h; omega
    · have := ih h1; have := ih h2; omega
    · have := ih h1; have := ih h2; have := ih h3; omega
theorem Tm_tend {cd : Int → Int} : ∀ {n : Nat} {a b : Int}, Tm cd n a b → tend cd n a = b := by
  intro n
  induction n with
  | zero => intro a b h; exact h.elim
  | succ n ih =>
    intro a b h
    unfold tend
    rcases h with ⟨h0, h⟩ | ⟨h0, h⟩ | ⟨h0, -, -, h⟩ | ⟨h0, m, h1, h2⟩ | ⟨h0, m1, m2, h1, h2, h3⟩
    · rw [if_neg (by omega), if_neg (by omega), if_neg (by omega), if_neg (by omega)]; omega
    · rw [if_pos h0]; exact ih h
    · rw [if_neg (by omega), if_pos h0]; exact ih h
    · rw [if_neg (by omega), if_neg (by omega), if_pos h0, ih h1]; exact ih h2
    · rw [if_neg (by omega), if_neg (by omega), if_neg (by omega), if_pos h0, ih h1, ih h2]; exact ih h3
theorem skip_turn {d : Nat} {G : Hp} {Q : Option V → Hp → Prop} (hF : FM G) {a j c : Int} {l2 : Option V} (hn : isL l2 = false) (hj : 0 < j) (hj2 : j < 100000) (h0 : 0 ≤ a) (h1 : a < 160) (hc : iv G 42 a = c) (hk : Ex (d + 1) none 10 false cX10_skip 2 [some (.inr (.inr (some 35))), some (.inl (j + wnt c - 1)), some (.inl c)] [] (si G 35 41 (a + (if c = 102 then 2 else 1))) Q) : Ex (d + 1) none 10 false cX10_skip 2 [some (.inr (.inr (some 35))), some (.inl j), l2] [] (si G 35 41 a) Q := by
  have hwn := wnt_bd c
  have hF := FX_si hF 35 41 a
  have hnl : noL [some (.inr (.inr (some 35))), some (.inl j), l2] = true := by simp [noL, isL] at hn ⊢; exact hn
  refine x_iload_n (q := 3) dX10_skip_2 rfl rfl ?_
  refine x_if_le (q := 6) (t := 48) dX10_skip_3 rfl (by decide) (fun h3 => by exfalso; omega) (fun h3 => ?_)
  refine x_aload_n (q := 7) dX10_skip_6 rfl rfl ?_
  refine x_getR (q := 10) dX10_skip_7 rfl f_10_32 rfl (ft35 hF) ?_
  refine Ex.stk (st' := [.inr (.inr (some 42))]) (by rw [fr35_12 hF]) ?_
  refine x_aload_n (q := 11) dX10_skip_10 rfl rfl ?_
  refine x_getI (q := 14) dX10_skip_11 rfl f_10_111 rfl (ft35 hF) ?_
  refine Ex.stk (st' := [.inl a, .inr (.inr (some 42))]) (by rw [show iv (si G 35 41 a) 35 41 = a from (by simp [iv_si])]) ?_
  refine x_iaload (q := 15) dX10_skip_14 rfl (Or.inl (ft42 hF)) (by omega) (by rw [fl42 hF]; omega) ?_
  refine Ex.stk (st' := [.inl c]) (by rw [show iv (si G 35 41 a) 42 a = c from (by first | exact hc | simp [iv_si, iv_sr, iv_nw, hc])]) ?_
  refine x_istore_n (q := 16) (ls' := [some (.inr (.inr (some 35))), some (.inl j), some (.inl c)]) dX10_skip_15 rfl (Nat.le_of_ble_eq_true rfl) (by first | rfl | exact hnl | exact hnl2 _) rfl ?_
  refine x_aload_n (q := 17) dX10_skip_16 rfl rfl ?_
  refine x_dup (q := 18) dX10_skip_17 rfl rfl ?_
  refine x_getI (q := 21) dX10_skip_18 rfl f_10_111 rfl (ft35 hF) ?_
  refine Ex.stk (st' := [.inl a, .inr (.inr (some 35))]) (by rw [show iv (si G 35 41 a) 35 41 = a from (by simp [iv_si])]) ?_
  refine x_iload_n (q := 22) dX10_skip_21 rfl rfl ?_
  refine x_bipush (q := 24) dX10_skip_22 rfl (by decide) ?_
  refine x_icmp_ne (q := 27) (t := 31) dX10_skip_24 rfl (by decide) (fun h24 => ?_) (fun h24 => ?_)
  · refine x_iconst (q := 32) dX10_skip_31 rfl (by decide) ?_
    refine x_iadd (q := 33) (z := a + 1) dX10_skip_32 rfl (wr_id ⟨by omega, by omega⟩) ?_
    refine x_putI (q := 36) dX10_skip_33 rfl f_10_111 rfl (fun h => by cases h) (fun h => by cases h) (ft35 hF) ?_
    have hF := FX_si hF 35 41 (a + 1)
    refine x_iload_n (q := 37) dX10_skip_36 rfl rfl ?_
    refine x_iload_n (q := 38) dX10_skip_37 rfl rfl ?_
    refine x_invS (q := 41) (as := [.inl c]) (rest := [.inl j]) dX10_skip_38 rfl l_10_114 m_X10_wants rfl rfl (Nat.le_of_ble_eq_true rfl) (Nat.le_of_ble_eq_true rfl) (c_wants _) (fun r1 G1 hR => ?_)
    obtain ⟨hG1, rfl⟩ := hR
    replace hG1 := hG1.symm
    subst hG1
    refine Ex.stk (st' := [.inl (wnt c), .inl j]) rfl ?_
    refine x_iconst (q := 42) dX10_skip_41 rfl (by decide) ?_
    refine x_isub (q := 43) (z := (wnt c) - 1) dX10_skip_42 rfl (wr_id ⟨by omega, by omega⟩) ?_
    refine x_iadd (q := 44) (z := j + ((wnt c) - 1)) dX10_skip_43 rfl (wr_id ⟨by omega, by omega⟩) ?_
    refine x_istore_n (q := 45) (ls' := [some (.inr (.inr (some 35))), some (.inl (j + ((wnt c) - 1))), some (.inl c)]) dX10_skip_44 rfl (Nat.le_of_ble_eq_true rfl) (by first | rfl | exact hnl | exact hnl2 _) rfl ?_
    refine x_goto (t := 2) dX10_skip_45 (by decide) ?_
    rw [si_si]
    have e1 : j + ((wnt c) - 1) = j + wnt c - 1 := by omega
    have e2 : a + (1) = a + (if c = 102 then 2 else 1) := by split <;> omega
    rw [e1, e2]
    exact hk
  · refine x_iconst (q := 28) dX10_skip_27 rfl (by decide) ?_
    refine x_goto (t := 32) dX10_skip_28 (by decide) ?_
    refine x_iadd (q := 33) (z := a + 2) dX10_skip_32 rfl (wr_id ⟨by omega, by omega⟩) ?_
    refine x_putI (q := 36) dX10_skip_33 rfl f_10_111 rfl (fun h => by cases h) (fun h => by cases h) (ft35 hF) ?_
    have hF := FX_si hF 35 41 (a + 2)
    refine x_iload_n (q := 37) dX10_skip_36 rfl rfl ?_
    refine x_iload_n (q := 38) dX10_skip_37 rfl rfl ?_
    refine x_invS (q := 41) (as := [.inl c]) (rest := [.inl j]) dX10_skip_38 rfl l_10_114 m_X10_wants rfl rfl (Nat.le_of_ble_eq_true rfl) (Nat.le_of_ble_eq_true rfl) (c_wants _) (fun r1 G1 hR => ?_)
    obtain ⟨hG1, rfl⟩ := hR
    replace hG1 := hG1.symm
    subst hG1
    refine Ex.stk (st' := [.inl (wnt c), .inl j]) rfl ?_
    refine x_iconst (q := 42) dX10_skip_41 rfl (by decide) ?_
    refine x_isub (q := 43) (z := (wnt c) - 1) dX10_skip_42 rfl (wr_id ⟨by omega, by omega⟩) ?_
    refine x_iadd (q := 44) (z := j + ((wnt c) - 1)) dX10_skip_43 rfl (wr_id ⟨by omega, by omega⟩) ?_
    refine x_istore_n (q := 45) (ls' := [some (.inr (.inr (some 35))), some (.inl (j + ((wnt c) - 1))), some (.inl c)]) dX10_skip_44 rfl (Nat.le_of_ble_eq_true rfl) (by first | rfl | exact hnl | exact hnl2 _) rfl ?_
    refine x_goto (t := 2) dX10_skip_45 (by decide) ?_
    rw [si_si]
    have e1 : j + ((wnt c) - 1) = j + wnt c - 1 := by omega
    have e2 : a + (2) = a + (if c = 102 then 2 else 1) := by split <;> omega
    rw [e1, e2]
    exact hk
theorem skip_loop {d : Nat} {G : Hp} {Q : Option V → Hp → Prop} (hF : FM G) : ∀ (n : Nat) (a b k : Int) (l2 : Option V), Tm (iv G 42) n a b → isL l2 = false → 0 ≤ a → b ≤ 160 → 0 ≤ k → k + (b - a) < 50000 → (∀ l3 : Option V, isL l3 = false → Ex (d + 1) none 10 false cX10_skip 2 [some (.inr (.inr (some 35))), some (.inl k), l3] [] (si G 35 41 b) Q) → Ex (d + 1) none 10 false cX10_skip 2 [some (.inr (.inr (some 35))), some (.inl (k + 1)), l2] [] (si G 35 41 a) Q := by
  intro n
  induction n with
  | zero => intro a b k l2 h; exact h.elim
  | succ n ih =>
    intro a b k l2 h hl h0 h1 hk hk2 kk
    have hlt := Tm_lt h
    refine skip_turn hF hl (by omega) (by omega) h0 (by omega) rfl ?_
    rcases h with ⟨c0, h⟩ | ⟨c0, h⟩ | ⟨c0, -, -, h⟩ | ⟨c0, m, g1, g2⟩ | ⟨c0, m1, m2, g1, g2, g3⟩
    · have e1 : wnt (iv G 42 a) = 0 := by unfold wnt; (repeat' split) <;> omega
      rw [e1, if_neg (by omega), show k + 1 + 0 - 1 = k from by omega, ← h]
      exact kk _ rfl
    · have e1 : wnt (iv G 42 a) = 1 := by unfold wnt; (repeat' split) <;> omega
      rw [e1, if_neg (by omega), show k + 1 + 1 - 1 = k + 1 from by omega]
      exact ih (a + 1) b k _ h rfl (by omega) h1 hk (by omega) kk
    · have e1 : wnt (iv G 42 a) = 1 := by unfold wnt; (repeat' split) <;> omega
      rw [e1, if_pos c0, show k + 1 + 1 - 1 = k + 1 from by omega]
      exact ih (a + 2) b k _ h rfl (by omega) h1 hk (by omega) kk
    · have e1 : wnt (iv G 42 a) = 2 := by unfold wnt; (repeat' split) <;> omega
      have := Tm_lt g1
      have := Tm_lt g2
      rw [e1, if_neg (by omega), show k + 1 + 2 - 1 = (k + 1) + 1 from by omega]
      exact ih (a + 1) m (k + 1) _ g1 rfl (by omega) (by omega) (by omega) (by omega) (fun l3 hl3 => ih m b k _ g2 hl3 (by omega) h1 hk (by omega) kk)
    · have e1 : wnt (iv G 42 a) = 3 := by unfold wnt; (repeat' split) <;> omega
      have := Tm_lt g1
      have := Tm_lt g2
      have := Tm_lt g3
      rw [e1, if_neg (by omega), show k + 1 + 3 - 1 = (k + 1 + 1) + 1 from by omega]
      exact ih (a + 1) m1 (k + 1 + 1) _ g1 rfl (by omega) (by omega) (by omega) (by omega) (fun l3 hl3 => ih m1 m2 (k + 1) _ g2 hl3 (by omega) (by omega) (by omega) (by omega) (fun l4 hl4 => ih m2 b k _ g3 hl4 (by omega) h1 hk (by omega) kk))
theorem c_skip (d : Nat) {G : Hp} (hF : FM G) {n : Nat} {a b : Int} (ha : iv G 35 41 = a) (hT : Tm (iv G 42) n a b) (h0 : 0 ≤ a) (h1 : b ≤ 160) : CX (d + 2) 115 [.inr (.inr (some 35))] G (fun r G1 => r = none ∧ G1 = si G 35 41 b) := by
  refine CX.of (d := d + 1) m_X10_skip (Nat.le_of_ble_eq_true rfl) ?_
  refine Ex.lcl (ls' := [some (.inr (.inr (some 35))), none, none]) rfl ?_
  refine x_iconst (q := 1) dX10_skip_0 rfl (by decide) ?_
  refine x_istore_n (q := 2) (ls' := [some (.inr (.inr (some 35))), some (.inl 1), none]) dX10_skip_1 rfl (Nat.le_of_ble_eq_true rfl) (by first | rfl | exact hnl | exact hnl2 _) rfl ?_
  refine Ex.mem (si_self G 35 41 a ha).symm ?_
  refine skip_loop (G := G) hF n a b 0 none hT rfl h0 h1 (by omega) (by omega) (fun l3 hl3 => ?_)
  have hnl : noL [some (.inr (.inr (some 35))), some (.inl 0), l3] = true := by simp [noL, isL] at hl3 ⊢; exact hl3
  refine x_iload_n (q := 3) dX10_skip_2 rfl rfl ?_
  refine x_if_le (q := 6) (t := 48) dX10_skip_3 rfl (by decide) (fun _ => ?_) (fun h => by exfalso; omega)
  refine x_vret dX10_skip_48 rfl ?_
  exact ⟨rfl, rfl⟩
theorem c_begin (d : Nat) {G : Hp} (hF : FM G) {f x w a cur nc ab : Int} (hw : iv G 35 40 = w) (ha : iv G 35 41 = a) (hcur : iv G 35 42 = cur) (hnc : iv G 35 29 = nc) (hab : (nc = 0 ∧ ab = 0) ∨ (nc ≠ 0 ∧ iv G 55 cur = ab)) (w0 : 0 ≤ w) (w1 : w < 1200) (n0 : 0 ≤ nc) (n1 : nc < 364) (c0 : 0 ≤ cur) (c1 : cur < 364) (f0 : 0 ≤ f) (f1 : f < 5) (b0 : 0 ≤ ab) (b1 : ab < 100) : CX (d + 2) 116 [.inr (.inr (some 35)), .inl f, .inl x] G (fun r G1 => r = none ∧ G1 = si (si (si (si (si (si (si (si (si (si (si (si G 35 42 nc) 52 nc f) 53 nc x) 55 nc (ab + 1)) 56 nc 0) 35 29 (nc + 1)) 60 w 67) 61 w 0) 62 w cur) 35 40 (w + 1)) 61 w a) 35 41 (iv G 43 f)) := by
  have K20 : Ex (d + 1) none 10 false cX10_begin 20 [some (.inr (.inr (some 35))), some (.inl f), some (.inl x), none, none] [.inl ab] G (fun r G1 => r = none ∧ G1 = si (si (si (si (si (si (si (si (si (si (si (si G 35 42 nc) 52 nc f) 53 nc x) 55 nc (ab + 1)) 56 nc 0) 35 29 (nc + 1)) 60 w 67) 61 w 0) 62 w cur) 35 40 (w + 1)) 61 w a) 35 41 (iv G 43 f)) := by
    refine x_istore_n (q := 21) (ls' := [some (.inr (.inr (some 35))), some (.inl f), some (.inl x), some (.inl ab), none]) dX10_begin_20 rfl (Nat.le_of_ble_eq_true rfl) (by first | rfl | exact hnl | exact hnl2 _) rfl ?_
    refine x_aload_n (q := 22) dX10_begin_21 rfl rfl ?_
    refine x_getI (q := 25) dX10_begin_22 rfl f_10_121 rfl (ft35 hF) ?_
    refine Ex.stk (st' := [.inl cur]) (by rw [show iv G 35 42 = cur from hcur]) ?_
    refine x_istore (q := 27) (ls' := [some (.inr (.inr (some 35))), some (.inl f), some (.inl x), some (.inl ab), some (.inl cur)]) dX10_begin_25 rfl (Nat.le_of_ble_eq_true rfl) (by first | rfl | exact hnl | exact hnl2 _) rfl ?_
    refine x_aload_n (q := 28) dX10_begin_27 rfl rfl ?_
    refine x_aload_n (q := 29) dX10_begin_28 rfl rfl ?_
    refine x_getI (q := 32) dX10_begin_29 rfl f_10_118 rfl (ft35 hF) ?_
    refine Ex.stk (st' := [.inl nc, .inr (.inr (some 35))]) (by rw [show iv G 35 29 = nc from hnc]) ?_
    refine x_putI (q := 35) dX10_begin_32 rfl f_10_121 rfl (fun h => by cases h) (fun h => by cases h) (ft35 hF) ?_
    have hF := FX_si hF 35 42 nc
    refine x_aload_n (q := 36) dX10_begin_35 rfl rfl ?_
    refine x_getR (q := 39) dX10_begin_36 rfl f_10_62 rfl (ft35 hF) ?_
    refine Ex.stk (st' := [.inr (.inr (some 52))]) (by rw [fr35_24 hF]) ?_
    refine x_aload_n (q := 40) dX10_begin_39 rfl rfl ?_
    refine x_getI (q := 43) dX10_begin_40 rfl f_10_121 rfl (ft35 hF) ?_
    refine Ex.stk (st' := [.inl nc, .inr (.inr (some 52))]) (by rw [show iv (si G 35 42 nc) 35 42 = nc from (by simp [iv_si])]) ?_
    refine x_iload_n (q := 44) dX10_begin_43 rfl rfl ?_
    refine x_iastore (q := 45) dX10_begin_44 rfl (ft52 hF) (by omega) (by rw [fl52 hF]; omega) ?_
    have hF := FX_si hF 52 nc f
    refine x_aload_n (q := 46) dX10_begin_45 rfl rfl ?_
    refine x_getR (q := 49) dX10_begin_46 rfl f_10_65 rfl (ft35 hF) ?_
    refine Ex.stk (st' := [.inr (.inr (some 53))]) (by rw [fr35_25 hF]) ?_
    refine x_aload_n (q := 50) dX10_begin_49 rfl rfl ?_
    refine x_getI (q := 53) dX10_begin_50 rfl f_10_121 rfl (ft35 hF) ?_
    refine Ex.stk (st' := [.inl nc, .inr (.inr (some 53))]) (by rw [show iv (si (si G 35 42 nc) 52 nc f) 35 42 = nc from (by simp [iv_si])]) ?_
    refine x_iload_n (q := 54) dX10_begin_53 rfl rfl ?_
    refine x_iastore (q := 55) dX10_begin_54 rfl (ft53 hF) (by omega) (by rw [fl53 hF]; omega) ?_
    have hF := FX_si hF 53 nc x
    refine x_aload_n (q := 56) dX10_begin_55 rfl rfl ?_
    refine x_getR (q := 59) dX10_begin_56 rfl f_10_71 rfl (ft35 hF) ?_
    refine Ex.stk (st' := [.inr (.inr (some 55))]) (by rw [fr35_27 hF]) ?_
    refine x_aload_n (q := 60) dX10_begin_59 rfl rfl ?_
    refine x_getI (q := 63) dX10_begin_60 rfl f_10_121 rfl (ft35 hF) ?_
    refine Ex.stk (st' := [.inl nc, .inr (.inr (some 55))]) (by rw [show iv (si (si (si G 35 42 nc) 52 nc f) 53 nc x) 35 42 = nc from (by simp [iv_si])]) ?_
    refine x_iload_n (q := 64) dX10_begin_63 rfl rfl ?_
    refine x_iconst (q := 65) dX10_begin_64 rfl (by decide) ?_
    refine x_iadd (q := 66) (z := ab + 1) dX10_begin_65 rfl (wr_id ⟨by omega, by omega⟩) ?_
    refine x_iastore (q := 67) dX10_begin_66 rfl (ft55 hF) (by omega) (by rw [fl55 hF]; omega) ?_
    have hF := FX_si hF 55 nc (ab + 1)
    refine x_aload_n (q := 68) dX10_begin_67 rfl rfl ?_
    refine x_getR (q := 71) dX10_begin_68 rfl f_10_74 rfl (ft35 hF) ?_
    refine Ex.stk (st' := [.inr (.inr (some 56))]) (by rw [fr35_28 hF]) ?_
    refine x_aload_n (q := 72) dX10_begin_71 rfl rfl ?_
    refine x_getI (q := 75) dX10_begin_72 rfl f_10_121 rfl (ft35 hF) ?_
    refine Ex.stk (st' := [.inl nc, .inr (.inr (some 56))]) (by rw [show iv (si (si (si (si G 35 42 nc) 52 nc f) 53 nc x) 55 nc (ab + 1)) 35 42 = nc from (by simp [iv_si])]) ?_
    refine x_iconst (q := 76) dX10_begin_75 rfl (by decide) ?_
    refine x_iastore (q := 77) dX10_begin_76 rfl (ft56 hF) (by omega) (by rw [fl56 hF]; omega) ?_
    have hF := FX_si hF 56 nc 0
    refine x_aload_n (q := 78) dX10_begin_77 rfl rfl ?_
    refine x_dup (q := 79) dX10_begin_78 rfl rfl ?_
    refine x_getI (q := 82) dX10_begin_79 rfl f_10_118 rfl (ft35 hF) ?_
    refine Ex.stk (st' := [.inl nc, .inr (.inr (some 35))]) (by rw [show iv (si (si (si (si (si G 35 42 nc) 52 nc f) 53 nc x) 55 nc (ab + 1)) 56 nc 0) 35 29 = nc from (by simp [iv_si, hw, ha, hcur, hnc])]) ?_
    refine x_iconst (q := 83) dX10_begin_82 rfl (by decide) ?_
    refine x_iadd (q := 84) (z := nc + 1) dX10_begin_83 rfl (wr_id ⟨by omega, by omega⟩) ?_
    refine x_putI (q := 87) dX10_begin_84 rfl f_10_118 rfl (fun h => by cases h) (fun h => by cases h) (ft35 hF) ?_
    have hF := FX_si hF 35 29 (nc + 1)
    refine x_aload_n (q := 88) dX10_begin_87 rfl rfl ?_
    refine x_bipush (q := 90) dX10_begin_88 rfl (by decide) ?_
    refine x_iload (q := 92) dX10_begin_90 rfl rfl ?_
    refine x_invV (q := 95) (as := [.inr (.inr (some 35)), .inl 67, .inl cur]) (rest := []) dX10_begin_92 rfl l_10_124 m_X10_push rfl rfl (ft35 hF) (Nat.le_of_ble_eq_true rfl) (c_push _ (G := si (si (si (si (si (si G 35 42 nc) 52 nc f) 53 nc x) 55 nc (ab + 1)) 56 nc 0) 35 29 (nc + 1)) hF (w := w) (by simp [iv_si, hw]) (by omega) (by omega)) (fun r1 G1 hR => ?_)
    obtain ⟨rfl, rfl⟩ := hR
    have hF := FX_si (FX_si (FX_si (FX_si hF 60 w 67) 61 w 0) 62 w cur) 35 40 (w + 1)
    refine Ex.stk (st' := []) rfl ?_
    refine x_aload_n (q := 96) dX10_begin_95 rfl rfl ?_
    refine x_getR (q := 99) dX10_begin_96 rfl f_10_89 rfl (ft35 hF) ?_
    refine Ex.stk (st' := [.inr (.inr (some 61))]) (by rw [fr35_38 hF]) ?_
    refine x_aload_n (q := 100) dX10_begin_99 rfl rfl ?_
    refine x_getI (q := 103) dX10_begin_100 rfl f_10_108 rfl (ft35 hF) ?_
    refine Ex.stk (st' := [.inl (w + 1), .inr (.inr (some 61))]) (by rw [show iv (si (si (si (si (si (si (si (si (si (si G 35 42 nc) 52 nc f) 53 nc x) 55 nc (ab + 1)) 56 nc 0) 35 29 (nc + 1)) 60 w 67) 61 w 0) 62 w cur) 35 40 (w + 1)) 35 40 = w + 1 from (by simp [iv_si])]) ?_
    refine x_iconst (q := 104) dX10_begin_103 rfl (by decide) ?_
    refine x_isub (q := 105) (z := w) dX10_begin_104 rfl (by rw [show w + 1 - 1 = w from by omega]; exact wr_id ⟨by omega, by omega⟩) ?_
    refine x_aload_n (q := 106) dX10_begin_105 rfl rfl ?_
    refine x_getI (q := 109) dX10_begin_106 rfl f_10_111 rfl (ft35 hF) ?_
    refine Ex.stk (st' := [.inl a, .inl w, .inr (.inr (some 61))]) (by rw [show iv (si (si (si (si (si (si (si (si (si (si G 35 42 nc) 52 nc f) 53 nc x) 55 nc (ab + 1)) 56 nc 0) 35 29 (nc + 1)) 60 w 67) 61 w 0) 62 w cur) 35 40 (w + 1)) 35 41 = a from (by simp [iv_si, hw, ha, hcur, hnc])]) ?_
    refine x_iastore (q := 110) dX10_begin_109 rfl (ft61 hF) (by omega) (by rw [fl61 hF]; omega) ?_
    have hF := FX_si hF 61 w a
    refine x_aload_n (q := 111) dX10_begin_110 rfl rfl ?_
    refine x_aload_n (q := 112) dX10_begin_111 rfl rfl ?_
    refine x_getR (q := 115) dX10_begin_112 rfl f_10_35 rfl (ft35 hF) ?_
    refine Ex.stk (st' := [.inr (.inr (some 43)), .inr (.inr (some 35))]) (by rw [fr35_13 hF]) ?_
    refine x_iload_n (q := 116) dX10_begin_115 rfl rfl ?_
    refine x_iaload (q := 117) dX10_begin_116 rfl (Or.inl (ft43 hF)) (by omega) (by rw [fl43 hF]; omega) ?_
    refine Ex.stk (st' := [.inl (iv G 43 f), .inr (.inr (some 35))]) (by rw [show iv (si (si (si (si (si (si (si (si (si (si (si G 35 42 nc) 52 nc f) 53 nc x) 55 nc (ab + 1)) 56 nc 0) 35 29 (nc + 1)) 60 w 67) 61 w 0) 62 w cur) 35 40 (w + 1)) 61 w a) 43 f = iv G 43 f from (by simp [iv_si])]) ?_
    refine x_putI (q := 120) dX10_begin_117 rfl f_10_111 rfl (fun h => by cases h) (fun h => by cases h) (ft35 hF) ?_
    have hF := FX_si hF 35 41 (iv G 43 f)
    refine x_vret dX10_begin_120 rfl ?_
    exact ⟨rfl, rfl⟩
  refine CX.of (d := d + 1) m_X10_begin (Nat.le_of_ble_eq_true rfl) ?_
  refine Ex.lcl (ls' := [some (.inr (.inr (some 35))), some (.inl f), some (.inl x), none, none]) rfl ?_
  refine x_aload_n (q := 1) dX10_begin_0 rfl rfl ?_
  refine x_getI (q := 4) dX10_begin_1 rfl f_10_118 rfl (ft35 hF) ?_
  refine Ex.stk (st' := [.inl nc]) (by rw [show iv G 35 29 = nc from hnc]) ?_
  refine x_if_ne (q := 7) (t := 11) dX10_begin_4 rfl (by decide) (fun h4 => ?_) (fun h4 => ?_)
  · refine x_aload_n (q := 12) dX10_begin_11 rfl rfl ?_
    refine x_getR (q := 15) dX10_begin_12 rfl f_10_71 rfl (ft35 hF) ?_
    refine Ex.stk (st' := [.inr (.inr (some 55))]) (by rw [fr35_27 hF]) ?_
    refine x_aload_n (q := 16) dX10_begin_15 rfl rfl ?_
    refine x_getI (q := 19) dX10_begin_16 rfl f_10_121 rfl (ft35 hF) ?_
    refine Ex.stk (st' := [.inl cur, .inr (.inr (some 55))]) (by rw [show iv G 35 42 = cur from hcur]) ?_
    refine x_iaload (q := 20) dX10_begin_19 rfl (Or.inl (ft55 hF)) (by omega) (by rw [fl55 hF]; omega) ?_
    refine Ex.stk (st' := [.inl ab]) (by rw [show iv G 55 cur = ab from (by omega)]) ?_
    refine Ex.stk (st' := [.inl ab]) (by rw [show ab = ab from by omega]) ?_
    exact K20
  · refine x_iconst (q := 8) dX10_begin_7 rfl (by decide) ?_
    refine x_goto (t := 20) dX10_begin_8 (by decide) ?_
    refine Ex.stk (st' := [.inl ab]) (by rw [show 0 = ab from by omega]) ?_
    exact K20
