/-! THE MODEL: the text read and laid -/
/-- a reading: terms wanted, a figure next, calls in the body, in a body, functions told -/
abbrev Rs : Type := Int × Int × Int × Int × Int
def rsF (rs : Rs) (c : Int) : Int := if rs.2.1 = 1 then (if 48 ≤ c ∧ c ≤ 57 then (if 52 < c then 2 else 0) else 1) else if rs.2.2.2.1 = 0 then (if c = 100 then (if rs.2.2.2.2 = 5 then 3 else 0) else 1) else if rs.1 = 0 then (if c = 59 then 0 else 1) else if (48 ≤ c ∧ c ≤ 57) ∨ c = 110 ∨ 0 < wnt c then (if c = 102 ∧ rs.2.2.1 = 3 then 4 else 0) else 1
def rsOn (rs : Rs) (c : Int) : Rs := if rs.2.1 = 1 then (rs.1, 0, rs.2.2) else if rs.2.2.2.1 = 0 then (1, rs.2.1, 0, 1, rs.2.2.2.2) else if rs.1 = 0 then (rs.1, rs.2.1, rs.2.2.1, 0, rs.2.2.2.2 + 1) else (rs.1 + (wnt c - 1), (if c = 102 then 1 else 0), rs.2.2.1 + (if c = 102 then 1 else 0), rs.2.2.2.1, rs.2.2.2.2)
def rdL (tx : Int → Int) : Nat → Int → Rs → Int × Int
  | 0, k, rs => if rs.2.2.2.1 = 0 ∧ 0 < rs.2.2.2.2 then (0, -1) else (1, k)
  | m + 1, k, rs => if tx k = 32 then rdL tx m (k + 1) rs else if 0 < rsF rs (tx k) then (rsF rs (tx k), k) else rdL tx m (k + 1) (rsOn rs (tx k))
def lcL (tx : Int → Int) : Nat → Int → Int → Int → (Int → Int) → (Int → Int) → Pg
  | 0, _, _, f, cd, bg => (cd, bg, f)
  | m + 1, k, n, f, cd, bg => if tx k = 32 then lcL tx m (k + 1) n f cd bg else if tx k = 100 then lcL tx m (k + 1) (n + 1) (f + 1) (upi cd n (tx k)) (upi bg f (n + 1)) else lcL tx m (k + 1) (n + 1) f (upi cd n (tx k)) bg
def RsB (k : Int) (rs : Rs) : Prop := (rs.2.1 = 0 ∨ rs.2.1 = 1) ∧ (rs.2.2.2.1 = 0 ∨ rs.2.2.2.1 = 1) ∧ 0 ≤ rs.1 ∧ rs.1 ≤ 1 + 2 * k ∧ 0 ≤ rs.2.2.2.2 ∧ rs.2.2.2.2 ≤ k ∧ (rs.2.2.2.1 = 1 → 0 ≤ rs.2.2.1 ∧ rs.2.2.1 ≤ k) ∧ (rs.2.1 = 1 → rs.2.2.2.1 = 1)
theorem RsB_0 (a : Int) : RsB 0 (0, 0, a, 0, 0) := by unfold RsB; dsimp only; omega
theorem RsB_up {k : Int} {rs : Rs} (h : RsB k rs) : RsB (k + 1) rs := by unfold RsB at *; omega
theorem rsOn_B {k : Int} {rs : Rs} (c : Int) (k0 : 0 ≤ k) (h : RsB k rs) : RsB (k + 1) (rsOn rs c) := by
  have hw := wnt_bd c
  unfold RsB at *
  unfold rsOn
  split
  · dsimp only; omega
  · split
    · dsimp only; omega
    · split
      · dsimp only; omega
      · split <;> (dsimp only; omega)
theorem rsF_nn (rs : Rs) (c : Int) : 0 ≤ rsF rs c := by unfold rsF; (repeat' split) <;> decide
theorem rdL_nn (tx : Int → Int) : ∀ (m : Nat) (k : Int) (rs : Rs), 0 ≤ (rdL tx m k rs).1 := by
  intro m
  induction m with
  | zero => intro k rs; simp only [rdL]; split <;> simp
  | succ m ih =>
    intro k rs
    simp only [rdL]
    split
    · exact ih _ _
    · split
      · exact rsF_nn _ _
      · exact ih _ _
theorem rdL_fs (tx : Int → Int) (a b : Int) : ∀ (m : Nat) (k t j : Int), rdL tx m k (t, 0, a, 0, j) = rdL tx m k (t, 0, b, 0, j) := by
  intro m
  induction m with
  | zero => intro k t j; rfl
  | succ m ih =>
    intro k t j
    simp only [rdL]
    rw [show rsF (t, 0, a, 0, j) (tx k) = rsF (t, 0, b, 0, j) (tx k) from rfl, show rsOn (t, 0, a, 0, j) (tx k) = rsOn (t, 0, b, 0, j) (tx k) from rfl, ih]
def RSm (rs : Rs) (G : Hp) : Prop := iv G 35 43 = rs.1 ∧ iv G 35 44 = rs.2.1 ∧ iv G 35 45 = rs.2.2.1 ∧ iv G 35 46 = rs.2.2.2.1 ∧ iv G 35 47 = rs.2.2.2.2
def RdI (G G' : Hp) : Prop := Io G G' ∧ ∀ (a : Nat) (k : Int), ¬ (a = 35 ∧ 43 ≤ k ∧ k ≤ 47) → iv G' a k = iv G a k
theorem RdI.rf (G : Hp) : RdI G G := ⟨Io.rf G, fun _ _ _ => rfl⟩
theorem RdI.trans {G G1 G2 : Hp} (h1 : RdI G G1) (h2 : RdI G1 G2) : RdI G G2 := ⟨h1.1.trans h2.1, fun a k h => (h2.2 a k h).trans (h1.2 a k h)⟩
theorem RdI.si {G G' : Hp} (h : RdI G G') (k v : Int) (k0 : 43 ≤ k) (k1 : k ≤ 47) : RdI G (si G' 35 k v) := ⟨h.1, fun b j hb => by rw [iv_si, if_neg (by omega)]; exact h.2 b j hb⟩
theorem c_isTerm (d : Nat) {G : Hp} {c : Int} : CX (d + 2) 133 [.inl c] G (fun r G1 => G1 = G ∧ ∃ z, r = some (.inl z) ∧ (z = 0 ∨ z = 1) ∧ (z = 1 ↔ ((48 ≤ c ∧ c ≤ 57) ∨ c = 110 ∨ 0 < wnt c))) := by
  refine CX.of (d := d + 1) m_X10_isTerm (Nat.le_of_ble_eq_true rfl) ?_
  refine Ex.lcl (ls' := [some (.inl c)]) rfl ?_
  refine x_iload_n (q := 1) dX10_isTerm_0 rfl rfl ?_
  refine x_i2l (q := 2) dX10_isTerm_1 rfl ?_
  refine x_ldc2_w (q := 5) dX10_isTerm_2 rfl j_10_127 ?_
  refine x_ldc2_w (q := 8) dX10_isTerm_5 rfl j_10_129 ?_
  refine x_invS (q := 11) (as := [.inr (.inl c), .inr (.inl 48), .inr (.inl 57)]) (rest := []) dX10_isTerm_8 rfl l_10_131 m_X10_in rfl rfl (Nat.le_of_ble_eq_true rfl) (Nat.le_of_ble_eq_true rfl) (c_in _) (fun r1 G1 hR => ?_)
  obtain ⟨hG1, z8, rfl, z8a, z8b⟩ := hR
  replace hG1 := hG1.symm
  subst hG1
  refine Ex.stk (st' := [.inl z8]) rfl ?_
  refine x_if_ne (q := 14) (t := 27) dX10_isTerm_11 rfl (by decide) (fun h11 => ?_) (fun h11 => ?_)
  · refine x_iconst (q := 28) dX10_isTerm_27 rfl (by decide) ?_
    refine x_goto (t := 32) dX10_isTerm_28 (by decide) ?_
    refine x_zret dX10_isTerm_32 rfl (by decide) ?_
    exact ⟨rfl, 1, rfl, by omega, by omega⟩
  · refine x_iload_n (q := 15) dX10_isTerm_14 rfl rfl ?_
    refine x_bipush (q := 17) dX10_isTerm_15 rfl (by decide) ?_
    refine x_icmp_eq (q := 20) (t := 27) dX10_isTerm_17 rfl (by decide) (fun h17 => ?_) (fun h17 => ?_)
    · refine x_iconst (q := 28) dX10_isTerm_27 rfl (by decide) ?_
      refine x_goto (t := 32) dX10_isTerm_28 (by decide) ?_
      refine x_zret dX10_isTerm_32 rfl (by decide) ?_
      exact ⟨rfl, 1, rfl, by omega, by omega⟩
    · refine x_iload_n (q := 21) dX10_isTerm_20 rfl rfl ?_
      refine x_invS (q := 24) (as := [.inl c]) (rest := []) dX10_isTerm_21 rfl l_10_114 m_X10_wants rfl rfl (Nat.le_of_ble_eq_true rfl) (Nat.le_of_ble_eq_true rfl) (c_wants _) (fun r1 G1 hR => ?_)
      obtain ⟨hG1, rfl⟩ := hR
      replace hG1 := hG1.symm
      subst hG1
      refine Ex.stk (st' := [.inl (wnt c)]) rfl ?_
      refine x_if_le (q := 27) (t := 31) dX10_isTerm_24 rfl (by decide) (fun h24 => ?_) (fun h24 => ?_)
      · refine x_iconst (q := 32) dX10_isTerm_31 rfl (by decide) ?_
        refine x_zret dX10_isTerm_32 rfl (by decide) ?_
        exact ⟨rfl, 0, rfl, by omega, by omega⟩
      · refine x_iconst (q := 28) dX10_isTerm_27 rfl (by decide) ?_
        refine x_goto (t := 32) dX10_isTerm_28 (by decide) ?_
        refine x_zret dX10_isTerm_32 rfl (by decide) ?_
        exact ⟨rfl, 1, rfl, by omega, by omega⟩
theorem c_faultOf (d : Nat) {G : Hp} (hF : FM G) {rs : Rs} (hs : RSm rs G) {k c : Int} (hb : RsB k rs) : CX (d + 3) 134 [.inr (.inr (some 35)), .inl c] G (fun r G1 => G1 = G ∧ r = some (.inl (rsF rs c))) := by
  obtain ⟨b1, b2, -⟩ := hb
  refine CX.of (d := d + 2) m_X10_faultOf (Nat.le_of_ble_eq_true rfl) ?_
  refine Ex.lcl (ls' := [some (.inr (.inr (some 35))), some (.inl c)]) rfl ?_
  refine x_aload_n (q := 1) dX10_faultOf_0 rfl rfl ?_
  refine x_getI (q := 4) dX10_faultOf_1 rfl f_10_208 rfl (ft35 hF) ?_
  refine Ex.stk (st' := [.inl rs.2.1]) (by rw [show iv G 35 44 = rs.2.1 from hs.2.1]) ?_
  refine x_if_eq (q := 7) (t := 37) dX10_faultOf_4 rfl (by decide) (fun h4 => ?_) (fun h4 => ?_)
  · refine x_aload_n (q := 38) dX10_faultOf_37 rfl rfl ?_
    refine x_getI (q := 41) dX10_faultOf_38 rfl f_10_212 rfl (ft35 hF) ?_
    refine Ex.stk (st' := [.inl rs.2.2.2.1]) (by rw [show iv G 35 46 = rs.2.2.2.1 from hs.2.2.2.1]) ?_
    refine x_if_ne (q := 44) (t := 68) dX10_faultOf_41 rfl (by decide) (fun h41 => ?_) (fun h41 => ?_)
    · refine x_aload_n (q := 69) dX10_faultOf_68 rfl rfl ?_
      refine x_getI (q := 72) dX10_faultOf_69 rfl f_10_218 rfl (ft35 hF) ?_
      refine Ex.stk (st' := [.inl rs.1]) (by rw [show iv G 35 43 = rs.1 from hs.1]) ?_
      refine x_if_ne (q := 75) (t := 87) dX10_faultOf_72 rfl (by decide) (fun h72 => ?_) (fun h72 => ?_)
      · refine x_iload_n (q := 88) dX10_faultOf_87 rfl rfl ?_
        refine x_invS (q := 91) (as := [.inl c]) (rest := []) dX10_faultOf_88 rfl l_10_221 m_X10_isTerm rfl rfl (Nat.le_of_ble_eq_true rfl) (Nat.le_of_ble_eq_true rfl) (c_isTerm _) (fun r1 G1 hR => ?_)
        obtain ⟨hG1, z88, rfl, z88a, z88b⟩ := hR
        replace hG1 := hG1.symm
        subst hG1
        refine Ex.stk (st' := [.inl z88]) rfl ?_
        refine x_if_ne (q := 94) (t := 98) dX10_faultOf_91 rfl (by decide) (fun h91 => ?_) (fun h91 => ?_)
        · refine x_iload_n (q := 99) dX10_faultOf_98 rfl rfl ?_
          refine x_bipush (q := 101) dX10_faultOf_99 rfl (by decide) ?_
          refine x_icmp_ne (q := 104) (t := 116) dX10_faultOf_101 rfl (by decide) (fun h101 => ?_) (fun h101 => ?_)
          · refine x_iconst (q := 117) dX10_faultOf_116 rfl (by decide) ?_
            refine x_iret dX10_faultOf_117 rfl ?_
            refine ⟨rfl, vi_eq ?_⟩
            unfold rsF
            (repeat' split) <;> omega
          · refine x_aload_n (q := 105) dX10_faultOf_104 rfl rfl ?_
            refine x_getI (q := 108) dX10_faultOf_105 rfl f_10_224 rfl (ft35 hF) ?_
            refine Ex.stk (st' := [.inl rs.2.2.1]) (by rw [show iv G 35 45 = rs.2.2.1 from hs.2.2.1]) ?_
            refine x_iconst (q := 109) dX10_faultOf_108 rfl (by decide) ?_
            refine x_icmp_ne (q := 112) (t := 116) dX10_faultOf_109 rfl (by decide) (fun h109 => ?_) (fun h109 => ?_)
            · refine x_iconst (q := 117) dX10_faultOf_116 rfl (by decide) ?_
              refine x_iret dX10_faultOf_117 rfl ?_
              refine ⟨rfl, vi_eq ?_⟩
              unfold rsF
              (repeat' split) <;> omega
            · refine x_iconst (q := 113) dX10_faultOf_112 rfl (by decide) ?_
              refine x_goto (t := 117) dX10_faultOf_113 (by decide) ?_
              refine x_iret dX10_faultOf_117 rfl ?_
              refine ⟨rfl, vi_eq ?_⟩
              unfold rsF
              (repeat' split) <;> omega
        · refine x_iconst (q := 95) dX10_faultOf_94 rfl (by decide) ?_
          refine x_goto (t := 117) dX10_faultOf_95 (by decide) ?_
          refine x_iret dX10_faultOf_117 rfl ?_
          refine ⟨rfl, vi_eq ?_⟩
          unfold rsF
          (repeat' split) <;> omega
      · refine x_iload_n (q := 76) dX10_faultOf_75 rfl rfl ?_
        refine x_bipush (q := 78) dX10_faultOf_76 rfl (by decide) ?_
        refine x_icmp_ne (q := 81) (t := 85) dX10_faultOf_78 rfl (by decide) (fun h78 => ?_) (fun h78 => ?_)
        · refine x_iconst (q := 86) dX10_faultOf_85 rfl (by decide) ?_
          refine x_iret dX10_faultOf_86 rfl ?_
          refine ⟨rfl, vi_eq ?_⟩
          unfold rsF
          (repeat' split) <;> omega
        · refine x_iconst (q := 82) dX10_faultOf_81 rfl (by decide) ?_
          refine x_goto (t := 86) dX10_faultOf_82 (by decide) ?_
          refine x_iret dX10_faultOf_86 rfl ?_
          refine ⟨rfl, vi_eq ?_⟩
          unfold rsF
          (repeat' split) <;> omega
    · refine x_iload_n (q := 45) dX10_faultOf_44 rfl rfl ?_
      refine x_bipush (q := 47) dX10_faultOf_45 rfl (by decide) ?_
      refine x_icmp_eq (q := 50) (t := 54) dX10_faultOf_47 rfl (by decide) (fun h47 => ?_) (fun h47 => ?_)
      · refine x_aload_n (q := 55) dX10_faultOf_54 rfl rfl ?_
        refine x_getI (q := 58) dX10_faultOf_55 rfl f_10_215 rfl (ft35 hF) ?_
        refine Ex.stk (st' := [.inl rs.2.2.2.2]) (by rw [show iv G 35 47 = rs.2.2.2.2 from hs.2.2.2.2]) ?_
        refine x_iconst (q := 59) dX10_faultOf_58 rfl (by decide) ?_
        refine x_icmp_ne (q := 62) (t := 66) dX10_faultOf_59 rfl (by decide) (fun h59 => ?_) (fun h59 => ?_)
        · refine x_iconst (q := 67) dX10_faultOf_66 rfl (by decide) ?_
          refine x_iret dX10_faultOf_67 rfl ?_
          refine ⟨rfl, vi_eq ?_⟩
          unfold rsF
          (repeat' split) <;> omega
        · refine x_iconst (q := 63) dX10_faultOf_62 rfl (by decide) ?_
          refine x_goto (t := 67) dX10_faultOf_63 (by decide) ?_
          refine x_iret dX10_faultOf_67 rfl ?_
          refine ⟨rfl, vi_eq ?_⟩
          unfold rsF
          (repeat' split) <;> omega
      · refine x_iconst (q := 51) dX10_faultOf_50 rfl (by decide) ?_
        refine x_goto (t := 67) dX10_faultOf_51 (by decide) ?_
        refine x_iret dX10_faultOf_67 rfl ?_
        refine ⟨rfl, vi_eq ?_⟩
        unfold rsF
        (repeat' split) <;> omega
  · refine x_iload_n (q := 8) dX10_faultOf_7 rfl rfl ?_
    refine x_i2l (q := 9) dX10_faultOf_8 rfl ?_
    refine x_ldc2_w (q := 12) dX10_faultOf_9 rfl j_10_127 ?_
    refine x_ldc2_w (q := 15) dX10_faultOf_12 rfl j_10_129 ?_
    refine x_invS (q := 18) (as := [.inr (.inl c), .inr (.inl 48), .inr (.inl 57)]) (rest := []) dX10_faultOf_15 rfl l_10_131 m_X10_in rfl rfl (Nat.le_of_ble_eq_true rfl) (Nat.le_of_ble_eq_true rfl) (c_in _) (fun r1 G1 hR => ?_)
    obtain ⟨hG1, z15, rfl, z15a, z15b⟩ := hR
    replace hG1 := hG1.symm
    subst hG1
    refine Ex.stk (st' := [.inl z15]) rfl ?_
    refine x_if_ne (q := 21) (t := 25) dX10_faultOf_18 rfl (by decide) (fun h18 => ?_) (fun h18 => ?_)
    · refine x_iload_n (q := 26) dX10_faultOf_25 rfl rfl ?_
      refine x_bipush (q := 28) dX10_faultOf_26 rfl (by decide) ?_
      refine x_icmp_le (q := 31) (t := 35) dX10_faultOf_28 rfl (by decide) (fun h28 => ?_) (fun h28 => ?_)
      · refine x_iconst (q := 36) dX10_faultOf_35 rfl (by decide) ?_
        refine x_iret dX10_faultOf_36 rfl ?_
        refine ⟨rfl, vi_eq ?_⟩
        unfold rsF
        (repeat' split) <;> omega
      · refine x_iconst (q := 32) dX10_faultOf_31 rfl (by decide) ?_
        refine x_goto (t := 36) dX10_faultOf_32 (by decide) ?_
        refine x_iret dX10_faultOf_36 rfl ?_
        refine ⟨rfl, vi_eq ?_⟩
        unfold rsF
        (repeat' split) <;> omega
    · refine x_iconst (q := 22) dX10_faultOf_21 rfl (by decide) ?_
      refine x_goto (t := 36) dX10_faultOf_22 (by decide) ?_
      refine x_iret dX10_faultOf_36 rfl ?_
      refine ⟨rfl, vi_eq ?_⟩
      unfold rsF
      (repeat' split) <;> omega
theorem c_goOn (d : Nat) {G : Hp} (hF : FM G) {rs : Rs} (hs : RSm rs G) {k c : Int} (hb : RsB k rs) (k0 : 0 ≤ k) (k1 : k ≤ 200) : CX (d + 2) 135 [.inr (.inr (some 35)), .inl c] G (fun r G1 => r = none ∧ RSm (rsOn rs c) G1 ∧ RdI G G1) := by
  obtain ⟨b1, b2, b3, b4, b5, b6, b7, -⟩ := hb
  have hw := wnt_bd c
  refine CX.of (d := d + 1) m_X10_goOn (Nat.le_of_ble_eq_true rfl) ?_
  refine Ex.lcl (ls' := [some (.inr (.inr (some 35))), some (.inl c)]) rfl ?_
  refine x_aload_n (q := 1) dX10_goOn_0 rfl rfl ?_
  refine x_getI (q := 4) dX10_goOn_1 rfl f_10_208 rfl (ft35 hF) ?_
  refine Ex.stk (st' := [.inl rs.2.1]) (by rw [show iv G 35 44 = rs.2.1 from hs.2.1]) ?_
  refine x_if_eq (q := 7) (t := 15) dX10_goOn_4 rfl (by decide) (fun h4 => ?_) (fun h4 => ?_)
  · refine x_aload_n (q := 16) dX10_goOn_15 rfl rfl ?_
    refine x_getI (q := 19) dX10_goOn_16 rfl f_10_212 rfl (ft35 hF) ?_
    refine Ex.stk (st' := [.inl rs.2.2.2.1]) (by rw [show iv G 35 46 = rs.2.2.2.1 from hs.2.2.2.1]) ?_
    refine x_if_ne (q := 22) (t := 40) dX10_goOn_19 rfl (by decide) (fun h19 => ?_) (fun h19 => ?_)
    · refine x_aload_n (q := 41) dX10_goOn_40 rfl rfl ?_
      refine x_getI (q := 44) dX10_goOn_41 rfl f_10_218 rfl (ft35 hF) ?_
      refine Ex.stk (st' := [.inl rs.1]) (by rw [show iv G 35 43 = rs.1 from hs.1]) ?_
      refine x_if_ne (q := 47) (t := 65) dX10_goOn_44 rfl (by decide) (fun h44 => ?_) (fun h44 => ?_)
      · refine x_aload_n (q := 66) dX10_goOn_65 rfl rfl ?_
        refine x_dup (q := 67) dX10_goOn_66 rfl rfl ?_
        refine x_getI (q := 70) dX10_goOn_67 rfl f_10_218 rfl (ft35 hF) ?_
        refine Ex.stk (st' := [.inl rs.1, .inr (.inr (some 35))]) (by rw [show iv G 35 43 = rs.1 from hs.1]) ?_
        refine x_iload_n (q := 71) dX10_goOn_70 rfl rfl ?_
        refine x_invS (q := 74) (as := [.inl c]) (rest := [.inl rs.1, .inr (.inr (some 35))]) dX10_goOn_71 rfl l_10_114 m_X10_wants rfl rfl (Nat.le_of_ble_eq_true rfl) (Nat.le_of_ble_eq_true rfl) (c_wants _) (fun r1 G1 hR => ?_)
        obtain ⟨hG1, rfl⟩ := hR
        replace hG1 := hG1.symm
        subst hG1
        refine Ex.stk (st' := [.inl (wnt c), .inl rs.1, .inr (.inr (some 35))]) rfl ?_
        refine x_iconst (q := 75) dX10_goOn_74 rfl (by decide) ?_
        refine x_isub (q := 76) (z := (wnt c) - 1) dX10_goOn_75 rfl (wr_id ⟨by omega, by omega⟩) ?_
        refine x_iadd (q := 77) (z := rs.1 + ((wnt c) - 1)) dX10_goOn_76 rfl (wr_id ⟨by omega, by omega⟩) ?_
        refine x_putI (q := 80) dX10_goOn_77 rfl f_10_218 rfl (fun h => by cases h) (fun h => by cases h) (ft35 hF) ?_
        have hF := FX_si hF 35 43 (rs.1 + ((wnt c) - 1))
        refine x_aload_n (q := 81) dX10_goOn_80 rfl rfl ?_
        refine x_iload_n (q := 82) dX10_goOn_81 rfl rfl ?_
        refine x_bipush (q := 84) dX10_goOn_82 rfl (by decide) ?_
        refine x_icmp_ne (q := 87) (t := 91) dX10_goOn_84 rfl (by decide) (fun h84 => ?_) (fun h84 => ?_)
        · refine x_iconst (q := 92) dX10_goOn_91 rfl (by decide) ?_
          refine x_putI (q := 95) dX10_goOn_92 rfl f_10_208 rfl (fun _ => by first | exact Or.inl rfl | exact Or.inr rfl | assumption | omega) (fun h => by cases h) (ft35 hF) ?_
          have hF := FX_si hF 35 44 0
          refine x_aload_n (q := 96) dX10_goOn_95 rfl rfl ?_
          refine x_dup (q := 97) dX10_goOn_96 rfl rfl ?_
          refine x_getI (q := 100) dX10_goOn_97 rfl f_10_224 rfl (ft35 hF) ?_
          refine Ex.stk (st' := [.inl rs.2.2.1, .inr (.inr (some 35))]) (by rw [show iv (si (si G 35 43 (rs.1 + ((wnt c) - 1))) 35 44 0) 35 45 = rs.2.2.1 from (by first | exact hs.2.2.1 | simp [iv_si, iv_sr, iv_nw, hs.2.2.1])]) ?_
          refine x_iload_n (q := 101) dX10_goOn_100 rfl rfl ?_
          refine x_bipush (q := 103) dX10_goOn_101 rfl (by decide) ?_
          refine x_icmp_ne (q := 106) (t := 110) dX10_goOn_103 rfl (by decide) (fun h103 => ?_) (fun h103 => ?_)
          · refine x_iconst (q := 111) dX10_goOn_110 rfl (by decide) ?_
            refine x_iadd (q := 112) (z := rs.2.2.1 + 0) dX10_goOn_111 rfl (wr_id ⟨by omega, by omega⟩) ?_
            refine x_putI (q := 115) dX10_goOn_112 rfl f_10_224 rfl (fun h => by cases h) (fun h => by cases h) (ft35 hF) ?_
            have hF := FX_si hF 35 45 (rs.2.2.1 + 0)
            refine x_vret dX10_goOn_115 rfl ?_
            refine ⟨rfl, ?_, RdI.si (RdI.si (RdI.si (RdI.rf G) _ _ (by decide) (by decide)) _ _ (by decide) (by decide)) _ _ (by decide) (by decide)⟩
            unfold rsOn
            first
              | rw [if_pos (by omega)]
              | rw [if_neg (by omega), if_pos (by omega)]
              | rw [if_neg (by omega), if_neg (by omega), if_pos (by omega)]
              | (rw [if_neg (by omega), if_neg (by omega), if_neg (by omega)]
                 first | rw [if_pos (by omega)] | rw [if_neg (by omega)])
            exact ⟨by simp [iv_si, hs.1], by simp [iv_si, hs.2.1], by simp [iv_si, hs.2.2.1], by simp [iv_si, hs.2.2.2.1], by simp [iv_si, hs.2.2.2.2]⟩
          · refine x_iconst (q := 107) dX10_goOn_106 rfl (by decide) ?_
            refine x_goto (t := 111) dX10_goOn_107 (by decide) ?_
            refine x_iadd (q := 112) (z := rs.2.2.1 + 1) dX10_goOn_111 rfl (wr_id ⟨by omega, by omega⟩) ?_
            refine x_putI (q := 115) dX10_goOn_112 rfl f_10_224 rfl (fun h => by cases h) (fun h => by cases h) (ft35 hF) ?_
            have hF := FX_si hF 35 45 (rs.2.2.1 + 1)
            refine x_vret dX10_goOn_115 rfl ?_
            exfalso; omega
        · refine x_iconst (q := 88) dX10_goOn_87 rfl (by decide) ?_
          refine x_goto (t := 92) dX10_goOn_88 (by decide) ?_
          refine x_putI (q := 95) dX10_goOn_92 rfl f_10_208 rfl (fun _ => by first | exact Or.inl rfl | exact Or.inr rfl | assumption | omega) (fun h => by cases h) (ft35 hF) ?_
          have hF := FX_si hF 35 44 1
          refine x_aload_n (q := 96) dX10_goOn_95 rfl rfl ?_
          refine x_dup (q := 97) dX10_goOn_96 rfl rfl ?_
          refine x_getI (q := 100) dX10_goOn_97 rfl f_10_224 rfl (ft35 hF) ?_
          refine Ex.stk (st' := [.inl rs.2.2.1, .inr (.inr (some 35))]) (by rw [show iv (si (si G 35 43 (rs.1 + ((wnt c) - 1))) 35 44 1) 35 45 = rs.2.2.1 from (by first | exact hs.2.2.1 | simp [iv_si, iv_sr, iv_nw, hs.2.2.1])]) ?_
          refine x_iload_n (q := 101) dX10_goOn_100 rfl rfl ?_
          refine x_bipush (q := 103) dX10_goOn_101 rfl (by decide) ?_
          refine x_icmp_ne (q := 106) (t := 110) dX10_goOn_103 rfl (by decide) (fun h103 => ?_) (fun h103 => ?_)
          · refine x_iconst (q := 111) dX10_goOn_110 rfl (by decide) ?_
            refine x_iadd (q := 112) (z := rs.2.2.1 + 0) dX10_goOn_111 rfl (wr_id ⟨by omega, by omega⟩) ?_
            refine x_putI (q := 115) dX10_goOn_112 rfl f_10_224 rfl (fun h => by cases h) (fun h => by cases h) (ft35 hF) ?_
            have hF := FX_si hF 35 45 (rs.2.2.1 + 0)
            refine x_vret dX10_goOn_115 rfl ?_
            exfalso; omega
          · refine x_iconst (q := 107) dX10_goOn_106 rfl (by decide) ?_
            refine x_goto (t := 111) dX10_goOn_107 (by decide) ?_
            refine x_iadd (q := 112) (z := rs.2.2.1 + 1) dX10_goOn_111 rfl (wr_id ⟨by omega, by omega⟩) ?_
            refine x_putI (q := 115) dX10_goOn_112 rfl f_10_224 rfl (fun h => by cases h) (fun h => by cases h) (ft35 hF) ?_
            have hF := FX_si hF 35 45 (rs.2.2.1 + 1)
            refine x_vret dX10_goOn_115 rfl ?_
            refine ⟨rfl, ?_, RdI.si (RdI.si (RdI.si (RdI.rf G) _ _ (by decide) (by decide)) _ _ (by decide) (by decide)) _ _ (by decide) (by decide)⟩
            unfold rsOn
            first
              | rw [if_pos (by omega)]
              | rw [if_neg (by omega), if_pos (by omega)]
              | rw [if_neg (by omega), if_neg (by omega), if_pos (by omega)]
              | (rw [if_neg (by omega), if_neg (by omega), if_neg (by omega)]
                 first | rw [if_pos (by omega)] | rw [if_neg (by omega)])
            exact ⟨by simp [iv_si, hs.1], by simp [iv_si, hs.2.1], by simp [iv_si, hs.2.2.1], by simp [iv_si, hs.2.2.2.1], by simp [iv_si, hs.2.2.2.2]⟩
      · refine x_aload_n (q := 48) dX10_goOn_47 rfl rfl ?_
        refine x_iconst (q := 49) dX10_goOn_48 rfl (by decide) ?_
        refine x_putI (q := 52) dX10_goOn_49 rfl f_10_212 rfl (fun _ => by first | exact Or.inl rfl | exact Or.inr rfl | assumption | omega) (fun h => by cases h) (ft35 hF) ?_
        have hF := FX_si hF 35 46 0
        refine x_aload_n (q := 53) dX10_goOn_52 rfl rfl ?_
        refine x_dup (q := 54) dX10_goOn_53 rfl rfl ?_
        refine x_getI (q := 57) dX10_goOn_54 rfl f_10_215 rfl (ft35 hF) ?_
        refine Ex.stk (st' := [.inl rs.2.2.2.2, .inr (.inr (some 35))]) (by rw [show iv (si G 35 46 0) 35 47 = rs.2.2.2.2 from (by first | exact hs.2.2.2.2 | simp [iv_si, iv_sr, iv_nw, hs.2.2.2.2])]) ?_
        refine x_iconst (q := 58) dX10_goOn_57 rfl (by decide) ?_
        refine x_iadd (q := 59) (z := rs.2.2.2.2 + 1) dX10_goOn_58 rfl (wr_id ⟨by omega, by omega⟩) ?_
        refine x_putI (q := 62) dX10_goOn_59 rfl f_10_215 rfl (fun h => by cases h) (fun h => by cases h) (ft35 hF) ?_
        have hF := FX_si hF 35 47 (rs.2.2.2.2 + 1)
        refine x_goto (t := 115) dX10_goOn_62 (by decide) ?_
        refine x_vret dX10_goOn_115 rfl ?_
        refine ⟨rfl, ?_, RdI.si (RdI.si (RdI.rf G) _ _ (by decide) (by decide)) _ _ (by decide) (by decide)⟩
        unfold rsOn
        first
          | rw [if_pos (by omega)]
          | rw [if_neg (by omega), if_pos (by omega)]
          | rw [if_neg (by omega), if_neg (by omega), if_pos (by omega)]
          | (rw [if_neg (by omega), if_neg (by omega), if_neg (by omega)]
             first | rw [if_pos (by omega)] | rw [if_neg (by omega)])
        exact ⟨by simp [iv_si, hs.1], by simp [iv_si, hs.2.1], by simp [iv_si, hs.2.2.1], by simp [iv_si, hs.2.2.2.1], by simp [iv_si, hs.2.2.2.2]⟩
    · refine x_aload_n (q := 23) dX10_goOn_22 rfl rfl ?_
      refine x_iconst (q := 24) dX10_goOn_23 rfl (by decide) ?_
      refine x_putI (q := 27) dX10_goOn_24 rfl f_10_212 rfl (fun _ => by first | exact Or.inl rfl | exact Or.inr rfl | assumption | omega) (fun h => by cases h) (ft35 hF) ?_
      have hF := FX_si hF 35 46 1
      refine x_aload_n (q := 28) dX10_goOn_27 rfl rfl ?_
      refine x_iconst (q := 29) dX10_goOn_28 rfl (by decide) ?_
      refine x_putI (q := 32) dX10_goOn_29 rfl f_10_218 rfl (fun h => by cases h) (fun h => by cases h) (ft35 hF) ?_
      have hF := FX_si hF 35 43 1
      refine x_aload_n (q := 33) dX10_goOn_32 rfl rfl ?_
      refine x_iconst (q := 34) dX10_goOn_33 rfl (by decide) ?_
      refine x_putI (q := 37) dX10_goOn_34 rfl f_10_224 rfl (fun h => by cases h) (fun h => by cases h) (ft35 hF) ?_
      have hF := FX_si hF 35 45 0
      refine x_goto (t := 115) dX10_goOn_37 (by decide) ?_
      refine x_vret dX10_goOn_115 rfl ?_
      refine ⟨rfl, ?_, RdI.si (RdI.si (RdI.si (RdI.rf G) _ _ (by decide) (by decide)) _ _ (by decide) (by decide)) _ _ (by decide) (by decide)⟩
      unfold rsOn
      first
        | rw [if_pos (by omega)]
        | rw [if_neg (by omega), if_pos (by omega)]
        | rw [if_neg (by omega), if_neg (by omega), if_pos (by omega)]
        | (rw [if_neg (by omega), if_neg (by omega), if_neg (by omega)]
           first | rw [if_pos (by omega)] | rw [if_neg (by omega)])
      exact ⟨by simp [iv_si, hs.1], by simp [iv_si, hs.2.1], by simp [iv_si, hs.2.2.1], by simp [iv_si, hs.2.2.2.1], by simp [iv_si, hs.2.2.2.2]⟩
  · refine x_aload_n (q := 8) dX10_goOn_7 rfl rfl ?_
    refine x_iconst (q := 9) dX10_goOn_8 rfl (by decide) ?_
    refine x_putI (q := 12) dX10_goOn_9 rfl f_10_208 rfl (fun _ => by first | exact Or.inl rfl | exact Or.inr rfl | assumption | omega) (fun h => by cases h) (ft35 hF) ?_
    have hF := FX_si hF 35 44 0
    refine x_goto (t := 115) dX10_goOn_12 (by decide) ?_
    refine x_vret dX10_goOn_115 rfl ?_
    refine ⟨rfl, ?_, RdI.si (RdI.rf G) _ _ (by decide) (by decide)⟩
    unfold rsOn
    first
      | rw [if_pos (by omega)]
      | rw [if_neg (by omega), if_pos (by omega)]
      | rw [if_neg (by omega), if_neg (by omega), if_pos (by omega)]
      | (rw [if_neg (by omega), if_neg (by omega), if_neg (by omega)]
         first | rw [if_pos (by omega)] | rw [if_neg (by omega)])
    exact ⟨by simp [iv_si, hs.1], by simp [iv_si, hs.2.1], by simp [iv_si, hs.2.2.1], by simp [iv_si, hs.2.2.2.1], by simp [iv_si, hs.2.2.2.2]⟩
theorem read_loop {d : Nat} {G0 : Hp} {Q : Option V → Hp → Prop} {tx : Int → Int} {n : Int} (n1 : n ≤ 160) (htx : ∀ k, 0 ≤ k → k < n → iv G0 38 k = tx k) (hn : iv G0 35 6 = n) : ∀ (m : Nat) (k : Int) (rs : Rs) (G : Hp) (l2 : Option V), isL l2 = false → FM G → RdI G0 G → RSm rs G → RsB k rs → 0 ≤ k → k + (m : Int) = n → (∀ G', RdI G0 G' → Q (some (.inl (rdL tx m k rs).1)) (si G' 35 7 (rdL tx m k rs).2)) → Ex (d + 3) (some .int) 10 false cX10_readText 22 [some (.inr (.inr (some 35))), some (.inl k), l2] [] G Q := by
  intro m
  induction m with
  | zero =>
    intro k rs G l2 hl2 hF hI hs hb k0 k1 kk
    have h6 : iv G 35 6 = n := (hI.2 35 6 (by omega)).trans hn
    have hk : k = n := by omega
    subst hk
    have hnl : noL [some (.inr (.inr (some 35))), some (.inl k), l2] = true := by simp [noL, isL] at hl2 ⊢; exact hl2
    simp only [rdL] at kk
    refine x_iload_n (q := 23) dX10_readText_22 rfl rfl ?_
    refine x_aload_n (q := 24) dX10_readText_23 rfl rfl ?_
    refine x_getI (q := 27) dX10_readText_24 rfl f_10_227 rfl (ft35 hF) ?_
    refine Ex.stk (st' := [.inl k, .inl k]) (by rw [show iv G 35 6 = k from h6]) ?_
    refine x_icmp_ge (q := 30) (t := 79) dX10_readText_27 rfl (by decide) (fun h27 => ?_) (fun h27 => by exfalso; omega)
    refine x_aload_n (q := 80) dX10_readText_79 rfl rfl ?_
    refine x_getI (q := 83) dX10_readText_80 rfl f_10_212 rfl (ft35 hF) ?_
    refine Ex.stk (st' := [.inl rs.2.2.2.1]) (by rw [show iv G 35 46 = rs.2.2.2.1 from hs.2.2.2.1]) ?_
    refine x_if_ne (q := 86) (t := 97) dX10_readText_83 rfl (by decide) (fun h83 => ?_) (fun h83 => ?_)
    · refine x_iconst (q := 98) dX10_readText_97 rfl (by decide) ?_
      refine x_istore_n (q := 99) (ls' := [some (.inr (.inr (some 35))), some (.inl 0), l2]) dX10_readText_98 rfl (Nat.le_of_ble_eq_true rfl) (by first | rfl | exact hnl | exact hnl2 _) rfl ?_
      refine x_aload_n (q := 100) dX10_readText_99 rfl rfl ?_
      refine x_iload_n (q := 101) dX10_readText_100 rfl rfl ?_
      refine x_if_eq (q := 104) (t := 108) dX10_readText_101 rfl (by decide) (fun h101 => ?_) (fun h101 => by exfalso; omega)
      refine x_aload_n (q := 109) dX10_readText_108 rfl rfl ?_
      refine x_getI (q := 112) dX10_readText_109 rfl f_10_227 rfl (ft35 hF) ?_
      refine Ex.stk (st' := [.inl k, .inr (.inr (some 35))]) (by rw [show iv G 35 6 = k from h6]) ?_
      refine x_putI (q := 115) dX10_readText_112 rfl f_10_19 rfl (fun h => by cases h) (fun h => by cases h) (ft35 hF) ?_
      have hF := FX_si hF 35 7 k
      refine x_iload_n (q := 116) dX10_readText_115 rfl rfl ?_
      refine x_if_eq (q := 119) (t := 123) dX10_readText_116 rfl (by decide) (fun h116 => ?_) (fun h116 => by exfalso; omega)
      refine x_iconst (q := 124) dX10_readText_123 rfl (by decide) ?_
      refine x_iret dX10_readText_124 rfl ?_
      first | (rw [if_pos ⟨by omega, by omega⟩] at kk; exact kk G hI) | (rw [if_neg (fun q => by omega)] at kk; exact kk G hI)
    · refine x_aload_n (q := 87) dX10_readText_86 rfl rfl ?_
      refine x_getI (q := 90) dX10_readText_87 rfl f_10_215 rfl (ft35 hF) ?_
      refine Ex.stk (st' := [.inl rs.2.2.2.2]) (by rw [show iv G 35 47 = rs.2.2.2.2 from hs.2.2.2.2]) ?_
      refine x_if_le (q := 93) (t := 97) dX10_readText_90 rfl (by decide) (fun h90 => ?_) (fun h90 => ?_)
      · refine x_iconst (q := 98) dX10_readText_97 rfl (by decide) ?_
        refine x_istore_n (q := 99) (ls' := [some (.inr (.inr (some 35))), some (.inl 0), l2]) dX10_readText_98 rfl (Nat.le_of_ble_eq_true rfl) (by first | rfl | exact hnl | exact hnl2 _) rfl ?_
        refine x_aload_n (q := 100) dX10_readText_99 rfl rfl ?_
        refine x_iload_n (q := 101) dX10_readText_100 rfl rfl ?_
        refine x_if_eq (q := 104) (t := 108) dX10_readText_101 rfl (by decide) (fun h101 => ?_) (fun h101 => by exfalso; omega)
        refine x_aload_n (q := 109) dX10_readText_108 rfl rfl ?_
        refine x_getI (q := 112) dX10_readText_109 rfl f_10_227 rfl (ft35 hF) ?_
        refine Ex.stk (st' := [.inl k, .inr (.inr (some 35))]) (by rw [show iv G 35 6 = k from h6]) ?_
        refine x_putI (q := 115) dX10_readText_112 rfl f_10_19 rfl (fun h => by cases h) (fun h => by cases h) (ft35 hF) ?_
        have hF := FX_si hF 35 7 k
        refine x_iload_n (q := 116) dX10_readText_115 rfl rfl ?_
        refine x_if_eq (q := 119) (t := 123) dX10_readText_116 rfl (by decide) (fun h116 => ?_) (fun h116 => by exfalso; omega)
        refine x_iconst (q := 124) dX10_readText_123 rfl (by decide) ?_
        refine x_iret dX10_readText_124 rfl ?_
        first | (rw [if_pos ⟨by omega, by omega⟩] at kk; exact kk G hI) | (rw [if_neg (fun q => by omega)] at kk; exact kk G hI)
      · refine x_iconst (q := 94) dX10_readText_93 rfl (by decide) ?_
        refine x_goto (t := 98) dX10_readText_94 (by decide) ?_
        refine x_istore_n (q := 99) (ls' := [some (.inr (.inr (some 35))), some (.inl 1), l2]) dX10_readText_98 rfl (Nat.le_of_ble_eq_true rfl) (by first | rfl | exact hnl | exact hnl2 _) rfl ?_
        refine x_aload_n (q := 100) dX10_readText_99 rfl rfl ?_
        refine x_iload_n (q := 101) dX10_readText_100 rfl rfl ?_
        refine x_if_eq (q := 104) (t := 108) dX10_readText_101 rfl (by decide) (fun h101 => by exfalso; omega) (fun h101 => ?_)
        refine x_iconst (q := 105) dX10_readText_104 rfl (by decide) ?_
        refine x_goto (t := 112) dX10_readText_105 (by decide) ?_
        refine x_putI (q := 115) dX10_readText_112 rfl f_10_19 rfl (fun h => by cases h) (fun h => by cases h) (ft35 hF) ?_
        have hF := FX_si hF 35 7 (-1)
        refine x_iload_n (q := 116) dX10_readText_115 rfl rfl ?_
        refine x_if_eq (q := 119) (t := 123) dX10_readText_116 rfl (by decide) (fun h116 => by exfalso; omega) (fun h116 => ?_)
        refine x_iconst (q := 120) dX10_readText_119 rfl (by decide) ?_
        refine x_goto (t := 124) dX10_readText_120 (by decide) ?_
        refine x_iret dX10_readText_124 rfl ?_
        first | (rw [if_pos ⟨by omega, by omega⟩] at kk; exact kk G hI) | (rw [if_neg (fun q => by omega)] at kk; exact kk G hI)
  | succ m ih =>
    intro k rs G l2 hl2 hF hI hs hb k0 k1 kk
    have h6 : iv G 35 6 = n := (hI.2 35 6 (by omega)).trans hn
    have hx : iv G 38 k = tx k := (hI.2 38 k (by omega)).trans (htx k k0 (by omega))
    have hnl : noL [some (.inr (.inr (some 35))), some (.inl k), l2] = true := by simp [noL, isL] at hl2 ⊢; exact hl2
    have hnl2 : ∀ y : Int, noL [some (.inr (.inr (some 35))), some (.inl y), l2] = true := fun y => by simp [noL, isL] at hl2 ⊢; exact hl2
    have hff := rsF_nn rs (tx k)
    simp only [rdL] at kk
    refine x_iload_n (q := 23) dX10_readText_22 rfl rfl ?_
    refine x_aload_n (q := 24) dX10_readText_23 rfl rfl ?_
    refine x_getI (q := 27) dX10_readText_24 rfl f_10_227 rfl (ft35 hF) ?_
    refine Ex.stk (st' := [.inl n, .inl k]) (by rw [show iv G 35 6 = n from h6]) ?_
    refine x_icmp_ge (q := 30) (t := 79) dX10_readText_27 rfl (by decide) (fun h27 => by exfalso; omega) (fun h27 => ?_)
    refine x_aload_n (q := 31) dX10_readText_30 rfl rfl ?_
    refine x_getR (q := 34) dX10_readText_31 rfl f_10_16 rfl (ft35 hF) ?_
    refine Ex.stk (st' := [.inr (.inr (some 38))]) (by rw [fr35_5 hF]) ?_
    refine x_iload_n (q := 35) dX10_readText_34 rfl rfl ?_
    refine x_iaload (q := 36) dX10_readText_35 rfl (Or.inl (ft38 hF)) (by omega) (by rw [fl38 hF]; omega) ?_
    refine Ex.stk (st' := [.inl (tx k)]) (by rw [show iv G 38 k = tx k from hx]) ?_
    refine x_bipush (q := 38) dX10_readText_36 rfl (by decide) ?_
    refine x_icmp_eq (q := 41) (t := 73) dX10_readText_38 rfl (by decide) (fun h38 => ?_) (fun h38 => ?_)
    · refine x_iinc (q := 76) (ls' := [some (.inr (.inr (some 35))), some (.inl (k + 1)), l2]) dX10_readText_73 rfl rfl (by first | rfl | exact hnl | exact hnl2 _) (by rw [show wr (k + 1) = k + 1 from (wr_id ⟨by omega, by omega⟩)]; rfl) ?_
      refine x_goto (t := 22) dX10_readText_76 (by decide) ?_
      rw [if_pos h38] at kk
      exact ih (k + 1) rs G _ hl2 hF hI hs (RsB_up hb) (by omega) (by omega) kk
    · refine x_aload_n (q := 42) dX10_readText_41 rfl rfl ?_
      refine x_aload_n (q := 43) dX10_readText_42 rfl rfl ?_
      refine x_getR (q := 46) dX10_readText_43 rfl f_10_16 rfl (ft35 hF) ?_
      refine Ex.stk (st' := [.inr (.inr (some 38)), .inr (.inr (some 35))]) (by rw [fr35_5 hF]) ?_
      refine x_iload_n (q := 47) dX10_readText_46 rfl rfl ?_
      refine x_iaload (q := 48) dX10_readText_47 rfl (Or.inl (ft38 hF)) (by omega) (by rw [fl38 hF]; omega) ?_
      refine Ex.stk (st' := [.inl (tx k), .inr (.inr (some 35))]) (by rw [show iv G 38 k = tx k from hx]) ?_
      refine x_invV (q := 51) (as := [.inr (.inr (some 35)), .inl (tx k)]) (rest := []) dX10_readText_48 rfl l_10_230 m_X10_faultOf rfl rfl (ft35 hF) (Nat.le_of_ble_eq_true rfl) (c_faultOf _ hF hs hb) (fun r1 G1 hR => ?_)
      obtain ⟨hG1, rfl⟩ := hR
      replace hG1 := hG1.symm
      subst hG1
      refine Ex.stk (st' := [.inl (rsF rs (tx k))]) rfl ?_
      refine x_istore_n (q := 52) (ls' := [some (.inr (.inr (some 35))), some (.inl k), some (.inl (rsF rs (tx k)))]) dX10_readText_51 rfl (Nat.le_of_ble_eq_true rfl) (by first | rfl | exact hnl | exact hnl2 _) rfl ?_
      refine x_iload_n (q := 53) dX10_readText_52 rfl rfl ?_
      refine x_if_le (q := 56) (t := 63) dX10_readText_53 rfl (by decide) (fun h53 => ?_) (fun h53 => ?_)
      · refine x_aload_n (q := 64) dX10_readText_63 rfl rfl ?_
        refine x_aload_n (q := 65) dX10_readText_64 rfl rfl ?_
        refine x_getR (q := 68) dX10_readText_65 rfl f_10_16 rfl (ft35 hF) ?_
        refine Ex.stk (st' := [.inr (.inr (some 38)), .inr (.inr (some 35))]) (by rw [fr35_5 hF]) ?_
        refine x_iload_n (q := 69) dX10_readText_68 rfl rfl ?_
        refine x_iaload (q := 70) dX10_readText_69 rfl (Or.inl (ft38 hF)) (by omega) (by rw [fl38 hF]; omega) ?_
        refine Ex.stk (st' := [.inl (tx k), .inr (.inr (some 35))]) (by rw [show iv G 38 k = tx k from hx]) ?_
        refine x_invV (q := 73) (as := [.inr (.inr (some 35)), .inl (tx k)]) (rest := []) dX10_readText_70 rfl l_10_233 m_X10_goOn rfl rfl (ft35 hF) (Nat.le_of_ble_eq_true rfl) (c_goOn _ hF hs hb k0 (by omega)) (fun r1 G1 hR => ?_)
        obtain ⟨rfl, hs1, hI1⟩ := hR
        have hF1 : FM G1 := FX_Io hF hI1.1
        refine Ex.stk (st' := []) rfl ?_
        refine x_iinc (q := 76) (ls' := [some (.inr (.inr (some 35))), some (.inl (k + 1)), some (.inl (rsF rs (tx k)))]) dX10_readText_73 rfl rfl (by first | rfl | exact hnl | exact hnl2 _) (by rw [show wr (k + 1) = k + 1 from (wr_id ⟨by omega, by omega⟩)]; rfl) ?_
        refine x_goto (t := 22) dX10_readText_76 (by decide) ?_
        rw [if_neg h38, if_neg (by omega)] at kk
        exact ih (k + 1) _ G1 _ rfl hF1 (hI.trans hI1) hs1 (rsOn_B (tx k) k0 hb) (by omega) (by omega) kk
      · refine x_aload_n (q := 57) dX10_readText_56 rfl rfl ?_
        refine x_iload_n (q := 58) dX10_readText_57 rfl rfl ?_
        refine x_putI (q := 61) dX10_readText_58 rfl f_10_19 rfl (fun h => by cases h) (fun h => by cases h) (ft35 hF) ?_
        have hF := FX_si hF 35 7 k
        refine x_iload_n (q := 62) dX10_readText_61 rfl rfl ?_
        refine x_iret dX10_readText_62 rfl ?_
        rw [if_neg h38, if_pos h53] at kk
        exact kk G hI
theorem c_readText (d : Nat) {G : Hp} (hF : FM G) {tx : Int → Int} {n : Int} (n0 : 0 ≤ n) (n1 : n ≤ 160) (htx : ∀ k, 0 ≤ k → k < n → iv G 38 k = tx k) (hn : iv G 35 6 = n) : CX (d + 4) 136 [.inr (.inr (some 35))] G (fun r G1 => r = some (.inl (rdL tx n.toNat 0 (0, 0, 0, 0, 0)).1) ∧ ∃ G', RdI G G' ∧ G1 = si G' 35 7 (rdL tx n.toNat 0 (0, 0, 0, 0, 0)).2) := by
  refine CX.of (d := d + 3) m_X10_readText (Nat.le_of_ble_eq_true rfl) ?_
  refine Ex.lcl (ls' := [some (.inr (.inr (some 35))), none, none]) rfl ?_
  refine x_aload_n (q := 1) dX10_readText_0 rfl rfl ?_
  refine x_iconst (q := 2) dX10_readText_1 rfl (by decide) ?_
  refine x_putI (q := 5) dX10_readText_2 rfl f_10_218 rfl (fun h => by cases h) (fun h => by cases h) (ft35 hF) ?_
  have hF := FX_si hF 35 43 0
  refine x_aload_n (q := 6) dX10_readText_5 rfl rfl ?_
  refine x_iconst (q := 7) dX10_readText_6 rfl (by decide) ?_
  refine x_putI (q := 10) dX10_readText_7 rfl f_10_208 rfl (fun _ => by first | exact Or.inl rfl | exact Or.inr rfl | assumption | omega) (fun h => by cases h) (ft35 hF) ?_
  have hF := FX_si hF 35 44 0
  refine x_aload_n (q := 11) dX10_readText_10 rfl rfl ?_
  refine x_iconst (q := 12) dX10_readText_11 rfl (by decide) ?_
  refine x_putI (q := 15) dX10_readText_12 rfl f_10_212 rfl (fun _ => by first | exact Or.inl rfl | exact Or.inr rfl | assumption | omega) (fun h => by cases h) (ft35 hF) ?_
  have hF := FX_si hF 35 46 0
  refine x_aload_n (q := 16) dX10_readText_15 rfl rfl ?_
  refine x_iconst (q := 17) dX10_readText_16 rfl (by decide) ?_
  refine x_putI (q := 20) dX10_readText_17 rfl f_10_215 rfl (fun h => by cases h) (fun h => by cases h) (ft35 hF) ?_
  have hF := FX_si hF 35 47 0
  refine x_iconst (q := 21) dX10_readText_20 rfl (by decide) ?_
  refine x_istore_n (q := 22) (ls' := [some (.inr (.inr (some 35))), some (.inl 0), none]) dX10_readText_21 rfl (Nat.le_of_ble_eq_true rfl) (by first | rfl | exact hnl | exact hnl2 _) rfl ?_
  rw [← rdL_fs tx (iv G 35 45) 0]
  exact read_loop n1 htx hn n.toNat 0 (0, 0, iv G 35 45, 0, 0) _ none rfl hF (RdI.si (RdI.si (RdI.si (RdI.si (RdI.rf G) _ _ (by decide) (by decide)) _ _ (by decide) (by decide)) _ _ (by decide) (by decide)) _ _ (by decide) (by decide)) ⟨by simp [iv_si], by simp [iv_si], by simp [iv_si], by simp [iv_si], by simp [iv_si]⟩ (RsB_0 _) (by decide) (by omega) (fun G' h => ⟨rfl, G', h, rfl⟩)
theorem rsF_d {rs : Rs} {k c : Int} (hb : RsB k rs) (h : rsF rs c = 0) : (c = 100 → rs.2.1 = 0 ∧ rs.2.2.2.1 = 0 ∧ rs.2.2.2.2 ≠ 5 ∧ (rsOn rs c).2.2.2.2 + (rsOn rs c).2.2.2.1 = rs.2.2.2.2 + rs.2.2.2.1 + 1) ∧ (c ≠ 100 → (rsOn rs c).2.2.2.2 + (rsOn rs c).2.2.2.1 = rs.2.2.2.2 + rs.2.2.2.1) := by
  obtain ⟨b1, b2, b3, b4, b5, b6, b7, b8⟩ := hb
  have w100 : wnt 100 = 0 := by decide
  unfold rsF at h
  unfold rsOn
  refine ⟨fun hc => ?_, fun hc => ?_⟩
  · subst hc
    rw [w100] at h
    by_cases h1 : rs.2.1 = 1
    · rw [if_pos h1, if_neg (by decide)] at h; cases h
    · rw [if_neg h1] at h ⊢
      by_cases h2 : rs.2.2.2.1 = 0
      · rw [if_pos h2, if_pos rfl] at h
        rw [if_pos h2]
        by_cases h3 : rs.2.2.2.2 = 5
        · rw [if_pos h3] at h; cases h
        · exact ⟨by omega, h2, h3, by dsimp only; omega⟩
      · rw [if_neg h2] at h
        by_cases h3 : rs.1 = 0
        · rw [if_pos h3, if_neg (by decide)] at h; cases h
        · rw [if_neg h3, if_neg (by decide)] at h; cases h
  · by_cases h1 : rs.2.1 = 1
    · rw [if_pos h1]
    · rw [if_neg h1] at h ⊢
      by_cases h2 : rs.2.2.2.1 = 0
      · rw [if_pos h2, if_neg hc] at h; cases h
      · rw [if_neg h2]
        by_cases h3 : rs.1 = 0
        · rw [if_pos h3]; dsimp only; omega
        · rw [if_neg h3]
def LcI (G G' : Hp) : Prop := Io G G' ∧ ∀ (a : Nat) (k : Int), a ≠ 42 → a ≠ 43 → ¬ (a = 35 ∧ k = 14) → iv G' a k = iv G a k
theorem lay_loop {d : Nat} {G0 : Hp} {Q : Option V → Hp → Prop} {tx : Int → Int} {N : Int} (n1 : N ≤ 160) (htx : ∀ k, 0 ≤ k → k < N → iv G0 38 k = tx k) (hn : iv G0 35 6 = N) : ∀ (m : Nat) (k n f : Int) (rs : Rs) (cd bg : Int → Int) (G : Hp), FM G → LcI G0 G → iv G 42 = cd → iv G 43 = bg → RsB k rs → 0 ≤ k → k + (m : Int) = N → 0 ≤ n → n ≤ k → f = rs.2.2.2.2 + rs.2.2.2.1 → f ≤ 5 → (rdL tx m k rs).1 = 0 → (∀ G', LcI G0 G' → RMp (lcL tx m k n f cd bg) G' → Q none G') → Ex (d) none 10 false cX10_layCode 6 [some (.inr (.inr (some 35))), some (.inl n), some (.inl f), some (.inl k)] [] G Q := by
  intro m
  induction m with
  | zero =>
    intro k n f rs cd bg G hF hI hcd hbg hb k0 k1 nn0 nn1 hf f5 hr kk
    have h6 : iv G 35 6 = N := (hI.2 35 6 (by omega) (by omega) (by omega)).trans hn
    simp only [lcL] at kk
    refine x_iload_n (q := 7) dX10_layCode_6 rfl rfl ?_
    refine x_aload_n (q := 8) dX10_layCode_7 rfl rfl ?_
    refine x_getI (q := 11) dX10_layCode_8 rfl f_10_227 rfl (ft35 hF) ?_
    refine Ex.stk (st' := [.inl N, .inl k]) (by rw [show iv G 35 6 = N from h6]) ?_
    refine x_icmp_ge (q := 14) (t := 67) dX10_layCode_11 rfl (by decide) (fun h11 => ?_) (fun h11 => by exfalso; omega)
    refine x_aload_n (q := 68) dX10_layCode_67 rfl rfl ?_
    refine x_iload_n (q := 69) dX10_layCode_68 rfl rfl ?_
    refine x_putI (q := 72) dX10_layCode_69 rfl f_10_95 rfl (fun h => by cases h) (fun h => by cases h) (ft35 hF) ?_
    have hF := FX_si hF 35 14 f
    refine x_vret dX10_layCode_72 rfl ?_
    refine kk _ ⟨hI.1, fun a k h1 h2 h3 => by rw [iv_si, if_neg h3]; exact hI.2 a k h1 h2 h3⟩ ⟨?_, ?_, by simp [iv_si]⟩
    · funext j; simp only [iv_si]; rw [if_neg (by omega)]; exact congrFun hcd j
    · funext j; simp only [iv_si]; rw [if_neg (by omega)]; exact congrFun hbg j
  | succ m ih =>
    intro k n f rs cd bg G hF hI hcd hbg hb k0 k1 nn0 nn1 hf f5 hr kk
    have h6 : iv G 35 6 = N := (hI.2 35 6 (by omega) (by omega) (by omega)).trans hn
    have hx : iv G 38 k = tx k := (hI.2 38 k (by omega) (by omega) (by omega)).trans (htx k k0 (by omega))
    have hff := rsF_nn rs (tx k)
    have hc1 : iv (si G 42 n (tx k)) 42 = upi cd n (tx k) := by funext j; rw [← hcd]; unfold upi; rw [iv_si]; by_cases hj : j = n; rw [if_pos ⟨rfl, hj⟩, if_pos hj]; rw [if_neg (fun q => hj q.2), if_neg hj]
    have hb1 : iv (si G 42 n (tx k)) 43 = bg := by funext j; rw [← hbg, iv_si, if_neg (by omega)]
    have hI1 : LcI G0 (si G 42 n (tx k)) := ⟨hI.1, fun a j h1 h2 h3 => by rw [iv_si, if_neg (by omega)]; exact hI.2 a j h1 h2 h3⟩
    simp only [lcL] at kk
    simp only [rdL] at hr
    refine x_iload_n (q := 7) dX10_layCode_6 rfl rfl ?_
    refine x_aload_n (q := 8) dX10_layCode_7 rfl rfl ?_
    refine x_getI (q := 11) dX10_layCode_8 rfl f_10_227 rfl (ft35 hF) ?_
    refine Ex.stk (st' := [.inl N, .inl k]) (by rw [show iv G 35 6 = N from h6]) ?_
    refine x_icmp_ge (q := 14) (t := 67) dX10_layCode_11 rfl (by decide) (fun h11 => by exfalso; omega) (fun h11 => ?_)
    refine x_aload_n (q := 15) dX10_layCode_14 rfl rfl ?_
    refine x_getR (q := 18) dX10_layCode_15 rfl f_10_16 rfl (ft35 hF) ?_
    refine Ex.stk (st' := [.inr (.inr (some 38))]) (by rw [fr35_5 hF]) ?_
    refine x_iload_n (q := 19) dX10_layCode_18 rfl rfl ?_
    refine x_iaload (q := 20) dX10_layCode_19 rfl (Or.inl (ft38 hF)) (by omega) (by rw [fl38 hF]; omega) ?_
    refine Ex.stk (st' := [.inl (tx k)]) (by rw [show iv G 38 k = tx k from hx]) ?_
    refine x_bipush (q := 22) dX10_layCode_20 rfl (by decide) ?_
    refine x_icmp_eq (q := 25) (t := 61) dX10_layCode_22 rfl (by decide) (fun h22 => ?_) (fun h22 => ?_)
    · refine x_iinc (q := 64) (ls' := [some (.inr (.inr (some 35))), some (.inl n), some (.inl f), some (.inl (k + 1))]) dX10_layCode_61 rfl rfl (by first | rfl | exact hnl | exact hnl2 _) (by rw [show wr (k + 1) = k + 1 from (wr_id ⟨by omega, by omega⟩)]; rfl) ?_
      refine x_goto (t := 6) dX10_layCode_64 (by decide) ?_
      rw [if_pos h22] at kk hr
      exact ih (k + 1) n f rs cd bg G hF hI hcd hbg (RsB_up hb) (by omega) (by omega) nn0 (by omega) hf f5 hr kk
    · rw [if_neg h22] at kk hr
      have hf0 : rsF rs (tx k) = 0 := by
        by_cases hq : 0 < rsF rs (tx k)
        · rw [if_pos hq] at hr; dsimp only at hr; omega
        · omega
      rw [if_neg (by omega)] at hr
      have hd := fun h => rsF_d (c := tx k) hb h
      refine x_aload_n (q := 26) dX10_layCode_25 rfl rfl ?_
      refine x_getR (q := 29) dX10_layCode_26 rfl f_10_32 rfl (ft35 hF) ?_
      refine Ex.stk (st' := [.inr (.inr (some 42))]) (by rw [fr35_12 hF]) ?_
      refine x_iload_n (q := 30) dX10_layCode_29 rfl rfl ?_
      refine x_aload_n (q := 31) dX10_layCode_30 rfl rfl ?_
      refine x_getR (q := 34) dX10_layCode_31 rfl f_10_16 rfl (ft35 hF) ?_
      refine Ex.stk (st' := [.inr (.inr (some 38)), .inl n, .inr (.inr (some 42))]) (by rw [fr35_5 hF]) ?_
      refine x_iload_n (q := 35) dX10_layCode_34 rfl rfl ?_
      refine x_iaload (q := 36) dX10_layCode_35 rfl (Or.inl (ft38 hF)) (by omega) (by rw [fl38 hF]; omega) ?_
      refine Ex.stk (st' := [.inl (tx k), .inl n, .inr (.inr (some 42))]) (by rw [show iv G 38 k = tx k from hx]) ?_
      refine x_iastore (q := 37) dX10_layCode_36 rfl (ft42 hF) (by omega) (by rw [fl42 hF]; omega) ?_
      have hF := FX_si hF 42 n (tx k)
      refine x_iinc (q := 40) (ls' := [some (.inr (.inr (some 35))), some (.inl (n + 1)), some (.inl f), some (.inl k)]) dX10_layCode_37 rfl rfl (by first | rfl | exact hnl | exact hnl2 _) (by rw [show wr (n + 1) = n + 1 from (wr_id ⟨by omega, by omega⟩)]; rfl) ?_
      refine x_aload_n (q := 41) dX10_layCode_40 rfl rfl ?_
      refine x_getR (q := 44) dX10_layCode_41 rfl f_10_16 rfl (ft35 hF) ?_
      refine Ex.stk (st' := [.inr (.inr (some 38))]) (by rw [fr35_5 hF]) ?_
      refine x_iload_n (q := 45) dX10_layCode_44 rfl rfl ?_
      refine x_iaload (q := 46) dX10_layCode_45 rfl (Or.inl (ft38 hF)) (by omega) (by rw [fl38 hF]; omega) ?_
      refine Ex.stk (st' := [.inl (tx k)]) (by rw [show iv (si G 42 n (tx k)) 38 k = tx k from (by first | exact hx | simp [iv_si, iv_sr, iv_nw, hx])]) ?_
      refine x_bipush (q := 48) dX10_layCode_46 rfl (by decide) ?_
      refine x_icmp_ne (q := 51) (t := 61) dX10_layCode_48 rfl (by decide) (fun h48 => ?_) (fun h48 => ?_)
      · refine x_iinc (q := 64) (ls' := [some (.inr (.inr (some 35))), some (.inl (n + 1)), some (.inl f), some (.inl (k + 1))]) dX10_layCode_61 rfl rfl (by first | rfl | exact hnl | exact hnl2 _) (by rw [show wr (k + 1) = k + 1 from (wr_id ⟨by omega, by omega⟩)]; rfl) ?_
        refine x_goto (t := 6) dX10_layCode_64 (by decide) ?_
        rw [if_neg h48] at kk
        exact ih (k + 1) (n + 1) f _ _ bg _ hF hI1 hc1 hb1 (rsOn_B (tx k) k0 hb) (by omega) (by omega) (by omega) (by omega) (by rw [(hd hf0).2 h48]; exact hf) f5 hr kk
      · obtain ⟨d1, d2, d3, d4⟩ := (hd hf0).1 h48
        have hfs : f < 5 := by omega
        have hf0' : 0 ≤ f := by have := hb.2.2.2.2.1; omega
        refine x_aload_n (q := 52) dX10_layCode_51 rfl rfl ?_
        refine x_getR (q := 55) dX10_layCode_52 rfl f_10_35 rfl (ft35 hF) ?_
        refine Ex.stk (st' := [.inr (.inr (some 43))]) (by rw [fr35_13 hF]) ?_
        refine x_iload_n (q := 56) dX10_layCode_55 rfl rfl ?_
        refine x_iload_n (q := 57) dX10_layCode_56 rfl rfl ?_
        refine x_iastore (q := 58) dX10_layCode_57 rfl (ft43 hF) (by omega) (by rw [fl43 hF]; omega) ?_
        have hF := FX_si hF 43 f (n + 1)
        refine x_iinc (q := 61) (ls' := [some (.inr (.inr (some 35))), some (.inl (n + 1)), some (.inl (f + 1)), some (.inl k)]) dX10_layCode_58 rfl rfl (by first | rfl | exact hnl | exact hnl2 _) (by rw [show wr (f + 1) = f + 1 from (wr_id ⟨by omega, by omega⟩)]; rfl) ?_
        refine x_iinc (q := 64) (ls' := [some (.inr (.inr (some 35))), some (.inl (n + 1)), some (.inl (f + 1)), some (.inl (k + 1))]) dX10_layCode_61 rfl rfl (by first | rfl | exact hnl | exact hnl2 _) (by rw [show wr (k + 1) = k + 1 from (wr_id ⟨by omega, by omega⟩)]; rfl) ?_
        refine x_goto (t := 6) dX10_layCode_64 (by decide) ?_
        rw [if_pos h48] at kk
        exact ih (k + 1) (n + 1) (f + 1) _ _ _ _ hF ⟨hI1.1, fun a j h1 h2 h3 => by rw [iv_si, if_neg (by omega)]; exact hI1.2 a j h1 h2 h3⟩ (by rw [← hc1]; funext j; rw [iv_si, if_neg (by omega)]) (by funext j; unfold upi; rw [iv_si, hb1]; by_cases hj : j = f; rw [if_pos ⟨rfl, hj⟩, if_pos hj]; rw [if_neg (fun q => hj q.2), if_neg hj]) (rsOn_B (tx k) k0 hb) (by omega) (by omega) (by omega) (by omega) (by rw [((hd hf0).1 h48).2.2.2, hf]) (by omega) hr kk
theorem c_layCode (d : Nat) {G : Hp} (hF : FM G) {tx : Int → Int} {n : Int} (n0 : 0 ≤ n) (n1 : n ≤ 160) (htx : ∀ k, 0 ≤ k → k < n → iv G 38 k = tx k) (hn : iv G 35 6 = n) {P : Pg} (hp : RMp P G) (hr : (rdL tx n.toNat 0 (0, 0, 0, 0, 0)).1 = 0) : CX (d + 1) 137 [.inr (.inr (some 35))] G (fun r G' => r = none ∧ LcI G G' ∧ RMp (lcL tx n.toNat 0 0 0 P.1 P.2.1) G') := by
  refine CX.of (d := d + 0) m_X10_layCode (Nat.le_of_ble_eq_true rfl) ?_
  refine Ex.lcl (ls' := [some (.inr (.inr (some 35))), none, none, none]) rfl ?_
  refine x_iconst (q := 1) dX10_layCode_0 rfl (by decide) ?_
  refine x_istore_n (q := 2) (ls' := [some (.inr (.inr (some 35))), some (.inl 0), none, none]) dX10_layCode_1 rfl (Nat.le_of_ble_eq_true rfl) (by first | rfl | exact hnl | exact hnl2 _) rfl ?_
  refine x_iconst (q := 3) dX10_layCode_2 rfl (by decide) ?_
  refine x_istore_n (q := 4) (ls' := [some (.inr (.inr (some 35))), some (.inl 0), some (.inl 0), none]) dX10_layCode_3 rfl (Nat.le_of_ble_eq_true rfl) (by first | rfl | exact hnl | exact hnl2 _) rfl ?_
  refine x_iconst (q := 5) dX10_layCode_4 rfl (by decide) ?_
  refine x_istore_n (q := 6) (ls' := [some (.inr (.inr (some 35))), some (.inl 0), some (.inl 0), some (.inl 0)]) dX10_layCode_5 rfl (Nat.le_of_ble_eq_true rfl) (by first | rfl | exact hnl | exact hnl2 _) rfl ?_
  exact lay_loop n1 htx hn n.toNat 0 0 0 (0, 0, 0, 0, 0) P.1 P.2.1 G hF ⟨Io.rf G, fun _ _ _ _ _ => rfl⟩ hp.1 hp.2.1 (RsB_0 _) (by decide) (by omega) (by decide) (by decide) rfl (by decide) hr (fun G' h1 h2 => ⟨rfl, h1, h2⟩)
def rdT (s : Sg) : Int × Int := rdL s.1.1 s.1.2.1.toNat 0 (0, 0, 0, 0, 0)
def lcP (s : Sg) : Pg := lcL s.1.1 s.1.2.1.toNat 0 0 0 s.2.1.1 s.2.1.2.1
def first (P : Pg) (c : Int → Int) : Tr 6 × K3 := upT c c 6 none (fr P c 5 0 0) (0, 0, 0)
def o_functions (s : Sg) : Int × Sg := if (rdT s).1 = 0 then ((lcP s).2.2, (s.1.1, 0, -1), lcP s, (fst0 s.2.2.1.1, [], s.2.2.1.2.2.1, s.2.2.1.2.2.2), s.2.2.2.1, (first (lcP s) (fst0 s.2.2.1.1)).1, fst0 s.2.2.1.1, (first (lcP s) (fst0 s.2.2.1.1)).2.1, 0, 0, 0) else (-10 - (rdT s).1, (s.1.1, 0, (rdT s).2), s.2)
theorem rdL_pl (tx : Int → Int) : ∀ (m : Nat) (k : Int) (rs : Rs), (rdL tx m k rs).1 = 0 → (rdL tx m k rs).2 = -1 := by
  intro m
  induction m with
  | zero => intro k rs h; simp only [rdL] at h ⊢; split at h; rename_i q; rw [if_pos q]; cases h
  | succ m ih =>
    intro k rs h
    simp only [rdL] at h ⊢
    split at h
    · rename_i q; rw [if_pos q]; exact ih _ _ h
    · rename_i q
      rw [if_neg q]
      split at h
      · rename_i q2; dsimp only at h; omega
      · rename_i q2; rw [if_neg q2]; exact ih _ _ h
theorem rdL_le (tx : Int → Int) : ∀ (m : Nat) (k : Int) (rs : Rs), (rdL tx m k rs).1 ≤ 4 := by
  intro m
  induction m with
  | zero => intro k rs; simp only [rdL]; split <;> simp
  | succ m ih =>
    intro k rs
    simp only [rdL]
    split
    · exact ih _ _
    · split
      · show rsF rs (tx k) ≤ 4; unfold rsF; (repeat' split) <;> decide
      · exact ih _ _
theorem Cok_fst0 {c : Int → Int} (h : Cok c) : Cok (fst0 c) := fun k k0 k1 => by rw [fst0_lo c k1]; exact h k k0 k1
theorem cm_functions (d : Nat) {s : Sg} {G : Hp} (hR0 : RM s G) (n0 : 0 ≤ s.1.2.1) (n1 : s.1.2.1 ≤ 160) (hP : (rdT s).1 = 0 → Pok (lcP s)) (hC : Cok s.2.2.1.1) : CX (d + 12) 139 [.inr (.inr (some 35))] G (fun r G' => r = some (.inl (o_functions s).1) ∧ RM (o_functions s).2 G' ∧ Mo G G') := by
  obtain ⟨hF, h2, h3, h4, h5, h6⟩ := hR0
  refine CX.of (d := d + 11) m_X10_functions (Nat.le_of_ble_eq_true rfl) ?_
  refine Ex.lcl (ls' := [some (.inr (.inr (some 35))), none]) rfl ?_
  refine x_aload_n (q := 1) dX10_functions_0 rfl rfl ?_
  refine x_invV (q := 4) (as := [.inr (.inr (some 35))]) (rest := []) dX10_functions_1 rfl l_10_241 m_X10_readText rfl rfl (ft35 hF) (Nat.le_of_ble_eq_true rfl) (c_readText _ hF n0 n1 h2.1 h2.2.1) (fun r1 G1 hR => ?_)
  obtain ⟨rfl, Gr, hI, rfl⟩ := hR
  have q0 := rdL_nn s.1.1 s.1.2.1.toNat 0 (0, 0, 0, 0, 0)
  have q4 := rdL_le s.1.1 s.1.2.1.toNat 0 (0, 0, 0, 0, 0)
  have hF : FM (si Gr 35 7 (rdT s).2) := FX_Io hF hI.1
  change 0 ≤ (rdT s).1 at q0
  change (rdT s).1 ≤ 4 at q4
  have E : ∀ (a : Nat) (k : Int), ¬ (a = 35 ∧ k = 7) → ¬ (a = 35 ∧ 43 ≤ k ∧ k ≤ 47) → iv (si Gr 35 7 (rdT s).2) a k = iv G a k := fun a k g1 g2 => by rw [iv_si, if_neg g1]; exact hI.2 a k g2
  refine Ex.stk (st' := [.inl ((rdT s).1)]) rfl ?_
  refine x_istore_n (q := 5) (ls' := [some (.inr (.inr (some 35))), some (.inl ((rdT s).1))]) dX10_functions_4 rfl (Nat.le_of_ble_eq_true rfl) (by first | rfl | exact hnl | exact hnl2 _) rfl ?_
  refine x_iload_n (q := 6) dX10_functions_5 rfl rfl ?_
  refine x_if_ne (q := 9) (t := 17) dX10_functions_6 rfl (by decide) (fun h6z => ?_) (fun h6z => ?_)
  · refine x_aload_n (q := 18) dX10_functions_17 rfl rfl ?_
    refine x_iconst (q := 19) dX10_functions_18 rfl (by decide) ?_
    refine x_putI (q := 22) dX10_functions_19 rfl f_10_227 rfl (fun h => by cases h) (fun h => by cases h) (ft35 hF) ?_
    have hF := FX_si hF 35 6 0
    refine x_iload_n (q := 23) dX10_functions_22 rfl rfl ?_
    refine x_if_le (q := 26) (t := 33) dX10_functions_23 rfl (by decide) (fun h23 => by exfalso; omega) (fun h23 => ?_)
    refine x_bipush (q := 28) dX10_functions_26 rfl (by decide) ?_
    refine x_iload_n (q := 29) dX10_functions_28 rfl rfl ?_
    refine x_isub (q := 30) (z := (-10) - ((rdT s).1)) dX10_functions_29 rfl (wr_id ⟨by omega, by omega⟩) ?_
    refine x_goto (t := 37) dX10_functions_30 (by decide) ?_
    refine x_iret dX10_functions_37 rfl ?_
    have e : o_functions s = (-10 - (rdT s).1, (s.1.1, 0, (rdT s).2), s.2) := if_neg h6z
    rw [e]
    have X : ∀ (a : Nat) (k : Int), a ≠ 35 → iv (si (si Gr 35 7 (rdT s).2) 35 6 0) a k = iv G a k := fun a k ha => by rw [iv_si, if_neg (by omega)]; exact E a k (by omega) (by omega)
    have Y : ∀ (k : Int), k ≠ 6 → k ≠ 7 → k < 43 → iv (si (si Gr 35 7 (rdT s).2) 35 6 0) 35 k = iv G 35 k := fun k g1 g2 g3 => by rw [iv_si, if_neg (by omega)]; exact E 35 k (by omega) (by omega)
    refine ⟨rfl, ⟨hF, ⟨fun k k0 k1 => ?_, by simp [iv_si], by simp [iv_si]; rfl⟩, RMp_k h3 (fun k => X 42 k (by decide)) (fun k => X 43 k (by decide)) (Y 14 (by decide) (by decide) (by decide)), RMr_k h4 (fun k => X 36 k (by decide)) (fun k => X 37 k (by decide)) (Y 1 (by decide) (by decide) (by decide)) (Y 2 (by decide) (by decide) (by decide)) (Y 3 (by decide) (by decide) (by decide)), RMb_k h5 (fun k => X 39 k (by decide)) (fun k => X 40 k (by decide)) (fun k => X 41 k (by decide)) (Y 11 (by decide) (by decide) (by decide)), RMc_k h6 (fun a k g1 g2 => X a k (by omega)) (Y 22 (by decide) (by decide) (by decide)) (fun k g1 g2 => Y k (by omega) (by omega) (by omega))⟩, ⟨hI.1, fun a k ha => X a k (by omega)⟩⟩
    dsimp only at k1; omega
  · refine x_aload_n (q := 10) dX10_functions_9 rfl rfl ?_
    have hp : RMp s.2.1 (si Gr 35 7 (rdT s).2) := RMp_k h3 (fun k => E 42 k (by omega) (by omega)) (fun k => E 43 k (by omega) (by omega)) (E 35 14 (by omega) (by omega))
    refine x_invV (q := 13) (as := [.inr (.inr (some 35))]) (rest := []) dX10_functions_10 rfl l_10_244 m_X10_layCode rfl rfl (ft35 hF) (Nat.le_of_ble_eq_true rfl) (c_layCode _ hF n0 n1 (tx := s.1.1) (fun k k0 k1 => (E 38 k (by omega) (by omega)).trans (h2.1 k k0 k1)) ((E 35 6 (by omega) (by omega)).trans h2.2.1) hp h6z) (fun r1 G2 hR => ?_)
    obtain ⟨rfl, hL, hp2⟩ := hR
    have hF : FM G2 := FX_Io hF hL.1
    have E2 : ∀ (a : Nat) (k : Int), a ≠ 42 → a ≠ 43 → ¬ (a = 35 ∧ k = 14) → ¬ (a = 35 ∧ k = 7) → ¬ (a = 35 ∧ 43 ≤ k ∧ k ≤ 47) → iv G2 a k = iv G a k := fun a k g1 g2 g3 g4 g5 => (hL.2 a k g1 g2 g3).trans (E a k g4 g5)
    have E7 : iv G2 35 7 = (rdT s).2 := (hL.2 35 7 (by omega) (by omega) (by omega)).trans (by simp [iv_si])
    refine Ex.stk (st' := []) rfl ?_
    refine x_aload_n (q := 14) dX10_functions_13 rfl rfl ?_
    refine x_invV (q := 17) (as := [.inr (.inr (some 35))]) (rest := []) dX10_functions_14 rfl l_10_98 m_X10_layFirst rfl rfl (ft35 hF) (Nat.le_of_ble_eq_true rfl) (c_layFirst _ hF (hP h6z) hp2 (cu := s.2.2.1.1) (fun k k0 k1 => (E2 36 k (by omega) (by omega) (by omega) (by omega) (by omega)).trans (h4.1 k k0 (by omega))) (Cok_fst0 hC)) (fun r1 G3 hR => ?_)
    obtain ⟨rfl, ⟨f1, f2, f3, f4, f5, f6, f7⟩, hc3⟩ := hR
    have hF : FM G3 := FX_Io hF f1
    have h14 : iv G3 35 14 = (lcP s).2.2 := (f7 14 (by decide) (by decide)).trans hp2.2.2
    refine Ex.stk (st' := []) rfl ?_
    refine x_aload_n (q := 18) dX10_functions_17 rfl rfl ?_
    refine x_iconst (q := 19) dX10_functions_18 rfl (by decide) ?_
    refine x_putI (q := 22) dX10_functions_19 rfl f_10_227 rfl (fun h => by cases h) (fun h => by cases h) (ft35 hF) ?_
    have hF := FX_si hF 35 6 0
    refine x_iload_n (q := 23) dX10_functions_22 rfl rfl ?_
    refine x_if_le (q := 26) (t := 33) dX10_functions_23 rfl (by decide) (fun h23 => ?_) (fun h23 => by exfalso; omega)
    refine x_aload_n (q := 34) dX10_functions_33 rfl rfl ?_
    refine x_getI (q := 37) dX10_functions_34 rfl f_10_95 rfl (ft35 hF) ?_
    refine Ex.stk (st' := [.inl ((lcP s).2.2)]) (by rw [show iv (si G3 35 6 0) 35 14 = (lcP s).2.2 from (by simp [iv_si, h14])]) ?_
    refine x_iret dX10_functions_37 rfl ?_
    have e : o_functions s = ((lcP s).2.2, (s.1.1, 0, -1), lcP s, (fst0 s.2.2.1.1, [], s.2.2.1.2.2.1, s.2.2.1.2.2.2), s.2.2.2.1, (first (lcP s) (fst0 s.2.2.1.1)).1, fst0 s.2.2.1.1, (first (lcP s) (fst0 s.2.2.1.1)).2.1, 0, 0, 0) := if_pos h6z
    rw [e]
    have hm := rdL_pl _ _ _ _ h6z
    have X : ∀ (a : Nat) (k : Int), (36 < a ∧ a < 42) → iv (si G3 35 6 0) a k = iv G a k := fun a k ha => by rw [iv_si, if_neg (by omega), f2 a k (by omega)]; exact E2 a k (by omega) (by omega) (by omega) (by omega) (by omega)
    have Y : ∀ (k : Int), k ≠ 1 → k ≠ 6 → k ≠ 7 → k ≠ 14 → k < 22 → iv (si G3 35 6 0) 35 k = iv G 35 k := fun k g1 g2 g3 g4 g5 => by rw [iv_si, if_neg (by omega), f7 k g1 (by omega)]; exact E2 35 k (by omega) (by omega) (by omega) (by omega) (by omega)
    have Z : ∀ (k : Int), k ≠ 8 → k ≠ 9 → iv (si G3 35 6 0) 36 k = iv G 36 k := fun k g1 g2 => by rw [iv_si, if_neg (by omega), f3 k g1 g2]; exact E2 36 k (by omega) (by omega) (by omega) (by omega) (by omega)
    refine ⟨rfl, ⟨hF, ⟨fun k k0 k1 => ?_, by simp [iv_si], ?_⟩, ?_, ⟨fun k k0 k1 => ?_, ⟨?_, fun i r hr => by cases hr⟩, RMi_k h4.2.2.1 (fun k g1 g2 => Z k (by omega) (by omega)) (fun k => X 37 k (by omega)) (Y 2 (by decide) (by decide) (by decide) (by decide) (by decide)), (Y 3 (by decide) (by decide) (by decide) (by decide) (by decide)).trans h4.2.2.2⟩, RMb_k h5 (fun k => X 39 k (by omega)) (fun k => X 40 k (by omega)) (fun k => X 41 k (by omega)) (Y 11 (by decide) (by decide) (by decide) (by decide) (by decide)), RMc_k hc3 (fun a k g1 g2 => by rw [iv_si, if_neg (by omega)]) (by simp [iv_si]) (fun k g1 g2 => by rw [iv_si, if_neg (by omega)])⟩, ?_⟩
    · dsimp only at k1; omega
    · show iv _ 35 7 = -1
      rw [iv_si, if_neg (by omega), f7 7 (by decide) (by decide), E7]; exact hm
    · exact RMp_k hp2 (fun k => by rw [iv_si, if_neg (by omega)]; exact f2 42 k (by omega)) (fun k => by rw [iv_si, if_neg (by omega)]; exact f2 43 k (by omega)) (by rw [iv_si, if_neg (by omega)]; exact f7 14 (by decide) (by decide))
    · show iv _ 36 k = fst0 s.2.2.1.1 k
      by_cases k8 : k < 8
      · rw [fst0_lo _ k8, Z k (by omega) (by omega)]; exact h4.1 k k0 k1
      · rw [iv_si, if_neg (by omega)]
        by_cases k9 : k = 8
        · subst k9; rw [f4]; unfold fst0 upi; rw [if_neg (by decide), if_pos rfl]
        · have : k = 9 := by omega
          subst this; rw [f5]; unfold fst0 upi; rw [if_pos rfl]
    · show iv _ 35 1 = 0
      rw [iv_si, if_neg (by omega)]; exact f6
    · exact ⟨((hI.1.trans (Io.rf _)).trans hL.1).trans f1, fun a k ha => by rw [iv_si, if_neg (by omega), f2 a k (by omega)]; exact E2 a k (by omega) (by omega) (by omega) (by omega) (by omega)⟩
