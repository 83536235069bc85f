/-! THE MODEL, leaves -/
theorem x_lcmp2 {d : Nat} {ret : Option FieldType} {own : Nat} {ini : Bool} {cc : ByteArray} {pc q : Nat} {ls : Ls} {st : List V} {G : Hp} {Q : Option V → Hp → Prop} {x y : Int} (hd : decode cc pc = .ok (.lcmp, 1)) (hq : pc + 1 = q) (h : ∀ z : Int, (z < 0 ↔ x < y) → (0 < z ↔ y < x) → Ex d ret own ini cc q ls (.inl z :: st) G Q) : Ex d ret own ini cc pc ls (.inr (.inl y) :: .inr (.inl x) :: st) G Q := by
  refine x_lcmp hd hq rfl (h _ ?_ ?_)
  · split
    · omega
    · split <;> omega
  · split
    · omega
    · split <;> omega
theorem rb01 (m i : Int) : rb m i = 0 ∨ rb m i = 1 := by
  have h : ∀ z : Int32, (z &&& Int32.ofInt 1).toInt = 0 ∨ (z &&& Int32.ofInt 1).toInt = 1 := by
    intro z
    have h1 : z.toBitVec &&& 1#32 = 0#32 ∨ z.toBitVec &&& 1#32 = 1#32 := by
      have h2 : (z.toBitVec &&& 1#32).toNat = z.toBitVec.toNat % 2 := by
        rw [BitVec.toNat_and]; exact Nat.and_one_is_mod _
      rcases Nat.mod_two_eq_zero_or_one z.toBitVec.toNat with h3 | h3
      · left; apply BitVec.eq_of_toNat_eq; rw [h2, h3]; rfl
      · right; apply BitVec.eq_of_toNat_eq; rw [h2, h3]; rfl
    rcases h1 with h1 | h1
    · left
      show (z &&& Int32.ofInt 1).toBitVec.toInt = 0
      rw [show (z &&& Int32.ofInt 1).toBitVec = z.toBitVec &&& 1#32 from rfl, h1]; rfl
    · right
      show (z &&& Int32.ofInt 1).toBitVec.toInt = 1
      rw [show (z &&& Int32.ofInt 1).toBitVec = z.toBitVec &&& 1#32 from rfl, h1]; rfl
  exact h _
def wnt (c : Int) : Int := if c = 43 ∨ c = 45 ∨ c = 42 ∨ c = 60 then 2 else if c = 63 then 3 else if c = 120 ∨ c = 102 then 1 else 0
theorem c_in (d : Nat) {G : Hp} {v lo hi : Int} : CX (d + 1) 109 [.inr (.inl v), .inr (.inl lo), .inr (.inl hi)] G (fun r G1 => G1 = G ∧ ∃ z, r = some (.inl z) ∧ (z = 0 ∨ z = 1) ∧ (z = 1 ↔ lo ≤ v ∧ v ≤ hi)) := by
  refine CX.of (d := d + 0) m_X10_in (Nat.le_of_ble_eq_true rfl) ?_
  refine Ex.lcl (ls' := [some (.inr (.inl v)), none, some (.inr (.inl lo)), none, some (.inr (.inl hi)), none]) rfl ?_
  refine x_lload_n (q := 1) dX10_in_0 rfl rfl ?_
  refine x_lload_n (q := 2) dX10_in_1 rfl rfl ?_
  refine x_lcmp2 (q := 3) dX10_in_2 rfl (fun z2 z2a z2b => ?_)
  refine x_if_lt (q := 6) (t := 17) dX10_in_3 rfl (by decide) (fun h3 => ?_) (fun h3 => ?_)
  · refine x_iconst (q := 18) dX10_in_17 rfl (by decide) ?_
    refine x_zret dX10_in_18 rfl (by decide) ?_
    exact ⟨rfl, 0, rfl, by omega, by omega⟩
  · refine x_lload_n (q := 7) dX10_in_6 rfl rfl ?_
    refine x_lload (q := 9) dX10_in_7 rfl rfl ?_
    refine x_lcmp2 (q := 10) dX10_in_9 rfl (fun z9 z9a z9b => ?_)
    refine x_if_gt (q := 13) (t := 17) dX10_in_10 rfl (by decide) (fun h10 => ?_) (fun h10 => ?_)
    · refine x_iconst (q := 18) dX10_in_17 rfl (by decide) ?_
      refine x_zret dX10_in_18 rfl (by decide) ?_
      exact ⟨rfl, 0, rfl, by omega, by omega⟩
    · refine x_iconst (q := 14) dX10_in_13 rfl (by decide) ?_
      refine x_goto (t := 18) dX10_in_14 (by decide) ?_
      refine x_zret dX10_in_18 rfl (by decide) ?_
      exact ⟨rfl, 1, rfl, by omega, by omega⟩
theorem c_has (d : Nat) {G : Hp} {s k : Int} : CX (d + 1) 110 [.inl s, .inl k] G (fun r G1 => G1 = G ∧ ∃ z, r = some (.inl z) ∧ (z = 0 ∨ z = 1) ∧ (z = 1 ↔ rb s k = 1)) := by
  refine CX.of (d := d + 0) m_X10_has (Nat.le_of_ble_eq_true rfl) ?_
  refine Ex.lcl (ls' := [some (.inl s), some (.inl k)]) rfl ?_
  refine x_iload_n (q := 1) dX10_has_0 rfl rfl ?_
  refine x_iload_n (q := 2) dX10_has_1 rfl rfl ?_
  refine x_ishr (q := 3) (z := (Int32.ofInt s >>> (Int32.ofInt k &&& 31)).toInt) dX10_has_2 rfl rfl ?_
  refine x_iconst (q := 4) dX10_has_3 rfl (by decide) ?_
  refine x_iand (q := 5) (z := rb s k) dX10_has_4 rfl rfl ?_
  refine x_iconst (q := 6) dX10_has_5 rfl (by decide) ?_
  refine x_icmp_ne (q := 9) (t := 13) dX10_has_6 rfl (by decide) (fun h6 => ?_) (fun h6 => ?_)
  · refine x_iconst (q := 14) dX10_has_13 rfl (by decide) ?_
    refine x_zret dX10_has_14 rfl (by decide) ?_
    exact ⟨rfl, 0, rfl, by omega, by omega⟩
  · refine x_iconst (q := 10) dX10_has_9 rfl (by decide) ?_
    refine x_goto (t := 14) dX10_has_10 (by decide) ?_
    refine x_zret dX10_has_14 rfl (by decide) ?_
    exact ⟨rfl, 1, rfl, by omega, by omega⟩
theorem c_wants (d : Nat) {G : Hp} {c : Int} : CX (d + 1) 114 [.inl c] G (fun r G1 => G1 = G ∧ r = some (.inl (wnt c))) := by
  refine CX.of (d := d + 0) m_X10_wants (Nat.le_of_ble_eq_true rfl) ?_
  refine Ex.lcl (ls' := [some (.inl c)]) rfl ?_
  refine x_iload_n (q := 1) dX10_wants_0 rfl rfl ?_
  refine x_bipush (q := 3) dX10_wants_1 rfl (by decide) ?_
  refine x_icmp_eq (q := 6) (t := 24) dX10_wants_3 rfl (by decide) (fun h3 => ?_) (fun h3 => ?_)
  · refine x_iconst (q := 25) dX10_wants_24 rfl (by decide) ?_
    refine x_iret dX10_wants_25 rfl ?_
    refine ⟨rfl, ?_⟩
    congr 2
    unfold wnt
    (repeat' split) <;> omega
  · refine x_iload_n (q := 7) dX10_wants_6 rfl rfl ?_
    refine x_bipush (q := 9) dX10_wants_7 rfl (by decide) ?_
    refine x_icmp_eq (q := 12) (t := 24) dX10_wants_9 rfl (by decide) (fun h9 => ?_) (fun h9 => ?_)
    · refine x_iconst (q := 25) dX10_wants_24 rfl (by decide) ?_
      refine x_iret dX10_wants_25 rfl ?_
      refine ⟨rfl, ?_⟩
      congr 2
      unfold wnt
      (repeat' split) <;> omega
    · refine x_iload_n (q := 13) dX10_wants_12 rfl rfl ?_
      refine x_bipush (q := 15) dX10_wants_13 rfl (by decide) ?_
      refine x_icmp_eq (q := 18) (t := 24) dX10_wants_15 rfl (by decide) (fun h15 => ?_) (fun h15 => ?_)
      · refine x_iconst (q := 25) dX10_wants_24 rfl (by decide) ?_
        refine x_iret dX10_wants_25 rfl ?_
        refine ⟨rfl, ?_⟩
        congr 2
        unfold wnt
        (repeat' split) <;> omega
      · refine x_iload_n (q := 19) dX10_wants_18 rfl rfl ?_
        refine x_bipush (q := 21) dX10_wants_19 rfl (by decide) ?_
        refine x_icmp_ne (q := 24) (t := 26) dX10_wants_21 rfl (by decide) (fun h21 => ?_) (fun h21 => ?_)
        · refine x_iload_n (q := 27) dX10_wants_26 rfl rfl ?_
          refine x_bipush (q := 29) dX10_wants_27 rfl (by decide) ?_
          refine x_icmp_ne (q := 32) (t := 36) dX10_wants_29 rfl (by decide) (fun h29 => ?_) (fun h29 => ?_)
          · refine x_iload_n (q := 37) dX10_wants_36 rfl rfl ?_
            refine x_bipush (q := 39) dX10_wants_37 rfl (by decide) ?_
            refine x_icmp_eq (q := 42) (t := 48) dX10_wants_39 rfl (by decide) (fun h39 => ?_) (fun h39 => ?_)
            · refine x_iconst (q := 49) dX10_wants_48 rfl (by decide) ?_
              refine x_goto (t := 53) dX10_wants_49 (by decide) ?_
              refine x_iret dX10_wants_53 rfl ?_
              refine ⟨rfl, ?_⟩
              congr 2
              unfold wnt
              (repeat' split) <;> omega
            · refine x_iload_n (q := 43) dX10_wants_42 rfl rfl ?_
              refine x_bipush (q := 45) dX10_wants_43 rfl (by decide) ?_
              refine x_icmp_ne (q := 48) (t := 52) dX10_wants_45 rfl (by decide) (fun h45 => ?_) (fun h45 => ?_)
              · refine x_iconst (q := 53) dX10_wants_52 rfl (by decide) ?_
                refine x_iret dX10_wants_53 rfl ?_
                refine ⟨rfl, ?_⟩
                congr 2
                unfold wnt
                (repeat' split) <;> omega
              · refine x_iconst (q := 49) dX10_wants_48 rfl (by decide) ?_
                refine x_goto (t := 53) dX10_wants_49 (by decide) ?_
                refine x_iret dX10_wants_53 rfl ?_
                refine ⟨rfl, ?_⟩
                congr 2
                unfold wnt
                (repeat' split) <;> omega
          · refine x_iconst (q := 33) dX10_wants_32 rfl (by decide) ?_
            refine x_goto (t := 53) dX10_wants_33 (by decide) ?_
            refine x_iret dX10_wants_53 rfl ?_
            refine ⟨rfl, ?_⟩
            congr 2
            unfold wnt
            (repeat' split) <;> omega
        · refine x_iconst (q := 25) dX10_wants_24 rfl (by decide) ?_
          refine x_iret dX10_wants_25 rfl ?_
          refine ⟨rfl, ?_⟩
          congr 2
          unfold wnt
          (repeat' split) <;> omega
theorem c_counted (d : Nat) {G : Hp} {c x y : Int} (hc : c = 43 ∨ c = 45 ∨ c = 42 ∨ c = 60) (hx : 0 ≤ x ∧ x ≤ 996) (hy : 0 ≤ y ∧ y ≤ 996) : CX (d + 1) 117 [.inl c, .inl x, .inl y] G (fun r G1 => G1 = G ∧ r = some (.inl (opv c x y))) := by
  refine CX.of (d := d + 0) m_X10_counted (Nat.le_of_ble_eq_true rfl) ?_
  refine Ex.lcl (ls' := [some (.inl c), some (.inl x), some (.inl y)]) rfl ?_
  refine x_iload_n (q := 1) dX10_counted_0 rfl rfl ?_
  rcases Decidable.em (c < 42 ∨ 45 < c) with hs1 | hs1
  · refine x_tableOut (t := 60) dX10_counted_1 hs1 (by decide) ?_
    refine x_iload_n (q := 61) dX10_counted_60 rfl rfl ?_
    refine x_iload_n (q := 62) dX10_counted_61 rfl rfl ?_
    refine x_icmp_ge (q := 65) (t := 69) dX10_counted_62 rfl (by decide) (fun h62 => ?_) (fun h62 => ?_)
    · refine x_iconst (q := 70) dX10_counted_69 rfl (by decide) ?_
      refine x_iret dX10_counted_70 rfl ?_
      refine ⟨rfl, ?_⟩
      congr 2
      unfold opv
      (repeat' split) <;> first | rfl | omega
    · refine x_iconst (q := 66) dX10_counted_65 rfl (by decide) ?_
      refine x_goto (t := 70) dX10_counted_66 (by decide) ?_
      refine x_iret dX10_counted_70 rfl ?_
      refine ⟨rfl, ?_⟩
      congr 2
      unfold opv
      (repeat' split) <;> first | rfl | omega
  obtain hs1 | hs1 | hs1 | hs1 : c = 42 ∨ c = 43 ∨ c = 44 ∨ c = 45 := by omega
  · refine x_tableIn (t := 52) (off := 51) dX10_counted_1 (by omega) (by omega) (by rw [hs1]; rfl) (by decide) ?_
    refine x_iload_n (q := 53) dX10_counted_52 rfl rfl ?_
    refine x_iload_n (q := 54) dX10_counted_53 rfl rfl ?_
    refine x_imul (q := 55) (z := x * y) dX10_counted_54 rfl (wr_id ⟨by have := Int.mul_nonneg hx.1 hy.1; omega, by have := Int.mul_le_mul hx.2 hy.2 hy.1 (by omega : (0 : Int) ≤ 996); omega⟩) ?_
    refine x_sipush (q := 58) dX10_counted_55 rfl (by decide) ?_
    refine x_irem (q := 59) (z := (x * y) % 997) dX10_counted_58 rfl (by omega) (Int.tmod_eq_emod_of_nonneg (by first | omega | exact Int.mul_nonneg (by omega) (by omega))) ?_
    refine x_iret dX10_counted_59 rfl ?_
    refine ⟨rfl, ?_⟩
    congr 2
    unfold opv
    (repeat' split) <;> first | rfl | omega
  · refine x_tableIn (t := 32) (off := 31) dX10_counted_1 (by omega) (by omega) (by rw [hs1]; rfl) (by decide) ?_
    refine x_iload_n (q := 33) dX10_counted_32 rfl rfl ?_
    refine x_iload_n (q := 34) dX10_counted_33 rfl rfl ?_
    refine x_iadd (q := 35) (z := x + y) dX10_counted_34 rfl (wr_id ⟨by omega, by omega⟩) ?_
    refine x_sipush (q := 38) dX10_counted_35 rfl (by decide) ?_
    refine x_irem (q := 39) (z := (x + y) % 997) dX10_counted_38 rfl (by omega) (Int.tmod_eq_emod_of_nonneg (by first | omega | exact Int.mul_nonneg (by omega) (by omega))) ?_
    refine x_iret dX10_counted_39 rfl ?_
    refine ⟨rfl, ?_⟩
    congr 2
    unfold opv
    (repeat' split) <;> first | rfl | omega
  · refine x_tableIn (t := 60) (off := 59) dX10_counted_1 (by omega) (by omega) (by rw [hs1]; rfl) (by decide) ?_
    refine x_iload_n (q := 61) dX10_counted_60 rfl rfl ?_
    refine x_iload_n (q := 62) dX10_counted_61 rfl rfl ?_
    refine x_icmp_ge (q := 65) (t := 69) dX10_counted_62 rfl (by decide) (fun h62 => ?_) (fun h62 => ?_)
    · refine x_iconst (q := 70) dX10_counted_69 rfl (by decide) ?_
      refine x_iret dX10_counted_70 rfl ?_
      refine ⟨rfl, ?_⟩
      congr 2
      unfold opv
      (repeat' split) <;> first | rfl | omega
    · refine x_iconst (q := 66) dX10_counted_65 rfl (by decide) ?_
      refine x_goto (t := 70) dX10_counted_66 (by decide) ?_
      refine x_iret dX10_counted_70 rfl ?_
      refine ⟨rfl, ?_⟩
      congr 2
      unfold opv
      (repeat' split) <;> first | rfl | omega
  · refine x_tableIn (t := 40) (off := 39) dX10_counted_1 (by omega) (by omega) (by rw [hs1]; rfl) (by decide) ?_
    refine x_iload_n (q := 41) dX10_counted_40 rfl rfl ?_
    refine x_iload_n (q := 42) dX10_counted_41 rfl rfl ?_
    refine x_isub (q := 43) (z := x - y) dX10_counted_42 rfl (wr_id ⟨by omega, by omega⟩) ?_
    refine x_sipush (q := 46) dX10_counted_43 rfl (by decide) ?_
    refine x_iadd (q := 47) (z := (x - y) + 997) dX10_counted_46 rfl (wr_id ⟨by omega, by omega⟩) ?_
    refine x_sipush (q := 50) dX10_counted_47 rfl (by decide) ?_
    refine x_irem (q := 51) (z := ((x - y) + 997) % 997) dX10_counted_50 rfl (by omega) (Int.tmod_eq_emod_of_nonneg (by first | omega | exact Int.mul_nonneg (by omega) (by omega))) ?_
    refine x_iret dX10_counted_51 rfl ?_
    refine ⟨rfl, ?_⟩
    congr 2
    unfold opv
    (repeat' split) <;> first | rfl | omega
theorem c_push (d : Nat) {G : Hp} (hF : FM G) {w a b : Int} (hw : iv G 35 40 = w) (h0 : 0 ≤ w) (h1 : w < 1200) : CX (d + 1) 113 [.inr (.inr (some 35)), .inl a, .inl b] G (fun r G1 => r = none ∧ G1 = si (si (si (si G 60 w a) 61 w 0) 62 w b) 35 40 (w + 1)) := by
  refine CX.of (d := d + 0) m_X10_push (Nat.le_of_ble_eq_true rfl) ?_
  refine Ex.lcl (ls' := [some (.inr (.inr (some 35))), some (.inl a), some (.inl b)]) rfl ?_
  refine x_aload_n (q := 1) dX10_push_0 rfl rfl ?_
  refine x_getR (q := 4) dX10_push_1 rfl f_10_86 rfl (ft35 hF) ?_
  refine Ex.stk (st' := [.inr (.inr (some 60))]) (by rw [fr35_37 hF]) ?_
  refine x_aload_n (q := 5) dX10_push_4 rfl rfl ?_
  refine x_getI (q := 8) dX10_push_5 rfl f_10_108 rfl (ft35 hF) ?_
  refine Ex.stk (st' := [.inl w, .inr (.inr (some 60))]) (by rw [show iv G 35 40 = w from hw]) ?_
  refine x_iload_n (q := 9) dX10_push_8 rfl rfl ?_
  refine x_iastore (q := 10) dX10_push_9 rfl (ft60 hF) (by omega) (by rw [fl60 hF]; omega) ?_
  have hF := FX_si hF 60 w a
  refine x_aload_n (q := 11) dX10_push_10 rfl rfl ?_
  refine x_getR (q := 14) dX10_push_11 rfl f_10_89 rfl (ft35 hF) ?_
  refine Ex.stk (st' := [.inr (.inr (some 61))]) (by rw [fr35_38 hF]) ?_
  refine x_aload_n (q := 15) dX10_push_14 rfl rfl ?_
  refine x_getI (q := 18) dX10_push_15 rfl f_10_108 rfl (ft35 hF) ?_
  refine Ex.stk (st' := [.inl w, .inr (.inr (some 61))]) (by rw [show iv (si G 60 w a) 35 40 = w from (by simp [iv_si, iv_sr, iv_nw, hw])]) ?_
  refine x_iconst (q := 19) dX10_push_18 rfl (by decide) ?_
  refine x_iastore (q := 20) dX10_push_19 rfl (ft61 hF) (by omega) (by rw [fl61 hF]; omega) ?_
  have hF := FX_si hF 61 w 0
  refine x_aload_n (q := 21) dX10_push_20 rfl rfl ?_
  refine x_getR (q := 24) dX10_push_21 rfl f_10_92 rfl (ft35 hF) ?_
  refine Ex.stk (st' := [.inr (.inr (some 62))]) (by rw [fr35_39 hF]) ?_
  refine x_aload_n (q := 25) dX10_push_24 rfl rfl ?_
  refine x_getI (q := 28) dX10_push_25 rfl f_10_108 rfl (ft35 hF) ?_
  refine Ex.stk (st' := [.inl w, .inr (.inr (some 62))]) (by rw [show iv (si (si G 60 w a) 61 w 0) 35 40 = w from (by simp [iv_si, iv_sr, iv_nw, hw])]) ?_
  refine x_iload_n (q := 29) dX10_push_28 rfl rfl ?_
  refine x_iastore (q := 30) dX10_push_29 rfl (ft62 hF) (by omega) (by rw [fl62 hF]; omega) ?_
  have hF := FX_si hF 62 w b
  refine x_aload_n (q := 31) dX10_push_30 rfl rfl ?_
  refine x_dup (q := 32) dX10_push_31 rfl rfl ?_
  refine x_getI (q := 35) dX10_push_32 rfl f_10_108 rfl (ft35 hF) ?_
  refine Ex.stk (st' := [.inl w, .inr (.inr (some 35))]) (by rw [show iv (si (si (si G 60 w a) 61 w 0) 62 w b) 35 40 = w from (by simp [iv_si, iv_sr, iv_nw, hw])]) ?_
  refine x_iconst (q := 36) dX10_push_35 rfl (by decide) ?_
  refine x_iadd (q := 37) (z := w + 1) dX10_push_36 rfl (wr_id ⟨by omega, by omega⟩) ?_
  refine x_putI (q := 40) dX10_push_37 rfl f_10_108 rfl (fun h => by cases h) (fun h => by cases h) (ft35 hF) ?_
  have hF := FX_si hF 35 40 (w + 1)
  refine x_vret dX10_push_40 rfl ?_
  exact ⟨rfl, rfl⟩
