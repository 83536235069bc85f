/-! THE MODEL: where calls end, which are old -/
theorem isOldN_iff {h c : Int → Int} {m : Int} : isOldN h c m = true ↔ ∃ j, 0 ≤ j ∧ j < 8 ∧ rb m j = 1 ∧ h j ≠ c j := by
  unfold isOldN
  rw [List.any_eq_true]
  constructor
  · rintro ⟨j, hj, h1⟩
    simp only [Bool.and_eq_true, decide_eq_true_eq] at h1
    refine ⟨j, ?_, ?_, (rb01 m j).resolve_left h1.1, h1.2⟩ <;> (simp only [List.mem_cons, List.not_mem_nil, or_false] at hj; omega)
  · rintro ⟨j, h0, h1, h2, h3⟩
    refine ⟨j, ?_, ?_⟩
    · simp only [List.mem_cons, List.not_mem_nil, or_false]; omega
    · simp only [Bool.and_eq_true, decide_eq_true_eq]
      exact ⟨by omega, h3⟩
/-- e is where the call k ends -/
def endp (ne : Int → Int) (cnt k e : Int) : Prop := k < e ∧ e ≤ cnt ∧ (∀ j, k < j → j < e → ne k < ne j) ∧ (e = cnt ∨ ne e ≤ ne k)
theorem endOf_loop {d : Nat} {G : Hp} {Q : Option V → Hp → Prop} {A : Nat} (ht : tg G A = 20) (hl : ln G A = 364) {cnt k e : Int} (k0 : 0 ≤ k) (c1 : cnt ≤ 364) (he : endp (iv G A) cnt k e) (kk : Q (some (.inl e)) G) : ∀ (n : Nat) (j : Int), k < j → j ≤ e → e - j ≤ (n : Int) → Ex (d) (some .int) 10 false cX10_endOf 4 [some (.inr (.inr (some A))), some (.inl cnt), some (.inl k), some (.inl j)] [] G Q := by
  obtain ⟨e1, e2, e3, e4⟩ := he
  intro n
  induction n with
  | zero =>
    intro j j1 j2 j3
    have hj : j = e := by omega
    subst hj
    refine x_iload_n (q := 5) dX10_endOf_4 rfl rfl ?_
    refine x_iload_n (q := 6) dX10_endOf_5 rfl rfl ?_
    refine x_icmp_ge (q := 9) (t := 24) dX10_endOf_6 rfl (by decide) (fun h6 => ?_) (fun h6 => ?_)
    · refine x_iload_n (q := 25) dX10_endOf_24 rfl rfl ?_
      refine x_iret dX10_endOf_25 rfl ?_
      exact kk
    · refine x_aload_n (q := 10) dX10_endOf_9 rfl rfl ?_
      refine x_iload_n (q := 11) dX10_endOf_10 rfl rfl ?_
      refine x_iaload (q := 12) dX10_endOf_11 rfl (Or.inl ht) (by omega) (by omega) ?_
      refine x_aload_n (q := 13) dX10_endOf_12 rfl rfl ?_
      refine x_iload_n (q := 14) dX10_endOf_13 rfl rfl ?_
      refine x_iaload (q := 15) dX10_endOf_14 rfl (Or.inl ht) (by omega) (by omega) ?_
      refine x_icmp_le (q := 18) (t := 24) dX10_endOf_15 rfl (by decide) (fun h15 => ?_) (fun h15 => by exfalso; (rcases e4 with h | h <;> omega))
      refine x_iload_n (q := 25) dX10_endOf_24 rfl rfl ?_
      refine x_iret dX10_endOf_25 rfl ?_
      exact kk
  | succ n ih =>
    intro j j1 j2 j3
    by_cases hj : j = e
    · subst hj
      refine x_iload_n (q := 5) dX10_endOf_4 rfl rfl ?_
      refine x_iload_n (q := 6) dX10_endOf_5 rfl rfl ?_
      refine x_icmp_ge (q := 9) (t := 24) dX10_endOf_6 rfl (by decide) (fun h6 => ?_) (fun h6 => ?_)
      · refine x_iload_n (q := 25) dX10_endOf_24 rfl rfl ?_
        refine x_iret dX10_endOf_25 rfl ?_
        exact kk
      · refine x_aload_n (q := 10) dX10_endOf_9 rfl rfl ?_
        refine x_iload_n (q := 11) dX10_endOf_10 rfl rfl ?_
        refine x_iaload (q := 12) dX10_endOf_11 rfl (Or.inl ht) (by omega) (by omega) ?_
        refine x_aload_n (q := 13) dX10_endOf_12 rfl rfl ?_
        refine x_iload_n (q := 14) dX10_endOf_13 rfl rfl ?_
        refine x_iaload (q := 15) dX10_endOf_14 rfl (Or.inl ht) (by omega) (by omega) ?_
        refine x_icmp_le (q := 18) (t := 24) dX10_endOf_15 rfl (by decide) (fun h15 => ?_) (fun h15 => by exfalso; (rcases e4 with h | h <;> omega))
        refine x_iload_n (q := 25) dX10_endOf_24 rfl rfl ?_
        refine x_iret dX10_endOf_25 rfl ?_
        exact kk
    have hlt := e3 j j1 (by omega)
    refine x_iload_n (q := 5) dX10_endOf_4 rfl rfl ?_
    refine x_iload_n (q := 6) dX10_endOf_5 rfl rfl ?_
    refine x_icmp_ge (q := 9) (t := 24) dX10_endOf_6 rfl (by decide) (fun h6 => by exfalso; omega) (fun h6 => ?_)
    refine x_aload_n (q := 10) dX10_endOf_9 rfl rfl ?_
    refine x_iload_n (q := 11) dX10_endOf_10 rfl rfl ?_
    refine x_iaload (q := 12) dX10_endOf_11 rfl (Or.inl ht) (by omega) (by omega) ?_
    refine x_aload_n (q := 13) dX10_endOf_12 rfl rfl ?_
    refine x_iload_n (q := 14) dX10_endOf_13 rfl rfl ?_
    refine x_iaload (q := 15) dX10_endOf_14 rfl (Or.inl ht) (by omega) (by omega) ?_
    refine x_icmp_le (q := 18) (t := 24) dX10_endOf_15 rfl (by decide) (fun h15 => by exfalso; omega) (fun h15 => ?_)
    refine x_iinc (q := 21) (ls' := [some (.inr (.inr (some A))), some (.inl cnt), some (.inl k), some (.inl (j + 1))]) dX10_endOf_18 rfl rfl (by first | rfl | exact hnl) (by rw [show wr (j + 1) = j + 1 from (wr_id ⟨by omega, by omega⟩)]; rfl) ?_
    refine x_goto (t := 4) dX10_endOf_21 (by decide) ?_
    exact ih (j + 1) (by omega) (by omega) (by omega)
theorem c_endOf (d : Nat) {G : Hp} {A : Nat} (ht : tg G A = 20) (hl : ln G A = 364) {cnt k e : Int} (k0 : 0 ≤ k) (c1 : cnt ≤ 364) (he : endp (iv G A) cnt k e) : CX (d + 1) 125 [.inr (.inr (some A)), .inl cnt, .inl k] G (fun r G1 => G1 = G ∧ r = some (.inl e)) := by
  have hk1 := he.1
  have hk2 := he.2.1
  refine CX.of (d := d + 0) m_X10_endOf (Nat.le_of_ble_eq_true rfl) ?_
  refine Ex.lcl (ls' := [some (.inr (.inr (some A))), some (.inl cnt), some (.inl k), none]) rfl ?_
  refine x_iload_n (q := 1) dX10_endOf_0 rfl rfl ?_
  refine x_iconst (q := 2) dX10_endOf_1 rfl (by decide) ?_
  refine x_iadd (q := 3) (z := k + 1) dX10_endOf_2 rfl (wr_id ⟨by omega, by omega⟩) ?_
  refine x_istore_n (q := 4) (ls' := [some (.inr (.inr (some A))), some (.inl cnt), some (.inl k), some (.inl (k + 1))]) dX10_endOf_3 rfl (Nat.le_of_ble_eq_true rfl) (by first | rfl | exact hnl) rfl ?_
  exact endOf_loop ht hl k0 c1 he ⟨rfl, rfl⟩ (e - k).toNat (k + 1) (by omega) (by have := he.1; omega) (by omega)
theorem isOld_loop {d : Nat} {G : Hp} {Q : Option V → Hp → Prop} (hF : FM G) {k : Int} (k0 : 0 ≤ k) (k1 : k < 364) (kk : ∀ z : Int, (z = 0 ∨ z = 1) → (z = 1 ↔ ∃ j, 0 ≤ j ∧ j < 8 ∧ rb (iv G 48 k) j = 1 ∧ iv G 51 j ≠ iv G 36 j) → Q (some (.inl z)) G) : ∀ (n : Nat) (i z : Int), 0 ≤ i → i + (n : Int) = 8 → (z = 0 ∨ z = 1) → (z = 1 ↔ ∃ j, 0 ≤ j ∧ j < i ∧ rb (iv G 48 k) j = 1 ∧ iv G 51 j ≠ iv G 36 j) → Ex (d + 1) (some .boolean) 10 false cX10_isOld 4 [some (.inr (.inr (some 35))), some (.inl k), some (.inl z), some (.inl i)] [] G Q := by
  intro n
  induction n with
  | zero =>
    intro i z i0 i1 hz hi
    refine x_iload_n (q := 5) dX10_isOld_4 rfl rfl ?_
    refine x_bipush (q := 7) dX10_isOld_5 rfl (by decide) ?_
    refine x_icmp_ge (q := 10) (t := 54) dX10_isOld_7 rfl (by decide) (fun h7 => ?_) (fun h7 => by exfalso; omega)
    refine x_iload_n (q := 55) dX10_isOld_54 rfl rfl ?_
    refine x_zret dX10_isOld_55 rfl (by first | exact Or.inl rfl | exact Or.inr rfl | omega | assumption) ?_
    exact kk z hz (by rw [hi]; constructor <;> (rintro ⟨j, a, b, c⟩; exact ⟨j, a, by omega, c⟩))
  | succ n ih =>
    intro i z i0 i1 hz hi
    have stepT : (rb (iv G 48 k) i = 1 ∧ iv G 51 i ≠ iv G 36 i) ∨ z = 1 → ∃ j, 0 ≤ j ∧ j < i + 1 ∧ rb (iv G 48 k) j = 1 ∧ iv G 51 j ≠ iv G 36 j := by
      rintro (h | h)
      · exact ⟨i, i0, by omega, h⟩
      · obtain ⟨j, a, b, c⟩ := hi.mp h
        exact ⟨j, a, by omega, c⟩
    have stepF : ¬ (rb (iv G 48 k) i = 1 ∧ iv G 51 i ≠ iv G 36 i) → z = 0 → ¬ ∃ j, 0 ≤ j ∧ j < i + 1 ∧ rb (iv G 48 k) j = 1 ∧ iv G 51 j ≠ iv G 36 j := by
      rintro h1 h2 ⟨j, a, b, c⟩
      by_cases hj : j = i
      · subst hj; exact h1 c
      · have := hi.mpr ⟨j, a, by omega, c⟩; omega
    clear hi
    refine x_iload_n (q := 5) dX10_isOld_4 rfl rfl ?_
    refine x_bipush (q := 7) dX10_isOld_5 rfl (by decide) ?_
    refine x_icmp_ge (q := 10) (t := 54) dX10_isOld_7 rfl (by decide) (fun h7 => by exfalso; omega) (fun h7 => ?_)
    refine x_iload_n (q := 11) dX10_isOld_10 rfl rfl ?_
    refine x_if_ne (q := 14) (t := 42) dX10_isOld_11 rfl (by decide) (fun h11 => ?_) (fun h11 => ?_)
    · refine x_iconst (q := 43) dX10_isOld_42 rfl (by decide) ?_
      refine x_goto (t := 47) dX10_isOld_43 (by decide) ?_
      refine x_istore_n (q := 48) (ls' := [some (.inr (.inr (some 35))), some (.inl k), some (.inl 1), some (.inl i)]) dX10_isOld_47 rfl (Nat.le_of_ble_eq_true rfl) (by first | rfl | exact hnl) rfl ?_
      refine x_iinc (q := 51) (ls' := [some (.inr (.inr (some 35))), some (.inl k), some (.inl 1), some (.inl (i + 1))]) dX10_isOld_48 rfl rfl (by first | rfl | exact hnl) (by rw [show wr (i + 1) = i + 1 from (wr_id ⟨by omega, by omega⟩)]; rfl) ?_
      refine x_goto (t := 4) dX10_isOld_51 (by decide) ?_
      exact ih (i + 1) 1 (by omega) (by omega) (Or.inr rfl) ⟨fun _ => stepT (by first | exact Or.inr (hz.resolve_left h11) | exact Or.inl ⟨z21b.mp (z21a.resolve_left h24), h39⟩), fun _ => rfl⟩
    · refine x_aload_n (q := 15) dX10_isOld_14 rfl rfl ?_
      refine x_getR (q := 18) dX10_isOld_15 rfl f_10_50 rfl (ft35 hF) ?_
      refine Ex.stk (st' := [.inr (.inr (some 48))]) (by rw [fr35_19 hF]) ?_
      refine x_iload_n (q := 19) dX10_isOld_18 rfl rfl ?_
      refine x_iaload (q := 20) dX10_isOld_19 rfl (Or.inl (ft48 hF)) (by omega) (by rw [fl48 hF]; omega) ?_
      refine x_iload_n (q := 21) dX10_isOld_20 rfl rfl ?_
      refine x_invS (q := 24) (as := [.inl (iv G 48 k), .inl i]) (rest := []) dX10_isOld_21 rfl l_10_165 m_X10_has rfl rfl (Nat.le_of_ble_eq_true rfl) (Nat.le_of_ble_eq_true rfl) (c_has _) (fun r1 G1 hR => ?_)
      obtain ⟨hG1, z21, rfl, z21a, z21b⟩ := hR
      replace hG1 := hG1.symm
      subst hG1
      refine Ex.stk (st' := [.inl z21]) rfl ?_
      refine x_if_eq (q := 27) (t := 46) dX10_isOld_24 rfl (by decide) (fun h24 => ?_) (fun h24 => ?_)
      · refine x_iconst (q := 47) dX10_isOld_46 rfl (by decide) ?_
        refine x_istore_n (q := 48) (ls' := [some (.inr (.inr (some 35))), some (.inl k), some (.inl 0), some (.inl i)]) dX10_isOld_47 rfl (Nat.le_of_ble_eq_true rfl) (by first | rfl | exact hnl) rfl ?_
        refine x_iinc (q := 51) (ls' := [some (.inr (.inr (some 35))), some (.inl k), some (.inl 0), some (.inl (i + 1))]) dX10_isOld_48 rfl rfl (by first | rfl | exact hnl) (by rw [show wr (i + 1) = i + 1 from (wr_id ⟨by omega, by omega⟩)]; rfl) ?_
        refine x_goto (t := 4) dX10_isOld_51 (by decide) ?_
        exact ih (i + 1) 0 (by omega) (by omega) (Or.inl rfl) ⟨fun h => by exfalso; omega, fun h => absurd h (stepF (fun q => by first | exact q.2 h39 | (have := z21b.mpr q.1; omega)) (by omega))⟩
      · refine x_aload_n (q := 28) dX10_isOld_27 rfl rfl ?_
        refine x_getR (q := 31) dX10_isOld_28 rfl f_10_59 rfl (ft35 hF) ?_
        refine Ex.stk (st' := [.inr (.inr (some 51))]) (by rw [fr35_23 hF]) ?_
        refine x_iload_n (q := 32) dX10_isOld_31 rfl rfl ?_
        refine x_iaload (q := 33) dX10_isOld_32 rfl (Or.inl (ft51 hF)) (by omega) (by rw [fl51 hF]; omega) ?_
        refine x_aload_n (q := 34) dX10_isOld_33 rfl rfl ?_
        refine x_getR (q := 37) dX10_isOld_34 rfl f_10_7 rfl (ft35 hF) ?_
        refine Ex.stk (st' := [.inr (.inr (some 36)), .inl (iv G 51 i)]) (by rw [fr35_0 hF]) ?_
        refine x_iload_n (q := 38) dX10_isOld_37 rfl rfl ?_
        refine x_iaload (q := 39) dX10_isOld_38 rfl (Or.inl (ft36 hF)) (by omega) (by rw [fl36 hF]; omega) ?_
        refine x_icmp_eq (q := 42) (t := 46) dX10_isOld_39 rfl (by decide) (fun h39 => ?_) (fun h39 => ?_)
        · refine x_iconst (q := 47) dX10_isOld_46 rfl (by decide) ?_
          refine x_istore_n (q := 48) (ls' := [some (.inr (.inr (some 35))), some (.inl k), some (.inl 0), some (.inl i)]) dX10_isOld_47 rfl (Nat.le_of_ble_eq_true rfl) (by first | rfl | exact hnl) rfl ?_
          refine x_iinc (q := 51) (ls' := [some (.inr (.inr (some 35))), some (.inl k), some (.inl 0), some (.inl (i + 1))]) dX10_isOld_48 rfl rfl (by first | rfl | exact hnl) (by rw [show wr (i + 1) = i + 1 from (wr_id ⟨by omega, by omega⟩)]; rfl) ?_
          refine x_goto (t := 4) dX10_isOld_51 (by decide) ?_
          exact ih (i + 1) 0 (by omega) (by omega) (Or.inl rfl) ⟨fun h => by exfalso; omega, fun h => absurd h (stepF (fun q => by first | exact q.2 h39 | (have := z21b.mpr q.1; omega)) (by omega))⟩
        · refine x_iconst (q := 43) dX10_isOld_42 rfl (by decide) ?_
          refine x_goto (t := 47) dX10_isOld_43 (by decide) ?_
          refine x_istore_n (q := 48) (ls' := [some (.inr (.inr (some 35))), some (.inl k), some (.inl 1), some (.inl i)]) dX10_isOld_47 rfl (Nat.le_of_ble_eq_true rfl) (by first | rfl | exact hnl) rfl ?_
          refine x_iinc (q := 51) (ls' := [some (.inr (.inr (some 35))), some (.inl k), some (.inl 1), some (.inl (i + 1))]) dX10_isOld_48 rfl rfl (by first | rfl | exact hnl) (by rw [show wr (i + 1) = i + 1 from (wr_id ⟨by omega, by omega⟩)]; rfl) ?_
          refine x_goto (t := 4) dX10_isOld_51 (by decide) ?_
          exact ih (i + 1) 1 (by omega) (by omega) (Or.inr rfl) ⟨fun _ => stepT (by first | exact Or.inr (hz.resolve_left h11) | exact Or.inl ⟨z21b.mp (z21a.resolve_left h24), h39⟩), fun _ => rfl⟩
theorem c_isOld (d : Nat) {G : Hp} (hF : FM G) {k : Int} (k0 : 0 ≤ k) (k1 : k < 364) : CX (d + 2) 126 [.inr (.inr (some 35)), .inl k] G (fun r G1 => G1 = G ∧ ∃ z, r = some (.inl z) ∧ (z = 0 ∨ z = 1) ∧ (z = 1 ↔ isOldN (iv G 51) (iv G 36) (iv G 48 k) = true)) := by
  refine CX.of (d := d + 1) m_X10_isOld (Nat.le_of_ble_eq_true rfl) ?_
  refine Ex.lcl (ls' := [some (.inr (.inr (some 35))), some (.inl k), none, none]) rfl ?_
  refine x_iconst (q := 1) dX10_isOld_0 rfl (by decide) ?_
  refine x_istore_n (q := 2) (ls' := [some (.inr (.inr (some 35))), some (.inl k), some (.inl 0), none]) dX10_isOld_1 rfl (Nat.le_of_ble_eq_true rfl) (by first | rfl | exact hnl) rfl ?_
  refine x_iconst (q := 3) dX10_isOld_2 rfl (by decide) ?_
  refine x_istore_n (q := 4) (ls' := [some (.inr (.inr (some 35))), some (.inl k), some (.inl 0), some (.inl 0)]) dX10_isOld_3 rfl (Nat.le_of_ble_eq_true rfl) (by first | rfl | exact hnl) rfl ?_
  exact isOld_loop (Q := fun r G1 => G1 = G ∧ ∃ z, r = some (.inl z) ∧ (z = 0 ∨ z = 1) ∧ (z = 1 ↔ isOldN (iv G 51) (iv G 36) (iv G 48 k) = true)) hF k0 k1 (fun z h1 h2 => ⟨rfl, z, rfl, h1, by rw [isOldN_iff]; exact h2⟩) 8 0 0 (by decide) (by decide) (Or.inl rfl) ⟨fun h => by omega, by rintro ⟨j, a, b, c⟩; omega⟩
