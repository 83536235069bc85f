/-! THE MODEL: made -/
def MI (G0 G : Hp) (n w : Nat) (v7 : Int) (ts : List (Nat × Nat × Int)) (rs : List (Nat × Int × Nat)) : Prop := sz G = n ∧ sl G = sl G0 + w ∧ FX ((35, 10, 0) :: ts) rs G ∧ (∀ (a : Nat) (k : Int), 35 ≤ a → ¬ (a = 35 ∧ k = 7) → iv G a k = 0) ∧ iv G 35 7 = v7 ∧ Sm (fun a => a ≤ 34) G0 G ∧ (∀ e ∈ ts, e.1 ≤ n) ∧ (∀ e ∈ rs, e.1 = 35) ∧ 35 ≤ n
theorem MI_tg {G0 G : Hp} {n w : Nat} {v7 : Int} {ts : List (Nat × Nat × Int)} {rs : List (Nat × Int × Nat)} (h : MI G0 G n w v7 ts rs) : tg G 35 = 10 := (h.2.2.1.1 _ (List.mem_cons_self ..)).1
theorem MI_tg2 {G0 G : Hp} {n w : Nat} {v7 : Int} {ts : List (Nat × Nat × Int)} {rs : List (Nat × Int × Nat)} (h : MI G0 G n w v7 ts rs) (L : Int) (z : Nat) : tg (nw G 20 L z) 35 = 10 := by
  have := h.2.2.2.2.2.2.2.2
  rw [tg_nw, if_neg (by rw [h.1]; omega)]; exact MI_tg h
theorem MI_arr {G0 G : Hp} {n w : Nat} {v7 : Int} {ts : List (Nat × Nat × Int)} {rs : List (Nat × Int × Nat)} (h : MI G0 G n w v7 ts rs) (L k : Int) (z : Nat) (hk : ∀ e ∈ rs, ¬ (e.2.1 = k)) : MI G0 (sr (nw G 20 L z) 35 k (some (n + 1))) (n + 1) (w + z) v7 (ts ++ [(n + 1, 20, L)]) (rs ++ [(35, k, n + 1)]) := by
  obtain ⟨h1, h2, h3, h4, h5, h6, h7, h8, h9⟩ := h
  refine ⟨by show sz G + 1 = n + 1; rw [h1], by show sl G + z = _; rw [h2]; omega, ⟨fun e he => ?_, fun e he => ?_⟩, fun a j ha hj => ?_, ?_, ?_, fun e he => ?_, fun e he => ?_, by omega⟩
  · rw [tg_sr, ln_sr, tg_nw, ln_nw, h1]
    rcases List.mem_cons.mp he with rfl | he
    · rw [if_neg (by dsimp only; omega), if_neg (by dsimp only; omega)]; exact h3.1 _ (List.mem_cons_self ..)
    · rcases List.mem_append.mp he with he | he
      · have := h7 e he
        rw [if_neg (by omega), if_neg (by omega)]; exact h3.1 e (List.mem_cons_of_mem _ he)
      · rw [List.mem_singleton.mp he]; exact ⟨if_pos rfl, if_pos rfl⟩
  · rw [rv_sr]
    rcases List.mem_append.mp he with he | he
    · have := h8 e he
      rw [if_neg (fun q => hk e he q.2), rv_nw, if_neg (by omega)]; exact h3.2 e he
    · rw [List.mem_singleton.mp he]; exact if_pos ⟨rfl, rfl⟩
  · rw [iv_sr, iv_nw]; split
    · rfl
    · exact h4 a j ha hj
  · rw [iv_sr, iv_nw, if_neg (by omega)]; exact h5
  · exact (h6.nw 20 z L (by show ¬ (_ ≤ 34); omega)).sr k _ (by decide)
  · rcases List.mem_append.mp he with he | he
    · have := h7 e he; omega
    · rw [List.mem_singleton.mp he]; exact Nat.le_refl _
  · rcases List.mem_append.mp he with he | he
    · exact h8 e he
    · rw [List.mem_singleton.mp he]
def P0 : Pg := (upi (fun _ => 0) 0 48, fun _ => 0, 1)
def c00 : Int → Int := fst0 (fun _ => 0)
def s00 : Sg := (((fun _ => 0), 0, -1), P0, (c00, [], (fun _ => none), 0), [], (first P0 c00).1, c00, (first P0 c00).2.1, 0, 0, 0)
theorem Tm_fig {cd : Int → Int} {n : Nat} {a : Int} (h : 48 ≤ cd a ∧ cd a ≤ 57) : Tm cd (n + 1) a (a + 1) := Or.inl ⟨Or.inl h, rfl⟩
theorem nfc_fig {cd : Int → Int} {n : Nat} {a : Int} (h : 48 ≤ cd a ∧ cd a ≤ 57) : nfc cd (n + 1) a = 0 := by
  simp only [nfc]; rw [if_neg (by omega), if_neg (by omega), if_neg (by omega), if_neg (by omega)]
theorem P0_at (f : Int) : 48 ≤ P0.1 (P0.2.1 f) ∧ P0.1 (P0.2.1 f) ≤ 57 := ⟨show (48 : Int) ≤ 48 by decide, show (48 : Int) ≤ 57 by decide⟩
theorem Pok0 : Pok P0 := by
  refine ⟨Int.le_refl _, show (1 : Int) ≤ 5 by decide, fun f f0 f1 => ⟨Int.le_refl _, P0.2.1 f + 1, Tm_fig (n := 159) (P0_at f), show (0 : Int) + 1 ≤ 159 by decide, ?_⟩⟩
  rw [nfc_fig (n := 159) (P0_at f)]; decide
theorem Cok0 : Cok (fst0 (fun _ => 0)) := fun k k0 k1 => by rw [fst0_lo _ k1]; decide
theorem MI_flt {G0 G : Hp} {n w : Nat} {v7 : Int} {ts : List (Nat × Nat × Int)} {rs : List (Nat × Int × Nat)} (h : MI G0 G n w v7 ts rs) : MI G0 (si G 35 7 (-1)) n w (-1) ts rs := by
  obtain ⟨h1, h2, h3, h4, h5, h6, h7, h8, h9⟩ := h
  exact ⟨h1, h2, h3, fun a k ha hk => by rw [iv_si, if_neg hk]; exact h4 a k ha hk, by simp [iv_si], h6.si _ _ (by decide), h7, h8, h9⟩
theorem cm_init (d : Nat) {G0 G : Hp} (hM : MI G0 G 35 0 0 [] []) : CX (d + 12) 108 [.inr (.inr (some 35))] G (fun r G' => r = none ∧ RM s00 G' ∧ sz G' = 62 ∧ sl G' = sl G0 + 9645 ∧ Sm (fun a => a ≤ 34) G0 G') := by
  refine CX.of (d := d + 11) m_X10_init (Nat.le_of_ble_eq_true rfl) ?_
  refine Ex.lcl (ls' := [some (.inr (.inr (some 35)))]) rfl ?_
  refine x_aload_n (q := 1) dX10_init_0 rfl rfl ?_
  refine x_objI (q := 4) dX10_init_1 rfl l_10_1 (Nat.le_of_ble_eq_true rfl) ?_
  refine x_aload_n (q := 5) dX10_init_4 rfl rfl ?_
  refine x_sipush (q := 8) dX10_init_5 rfl (by decide) ?_
  refine x_newarray (q := 10) dX10_init_8 rfl (by decide) ?_
  refine Ex.stk (st' := [.inr (.inr (some 36)), .inr (.inr (some 35))]) (by rw [hM.1]) ?_
  refine x_putR (q := 13) dX10_init_10 rfl f_10_7 rfl (fun _ => ⟨rfl, rfl⟩) (MI_tg2 hM _ _) ?_
  replace hM := MI_arr hM 190 0 (190 : Int).toNat (by decide)
  generalize hG : sr (nw G 20 190 (190 : Int).toNat) 35 0 (some 36) = G1 at *
  clear hG
  clear G
  revert hM
  generalize G1 = G
  intro hM
  refine x_aload_n (q := 14) dX10_init_13 rfl rfl ?_
  refine x_iconst (q := 15) dX10_init_14 rfl (by decide) ?_
  refine x_newarray (q := 17) dX10_init_15 rfl (by decide) ?_
  refine Ex.stk (st' := [.inr (.inr (some 37)), .inr (.inr (some 35))]) (by rw [hM.1]) ?_
  refine x_putR (q := 20) dX10_init_17 rfl f_10_13 rfl (fun _ => ⟨rfl, rfl⟩) (MI_tg2 hM _ _) ?_
  replace hM := MI_arr hM 2 4 (2 : Int).toNat (by decide)
  generalize hG : sr (nw G 20 2 (2 : Int).toNat) 35 4 (some 37) = G1 at *
  clear hG
  clear G
  revert hM
  generalize G1 = G
  intro hM
  refine x_aload_n (q := 21) dX10_init_20 rfl rfl ?_
  refine x_sipush (q := 24) dX10_init_21 rfl (by decide) ?_
  refine x_newarray (q := 26) dX10_init_24 rfl (by decide) ?_
  refine Ex.stk (st' := [.inr (.inr (some 38)), .inr (.inr (some 35))]) (by rw [hM.1]) ?_
  refine x_putR (q := 29) dX10_init_26 rfl f_10_16 rfl (fun _ => ⟨rfl, rfl⟩) (MI_tg2 hM _ _) ?_
  replace hM := MI_arr hM 160 5 (160 : Int).toNat (by decide)
  generalize hG : sr (nw G 20 160 (160 : Int).toNat) 35 5 (some 38) = G1 at *
  clear hG
  clear G
  revert hM
  generalize G1 = G
  intro hM
  refine x_aload_n (q := 30) dX10_init_29 rfl rfl ?_
  refine x_iconst (q := 31) dX10_init_30 rfl (by decide) ?_
  refine x_putI (q := 34) dX10_init_31 rfl f_10_19 rfl (fun h => by cases h) (fun h => by cases h) (MI_tg hM) ?_
  replace hM := MI_flt hM
  generalize si G 35 7 (-1) = G1 at *
  clear G
  revert hM
  generalize G1 = G
  intro hM
  refine x_aload_n (q := 35) dX10_init_34 rfl rfl ?_
  refine x_bipush (q := 37) dX10_init_35 rfl (by decide) ?_
  refine x_newarray (q := 39) dX10_init_37 rfl (by decide) ?_
  refine Ex.stk (st' := [.inr (.inr (some 39)), .inr (.inr (some 35))]) (by rw [hM.1]) ?_
  refine x_putR (q := 42) dX10_init_39 rfl f_10_23 rfl (fun _ => ⟨rfl, rfl⟩) (MI_tg2 hM _ _) ?_
  replace hM := MI_arr hM 20 8 (20 : Int).toNat (by decide)
  generalize hG : sr (nw G 20 20 (20 : Int).toNat) 35 8 (some 39) = G1 at *
  clear hG
  clear G
  revert hM
  generalize G1 = G
  intro hM
  refine x_aload_n (q := 43) dX10_init_42 rfl rfl ?_
  refine x_bipush (q := 45) dX10_init_43 rfl (by decide) ?_
  refine x_newarray (q := 47) dX10_init_45 rfl (by decide) ?_
  refine Ex.stk (st' := [.inr (.inr (some 40)), .inr (.inr (some 35))]) (by rw [hM.1]) ?_
  refine x_putR (q := 50) dX10_init_47 rfl f_10_26 rfl (fun _ => ⟨rfl, rfl⟩) (MI_tg2 hM _ _) ?_
  replace hM := MI_arr hM 20 9 (20 : Int).toNat (by decide)
  generalize hG : sr (nw G 20 20 (20 : Int).toNat) 35 9 (some 40) = G1 at *
  clear hG
  clear G
  revert hM
  generalize G1 = G
  intro hM
  refine x_aload_n (q := 51) dX10_init_50 rfl rfl ?_
  refine x_bipush (q := 53) dX10_init_51 rfl (by decide) ?_
  refine x_newarray (q := 55) dX10_init_53 rfl (by decide) ?_
  refine Ex.stk (st' := [.inr (.inr (some 41)), .inr (.inr (some 35))]) (by rw [hM.1]) ?_
  refine x_putR (q := 58) dX10_init_55 rfl f_10_29 rfl (fun _ => ⟨rfl, rfl⟩) (MI_tg2 hM _ _) ?_
  replace hM := MI_arr hM 20 10 (20 : Int).toNat (by decide)
  generalize hG : sr (nw G 20 20 (20 : Int).toNat) 35 10 (some 41) = G1 at *
  clear hG
  clear G
  revert hM
  generalize G1 = G
  intro hM
  refine x_aload_n (q := 59) dX10_init_58 rfl rfl ?_
  refine x_sipush (q := 62) dX10_init_59 rfl (by decide) ?_
  refine x_newarray (q := 64) dX10_init_62 rfl (by decide) ?_
  refine Ex.stk (st' := [.inr (.inr (some 42)), .inr (.inr (some 35))]) (by rw [hM.1]) ?_
  refine x_putR (q := 67) dX10_init_64 rfl f_10_32 rfl (fun _ => ⟨rfl, rfl⟩) (MI_tg2 hM _ _) ?_
  replace hM := MI_arr hM 160 12 (160 : Int).toNat (by decide)
  generalize hG : sr (nw G 20 160 (160 : Int).toNat) 35 12 (some 42) = G1 at *
  clear hG
  clear G
  revert hM
  generalize G1 = G
  intro hM
  refine x_aload_n (q := 68) dX10_init_67 rfl rfl ?_
  refine x_iconst (q := 69) dX10_init_68 rfl (by decide) ?_
  refine x_newarray (q := 71) dX10_init_69 rfl (by decide) ?_
  refine Ex.stk (st' := [.inr (.inr (some 43)), .inr (.inr (some 35))]) (by rw [hM.1]) ?_
  refine x_putR (q := 74) dX10_init_71 rfl f_10_35 rfl (fun _ => ⟨rfl, rfl⟩) (MI_tg2 hM _ _) ?_
  replace hM := MI_arr hM 5 13 (5 : Int).toNat (by decide)
  generalize hG : sr (nw G 20 5 (5 : Int).toNat) 35 13 (some 43) = G1 at *
  clear hG
  clear G
  revert hM
  generalize G1 = G
  intro hM
  refine x_aload_n (q := 75) dX10_init_74 rfl rfl ?_
  refine x_sipush (q := 78) dX10_init_75 rfl (by decide) ?_
  refine x_newarray (q := 80) dX10_init_78 rfl (by decide) ?_
  refine Ex.stk (st' := [.inr (.inr (some 44)), .inr (.inr (some 35))]) (by rw [hM.1]) ?_
  refine x_putR (q := 83) dX10_init_80 rfl f_10_38 rfl (fun _ => ⟨rfl, rfl⟩) (MI_tg2 hM _ _) ?_
  replace hM := MI_arr hM 364 15 (364 : Int).toNat (by decide)
  generalize hG : sr (nw G 20 364 (364 : Int).toNat) 35 15 (some 44) = G1 at *
  clear hG
  clear G
  revert hM
  generalize G1 = G
  intro hM
  refine x_aload_n (q := 84) dX10_init_83 rfl rfl ?_
  refine x_sipush (q := 87) dX10_init_84 rfl (by decide) ?_
  refine x_newarray (q := 89) dX10_init_87 rfl (by decide) ?_
  refine Ex.stk (st' := [.inr (.inr (some 45)), .inr (.inr (some 35))]) (by rw [hM.1]) ?_
  refine x_putR (q := 92) dX10_init_89 rfl f_10_41 rfl (fun _ => ⟨rfl, rfl⟩) (MI_tg2 hM _ _) ?_
  replace hM := MI_arr hM 364 16 (364 : Int).toNat (by decide)
  generalize hG : sr (nw G 20 364 (364 : Int).toNat) 35 16 (some 45) = G1 at *
  clear hG
  clear G
  revert hM
  generalize G1 = G
  intro hM
  refine x_aload_n (q := 93) dX10_init_92 rfl rfl ?_
  refine x_sipush (q := 96) dX10_init_93 rfl (by decide) ?_
  refine x_newarray (q := 98) dX10_init_96 rfl (by decide) ?_
  refine Ex.stk (st' := [.inr (.inr (some 46)), .inr (.inr (some 35))]) (by rw [hM.1]) ?_
  refine x_putR (q := 101) dX10_init_98 rfl f_10_44 rfl (fun _ => ⟨rfl, rfl⟩) (MI_tg2 hM _ _) ?_
  replace hM := MI_arr hM 364 17 (364 : Int).toNat (by decide)
  generalize hG : sr (nw G 20 364 (364 : Int).toNat) 35 17 (some 46) = G1 at *
  clear hG
  clear G
  revert hM
  generalize G1 = G
  intro hM
  refine x_aload_n (q := 102) dX10_init_101 rfl rfl ?_
  refine x_sipush (q := 105) dX10_init_102 rfl (by decide) ?_
  refine x_newarray (q := 107) dX10_init_105 rfl (by decide) ?_
  refine Ex.stk (st' := [.inr (.inr (some 47)), .inr (.inr (some 35))]) (by rw [hM.1]) ?_
  refine x_putR (q := 110) dX10_init_107 rfl f_10_47 rfl (fun _ => ⟨rfl, rfl⟩) (MI_tg2 hM _ _) ?_
  replace hM := MI_arr hM 364 18 (364 : Int).toNat (by decide)
  generalize hG : sr (nw G 20 364 (364 : Int).toNat) 35 18 (some 47) = G1 at *
  clear hG
  clear G
  revert hM
  generalize G1 = G
  intro hM
  refine x_aload_n (q := 111) dX10_init_110 rfl rfl ?_
  refine x_sipush (q := 114) dX10_init_111 rfl (by decide) ?_
  refine x_newarray (q := 116) dX10_init_114 rfl (by decide) ?_
  refine Ex.stk (st' := [.inr (.inr (some 48)), .inr (.inr (some 35))]) (by rw [hM.1]) ?_
  refine x_putR (q := 119) dX10_init_116 rfl f_10_50 rfl (fun _ => ⟨rfl, rfl⟩) (MI_tg2 hM _ _) ?_
  replace hM := MI_arr hM 364 19 (364 : Int).toNat (by decide)
  generalize hG : sr (nw G 20 364 (364 : Int).toNat) 35 19 (some 48) = G1 at *
  clear hG
  clear G
  revert hM
  generalize G1 = G
  intro hM
  refine x_aload_n (q := 120) dX10_init_119 rfl rfl ?_
  refine x_sipush (q := 123) dX10_init_120 rfl (by decide) ?_
  refine x_newarray (q := 125) dX10_init_123 rfl (by decide) ?_
  refine Ex.stk (st' := [.inr (.inr (some 49)), .inr (.inr (some 35))]) (by rw [hM.1]) ?_
  refine x_putR (q := 128) dX10_init_125 rfl f_10_53 rfl (fun _ => ⟨rfl, rfl⟩) (MI_tg2 hM _ _) ?_
  replace hM := MI_arr hM 364 20 (364 : Int).toNat (by decide)
  generalize hG : sr (nw G 20 364 (364 : Int).toNat) 35 20 (some 49) = G1 at *
  clear hG
  clear G
  revert hM
  generalize G1 = G
  intro hM
  refine x_aload_n (q := 129) dX10_init_128 rfl rfl ?_
  refine x_sipush (q := 132) dX10_init_129 rfl (by decide) ?_
  refine x_newarray (q := 134) dX10_init_132 rfl (by decide) ?_
  refine Ex.stk (st' := [.inr (.inr (some 50)), .inr (.inr (some 35))]) (by rw [hM.1]) ?_
  refine x_putR (q := 137) dX10_init_134 rfl f_10_56 rfl (fun _ => ⟨rfl, rfl⟩) (MI_tg2 hM _ _) ?_
  replace hM := MI_arr hM 364 21 (364 : Int).toNat (by decide)
  generalize hG : sr (nw G 20 364 (364 : Int).toNat) 35 21 (some 50) = G1 at *
  clear hG
  clear G
  revert hM
  generalize G1 = G
  intro hM
  refine x_aload_n (q := 138) dX10_init_137 rfl rfl ?_
  refine x_bipush (q := 140) dX10_init_138 rfl (by decide) ?_
  refine x_newarray (q := 142) dX10_init_140 rfl (by decide) ?_
  refine Ex.stk (st' := [.inr (.inr (some 51)), .inr (.inr (some 35))]) (by rw [hM.1]) ?_
  refine x_putR (q := 145) dX10_init_142 rfl f_10_59 rfl (fun _ => ⟨rfl, rfl⟩) (MI_tg2 hM _ _) ?_
  replace hM := MI_arr hM 8 23 (8 : Int).toNat (by decide)
  generalize hG : sr (nw G 20 8 (8 : Int).toNat) 35 23 (some 51) = G1 at *
  clear hG
  clear G
  revert hM
  generalize G1 = G
  intro hM
  refine x_aload_n (q := 146) dX10_init_145 rfl rfl ?_
  refine x_sipush (q := 149) dX10_init_146 rfl (by decide) ?_
  refine x_newarray (q := 151) dX10_init_149 rfl (by decide) ?_
  refine Ex.stk (st' := [.inr (.inr (some 52)), .inr (.inr (some 35))]) (by rw [hM.1]) ?_
  refine x_putR (q := 154) dX10_init_151 rfl f_10_62 rfl (fun _ => ⟨rfl, rfl⟩) (MI_tg2 hM _ _) ?_
  replace hM := MI_arr hM 364 24 (364 : Int).toNat (by decide)
  generalize hG : sr (nw G 20 364 (364 : Int).toNat) 35 24 (some 52) = G1 at *
  clear hG
  clear G
  revert hM
  generalize G1 = G
  intro hM
  refine x_aload_n (q := 155) dX10_init_154 rfl rfl ?_
  refine x_sipush (q := 158) dX10_init_155 rfl (by decide) ?_
  refine x_newarray (q := 160) dX10_init_158 rfl (by decide) ?_
  refine Ex.stk (st' := [.inr (.inr (some 53)), .inr (.inr (some 35))]) (by rw [hM.1]) ?_
  refine x_putR (q := 163) dX10_init_160 rfl f_10_65 rfl (fun _ => ⟨rfl, rfl⟩) (MI_tg2 hM _ _) ?_
  replace hM := MI_arr hM 364 25 (364 : Int).toNat (by decide)
  generalize hG : sr (nw G 20 364 (364 : Int).toNat) 35 25 (some 53) = G1 at *
  clear hG
  clear G
  revert hM
  generalize G1 = G
  intro hM
  refine x_aload_n (q := 164) dX10_init_163 rfl rfl ?_
  refine x_sipush (q := 167) dX10_init_164 rfl (by decide) ?_
  refine x_newarray (q := 169) dX10_init_167 rfl (by decide) ?_
  refine Ex.stk (st' := [.inr (.inr (some 54)), .inr (.inr (some 35))]) (by rw [hM.1]) ?_
  refine x_putR (q := 172) dX10_init_169 rfl f_10_68 rfl (fun _ => ⟨rfl, rfl⟩) (MI_tg2 hM _ _) ?_
  replace hM := MI_arr hM 364 26 (364 : Int).toNat (by decide)
  generalize hG : sr (nw G 20 364 (364 : Int).toNat) 35 26 (some 54) = G1 at *
  clear hG
  clear G
  revert hM
  generalize G1 = G
  intro hM
  refine x_aload_n (q := 173) dX10_init_172 rfl rfl ?_
  refine x_sipush (q := 176) dX10_init_173 rfl (by decide) ?_
  refine x_newarray (q := 178) dX10_init_176 rfl (by decide) ?_
  refine Ex.stk (st' := [.inr (.inr (some 55)), .inr (.inr (some 35))]) (by rw [hM.1]) ?_
  refine x_putR (q := 181) dX10_init_178 rfl f_10_71 rfl (fun _ => ⟨rfl, rfl⟩) (MI_tg2 hM _ _) ?_
  replace hM := MI_arr hM 364 27 (364 : Int).toNat (by decide)
  generalize hG : sr (nw G 20 364 (364 : Int).toNat) 35 27 (some 55) = G1 at *
  clear hG
  clear G
  revert hM
  generalize G1 = G
  intro hM
  refine x_aload_n (q := 182) dX10_init_181 rfl rfl ?_
  refine x_sipush (q := 185) dX10_init_182 rfl (by decide) ?_
  refine x_newarray (q := 187) dX10_init_185 rfl (by decide) ?_
  refine Ex.stk (st' := [.inr (.inr (some 56)), .inr (.inr (some 35))]) (by rw [hM.1]) ?_
  refine x_putR (q := 190) dX10_init_187 rfl f_10_74 rfl (fun _ => ⟨rfl, rfl⟩) (MI_tg2 hM _ _) ?_
  replace hM := MI_arr hM 364 28 (364 : Int).toNat (by decide)
  generalize hG : sr (nw G 20 364 (364 : Int).toNat) 35 28 (some 56) = G1 at *
  clear hG
  clear G
  revert hM
  generalize G1 = G
  intro hM
  refine x_aload_n (q := 191) dX10_init_190 rfl rfl ?_
  refine x_sipush (q := 194) dX10_init_191 rfl (by decide) ?_
  refine x_newarray (q := 196) dX10_init_194 rfl (by decide) ?_
  refine Ex.stk (st' := [.inr (.inr (some 57)), .inr (.inr (some 35))]) (by rw [hM.1]) ?_
  refine x_putR (q := 199) dX10_init_196 rfl f_10_77 rfl (fun _ => ⟨rfl, rfl⟩) (MI_tg2 hM _ _) ?_
  replace hM := MI_arr hM 364 30 (364 : Int).toNat (by decide)
  generalize hG : sr (nw G 20 364 (364 : Int).toNat) 35 30 (some 57) = G1 at *
  clear hG
  clear G
  revert hM
  generalize G1 = G
  intro hM
  refine x_aload_n (q := 200) dX10_init_199 rfl rfl ?_
  refine x_sipush (q := 203) dX10_init_200 rfl (by decide) ?_
  refine x_newarray (q := 205) dX10_init_203 rfl (by decide) ?_
  refine Ex.stk (st' := [.inr (.inr (some 58)), .inr (.inr (some 35))]) (by rw [hM.1]) ?_
  refine x_putR (q := 208) dX10_init_205 rfl f_10_80 rfl (fun _ => ⟨rfl, rfl⟩) (MI_tg2 hM _ _) ?_
  replace hM := MI_arr hM 364 31 (364 : Int).toNat (by decide)
  generalize hG : sr (nw G 20 364 (364 : Int).toNat) 35 31 (some 58) = G1 at *
  clear hG
  clear G
  revert hM
  generalize G1 = G
  intro hM
  refine x_aload_n (q := 209) dX10_init_208 rfl rfl ?_
  refine x_sipush (q := 212) dX10_init_209 rfl (by decide) ?_
  refine x_newarray (q := 214) dX10_init_212 rfl (by decide) ?_
  refine Ex.stk (st' := [.inr (.inr (some 59)), .inr (.inr (some 35))]) (by rw [hM.1]) ?_
  refine x_putR (q := 217) dX10_init_214 rfl f_10_83 rfl (fun _ => ⟨rfl, rfl⟩) (MI_tg2 hM _ _) ?_
  replace hM := MI_arr hM 364 32 (364 : Int).toNat (by decide)
  generalize hG : sr (nw G 20 364 (364 : Int).toNat) 35 32 (some 59) = G1 at *
  clear hG
  clear G
  revert hM
  generalize G1 = G
  intro hM
  refine x_aload_n (q := 218) dX10_init_217 rfl rfl ?_
  refine x_sipush (q := 221) dX10_init_218 rfl (by decide) ?_
  refine x_newarray (q := 223) dX10_init_221 rfl (by decide) ?_
  refine Ex.stk (st' := [.inr (.inr (some 60)), .inr (.inr (some 35))]) (by rw [hM.1]) ?_
  refine x_putR (q := 226) dX10_init_223 rfl f_10_86 rfl (fun _ => ⟨rfl, rfl⟩) (MI_tg2 hM _ _) ?_
  replace hM := MI_arr hM 1200 37 (1200 : Int).toNat (by decide)
  generalize hG : sr (nw G 20 1200 (1200 : Int).toNat) 35 37 (some 60) = G1 at *
  clear hG
  clear G
  revert hM
  generalize G1 = G
  intro hM
  refine x_aload_n (q := 227) dX10_init_226 rfl rfl ?_
  refine x_sipush (q := 230) dX10_init_227 rfl (by decide) ?_
  refine x_newarray (q := 232) dX10_init_230 rfl (by decide) ?_
  refine Ex.stk (st' := [.inr (.inr (some 61)), .inr (.inr (some 35))]) (by rw [hM.1]) ?_
  refine x_putR (q := 235) dX10_init_232 rfl f_10_89 rfl (fun _ => ⟨rfl, rfl⟩) (MI_tg2 hM _ _) ?_
  replace hM := MI_arr hM 1200 38 (1200 : Int).toNat (by decide)
  generalize hG : sr (nw G 20 1200 (1200 : Int).toNat) 35 38 (some 61) = G1 at *
  clear hG
  clear G
  revert hM
  generalize G1 = G
  intro hM
  refine x_aload_n (q := 236) dX10_init_235 rfl rfl ?_
  refine x_sipush (q := 239) dX10_init_236 rfl (by decide) ?_
  refine x_newarray (q := 241) dX10_init_239 rfl (by decide) ?_
  refine Ex.stk (st' := [.inr (.inr (some 62)), .inr (.inr (some 35))]) (by rw [hM.1]) ?_
  refine x_putR (q := 244) dX10_init_241 rfl f_10_92 rfl (fun _ => ⟨rfl, rfl⟩) (MI_tg2 hM _ _) ?_
  replace hM := MI_arr hM 1200 39 (1200 : Int).toNat (by decide)
  generalize hG : sr (nw G 20 1200 (1200 : Int).toNat) 35 39 (some 62) = G1 at *
  clear hG
  clear G
  revert hM
  generalize G1 = G
  intro hM
  obtain ⟨h1, h2, h3, h4, h5, h6, -⟩ := hM
  have hF : FM G := h3
  refine x_aload_n (q := 245) dX10_init_244 rfl rfl ?_
  refine x_getR (q := 248) dX10_init_245 rfl f_10_32 rfl (ft35 hF) ?_
  refine Ex.stk (st' := [.inr (.inr (some 42))]) (by rw [fr35_12 hF]) ?_
  refine x_iconst (q := 249) dX10_init_248 rfl (by decide) ?_
  refine x_bipush (q := 251) dX10_init_249 rfl (by decide) ?_
  refine x_iastore (q := 252) dX10_init_251 rfl (ft42 hF) (by omega) (by rw [fl42 hF]; omega) ?_
  have hF := FX_si hF 42 0 48
  refine x_aload_n (q := 253) dX10_init_252 rfl rfl ?_
  refine x_iconst (q := 254) dX10_init_253 rfl (by decide) ?_
  refine x_putI (q := 257) dX10_init_254 rfl f_10_95 rfl (fun h => by cases h) (fun h => by cases h) (ft35 hF) ?_
  have hF := FX_si hF 35 14 1
  refine x_aload_n (q := 258) dX10_init_257 rfl rfl ?_
  have hp : RMp P0 (si (si G 42 0 48) 35 14 1) := ⟨funext (fun j => ?_), funext (fun j => ?_), by simp [iv_si, P0]⟩
  rotate_left
  · simp only [iv_si]; rw [if_neg (by omega)]
    show (if True ∧ j = 0 then (48 : Int) else iv G 42 j) = upi (fun _ => 0) 0 48 j
    unfold upi
    by_cases hj : j = 0
    · rw [if_pos ⟨trivial, hj⟩, if_pos hj]
    · rw [if_neg (fun q => hj q.2), if_neg hj]; exact h4 42 j (by decide) (by omega)
  · simp only [iv_si]; rw [if_neg (by omega), if_neg (by omega)]; exact h4 43 j (by decide) (by omega)
  refine x_invV (q := 261) (as := [.inr (.inr (some 35))]) (rest := []) dX10_init_258 rfl l_10_98 m_X10_layFirst rfl rfl (ft35 hF) (Nat.le_of_ble_eq_true rfl) (c_layFirst _ hF Pok0 hp (cu := fun _ => 0) (fun k k0 k1 => by simp only [iv_si]; rw [if_neg (by omega), if_neg (by omega)]; exact h4 36 k (by decide) (by omega)) Cok0) (fun r1 G3 hR => ?_)
  obtain ⟨rfl, ⟨f1, f2, f3, f4, f5, f6, f7⟩, hc3⟩ := hR
  have hF : FM G3 := FX_Io hF f1
  have Y : ∀ (k : Int), k ≠ 1 → k ≠ 14 → k < 22 → iv G3 35 k = iv G 35 k := fun k g1 g2 g3 => by rw [f7 k g1 (by omega), iv_si, if_neg (by omega), iv_si, if_neg (by omega)]
  refine Ex.stk (st' := []) rfl ?_
  refine x_vret dX10_init_261 rfl ?_
  refine ⟨rfl, ⟨hF, ⟨fun k k0 k1 => ?_, (Y 6 (by decide) (by decide) (by decide)).trans (h4 35 6 (by decide) (by omega)), (Y 7 (by decide) (by decide) (by decide)).trans h5⟩, RMp_k hp (fun k => f2 42 k (by omega)) (fun k => f2 43 k (by omega)) (f7 14 (by decide) (by decide)), ⟨fun k k0 k1 => ?_, ⟨f6, fun i r hr => by cases hr⟩, ⟨fun i i0 i1 => ?_, ?_⟩, (Y 3 (by decide) (by decide) (by decide)).trans (h4 35 3 (by decide) (by omega))⟩, ⟨(Y 11 (by decide) (by decide) (by decide)).trans (h4 35 11 (by decide) (by omega)), fun i e he => by cases he⟩, hc3⟩, ?_, ?_, ?_⟩
  · exact absurd k1 (by show ¬ (k < 0); omega)
  · show iv G3 36 k = fst0 (fun _ => 0) k
    by_cases k8 : k < 8
    · rw [fst0_lo _ k8, f3 k (by omega) (by omega), iv_si, if_neg (by omega), iv_si, if_neg (by omega)]; exact h4 36 k (by decide) (by omega)
    · by_cases k9 : k = 8
      · subst k9; exact f4
      · have : k = 9 := by omega
        subst this; exact f5
  · show rb (iv G3 35 2) i = 0
    rw [Y 2 (by decide) (by decide) (by decide), h4 35 2 (by decide) (by omega)]
    obtain g | g : i = 0 ∨ i = 1 := by omega
    all_goals subst g; decide
  · rw [Y 2 (by decide) (by decide) (by decide), h4 35 2 (by decide) (by omega)]; decide
  · rw [f1.2.2.2.1]; exact h1
  · rw [f1.2.2.2.2]; exact h2
  · refine h6.trans (fun a ha => ⟨f1.1 a, f1.2.1 a, fun k => ?_, f1.2.2.1 a⟩)
    have ha : a ≤ 34 := ha
    rw [f2 a k (by omega), iv_si, if_neg (by omega), iv_si, if_neg (by omega)]
