/-! THE CLASS: a leaf is read, terms end -/
theorem lt_b2 {d : Nat} {G : Hp} {Q : Option V → Hp → Prop} (hF : FC G) {pb : Nat} (hpb : pb = 7 ∨ pb = 11) (hpr : rv G 3 6 = some pb) {k sp s0 v0 : Int} (k0 : 0 ≤ k) (k1 : k < 160) (hs : iv G pb 3 = sp) (p0 : 0 ≤ sp) (p1 : sp < 320) {v s : Int} (hst : iv G 4 k = s) (hv : iv G 5 k = v) (hw : iv G 6 k = 2) (hn8 : s ≠ 8) (kk : Q (some (.inl 0)) (si G 6 k 1)) : Ex (d + 2) (some .int) 6 false cX6_readLeaf 17 [some (.inr (.inr (some 3))), some (.inl s0), some (.inl v0), some (.inl k)] [] G Q := by
  refine x_iload_n (q := 18) dX6_readLeaf_17 rfl rfl ?_
  refine x_if_lt (q := 21) (t := 100) dX6_readLeaf_18 rfl (by decide) (fun h18 => by exfalso; omega) (fun h18 => ?_)
  refine x_aload_n (q := 22) dX6_readLeaf_21 rfl rfl ?_
  refine x_getR (q := 25) dX6_readLeaf_22 rfl f_6_18 rfl (ft3 hF) ?_
  refine Ex.stk (st' := [.inr (.inr (some 6))]) (by rw [fr3_2 hF]) ?_
  refine x_iload_n (q := 26) dX6_readLeaf_25 rfl rfl ?_
  refine x_dup2 (q := 27) dX6_readLeaf_26 rfl rfl rfl ?_
  refine x_iaload (q := 28) dX6_readLeaf_27 rfl (Or.inl (ft6 hF)) (by omega) (by rw [fl6 hF]; omega) ?_
  refine Ex.stk (st' := [.inl 2, .inl k, .inr (.inr (some 6))]) (by rw [show iv G 6 k = 2 from hw]) ?_
  refine x_iconst (q := 29) dX6_readLeaf_28 rfl (by decide) ?_
  refine x_isub (q := 30) (z := 1) dX6_readLeaf_29 rfl (by decide) ?_
  refine x_iastore (q := 31) dX6_readLeaf_30 rfl (ft6 hF) (by omega) (by rw [fl6 hF]; omega) ?_
  have hF := FX_si hF 6 k 1
  refine x_aload_n (q := 32) dX6_readLeaf_31 rfl rfl ?_
  refine x_getR (q := 35) dX6_readLeaf_32 rfl f_6_9 rfl (ft3 hF) ?_
  refine Ex.stk (st' := [.inr (.inr (some 4))]) (by rw [fr3_0 hF]) ?_
  refine x_iload_n (q := 36) dX6_readLeaf_35 rfl rfl ?_
  refine x_iaload (q := 37) dX6_readLeaf_36 rfl (Or.inl (ft4 hF)) (by omega) (by rw [fl4 hF]; omega) ?_
  refine Ex.stk (st' := [.inl s]) (by rw [show iv (si G 6 k 1) 4 k = s from (by simp only [iv_si]; rw [if_neg (by omega)];  exact hst)]) ?_
  refine x_bipush (q := 39) dX6_readLeaf_37 rfl (by decide) ?_
  refine x_icmp_ne (q := 42) (t := 47) dX6_readLeaf_39 rfl (by decide) (fun h39 => ?_) (fun h39 => by exfalso; exact hn8 h39)
  refine x_aload_n (q := 48) dX6_readLeaf_47 rfl rfl ?_
  refine x_getR (q := 51) dX6_readLeaf_48 rfl f_6_18 rfl (ft3 hF) ?_
  refine Ex.stk (st' := [.inr (.inr (some 6))]) (by rw [fr3_2 hF]) ?_
  refine x_iload_n (q := 52) dX6_readLeaf_51 rfl rfl ?_
  refine x_iaload (q := 53) dX6_readLeaf_52 rfl (Or.inl (ft6 hF)) (by omega) (by rw [fl6 hF]; omega) ?_
  refine Ex.stk (st' := [.inl 1]) (by rw [show iv (si G 6 k 1) 6 k = 1 from (by simp only [iv_si]; rw [if_pos (by simp)])]) ?_
  refine x_if_le (q := 56) (t := 58) dX6_readLeaf_53 rfl (by decide) (fun h53 => by exfalso; omega) (fun h53 => ?_)
  refine x_iconst (q := 57) dX6_readLeaf_56 rfl (by decide) ?_
  refine x_iret dX6_readLeaf_57 rfl ?_
  exact kk
theorem lt_1 {d : Nat} {G : Hp} {Q : Option V → Hp → Prop} (hF : FC G) {pb : Nat} (hpb : pb = 7 ∨ pb = 11) (hpr : rv G 3 6 = some pb) {k sp s0 v0 : Int} (k0 : 0 ≤ k) (k1 : k < 160) (hs : iv G pb 3 = sp) (p0 : 0 ≤ sp) (p1 : sp < 320) {v s : Int} (hst : iv G 4 k = s) (hv : iv G 5 k = v) (hw : iv G 6 k = 1) (hn8 : s ≠ 8) (kk : Ex (d + 2) (some .int) 6 false cX6_readLeaf 17 [some (.inr (.inr (some 3))), some (.inl s0), some (.inl v0), some (.inl (k + (-1)))] [] (si (si (si (si (si G 6 k 0) (pb + 1) sp s) (pb + 2) sp v) pb 3 (sp + 1)) 3 3 k) Q) : Ex (d + 2) (some .int) 6 false cX6_readLeaf 17 [some (.inr (.inr (some 3))), some (.inl s0), some (.inl v0), some (.inl k)] [] G Q := by
  refine x_iload_n (q := 18) dX6_readLeaf_17 rfl rfl ?_
  refine x_if_lt (q := 21) (t := 100) dX6_readLeaf_18 rfl (by decide) (fun h18 => by exfalso; omega) (fun h18 => ?_)
  refine x_aload_n (q := 22) dX6_readLeaf_21 rfl rfl ?_
  refine x_getR (q := 25) dX6_readLeaf_22 rfl f_6_18 rfl (ft3 hF) ?_
  refine Ex.stk (st' := [.inr (.inr (some 6))]) (by rw [fr3_2 hF]) ?_
  refine x_iload_n (q := 26) dX6_readLeaf_25 rfl rfl ?_
  refine x_dup2 (q := 27) dX6_readLeaf_26 rfl rfl rfl ?_
  refine x_iaload (q := 28) dX6_readLeaf_27 rfl (Or.inl (ft6 hF)) (by omega) (by rw [fl6 hF]; omega) ?_
  refine Ex.stk (st' := [.inl 1, .inl k, .inr (.inr (some 6))]) (by rw [show iv G 6 k = 1 from hw]) ?_
  refine x_iconst (q := 29) dX6_readLeaf_28 rfl (by decide) ?_
  refine x_isub (q := 30) (z := 0) dX6_readLeaf_29 rfl (by decide) ?_
  refine x_iastore (q := 31) dX6_readLeaf_30 rfl (ft6 hF) (by omega) (by rw [fl6 hF]; omega) ?_
  have hF := FX_si hF 6 k 0
  refine x_aload_n (q := 32) dX6_readLeaf_31 rfl rfl ?_
  refine x_getR (q := 35) dX6_readLeaf_32 rfl f_6_9 rfl (ft3 hF) ?_
  refine Ex.stk (st' := [.inr (.inr (some 4))]) (by rw [fr3_0 hF]) ?_
  refine x_iload_n (q := 36) dX6_readLeaf_35 rfl rfl ?_
  refine x_iaload (q := 37) dX6_readLeaf_36 rfl (Or.inl (ft4 hF)) (by omega) (by rw [fl4 hF]; omega) ?_
  refine Ex.stk (st' := [.inl s]) (by rw [show iv (si G 6 k 0) 4 k = s from (by simp only [iv_si]; rw [if_neg (by omega)];  exact hst)]) ?_
  refine x_bipush (q := 39) dX6_readLeaf_37 rfl (by decide) ?_
  refine x_icmp_ne (q := 42) (t := 47) dX6_readLeaf_39 rfl (by decide) (fun h39 => ?_) (fun h39 => by exfalso; exact hn8 h39)
  refine x_aload_n (q := 48) dX6_readLeaf_47 rfl rfl ?_
  refine x_getR (q := 51) dX6_readLeaf_48 rfl f_6_18 rfl (ft3 hF) ?_
  refine Ex.stk (st' := [.inr (.inr (some 6))]) (by rw [fr3_2 hF]) ?_
  refine x_iload_n (q := 52) dX6_readLeaf_51 rfl rfl ?_
  refine x_iaload (q := 53) dX6_readLeaf_52 rfl (Or.inl (ft6 hF)) (by omega) (by rw [fl6 hF]; omega) ?_
  refine Ex.stk (st' := [.inl 0]) (by rw [show iv (si G 6 k 0) 6 k = 0 from (by simp only [iv_si]; rw [if_pos (by simp)])]) ?_
  refine x_if_le (q := 56) (t := 58) dX6_readLeaf_53 rfl (by decide) (fun h53 => ?_) (fun h53 => by exfalso; omega)
  refine x_aload_n (q := 59) dX6_readLeaf_58 rfl rfl ?_
  refine x_getR (q := 62) dX6_readLeaf_59 rfl f_6_9 rfl (ft3 hF) ?_
  refine Ex.stk (st' := [.inr (.inr (some 4))]) (by rw [fr3_0 hF]) ?_
  refine x_iload_n (q := 63) dX6_readLeaf_62 rfl rfl ?_
  refine x_iaload (q := 64) dX6_readLeaf_63 rfl (Or.inl (ft4 hF)) (by omega) (by rw [fl4 hF]; omega) ?_
  refine Ex.stk (st' := [.inl s]) (by rw [show iv (si G 6 k 0) 4 k = s from (by simp only [iv_si]; rw [if_neg (by omega)];  exact hst)]) ?_
  refine x_bipush (q := 66) dX6_readLeaf_64 rfl (by decide) ?_
  refine x_icmp_eq (q := 69) (t := 89) dX6_readLeaf_66 rfl (by decide) (fun h66 => by exfalso; exact hn8 h66) (fun h66 => ?_)
  refine x_aload_n (q := 70) dX6_readLeaf_69 rfl rfl ?_
  refine x_getR (q := 73) dX6_readLeaf_70 rfl f_6_21 rfl (ft3 hF) ?_
  refine Ex.stk (st' := [.inr (.inr (some pb))]) (by rw [show rv (si G 6 k 0) 3 6 = some pb from hpr]) ?_
  refine x_aload_n (q := 74) dX6_readLeaf_73 rfl rfl ?_
  refine x_getR (q := 77) dX6_readLeaf_74 rfl f_6_9 rfl (ft3 hF) ?_
  refine Ex.stk (st' := [.inr (.inr (some 4)), .inr (.inr (some pb))]) (by rw [fr3_0 hF]) ?_
  refine x_iload_n (q := 78) dX6_readLeaf_77 rfl rfl ?_
  refine x_iaload (q := 79) dX6_readLeaf_78 rfl (Or.inl (ft4 hF)) (by omega) (by rw [fl4 hF]; omega) ?_
  refine Ex.stk (st' := [.inl s, .inr (.inr (some pb))]) (by rw [show iv (si G 6 k 0) 4 k = s from (by simp only [iv_si]; rw [if_neg (by omega)];  exact hst)]) ?_
  refine x_aload_n (q := 80) dX6_readLeaf_79 rfl rfl ?_
  refine x_getR (q := 83) dX6_readLeaf_80 rfl f_6_15 rfl (ft3 hF) ?_
  refine Ex.stk (st' := [.inr (.inr (some 5)), .inl s, .inr (.inr (some pb))]) (by rw [fr3_1 hF]) ?_
  refine x_iload_n (q := 84) dX6_readLeaf_83 rfl rfl ?_
  refine x_iaload (q := 85) dX6_readLeaf_84 rfl (Or.inl (ft5 hF)) (by omega) (by rw [fl5 hF]; omega) ?_
  refine Ex.stk (st' := [.inl v, .inl s, .inr (.inr (some pb))]) (by rw [show iv (si G 6 k 0) 5 k = v from (by simp only [iv_si]; rw [if_neg (by omega)];  exact hv)]) ?_
  refine x_invV (q := 88) (as := [.inr (.inr (some pb)), .inl s, .inl v]) (rest := []) dX6_readLeaf_85 rfl l_6_87 m_X5_addStep rfl rfl (PGs_FC hF hpb).1 (Nat.le_of_ble_eq_true rfl) (c_addStep _ (G := si G 6 k 0) (PGs_FC hF hpb) (sp := sp) (by simp only [iv_si]; rw [if_neg (by omega)]; exact hs) p0 p1) (fun r1 G1 hR => ?_)
  obtain ⟨rfl, rfl⟩ := hR
  have hF : FC (si (si (si (si G 6 k 0) (pb + 1) sp s) (pb + 2) sp v) pb 3 (sp + 1)) := hF
  refine Ex.stk (st' := [.inl sp]) rfl ?_
  refine x_pop (q := 89) dX6_readLeaf_88 rfl rfl ?_
  refine x_aload_n (q := 90) dX6_readLeaf_89 rfl rfl ?_
  refine x_iload_n (q := 91) dX6_readLeaf_90 rfl rfl ?_
  refine x_putI (q := 94) dX6_readLeaf_91 rfl f_6_64 rfl (fun h => by cases h) (fun h => by cases h) (ft3 hF) ?_
  have hF := FX_si hF 3 3 k
  refine x_iinc (q := 97) (ls' := [some (.inr (.inr (some 3))), some (.inl s0), some (.inl v0), some (.inl (k + (-1)))]) dX6_readLeaf_94 rfl rfl (by first | rfl | exact hnl | exact hnl2 _) (by rw [show wr (k + (-1)) = k + (-1) from (wr_id ⟨by omega, by omega⟩)]; rfl) ?_
  refine x_goto (t := 17) dX6_readLeaf_97 (by decide) ?_
  exact kk
theorem lt_q3 {d : Nat} {G : Hp} {Q : Option V → Hp → Prop} (hF : FC G) {pb : Nat} (hpb : pb = 7 ∨ pb = 11) (hpr : rv G 3 6 = some pb) {k sp s0 v0 : Int} (k0 : 0 ≤ k) (k1 : k < 160) (hs : iv G pb 3 = sp) (p0 : 0 ≤ sp) (p1 : sp < 320) {v : Int} (hst : iv G 4 k = 8) (hv : iv G 5 k = v) (hw : iv G 6 k = 3) (kk : Q (some (.inl 0)) (si (si (si (si (si G 6 k 2) (pb + 1) sp 9) (pb + 2) sp 0) pb 3 (sp + 1)) 5 k sp)) : Ex (d + 2) (some .int) 6 false cX6_readLeaf 17 [some (.inr (.inr (some 3))), some (.inl s0), some (.inl v0), some (.inl k)] [] G Q := by
  refine x_iload_n (q := 18) dX6_readLeaf_17 rfl rfl ?_
  refine x_if_lt (q := 21) (t := 100) dX6_readLeaf_18 rfl (by decide) (fun h18 => by exfalso; omega) (fun h18 => ?_)
  refine x_aload_n (q := 22) dX6_readLeaf_21 rfl rfl ?_
  refine x_getR (q := 25) dX6_readLeaf_22 rfl f_6_18 rfl (ft3 hF) ?_
  refine Ex.stk (st' := [.inr (.inr (some 6))]) (by rw [fr3_2 hF]) ?_
  refine x_iload_n (q := 26) dX6_readLeaf_25 rfl rfl ?_
  refine x_dup2 (q := 27) dX6_readLeaf_26 rfl rfl rfl ?_
  refine x_iaload (q := 28) dX6_readLeaf_27 rfl (Or.inl (ft6 hF)) (by omega) (by rw [fl6 hF]; omega) ?_
  refine Ex.stk (st' := [.inl 3, .inl k, .inr (.inr (some 6))]) (by rw [show iv G 6 k = 3 from hw]) ?_
  refine x_iconst (q := 29) dX6_readLeaf_28 rfl (by decide) ?_
  refine x_isub (q := 30) (z := 2) dX6_readLeaf_29 rfl (by decide) ?_
  refine x_iastore (q := 31) dX6_readLeaf_30 rfl (ft6 hF) (by omega) (by rw [fl6 hF]; omega) ?_
  have hF := FX_si hF 6 k 2
  refine x_aload_n (q := 32) dX6_readLeaf_31 rfl rfl ?_
  refine x_getR (q := 35) dX6_readLeaf_32 rfl f_6_9 rfl (ft3 hF) ?_
  refine Ex.stk (st' := [.inr (.inr (some 4))]) (by rw [fr3_0 hF]) ?_
  refine x_iload_n (q := 36) dX6_readLeaf_35 rfl rfl ?_
  refine x_iaload (q := 37) dX6_readLeaf_36 rfl (Or.inl (ft4 hF)) (by omega) (by rw [fl4 hF]; omega) ?_
  refine Ex.stk (st' := [.inl 8]) (by rw [show iv (si G 6 k 2) 4 k = 8 from (by simp only [iv_si]; rw [if_neg (by omega)];  exact hst)]) ?_
  refine x_bipush (q := 39) dX6_readLeaf_37 rfl (by decide) ?_
  refine x_icmp_ne (q := 42) (t := 47) dX6_readLeaf_39 rfl (by decide) (fun h39 => by exfalso; exact h39 rfl) (fun h39 => ?_)
  refine x_aload_n (q := 43) dX6_readLeaf_42 rfl rfl ?_
  refine x_iload_n (q := 44) dX6_readLeaf_43 rfl rfl ?_
  refine x_invV (q := 47) (as := [.inr (.inr (some 3)), .inl k]) (rest := []) dX6_readLeaf_44 rfl l_6_90 m_X6_placeSkips rfl rfl (ft3 hF) (Nat.le_of_ble_eq_true rfl) (c_place2 _ (G := si G 6 k 2) hF hpb hpr (k := k) (sp := sp) (by simp [iv_si]) k0 k1 (by simp only [iv_si]; rw [if_neg (by omega)]; exact hs) p0 p1) (fun r1 G1 hR => ?_)
  obtain ⟨rfl, rfl⟩ := hR
  have hF : FC (si (si (si (si (si G 6 k 2) (pb + 1) sp 9) (pb + 2) sp 0) pb 3 (sp + 1)) 5 k sp) := hF
  refine Ex.stk (st' := []) rfl ?_
  refine x_aload_n (q := 48) dX6_readLeaf_47 rfl rfl ?_
  refine x_getR (q := 51) dX6_readLeaf_48 rfl f_6_18 rfl (ft3 hF) ?_
  refine Ex.stk (st' := [.inr (.inr (some 6))]) (by rw [fr3_2 hF]) ?_
  refine x_iload_n (q := 52) dX6_readLeaf_51 rfl rfl ?_
  refine x_iaload (q := 53) dX6_readLeaf_52 rfl (Or.inl (ft6 hF)) (by omega) (by rw [fl6 hF]; omega) ?_
  refine Ex.stk (st' := [.inl 2]) (by rw [show iv (si (si (si (si (si G 6 k 2) (pb + 1) sp 9) (pb + 2) sp 0) pb 3 (sp + 1)) 5 k sp) 6 k = 2 from (by simp only [iv_si]; rw [if_neg (by omega)]; rw [if_neg (by omega)]; rw [if_neg (by omega)]; rw [if_neg (by omega)]; rw [if_pos (by simp)])]) ?_
  refine x_if_le (q := 56) (t := 58) dX6_readLeaf_53 rfl (by decide) (fun h53 => by exfalso; omega) (fun h53 => ?_)
  refine x_iconst (q := 57) dX6_readLeaf_56 rfl (by decide) ?_
  refine x_iret dX6_readLeaf_57 rfl ?_
  exact kk
theorem lt_q2 {d : Nat} {G : Hp} {Q : Option V → Hp → Prop} (hF : FC G) {pb : Nat} (hpb : pb = 7 ∨ pb = 11) (hpr : rv G 3 6 = some pb) {k sp s0 v0 : Int} (k0 : 0 ≤ k) (k1 : k < 160) (hs : iv G pb 3 = sp) (p0 : 0 ≤ sp) (p1 : sp < 320) {v : Int} (hst : iv G 4 k = 8) (hv : iv G 5 k = v) (hw : iv G 6 k = 2) (v00 : 0 ≤ v) (v1 : v < sp) (kk : Q (some (.inl 0)) (si (si (si (si (si (si G 6 k 1) (pb + 1) sp 10) (pb + 2) sp 0) pb 3 (sp + 1)) (pb + 2) v (sp + 1)) 5 k sp)) : Ex (d + 2) (some .int) 6 false cX6_readLeaf 17 [some (.inr (.inr (some 3))), some (.inl s0), some (.inl v0), some (.inl k)] [] G Q := by
  refine x_iload_n (q := 18) dX6_readLeaf_17 rfl rfl ?_
  refine x_if_lt (q := 21) (t := 100) dX6_readLeaf_18 rfl (by decide) (fun h18 => by exfalso; omega) (fun h18 => ?_)
  refine x_aload_n (q := 22) dX6_readLeaf_21 rfl rfl ?_
  refine x_getR (q := 25) dX6_readLeaf_22 rfl f_6_18 rfl (ft3 hF) ?_
  refine Ex.stk (st' := [.inr (.inr (some 6))]) (by rw [fr3_2 hF]) ?_
  refine x_iload_n (q := 26) dX6_readLeaf_25 rfl rfl ?_
  refine x_dup2 (q := 27) dX6_readLeaf_26 rfl rfl rfl ?_
  refine x_iaload (q := 28) dX6_readLeaf_27 rfl (Or.inl (ft6 hF)) (by omega) (by rw [fl6 hF]; omega) ?_
  refine Ex.stk (st' := [.inl 2, .inl k, .inr (.inr (some 6))]) (by rw [show iv G 6 k = 2 from hw]) ?_
  refine x_iconst (q := 29) dX6_readLeaf_28 rfl (by decide) ?_
  refine x_isub (q := 30) (z := 1) dX6_readLeaf_29 rfl (by decide) ?_
  refine x_iastore (q := 31) dX6_readLeaf_30 rfl (ft6 hF) (by omega) (by rw [fl6 hF]; omega) ?_
  have hF := FX_si hF 6 k 1
  refine x_aload_n (q := 32) dX6_readLeaf_31 rfl rfl ?_
  refine x_getR (q := 35) dX6_readLeaf_32 rfl f_6_9 rfl (ft3 hF) ?_
  refine Ex.stk (st' := [.inr (.inr (some 4))]) (by rw [fr3_0 hF]) ?_
  refine x_iload_n (q := 36) dX6_readLeaf_35 rfl rfl ?_
  refine x_iaload (q := 37) dX6_readLeaf_36 rfl (Or.inl (ft4 hF)) (by omega) (by rw [fl4 hF]; omega) ?_
  refine Ex.stk (st' := [.inl 8]) (by rw [show iv (si G 6 k 1) 4 k = 8 from (by simp only [iv_si]; rw [if_neg (by omega)];  exact hst)]) ?_
  refine x_bipush (q := 39) dX6_readLeaf_37 rfl (by decide) ?_
  refine x_icmp_ne (q := 42) (t := 47) dX6_readLeaf_39 rfl (by decide) (fun h39 => by exfalso; exact h39 rfl) (fun h39 => ?_)
  refine x_aload_n (q := 43) dX6_readLeaf_42 rfl rfl ?_
  refine x_iload_n (q := 44) dX6_readLeaf_43 rfl rfl ?_
  refine x_invV (q := 47) (as := [.inr (.inr (some 3)), .inl k]) (rest := []) dX6_readLeaf_44 rfl l_6_90 m_X6_placeSkips rfl rfl (ft3 hF) (Nat.le_of_ble_eq_true rfl) (c_place1 _ (G := si G 6 k 1) hF hpb hpr (k := k) (sp := sp) (by simp [iv_si]) k0 k1 (by simp only [iv_si]; rw [if_neg (by omega)]; exact hs) p0 p1 (v := v) (by simp only [iv_si]; rw [if_neg (by omega)]; exact hv) v00 v1) (fun r1 G1 hR => ?_)
  obtain ⟨rfl, rfl⟩ := hR
  have hF : FC (si (si (si (si (si (si G 6 k 1) (pb + 1) sp 10) (pb + 2) sp 0) pb 3 (sp + 1)) (pb + 2) v (sp + 1)) 5 k sp) := hF
  refine Ex.stk (st' := []) rfl ?_
  refine x_aload_n (q := 48) dX6_readLeaf_47 rfl rfl ?_
  refine x_getR (q := 51) dX6_readLeaf_48 rfl f_6_18 rfl (ft3 hF) ?_
  refine Ex.stk (st' := [.inr (.inr (some 6))]) (by rw [fr3_2 hF]) ?_
  refine x_iload_n (q := 52) dX6_readLeaf_51 rfl rfl ?_
  refine x_iaload (q := 53) dX6_readLeaf_52 rfl (Or.inl (ft6 hF)) (by omega) (by rw [fl6 hF]; omega) ?_
  refine Ex.stk (st' := [.inl 1]) (by rw [show iv (si (si (si (si (si (si G 6 k 1) (pb + 1) sp 10) (pb + 2) sp 0) pb 3 (sp + 1)) (pb + 2) v (sp + 1)) 5 k sp) 6 k = 1 from (by simp only [iv_si]; rw [if_neg (by omega)]; rw [if_neg (by omega)]; rw [if_neg (by omega)]; rw [if_neg (by omega)]; rw [if_neg (by omega)]; rw [if_pos (by simp)])]) ?_
  refine x_if_le (q := 56) (t := 58) dX6_readLeaf_53 rfl (by decide) (fun h53 => by exfalso; omega) (fun h53 => ?_)
  refine x_iconst (q := 57) dX6_readLeaf_56 rfl (by decide) ?_
  refine x_iret dX6_readLeaf_57 rfl ?_
  exact kk
theorem lt_q1 {d : Nat} {G : Hp} {Q : Option V → Hp → Prop} (hF : FC G) {pb : Nat} (hpb : pb = 7 ∨ pb = 11) (hpr : rv G 3 6 = some pb) {k sp s0 v0 : Int} (k0 : 0 ≤ k) (k1 : k < 160) (hs : iv G pb 3 = sp) (p0 : 0 ≤ sp) (p1 : sp ≤ 320) {v : Int} (hst : iv G 4 k = 8) (hv : iv G 5 k = v) (hw : iv G 6 k = 1) (v00 : 0 ≤ v) (v1 : v < sp) (kk : Ex (d + 2) (some .int) 6 false cX6_readLeaf 17 [some (.inr (.inr (some 3))), some (.inl s0), some (.inl v0), some (.inl (k + (-1)))] [] (si (si (si G 6 k 0) (pb + 2) v sp) 3 3 k) Q) : Ex (d + 2) (some .int) 6 false cX6_readLeaf 17 [some (.inr (.inr (some 3))), some (.inl s0), some (.inl v0), some (.inl k)] [] G Q := by
  refine x_iload_n (q := 18) dX6_readLeaf_17 rfl rfl ?_
  refine x_if_lt (q := 21) (t := 100) dX6_readLeaf_18 rfl (by decide) (fun h18 => by exfalso; omega) (fun h18 => ?_)
  refine x_aload_n (q := 22) dX6_readLeaf_21 rfl rfl ?_
  refine x_getR (q := 25) dX6_readLeaf_22 rfl f_6_18 rfl (ft3 hF) ?_
  refine Ex.stk (st' := [.inr (.inr (some 6))]) (by rw [fr3_2 hF]) ?_
  refine x_iload_n (q := 26) dX6_readLeaf_25 rfl rfl ?_
  refine x_dup2 (q := 27) dX6_readLeaf_26 rfl rfl rfl ?_
  refine x_iaload (q := 28) dX6_readLeaf_27 rfl (Or.inl (ft6 hF)) (by omega) (by rw [fl6 hF]; omega) ?_
  refine Ex.stk (st' := [.inl 1, .inl k, .inr (.inr (some 6))]) (by rw [show iv G 6 k = 1 from hw]) ?_
  refine x_iconst (q := 29) dX6_readLeaf_28 rfl (by decide) ?_
  refine x_isub (q := 30) (z := 0) dX6_readLeaf_29 rfl (by decide) ?_
  refine x_iastore (q := 31) dX6_readLeaf_30 rfl (ft6 hF) (by omega) (by rw [fl6 hF]; omega) ?_
  have hF := FX_si hF 6 k 0
  refine x_aload_n (q := 32) dX6_readLeaf_31 rfl rfl ?_
  refine x_getR (q := 35) dX6_readLeaf_32 rfl f_6_9 rfl (ft3 hF) ?_
  refine Ex.stk (st' := [.inr (.inr (some 4))]) (by rw [fr3_0 hF]) ?_
  refine x_iload_n (q := 36) dX6_readLeaf_35 rfl rfl ?_
  refine x_iaload (q := 37) dX6_readLeaf_36 rfl (Or.inl (ft4 hF)) (by omega) (by rw [fl4 hF]; omega) ?_
  refine Ex.stk (st' := [.inl 8]) (by rw [show iv (si G 6 k 0) 4 k = 8 from (by simp only [iv_si]; rw [if_neg (by omega)];  exact hst)]) ?_
  refine x_bipush (q := 39) dX6_readLeaf_37 rfl (by decide) ?_
  refine x_icmp_ne (q := 42) (t := 47) dX6_readLeaf_39 rfl (by decide) (fun h39 => by exfalso; exact h39 rfl) (fun h39 => ?_)
  refine x_aload_n (q := 43) dX6_readLeaf_42 rfl rfl ?_
  refine x_iload_n (q := 44) dX6_readLeaf_43 rfl rfl ?_
  refine x_invV (q := 47) (as := [.inr (.inr (some 3)), .inl k]) (rest := []) dX6_readLeaf_44 rfl l_6_90 m_X6_placeSkips rfl rfl (ft3 hF) (Nat.le_of_ble_eq_true rfl) (c_place0 _ (G := si G 6 k 0) hF hpb hpr (k := k) (sp := sp) (by simp [iv_si]) k0 k1 (by simp only [iv_si]; rw [if_neg (by omega)]; exact hs) p0 p1 (v := v) (by simp only [iv_si]; rw [if_neg (by omega)]; exact hv) v00 v1) (fun r1 G1 hR => ?_)
  obtain ⟨rfl, rfl⟩ := hR
  have hF : FC (si (si G 6 k 0) (pb + 2) v sp) := hF
  refine Ex.stk (st' := []) rfl ?_
  refine x_aload_n (q := 48) dX6_readLeaf_47 rfl rfl ?_
  refine x_getR (q := 51) dX6_readLeaf_48 rfl f_6_18 rfl (ft3 hF) ?_
  refine Ex.stk (st' := [.inr (.inr (some 6))]) (by rw [fr3_2 hF]) ?_
  refine x_iload_n (q := 52) dX6_readLeaf_51 rfl rfl ?_
  refine x_iaload (q := 53) dX6_readLeaf_52 rfl (Or.inl (ft6 hF)) (by omega) (by rw [fl6 hF]; omega) ?_
  refine Ex.stk (st' := [.inl 0]) (by rw [show iv (si (si G 6 k 0) (pb + 2) v sp) 6 k = 0 from (by simp only [iv_si]; rw [if_neg (by omega)]; rw [if_pos (by simp)])]) ?_
  refine x_if_le (q := 56) (t := 58) dX6_readLeaf_53 rfl (by decide) (fun h53 => ?_) (fun h53 => by exfalso; omega)
  refine x_aload_n (q := 59) dX6_readLeaf_58 rfl rfl ?_
  refine x_getR (q := 62) dX6_readLeaf_59 rfl f_6_9 rfl (ft3 hF) ?_
  refine Ex.stk (st' := [.inr (.inr (some 4))]) (by rw [fr3_0 hF]) ?_
  refine x_iload_n (q := 63) dX6_readLeaf_62 rfl rfl ?_
  refine x_iaload (q := 64) dX6_readLeaf_63 rfl (Or.inl (ft4 hF)) (by omega) (by rw [fl4 hF]; omega) ?_
  refine Ex.stk (st' := [.inl 8]) (by rw [show iv (si (si G 6 k 0) (pb + 2) v sp) 4 k = 8 from (by simp only [iv_si]; rw [if_neg (by omega)]; rw [if_neg (by omega)];  exact hst)]) ?_
  refine x_bipush (q := 66) dX6_readLeaf_64 rfl (by decide) ?_
  refine x_icmp_eq (q := 69) (t := 89) dX6_readLeaf_66 rfl (by decide) (fun h66 => ?_) (fun h66 => by exfalso; exact h66 rfl)
  refine x_aload_n (q := 90) dX6_readLeaf_89 rfl rfl ?_
  refine x_iload_n (q := 91) dX6_readLeaf_90 rfl rfl ?_
  refine x_putI (q := 94) dX6_readLeaf_91 rfl f_6_64 rfl (fun h => by cases h) (fun h => by cases h) (ft3 hF) ?_
  have hF := FX_si hF 3 3 k
  refine x_iinc (q := 97) (ls' := [some (.inr (.inr (some 3))), some (.inl s0), some (.inl v0), some (.inl (k + (-1)))]) dX6_readLeaf_94 rfl rfl (by first | rfl | exact hnl | exact hnl2 _) (by rw [show wr (k + (-1)) = k + (-1) from (wr_id ⟨by omega, by omega⟩)]; rfl) ?_
  refine x_goto (t := 17) dX6_readLeaf_97 (by decide) ?_
  exact kk
theorem lt_end {d : Nat} {G : Hp} {Q : Option V → Hp → Prop} (hF : FC G) {s0 v0 k : Int} (hk : k < 0) (kk : Q (some (.inl 0)) (si G 3 4 3)) : Ex (d + 2) (some .int) 6 false cX6_readLeaf 17 [some (.inr (.inr (some 3))), some (.inl s0), some (.inl v0), some (.inl k)] [] G Q := by
  refine x_iload_n (q := 18) dX6_readLeaf_17 rfl rfl ?_
  refine x_if_lt (q := 21) (t := 100) dX6_readLeaf_18 rfl (by decide) (fun h18 => ?_) (fun h18 => by exfalso; omega)
  refine x_aload_n (q := 101) dX6_readLeaf_100 rfl rfl ?_
  refine x_iconst (q := 102) dX6_readLeaf_101 rfl (by decide) ?_
  refine x_putI (q := 105) dX6_readLeaf_102 rfl f_6_30 rfl (fun h => by cases h) (fun h => by cases h) (ft3 hF) ?_
  have hF := FX_si hF 3 4 3
  refine x_iconst (q := 106) dX6_readLeaf_105 rfl (by decide) ?_
  refine x_iret dX6_readLeaf_106 rfl ?_
  exact kk
/-- frames in the memory: k of them -/
def FrAt (G : Hp) : Int → Frs → Prop
  | k, [] => k = 0
  | k, (s, v, w) :: F => iv G 4 (k - 1) = s ∧ iv G 5 (k - 1) = v ∧ iv G 6 (k - 1) = w ∧ FrAt G (k - 1) F
theorem FrAt_len {G : Hp} : ∀ (F : Frs) (k : Int), FrAt G k F → k = (F.length : Int) := by
  intro F
  induction F with
  | nil => intro k h; exact h
  | cons f F ih => obtain ⟨s, v, w⟩ := f; intro k ⟨_, _, _, h⟩; have := ih _ h; rw [List.length_cons]; omega
theorem FrAt_kept {G G' : Hp} : ∀ (F : Frs) (k : Int), FrAt G k F → (∀ (a : Nat) (i : Int), 4 ≤ a → a ≤ 6 → i < k → iv G' a i = iv G a i) → FrAt G' k F := by
  intro F
  induction F with
  | nil => intro k h _; exact h
  | cons f F ih =>
    obtain ⟨s, v, w⟩ := f
    intro k ⟨h1, h2, h3, h4⟩ hk
    exact ⟨by rw [hk 4 _ (by decide) (by decide) (by omega)]; exact h1, by rw [hk 5 _ (by decide) (by decide) (by omega)]; exact h2, by rw [hk 6 _ (by decide) (by decide) (by omega)]; exact h3, ih _ h4 (fun a i a0 a1 hi => hk a i a0 a1 (by omega))⟩
def sumw (F : Frs) : Int := (F.map (fun e => e.2.2 - 1)).sum
def pend (F : Frs) : Int := (F.map (fun e => if e.1 = 8 then e.2.2 - 1 else 1)).sum
theorem sumw_cons (e : Int × Int × Int) (F : Frs) : sumw (e :: F) = (e.2.2 - 1) + sumw F := by unfold sumw; rw [List.map_cons, List.sum_cons]
theorem pend_cons (e : Int × Int × Int) (F : Frs) : pend (e :: F) = (if e.1 = 8 then e.2.2 - 1 else 1) + pend F := by unfold pend; rw [List.map_cons, List.sum_cons]
theorem Opn_w {st vl cd : Int → Int} {A0 P0 : Int} : ∀ (F : Frs) (a p : Int), Opn st vl cd A0 P0 F a p → 0 ≤ sumw F ∧ 0 ≤ pend F := by
  intro F
  induction F with
  | nil => intro a p _; exact ⟨by decide, by decide⟩
  | cons f F ih =>
    obtain ⟨s, v, w⟩ := f
    rintro a p ⟨a0, p0, h1, -, -, h4⟩
    have := ih a0 p0 h1
    rw [sumw_cons, pend_cons]
    dsimp only
    have hw : 1 ≤ w := by
      rcases h4 with h | h | ⟨_, _, h | h⟩ | ⟨_, _, h | h | h⟩ <;> omega
    split <;> omega
/-- what reading a leaf leaves as it was -/
def RcI (pb : Nat) (G G' : Hp) : Prop := Io G G' ∧ (∀ (a : Nat) (k : Int), a ≠ 3 → a ≠ 4 → a ≠ 5 → a ≠ 6 → a ≠ pb → a ≠ pb + 1 → a ≠ pb + 2 → iv G' a k = iv G a k) ∧ (∀ k, k ≠ 3 → k ≠ 4 → iv G' 3 k = iv G 3 k) ∧ ∀ k, k ≠ 3 → iv G' pb k = iv G pb k
theorem RcI.rf (pb : Nat) (G : Hp) : RcI pb G G := ⟨Io.rf G, fun _ _ _ _ _ _ _ _ _ => rfl, fun _ _ _ => rfl, fun _ _ => rfl⟩
theorem RcI.trans {pb : Nat} {G G1 G2 : Hp} (h1 : RcI pb G G1) (h2 : RcI pb G1 G2) : RcI pb G G2 := ⟨h1.1.trans h2.1, fun a k g1 g2 g3 g4 g5 g6 g7 => (h2.2.1 a k g1 g2 g3 g4 g5 g6 g7).trans (h1.2.1 a k g1 g2 g3 g4 g5 g6 g7), fun k g1 g2 => (h2.2.2.1 k g1 g2).trans (h1.2.2.1 k g1 g2), fun k g => (h2.2.2.2 k g).trans (h1.2.2.2 k g)⟩
theorem RcI.si {pb : Nat} {G G1 : Hp} (h : RcI pb G G1) (hpb : pb = 7 ∨ pb = 11) {b : Nat} {k : Int} (v : Int) (hb : b = 4 ∨ b = 5 ∨ b = 6 ∨ b = pb + 1 ∨ b = pb + 2 ∨ (b = 3 ∧ (k = 3 ∨ k = 4)) ∨ (b = pb ∧ k = 3)) : RcI pb G (si G1 b k v) := by
  refine ⟨h.1, fun a j g1 g2 g3 g4 g5 g6 g7 => ?_, fun j g1 g2 => ?_, fun j g => ?_⟩
  · rw [iv_si, if_neg (by omega)]; exact h.2.1 a j g1 g2 g3 g4 g5 g6 g7
  · rw [iv_si, if_neg (by omega)]; exact h.2.2.1 j g1 g2
  · rw [iv_si, if_neg (by omega)]; exact h.2.2.2 j g
