/-! THE MODEL: all matched -/
def nAt (G : Hp) : Int → List (Nd × Int) → Prop
  | _, [] => True
  | k, e :: l => (iv G 58 k = nN e.1 ∧ iv G 59 k = nD e.1) ∧ nAt G (k + 1) l
theorem nAt_app {G : Hp} : ∀ (l1 l2 : List (Nd × Int)) (k : Int), nAt G k (l1 ++ l2) ↔ nAt G k l1 ∧ nAt G (k + (l1.length : Int)) l2 := by
  intro l1
  induction l1 with
  | nil => intro l2 k; simp [nAt]
  | cons e l ih =>
    intro l2 k
    simp only [List.cons_append, nAt, ih, List.length_cons]
    rw [show k + 1 + (l.length : Int) = k + ((l.length + 1 : Nat) : Int) from by omega]
    constructor
    · rintro ⟨h1, h2, h3⟩; exact ⟨⟨h1, h2⟩, h3⟩
    · rintro ⟨⟨h1, h2⟩, h3⟩; exact ⟨h1, h2, h3⟩
theorem nAt_kept {G G' : Hp} : ∀ (l : List (Nd × Int)) (k : Int), nAt G k l → (∀ (a : Nat) (j : Int), 58 ≤ a → a ≤ 59 → k ≤ j → j < k + (l.length : Int) → iv G' a j = iv G a j) → nAt G' k l := by
  intro l
  induction l with
  | nil => intro k _ _; trivial
  | cons e l ih =>
    intro k h hk
    obtain ⟨⟨h1, h2⟩, h6⟩ := h
    rw [List.length_cons] at hk
    refine ⟨⟨?_, ?_⟩, ih (k + 1) h6 (fun a j g1 g2 g3 g4 => hk a j g1 g2 (by omega) (by omega))⟩
    · rw [hk 58 k (by decide) (by decide) (by omega) (by omega)]; exact h1
    · rw [hk 59 k (by decide) (by decide) (by omega) (by omega)]; exact h2
theorem MA_kept {G G' : Hp} {co no : Int} {d : Nat} : ∀ (l : List (Tr d)) (k : Int) (as : List (Option (Int × Tr d))), MA G co no d k l as → (∀ i, k ≤ i → i < k + (tszL d l : Int) → iv G' 57 i = iv G 57 i) → (∀ (a : Nat) (j : Int), 44 ≤ a → a ≤ 50 → iv G' a j = iv G a j) → MA G' co no d k l as := by
  intro l
  induction l with
  | nil => intro k as h _ _; cases as with
    | nil => trivial
    | cons a as => exact h
  | cons t l ih =>
    intro k as h hk ho
    have hp := tsz_pos d t
    rw [tszL_cons] at hk
    cases as with
    | nil => exact h
    | cons a as =>
      obtain ⟨h1, h2, h3⟩ := h
      refine ⟨?_, fun i i1 i2 => by rw [hk i (by omega) (by omega)]; exact h2 i i1 i2, ih _ _ h3 (fun i i1 i2 => hk i (by omega) (by omega)) ho⟩
      cases a with
      | none => show iv G' 57 k = -1; rw [hk k (by omega) (by omega)]; exact h1
      | some q => exact ⟨by rw [hk k (by omega) (by omega)]; exact h1.1, h1.2.choose, OR_kept h1.2.choose_spec ho⟩
theorem MA_none {G : Hp} {co no : Int} {d : Nat} : ∀ (l : List (Tr d)) (k j : Int), (∀ i, k ≤ i → i < k + (tszL d l : Int) → iv G 57 i = -1) → MA G co no d k l (asg j [] l) := by
  intro l
  induction l with
  | nil => intro k j _; trivial
  | cons t l ih =>
    intro k j h
    have hp := tsz_pos d t
    rw [tszL_cons] at h
    exact ⟨h k (by omega) (by omega), fun i i1 i2 => h i (by omega) (by omega), ih _ _ (fun i i1 i2 => h i (by omega) (by omega))⟩
/-- counts grow, sizes stay -/
theorem upL_cnt {d : Nat} {up : Option (Tr d) → Tr d → K3 → Tr d × K3} (hu : ∀ o t κ, tsz d (up o t κ).1 = tsz d t ∧ κ.1 ≤ (up o t κ).2.1 ∧ (up o t κ).2.1 ≤ κ.1 + (tsz d t : Int) ∧ κ.2.1 ≤ (up o t κ).2.2.1 ∧ (up o t κ).2.2.1 ≤ κ.2.1 + (tsz d t : Int) ∧ κ.2.2 ≤ (up o t κ).2.2.2 ∧ (up o t κ).2.2.2 ≤ κ.2.2 + (tsz d t : Int)) : ∀ (l rem : List (Tr d)) (κ : K3), tszL d (upL up rem l κ).1 = tszL d l ∧ κ.1 ≤ (upL up rem l κ).2.1 ∧ (upL up rem l κ).2.1 ≤ κ.1 + (tszL d l : Int) ∧ κ.2.1 ≤ (upL up rem l κ).2.2.1 ∧ (upL up rem l κ).2.2.1 ≤ κ.2.1 + (tszL d l : Int) ∧ κ.2.2 ≤ (upL up rem l κ).2.2.2 ∧ (upL up rem l κ).2.2.2 ≤ κ.2.2 + (tszL d l : Int) := by
  intro l
  induction l with
  | nil => intro rem κ; simp [upL, tszL]
  | cons t l ih =>
    intro rem κ
    simp only [upL]
    cases fn1 (nF (rt d t)) (nX (rt d t)) rem with
    | none =>
      have h1 := hu none t κ
      have h2 := ih rem (up none t κ).2
      dsimp only at h2 ⊢
      rw [tszL_cons, tszL_cons]
      omega
    | some q =>
      have h1 := hu (some q.1) t κ
      have h2 := ih q.2 (up (some q.1) t κ).2
      dsimp only at h2 ⊢
      rw [tszL_cons, tszL_cons]
      omega
theorem upT_cnt (h c : Int → Int) : ∀ (d : Nat) (o : Option (Tr d)) (t : Tr d) (κ : K3), tsz d (upT h c d o t κ).1 = tsz d t ∧ κ.1 ≤ (upT h c d o t κ).2.1 ∧ (upT h c d o t κ).2.1 ≤ κ.1 + (tsz d t : Int) ∧ κ.2.1 ≤ (upT h c d o t κ).2.2.1 ∧ (upT h c d o t κ).2.2.1 ≤ κ.2.1 + (tsz d t : Int) ∧ κ.2.2 ≤ (upT h c d o t κ).2.2.2 ∧ (upT h c d o t κ).2.2.2 ≤ κ.2.2 + (tsz d t : Int) := by
  intro d
  induction d with
  | zero => intro o t; exact t.elim
  | succ d ih =>
    intro o t κ
    cases o with
    | none =>
      have h1 := upL_cnt ih t.2 [] (κ.1 + 1, κ.2.1 + 1, κ.2.2)
      have hz := tsz_eq t
      have hz2 := tsz_eq (upT h c (d + 1) none t κ).1
      have hz3 : (upT h c (d + 1) none t κ).1.2 = (upL (upT h c d) [] t.2 (κ.1 + 1, κ.2.1 + 1, κ.2.2)).1 := rfl
      rw [hz3] at hz2
      have hz4 : (upT h c (d + 1) none t κ).2 = (upL (upT h c d) [] t.2 (κ.1 + 1, κ.2.1 + 1, κ.2.2)).2 := rfl
      rw [hz4]
      dsimp only at h1
      omega
    | some o =>
      generalize hb : (if anewB h c d o t = true then (1 : Int) else 0) = b
      have hb2 : 0 ≤ b ∧ b ≤ 1 := by subst hb; split <;> decide
      have h1 := upL_cnt ih t.2 o.2 (κ.1, κ.2.1, κ.2.2 + b)
      have hz := tsz_eq t
      have hz2 := tsz_eq (upT h c (d + 1) (some o) t κ).1
      have hz3 : (upT h c (d + 1) (some o) t κ).1.2 = (upL (upT h c d) o.2 t.2 (κ.1, κ.2.1, κ.2.2 + b)).1 := by rw [← hb]; rfl
      rw [hz3] at hz2
      have hz4 : (upT h c (d + 1) (some o) t κ).2 = (upL (upT h c d) o.2 t.2 (κ.1, κ.2.1, κ.2.2 + b)).2 := by rw [← hb]; rfl
      rw [hz4]
      dsimp only at h1
      omega
/-- what matching leaves as it was -/
def Mt (G G' : Hp) : Prop := Io G G' ∧ (∀ (a : Nat) (k : Int), a ≠ 35 → a ≠ 57 → a ≠ 58 → a ≠ 59 → iv G' a k = iv G a k) ∧ ∀ k, k ≠ 33 → k ≠ 34 → k ≠ 35 → iv G' 35 k = iv G 35 k
theorem Mt.trans {G G1 G2 : Hp} (h1 : Mt G G1) (h2 : Mt G1 G2) : Mt G G2 := ⟨h1.1.trans h2.1, fun a k g1 g2 g3 g4 => (h2.2.1 a k g1 g2 g3 g4).trans (h1.2.1 a k g1 g2 g3 g4), fun k g1 g2 g3 => (h2.2.2 k g1 g2 g3).trans (h1.2.2 k g1 g2 g3)⟩
/-- names and counts in the midst of matching -/
def MK (G : Hp) (co cn : Int) (h c : Int → Int) (κ : K3) : Prop := FM G ∧ iv G 35 22 = co ∧ iv G 35 29 = cn ∧ iv G 51 = h ∧ iv G 36 = c ∧ (∀ j, 0 ≤ j → j < co → 0 ≤ iv G 50 j ∧ iv G 50 j ≤ 1000000) ∧ iv G 35 33 = κ.1 ∧ iv G 35 34 = κ.2.1 ∧ iv G 35 35 = κ.2.2
theorem MK_Mt {G G' : Hp} {co cn : Int} {h c : Int → Int} {κ κ' : K3} (hk : MK G co cn h c κ) (hm : Mt G G') (h1 : iv G' 35 33 = κ'.1) (h2 : iv G' 35 34 = κ'.2.1) (h3 : iv G' 35 35 = κ'.2.2) : MK G' co cn h c κ' := by
  obtain ⟨k1, k2, k3, k4, k5, k6, -⟩ := hk
  refine ⟨FX_Io k1 hm.1, (hm.2.2 22 (by decide) (by decide) (by decide)).trans k2, (hm.2.2 29 (by decide) (by decide) (by decide)).trans k3, ?_, ?_, fun j j1 j2 => ?_, h1, h2, h3⟩
  · rw [← k4]; exact funext (fun j => hm.2.1 51 j (by decide) (by decide) (by decide) (by decide))
  · rw [← k5]; exact funext (fun j => hm.2.1 36 j (by decide) (by decide) (by decide) (by decide))
  · rw [hm.2.1 50 j (by decide) (by decide) (by decide) (by decide)]; exact k6 j j1 j2
theorem mall_none {dd : Nat} {Q : Option V → Hp → Prop} {G : Hp} {co cn rt k : Int} {h c : Int → Int} {κ : K3} {l3 l4 : Option V} (hl3 : isL l3 = false) (hl4 : isL l4 = false) (hk : MK G co cn h c κ) (k0 : 0 ≤ k) (k1 : k < cn) (c2 : cn ≤ 364) (hb : 0 ≤ κ.1 ∧ κ.1 + 1 ≤ 1000000 ∧ 0 ≤ κ.2.1 ∧ κ.2.1 + 1 ≤ 1000000) (h57 : iv G 57 k = -1) (kk : ∀ l3', isL l3' = false → Ex (dd + 3) none 10 false cX10_matchAll 50 [some (.inr (.inr (some 35))), some (.inl rt), some (.inl (k + 1)), l3', l4] [] (si (si (si (si G 58 k κ.1) 59 k 1) 35 33 (κ.1 + 1)) 35 34 (κ.2.1 + 1)) Q) : Ex (dd + 3) none 10 false cX10_matchAll 50 [some (.inr (.inr (some 35))), some (.inl rt), some (.inl k), l3, l4] [] G Q := by
  obtain ⟨hF, hco, hcn, hh, hc, hD, h33, h34, h35⟩ := hk
  have hnl : noL [some (.inr (.inr (some 35))), some (.inl rt), some (.inl k), l3, l4] = true := by simp [noL, isL]; exact ⟨hl3, hl4⟩
  have hnl2 : ∀ z : Int, noL [some (.inr (.inr (some 35))), some (.inl rt), some (.inl k), some (.inl z), l4] = true := fun z => by simp [noL, isL]; exact hl4
  refine x_iload_n (q := 51) dX10_matchAll_50 rfl rfl ?_
  refine x_aload_n (q := 52) dX10_matchAll_51 rfl rfl ?_
  refine x_getI (q := 55) dX10_matchAll_52 rfl f_10_118 rfl (ft35 hF) ?_
  refine Ex.stk (st' := [.inl cn, .inl k]) (by rw [show iv G 35 29 = cn from hcn]) ?_
  refine x_icmp_ge (q := 58) (t := 184) dX10_matchAll_55 rfl (by decide) (fun h55 => by exfalso; omega) (fun h55 => ?_)
  refine x_aload_n (q := 59) dX10_matchAll_58 rfl rfl ?_
  refine x_getR (q := 62) dX10_matchAll_59 rfl f_10_77 rfl (ft35 hF) ?_
  refine Ex.stk (st' := [.inr (.inr (some 57))]) (by rw [fr35_30 hF]) ?_
  refine x_iload_n (q := 63) dX10_matchAll_62 rfl rfl ?_
  refine x_iaload (q := 64) dX10_matchAll_63 rfl (Or.inl (ft57 hF)) (by omega) (by rw [fl57 hF]; omega) ?_
  refine Ex.stk (st' := [.inl (-1)]) (by rw [show iv G 57 k = (-1) from h57]) ?_
  refine x_istore_n (q := 65) (ls' := [some (.inr (.inr (some 35))), some (.inl rt), some (.inl k), some (.inl (-1)), l4]) dX10_matchAll_64 rfl (Nat.le_of_ble_eq_true rfl) (by first | rfl | exact hnl | exact hnl2 _) rfl ?_
  refine x_iload_n (q := 66) dX10_matchAll_65 rfl rfl ?_
  refine x_iconst (q := 67) dX10_matchAll_66 rfl (by decide) ?_
  refine x_icmp_ne (q := 70) (t := 110) dX10_matchAll_67 rfl (by decide) (fun h67 => by exfalso; omega) (fun h67 => ?_)
  refine x_aload_n (q := 71) dX10_matchAll_70 rfl rfl ?_
  refine x_getR (q := 74) dX10_matchAll_71 rfl f_10_80 rfl (ft35 hF) ?_
  refine Ex.stk (st' := [.inr (.inr (some 58))]) (by rw [fr35_31 hF]) ?_
  refine x_iload_n (q := 75) dX10_matchAll_74 rfl rfl ?_
  refine x_aload_n (q := 76) dX10_matchAll_75 rfl rfl ?_
  refine x_getI (q := 79) dX10_matchAll_76 rfl f_10_186 rfl (ft35 hF) ?_
  refine Ex.stk (st' := [.inl κ.1, .inl k, .inr (.inr (some 58))]) (by rw [show iv G 35 33 = κ.1 from h33]) ?_
  refine x_iastore (q := 80) dX10_matchAll_79 rfl (ft58 hF) (by omega) (by rw [fl58 hF]; omega) ?_
  have hF := FX_si hF 58 k κ.1
  refine x_aload_n (q := 81) dX10_matchAll_80 rfl rfl ?_
  refine x_getR (q := 84) dX10_matchAll_81 rfl f_10_83 rfl (ft35 hF) ?_
  refine Ex.stk (st' := [.inr (.inr (some 59))]) (by rw [fr35_32 hF]) ?_
  refine x_iload_n (q := 85) dX10_matchAll_84 rfl rfl ?_
  refine x_iconst (q := 86) dX10_matchAll_85 rfl (by decide) ?_
  refine x_iastore (q := 87) dX10_matchAll_86 rfl (ft59 hF) (by omega) (by rw [fl59 hF]; omega) ?_
  have hF := FX_si hF 59 k 1
  refine x_aload_n (q := 88) dX10_matchAll_87 rfl rfl ?_
  refine x_dup (q := 89) dX10_matchAll_88 rfl rfl ?_
  refine x_getI (q := 92) dX10_matchAll_89 rfl f_10_186 rfl (ft35 hF) ?_
  refine Ex.stk (st' := [.inl κ.1, .inr (.inr (some 35))]) (by rw [show iv (si (si G 58 k κ.1) 59 k 1) 35 33 = κ.1 from (by simp [iv_si, iv_sr, iv_nw, h33])]) ?_
  refine x_iconst (q := 93) dX10_matchAll_92 rfl (by decide) ?_
  refine x_iadd (q := 94) (z := κ.1 + 1) dX10_matchAll_93 rfl (wr_id ⟨by omega, by omega⟩) ?_
  refine x_putI (q := 97) dX10_matchAll_94 rfl f_10_186 rfl (fun h => by cases h) (fun h => by cases h) (ft35 hF) ?_
  have hF := FX_si hF 35 33 (κ.1 + 1)
  refine x_aload_n (q := 98) dX10_matchAll_97 rfl rfl ?_
  refine x_dup (q := 99) dX10_matchAll_98 rfl rfl ?_
  refine x_getI (q := 102) dX10_matchAll_99 rfl f_10_180 rfl (ft35 hF) ?_
  refine Ex.stk (st' := [.inl κ.2.1, .inr (.inr (some 35))]) (by rw [show iv (si (si (si G 58 k κ.1) 59 k 1) 35 33 (κ.1 + 1)) 35 34 = κ.2.1 from (by simp [iv_si, iv_sr, iv_nw, h34])]) ?_
  refine x_iconst (q := 103) dX10_matchAll_102 rfl (by decide) ?_
  refine x_iadd (q := 104) (z := κ.2.1 + 1) dX10_matchAll_103 rfl (wr_id ⟨by omega, by omega⟩) ?_
  refine x_putI (q := 107) dX10_matchAll_104 rfl f_10_180 rfl (fun h => by cases h) (fun h => by cases h) (ft35 hF) ?_
  have hF := FX_si hF 35 34 (κ.2.1 + 1)
  refine x_goto (t := 178) dX10_matchAll_107 (by decide) ?_
  refine x_iinc (q := 181) (ls' := [some (.inr (.inr (some 35))), some (.inl rt), some (.inl (k + 1)), some (.inl (-1)), l4]) dX10_matchAll_178 rfl rfl (by first | rfl | exact hnl | exact hnl2 _) (by rw [show wr (k + 1) = k + 1 from (wr_id ⟨by omega, by omega⟩)]; rfl) ?_
  refine x_goto (t := 50) dX10_matchAll_181 (by decide) ?_
  exact kk _ rfl
theorem mall_some0 {dd : Nat} {Q : Option V → Hp → Prop} {G : Hp} {co cn rt k : Int} {h c : Int → Int} {κ : K3} {l3 l4 : Option V} (hl3 : isL l3 = false) (hl4 : isL l4 = false) (hk : MK G co cn h c κ) (c1 : co ≤ 364) (c2 : cn ≤ 364) (hb : 0 ≤ κ.2.2 ∧ κ.2.2 + 1 ≤ 1000000) {ko no nn : Int} {d : Nat} {o t : Tr (d + 1)} {lo lt : List (Tr (d + 1))} (h57 : iv G 57 k = ko) (h1 : OR G co (d + 1) ko no (o :: lo)) (h2 : NR G cn (d + 1) k nn (t :: lt)) (h5 : ∀ i, k < i → i < k + (tsz (d + 1) t : Int) → iv G 57 i = -1) (ha : anewB h c d o t = false) (kk : ∀ l3' l4' G1, isL l3' = false → isL l4' = false → Io (si (si (si G 58 k (nN o.1)) 59 k (nD o.1 + 0)) 35 35 (κ.2.2 + 0)) G1 → (∀ (a : Nat) (j : Int), a ≠ 57 → iv G1 a j = iv (si (si (si G 58 k (nN o.1)) 59 k (nD o.1 + 0)) 35 35 (κ.2.2 + 0)) a j) → (∀ i, (i ≤ k ∨ k + (tsz (d + 1) t : Int) ≤ i) → iv G1 57 i = iv (si (si (si G 58 k (nN o.1)) 59 k (nD o.1 + 0)) 35 35 (κ.2.2 + 0)) 57 i) → MA G1 co (no + 1) d (k + 1) t.2 (asg (ko + 1) o.2 t.2) → Ex (dd + 3) none 10 false cX10_matchAll 50 [some (.inr (.inr (some 35))), some (.inl rt), some (.inl (k + 1)), l3', l4'] [] G1 Q) : Ex (dd + 3) none 10 false cX10_matchAll 50 [some (.inr (.inr (some 35))), some (.inl rt), some (.inl k), l3, l4] [] G Q := by
  obtain ⟨hF, hco, hcn, hh, hc, hD, h33, h34, h35⟩ := hk
  have hnl : noL [some (.inr (.inr (some 35))), some (.inl rt), some (.inl k), l3, l4] = true := by simp [noL, isL]; exact ⟨hl3, hl4⟩
  have hnl2 : ∀ z : Int, noL [some (.inr (.inr (some 35))), some (.inl rt), some (.inl k), some (.inl z), l4] = true := fun z => by simp [noL, isL]; exact hl4
  have hp := tsz_pos (d + 1) o
  have hq := tsz_pos (d + 1) t
  have hr1 := h1.2.2.1
  have hr2 := h2.2.2.1
  rw [tszL_cons] at hr1 hr2
  obtain ⟨⟨⟨-, -, -, -, -, hN, hDo⟩, -⟩, he1, ko0⟩ := OR_head h1
  obtain ⟨-, he2, k0⟩ := NR_head h2
  replace hN : iv G 49 ko = nN o.1 := hN
  replace hDo : iv G 50 ko = nD o.1 := hDo
  have hDb := hD ko ko0 (by omega)
  rw [hDo] at hDb
  refine x_iload_n (q := 51) dX10_matchAll_50 rfl rfl ?_
  refine x_aload_n (q := 52) dX10_matchAll_51 rfl rfl ?_
  refine x_getI (q := 55) dX10_matchAll_52 rfl f_10_118 rfl (ft35 hF) ?_
  refine Ex.stk (st' := [.inl cn, .inl k]) (by rw [show iv G 35 29 = cn from hcn]) ?_
  refine x_icmp_ge (q := 58) (t := 184) dX10_matchAll_55 rfl (by decide) (fun h55 => by exfalso; omega) (fun h55 => ?_)
  refine x_aload_n (q := 59) dX10_matchAll_58 rfl rfl ?_
  refine x_getR (q := 62) dX10_matchAll_59 rfl f_10_77 rfl (ft35 hF) ?_
  refine Ex.stk (st' := [.inr (.inr (some 57))]) (by rw [fr35_30 hF]) ?_
  refine x_iload_n (q := 63) dX10_matchAll_62 rfl rfl ?_
  refine x_iaload (q := 64) dX10_matchAll_63 rfl (Or.inl (ft57 hF)) (by omega) (by rw [fl57 hF]; omega) ?_
  refine Ex.stk (st' := [.inl ko]) (by rw [show iv G 57 k = ko from h57]) ?_
  refine x_istore_n (q := 65) (ls' := [some (.inr (.inr (some 35))), some (.inl rt), some (.inl k), some (.inl ko), l4]) dX10_matchAll_64 rfl (Nat.le_of_ble_eq_true rfl) (by first | rfl | exact hnl | exact hnl2 _) rfl ?_
  refine x_iload_n (q := 66) dX10_matchAll_65 rfl rfl ?_
  refine x_iconst (q := 67) dX10_matchAll_66 rfl (by decide) ?_
  refine x_icmp_ne (q := 70) (t := 110) dX10_matchAll_67 rfl (by decide) (fun h67 => ?_) (fun h67 => by exfalso; omega)
  refine x_aload_n (q := 111) dX10_matchAll_110 rfl rfl ?_
  refine x_iload_n (q := 112) dX10_matchAll_111 rfl rfl ?_
  refine x_iload_n (q := 113) dX10_matchAll_112 rfl rfl ?_
  refine x_invV (q := 116) (as := [.inr (.inr (some 35)), .inl ko, .inl k]) (rest := []) dX10_matchAll_113 rfl l_10_189 m_X10_isDoneAnew rfl rfl (ft35 hF) (Nat.le_of_ble_eq_true rfl) (c_isDoneAnew _ hF hco hcn c1 c2 h1 h2) (fun r1 G1 hR => ?_)
  obtain ⟨hG1, z, rfl, hz1, hz2⟩ := hR
  replace hG1 := hG1.symm
  subst hG1
  rw [hh, hc] at hz2
  have hz : z = 0 := by rcases hz1 with q | q; exact q; exact absurd (hz2.mp q) (by rw [ha]; decide)
  subst hz
  refine Ex.stk (st' := [.inl 0]) rfl ?_
  refine x_istore (q := 118) (ls' := [some (.inr (.inr (some 35))), some (.inl rt), some (.inl k), some (.inl ko), some (.inl 0)]) dX10_matchAll_116 rfl (Nat.le_of_ble_eq_true rfl) (by first | rfl | exact hnl | exact hnl2 _) rfl ?_
  refine x_aload_n (q := 119) dX10_matchAll_118 rfl rfl ?_
  refine x_getR (q := 122) dX10_matchAll_119 rfl f_10_80 rfl (ft35 hF) ?_
  refine Ex.stk (st' := [.inr (.inr (some 58))]) (by rw [fr35_31 hF]) ?_
  refine x_iload_n (q := 123) dX10_matchAll_122 rfl rfl ?_
  refine x_aload_n (q := 124) dX10_matchAll_123 rfl rfl ?_
  refine x_getR (q := 127) dX10_matchAll_124 rfl f_10_53 rfl (ft35 hF) ?_
  refine Ex.stk (st' := [.inr (.inr (some 49)), .inl k, .inr (.inr (some 58))]) (by rw [fr35_20 hF]) ?_
  refine x_iload_n (q := 128) dX10_matchAll_127 rfl rfl ?_
  refine x_iaload (q := 129) dX10_matchAll_128 rfl (Or.inl (ft49 hF)) (by omega) (by rw [fl49 hF]; omega) ?_
  refine Ex.stk (st' := [.inl (nN o.1), .inl k, .inr (.inr (some 58))]) (by rw [show iv G 49 ko = nN o.1 from hN]) ?_
  refine x_iastore (q := 130) dX10_matchAll_129 rfl (ft58 hF) (by omega) (by rw [fl58 hF]; omega) ?_
  have hF := FX_si hF 58 k (nN o.1)
  refine x_aload_n (q := 131) dX10_matchAll_130 rfl rfl ?_
  refine x_getR (q := 134) dX10_matchAll_131 rfl f_10_83 rfl (ft35 hF) ?_
  refine Ex.stk (st' := [.inr (.inr (some 59))]) (by rw [fr35_32 hF]) ?_
  refine x_iload_n (q := 135) dX10_matchAll_134 rfl rfl ?_
  refine x_aload_n (q := 136) dX10_matchAll_135 rfl rfl ?_
  refine x_getR (q := 139) dX10_matchAll_136 rfl f_10_56 rfl (ft35 hF) ?_
  refine Ex.stk (st' := [.inr (.inr (some 50)), .inl k, .inr (.inr (some 59))]) (by rw [fr35_21 hF]) ?_
  refine x_iload_n (q := 140) dX10_matchAll_139 rfl rfl ?_
  refine x_iaload (q := 141) dX10_matchAll_140 rfl (Or.inl (ft50 hF)) (by omega) (by rw [fl50 hF]; omega) ?_
  refine Ex.stk (st' := [.inl (nD o.1), .inl k, .inr (.inr (some 59))]) (by rw [show iv (si G 58 k (nN o.1)) 50 ko = nD o.1 from (by simp [iv_si, iv_sr, iv_nw, hDo])]) ?_
  refine x_iload (q := 143) dX10_matchAll_141 rfl rfl ?_
  refine x_if_eq (q := 146) (t := 150) dX10_matchAll_143 rfl (by decide) (fun h143 => ?_) (fun h143 => by exfalso; omega)
  refine x_iconst (q := 151) dX10_matchAll_150 rfl (by decide) ?_
  refine x_iadd (q := 152) (z := (nD o.1) + 0) dX10_matchAll_151 rfl (wr_id ⟨by omega, by omega⟩) ?_
  refine x_iastore (q := 153) dX10_matchAll_152 rfl (ft59 hF) (by omega) (by rw [fl59 hF]; omega) ?_
  have hF := FX_si hF 59 k ((nD o.1) + 0)
  refine x_aload_n (q := 154) dX10_matchAll_153 rfl rfl ?_
  refine x_dup (q := 155) dX10_matchAll_154 rfl rfl ?_
  refine x_getI (q := 158) dX10_matchAll_155 rfl f_10_183 rfl (ft35 hF) ?_
  refine Ex.stk (st' := [.inl κ.2.2, .inr (.inr (some 35))]) (by rw [show iv (si (si G 58 k (nN o.1)) 59 k ((nD o.1) + 0)) 35 35 = κ.2.2 from (by simp [iv_si, iv_sr, iv_nw, h35])]) ?_
  refine x_iload (q := 160) dX10_matchAll_158 rfl rfl ?_
  refine x_if_eq (q := 163) (t := 167) dX10_matchAll_160 rfl (by decide) (fun h160 => ?_) (fun h160 => by exfalso; omega)
  refine x_iconst (q := 168) dX10_matchAll_167 rfl (by decide) ?_
  refine x_iadd (q := 169) (z := κ.2.2 + 0) dX10_matchAll_168 rfl (wr_id ⟨by omega, by omega⟩) ?_
  refine x_putI (q := 172) dX10_matchAll_169 rfl f_10_183 rfl (fun h => by cases h) (fun h => by cases h) (ft35 hF) ?_
  have hF := FX_si hF 35 35 (κ.2.2 + 0)
  refine x_aload_n (q := 173) dX10_matchAll_172 rfl rfl ?_
  refine x_iload_n (q := 174) dX10_matchAll_173 rfl rfl ?_
  refine x_iload_n (q := 175) dX10_matchAll_174 rfl rfl ?_
  have kp : ∀ (a : Nat) (j : Int), a ≠ 35 → a ≠ 58 → a ≠ 59 → iv (si (si (si G 58 k (nN o.1)) 59 k ((nD o.1) + 0)) 35 35 (κ.2.2 + 0)) a j = iv G a j := fun a j g1 g2 g3 => by simp only [iv_si]; rw [if_neg (by omega), if_neg (by omega), if_neg (by omega)]
  have kp2 : ∀ (j : Int), j ≠ 35 → iv (si (si (si G 58 k (nN o.1)) 59 k ((nD o.1) + 0)) 35 35 (κ.2.2 + 0)) 35 j = iv G 35 j := fun j g1 => by simp only [iv_si]; rw [if_neg (by omega), if_neg (by omega), if_neg (by omega)]
  refine x_invV (q := 178) (as := [.inr (.inr (some 35)), .inl ko, .inl k]) (rest := []) dX10_matchAll_175 rfl l_10_192 m_X10_matchParts rfl rfl (ft35 hF) (Nat.le_of_ble_eq_true rfl) (c_matchParts (no := no) (nn := nn) _ hF ((kp2 22 (by decide)).trans hco) ((kp2 29 (by decide)).trans hcn) c1 c2 (OR_kept h1 (fun a j g1 g2 => kp a j (by omega) (by omega) (by omega))) (NR_kept h2 (fun a j g1 g2 => kp a j (by omega) (by omega) (by omega))) (fun i i1 i2 => by rw [kp 57 i (by decide) (by decide) (by decide)]; exact h5 i i1 i2)) (fun r1 G1 hR => ?_)
  obtain ⟨rfl, hR⟩ := hR
  refine Ex.stk (st' := []) rfl ?_
  refine x_iinc (q := 181) (ls' := [some (.inr (.inr (some 35))), some (.inl rt), some (.inl (k + 1)), some (.inl ko), some (.inl 0)]) dX10_matchAll_178 rfl rfl (by first | rfl | exact hnl | exact hnl2 _) (by rw [show wr (k + 1) = k + 1 from (wr_id ⟨by omega, by omega⟩)]; rfl) ?_
  refine x_goto (t := 50) dX10_matchAll_181 (by decide) ?_
  exact kk _ _ G1 rfl rfl hR.1 hR.2.1 hR.2.2.1 hR.2.2.2
theorem mall_some1 {dd : Nat} {Q : Option V → Hp → Prop} {G : Hp} {co cn rt k : Int} {h c : Int → Int} {κ : K3} {l3 l4 : Option V} (hl3 : isL l3 = false) (hl4 : isL l4 = false) (hk : MK G co cn h c κ) (c1 : co ≤ 364) (c2 : cn ≤ 364) (hb : 0 ≤ κ.2.2 ∧ κ.2.2 + 1 ≤ 1000000) {ko no nn : Int} {d : Nat} {o t : Tr (d + 1)} {lo lt : List (Tr (d + 1))} (h57 : iv G 57 k = ko) (h1 : OR G co (d + 1) ko no (o :: lo)) (h2 : NR G cn (d + 1) k nn (t :: lt)) (h5 : ∀ i, k < i → i < k + (tsz (d + 1) t : Int) → iv G 57 i = -1) (ha : anewB h c d o t = true) (kk : ∀ l3' l4' G1, isL l3' = false → isL l4' = false → Io (si (si (si G 58 k (nN o.1)) 59 k (nD o.1 + 1)) 35 35 (κ.2.2 + 1)) G1 → (∀ (a : Nat) (j : Int), a ≠ 57 → iv G1 a j = iv (si (si (si G 58 k (nN o.1)) 59 k (nD o.1 + 1)) 35 35 (κ.2.2 + 1)) a j) → (∀ i, (i ≤ k ∨ k + (tsz (d + 1) t : Int) ≤ i) → iv G1 57 i = iv (si (si (si G 58 k (nN o.1)) 59 k (nD o.1 + 1)) 35 35 (κ.2.2 + 1)) 57 i) → MA G1 co (no + 1) d (k + 1) t.2 (asg (ko + 1) o.2 t.2) → Ex (dd + 3) none 10 false cX10_matchAll 50 [some (.inr (.inr (some 35))), some (.inl rt), some (.inl (k + 1)), l3', l4'] [] G1 Q) : Ex (dd + 3) none 10 false cX10_matchAll 50 [some (.inr (.inr (some 35))), some (.inl rt), some (.inl k), l3, l4] [] G Q := by
  obtain ⟨hF, hco, hcn, hh, hc, hD, h33, h34, h35⟩ := hk
  have hnl : noL [some (.inr (.inr (some 35))), some (.inl rt), some (.inl k), l3, l4] = true := by simp [noL, isL]; exact ⟨hl3, hl4⟩
  have hnl2 : ∀ z : Int, noL [some (.inr (.inr (some 35))), some (.inl rt), some (.inl k), some (.inl z), l4] = true := fun z => by simp [noL, isL]; exact hl4
  have hp := tsz_pos (d + 1) o
  have hq := tsz_pos (d + 1) t
  have hr1 := h1.2.2.1
  have hr2 := h2.2.2.1
  rw [tszL_cons] at hr1 hr2
  obtain ⟨⟨⟨-, -, -, -, -, hN, hDo⟩, -⟩, he1, ko0⟩ := OR_head h1
  obtain ⟨-, he2, k0⟩ := NR_head h2
  replace hN : iv G 49 ko = nN o.1 := hN
  replace hDo : iv G 50 ko = nD o.1 := hDo
  have hDb := hD ko ko0 (by omega)
  rw [hDo] at hDb
  refine x_iload_n (q := 51) dX10_matchAll_50 rfl rfl ?_
  refine x_aload_n (q := 52) dX10_matchAll_51 rfl rfl ?_
  refine x_getI (q := 55) dX10_matchAll_52 rfl f_10_118 rfl (ft35 hF) ?_
  refine Ex.stk (st' := [.inl cn, .inl k]) (by rw [show iv G 35 29 = cn from hcn]) ?_
  refine x_icmp_ge (q := 58) (t := 184) dX10_matchAll_55 rfl (by decide) (fun h55 => by exfalso; omega) (fun h55 => ?_)
  refine x_aload_n (q := 59) dX10_matchAll_58 rfl rfl ?_
  refine x_getR (q := 62) dX10_matchAll_59 rfl f_10_77 rfl (ft35 hF) ?_
  refine Ex.stk (st' := [.inr (.inr (some 57))]) (by rw [fr35_30 hF]) ?_
  refine x_iload_n (q := 63) dX10_matchAll_62 rfl rfl ?_
  refine x_iaload (q := 64) dX10_matchAll_63 rfl (Or.inl (ft57 hF)) (by omega) (by rw [fl57 hF]; omega) ?_
  refine Ex.stk (st' := [.inl ko]) (by rw [show iv G 57 k = ko from h57]) ?_
  refine x_istore_n (q := 65) (ls' := [some (.inr (.inr (some 35))), some (.inl rt), some (.inl k), some (.inl ko), l4]) dX10_matchAll_64 rfl (Nat.le_of_ble_eq_true rfl) (by first | rfl | exact hnl | exact hnl2 _) rfl ?_
  refine x_iload_n (q := 66) dX10_matchAll_65 rfl rfl ?_
  refine x_iconst (q := 67) dX10_matchAll_66 rfl (by decide) ?_
  refine x_icmp_ne (q := 70) (t := 110) dX10_matchAll_67 rfl (by decide) (fun h67 => ?_) (fun h67 => by exfalso; omega)
  refine x_aload_n (q := 111) dX10_matchAll_110 rfl rfl ?_
  refine x_iload_n (q := 112) dX10_matchAll_111 rfl rfl ?_
  refine x_iload_n (q := 113) dX10_matchAll_112 rfl rfl ?_
  refine x_invV (q := 116) (as := [.inr (.inr (some 35)), .inl ko, .inl k]) (rest := []) dX10_matchAll_113 rfl l_10_189 m_X10_isDoneAnew rfl rfl (ft35 hF) (Nat.le_of_ble_eq_true rfl) (c_isDoneAnew _ hF hco hcn c1 c2 h1 h2) (fun r1 G1 hR => ?_)
  obtain ⟨hG1, z, rfl, hz1, hz2⟩ := hR
  replace hG1 := hG1.symm
  subst hG1
  rw [hh, hc] at hz2
  have hz : z = 1 := by exact hz2.mpr ha
  subst hz
  refine Ex.stk (st' := [.inl 1]) rfl ?_
  refine x_istore (q := 118) (ls' := [some (.inr (.inr (some 35))), some (.inl rt), some (.inl k), some (.inl ko), some (.inl 1)]) dX10_matchAll_116 rfl (Nat.le_of_ble_eq_true rfl) (by first | rfl | exact hnl | exact hnl2 _) rfl ?_
  refine x_aload_n (q := 119) dX10_matchAll_118 rfl rfl ?_
  refine x_getR (q := 122) dX10_matchAll_119 rfl f_10_80 rfl (ft35 hF) ?_
  refine Ex.stk (st' := [.inr (.inr (some 58))]) (by rw [fr35_31 hF]) ?_
  refine x_iload_n (q := 123) dX10_matchAll_122 rfl rfl ?_
  refine x_aload_n (q := 124) dX10_matchAll_123 rfl rfl ?_
  refine x_getR (q := 127) dX10_matchAll_124 rfl f_10_53 rfl (ft35 hF) ?_
  refine Ex.stk (st' := [.inr (.inr (some 49)), .inl k, .inr (.inr (some 58))]) (by rw [fr35_20 hF]) ?_
  refine x_iload_n (q := 128) dX10_matchAll_127 rfl rfl ?_
  refine x_iaload (q := 129) dX10_matchAll_128 rfl (Or.inl (ft49 hF)) (by omega) (by rw [fl49 hF]; omega) ?_
  refine Ex.stk (st' := [.inl (nN o.1), .inl k, .inr (.inr (some 58))]) (by rw [show iv G 49 ko = nN o.1 from hN]) ?_
  refine x_iastore (q := 130) dX10_matchAll_129 rfl (ft58 hF) (by omega) (by rw [fl58 hF]; omega) ?_
  have hF := FX_si hF 58 k (nN o.1)
  refine x_aload_n (q := 131) dX10_matchAll_130 rfl rfl ?_
  refine x_getR (q := 134) dX10_matchAll_131 rfl f_10_83 rfl (ft35 hF) ?_
  refine Ex.stk (st' := [.inr (.inr (some 59))]) (by rw [fr35_32 hF]) ?_
  refine x_iload_n (q := 135) dX10_matchAll_134 rfl rfl ?_
  refine x_aload_n (q := 136) dX10_matchAll_135 rfl rfl ?_
  refine x_getR (q := 139) dX10_matchAll_136 rfl f_10_56 rfl (ft35 hF) ?_
  refine Ex.stk (st' := [.inr (.inr (some 50)), .inl k, .inr (.inr (some 59))]) (by rw [fr35_21 hF]) ?_
  refine x_iload_n (q := 140) dX10_matchAll_139 rfl rfl ?_
  refine x_iaload (q := 141) dX10_matchAll_140 rfl (Or.inl (ft50 hF)) (by omega) (by rw [fl50 hF]; omega) ?_
  refine Ex.stk (st' := [.inl (nD o.1), .inl k, .inr (.inr (some 59))]) (by rw [show iv (si G 58 k (nN o.1)) 50 ko = nD o.1 from (by simp [iv_si, iv_sr, iv_nw, hDo])]) ?_
  refine x_iload (q := 143) dX10_matchAll_141 rfl rfl ?_
  refine x_if_eq (q := 146) (t := 150) dX10_matchAll_143 rfl (by decide) (fun h143 => by exfalso; omega) (fun h143 => ?_)
  refine x_iconst (q := 147) dX10_matchAll_146 rfl (by decide) ?_
  refine x_goto (t := 151) dX10_matchAll_147 (by decide) ?_
  refine x_iadd (q := 152) (z := (nD o.1) + 1) dX10_matchAll_151 rfl (wr_id ⟨by omega, by omega⟩) ?_
  refine x_iastore (q := 153) dX10_matchAll_152 rfl (ft59 hF) (by omega) (by rw [fl59 hF]; omega) ?_
  have hF := FX_si hF 59 k ((nD o.1) + 1)
  refine x_aload_n (q := 154) dX10_matchAll_153 rfl rfl ?_
  refine x_dup (q := 155) dX10_matchAll_154 rfl rfl ?_
  refine x_getI (q := 158) dX10_matchAll_155 rfl f_10_183 rfl (ft35 hF) ?_
  refine Ex.stk (st' := [.inl κ.2.2, .inr (.inr (some 35))]) (by rw [show iv (si (si G 58 k (nN o.1)) 59 k ((nD o.1) + 1)) 35 35 = κ.2.2 from (by simp [iv_si, iv_sr, iv_nw, h35])]) ?_
  refine x_iload (q := 160) dX10_matchAll_158 rfl rfl ?_
  refine x_if_eq (q := 163) (t := 167) dX10_matchAll_160 rfl (by decide) (fun h160 => by exfalso; omega) (fun h160 => ?_)
  refine x_iconst (q := 164) dX10_matchAll_163 rfl (by decide) ?_
  refine x_goto (t := 168) dX10_matchAll_164 (by decide) ?_
  refine x_iadd (q := 169) (z := κ.2.2 + 1) dX10_matchAll_168 rfl (wr_id ⟨by omega, by omega⟩) ?_
  refine x_putI (q := 172) dX10_matchAll_169 rfl f_10_183 rfl (fun h => by cases h) (fun h => by cases h) (ft35 hF) ?_
  have hF := FX_si hF 35 35 (κ.2.2 + 1)
  refine x_aload_n (q := 173) dX10_matchAll_172 rfl rfl ?_
  refine x_iload_n (q := 174) dX10_matchAll_173 rfl rfl ?_
  refine x_iload_n (q := 175) dX10_matchAll_174 rfl rfl ?_
  have kp : ∀ (a : Nat) (j : Int), a ≠ 35 → a ≠ 58 → a ≠ 59 → iv (si (si (si G 58 k (nN o.1)) 59 k ((nD o.1) + 1)) 35 35 (κ.2.2 + 1)) a j = iv G a j := fun a j g1 g2 g3 => by simp only [iv_si]; rw [if_neg (by omega), if_neg (by omega), if_neg (by omega)]
  have kp2 : ∀ (j : Int), j ≠ 35 → iv (si (si (si G 58 k (nN o.1)) 59 k ((nD o.1) + 1)) 35 35 (κ.2.2 + 1)) 35 j = iv G 35 j := fun j g1 => by simp only [iv_si]; rw [if_neg (by omega), if_neg (by omega), if_neg (by omega)]
  refine x_invV (q := 178) (as := [.inr (.inr (some 35)), .inl ko, .inl k]) (rest := []) dX10_matchAll_175 rfl l_10_192 m_X10_matchParts rfl rfl (ft35 hF) (Nat.le_of_ble_eq_true rfl) (c_matchParts (no := no) (nn := nn) _ hF ((kp2 22 (by decide)).trans hco) ((kp2 29 (by decide)).trans hcn) c1 c2 (OR_kept h1 (fun a j g1 g2 => kp a j (by omega) (by omega) (by omega))) (NR_kept h2 (fun a j g1 g2 => kp a j (by omega) (by omega) (by omega))) (fun i i1 i2 => by rw [kp 57 i (by decide) (by decide) (by decide)]; exact h5 i i1 i2)) (fun r1 G1 hR => ?_)
  obtain ⟨rfl, hR⟩ := hR
  refine Ex.stk (st' := []) rfl ?_
  refine x_iinc (q := 181) (ls' := [some (.inr (.inr (some 35))), some (.inl rt), some (.inl (k + 1)), some (.inl ko), some (.inl 1)]) dX10_matchAll_178 rfl rfl (by first | rfl | exact hnl | exact hnl2 _) (by rw [show wr (k + 1) = k + 1 from (wr_id ⟨by omega, by omega⟩)]; rfl) ?_
  refine x_goto (t := 50) dX10_matchAll_181 (by decide) ?_
  exact kk _ _ G1 rfl rfl hR.1 hR.2.1 hR.2.2.1 hR.2.2.2
theorem upT_none_eq (h c : Int → Int) (d : Nat) (t : Tr (d + 1)) (κ : K3) (j : Int) : upT h c (d + 1) none t κ = (mkN d (0, nF t.1, nX t.1, nV t.1, nM t.1, κ.1, 1) (upA (upT h c d) (asg j [] t.2) t.2 (κ.1 + 1, κ.2.1 + 1, κ.2.2)).1, (upA (upT h c d) (asg j [] t.2) t.2 (κ.1 + 1, κ.2.1 + 1, κ.2.2)).2) := by
  rw [← upL_asg]; rfl
theorem upT_some_eq (h c : Int → Int) (d : Nat) (o t : Tr (d + 1)) (κ : K3) (j b : Int) (hb : b = (if anewB h c d o t = true then 1 else 0)) : upT h c (d + 1) (some o) t κ = (mkN d (0, nF t.1, nX t.1, nV t.1, nM t.1, nN o.1, nD o.1 + b) (upA (upT h c d) (asg j o.2 t.2) t.2 (κ.1, κ.2.1, κ.2.2 + b)).1, (upA (upT h c d) (asg j o.2 t.2) t.2 (κ.1, κ.2.1, κ.2.2 + b)).2) := by
  rw [← upL_asg, hb]; rfl
theorem upA_cnt (h c : Int → Int) (d : Nat) : ∀ (as : List (Option (Int × Tr d))) (l : List (Tr d)) (κ : K3), as.length = l.length → tszL d (upA (upT h c d) as l κ).1 = tszL d l ∧ κ.1 ≤ (upA (upT h c d) as l κ).2.1 ∧ (upA (upT h c d) as l κ).2.1 ≤ κ.1 + (tszL d l : Int) ∧ κ.2.1 ≤ (upA (upT h c d) as l κ).2.2.1 ∧ (upA (upT h c d) as l κ).2.2.1 ≤ κ.2.1 + (tszL d l : Int) ∧ κ.2.2 ≤ (upA (upT h c d) as l κ).2.2.2 ∧ (upA (upT h c d) as l κ).2.2.2 ≤ κ.2.2 + (tszL d l : Int) := by
  intro as
  induction as with
  | nil => intro l κ hl; cases l with
    | nil => simp [upA, tszL]
    | cons t l => simp at hl
  | cons a as ih =>
    intro l κ hl
    cases l with
    | nil => simp at hl
    | cons t l =>
      simp only [upA]
      have h1 := upT_cnt h c d (a.map (fun q => q.2)) t κ
      have h2 := ih l (upT h c d (a.map (fun q => q.2)) t κ).2 (by simpa using hl)
      rw [tszL_cons, tszL_cons]
      omega
theorem MA_len {G : Hp} {co no : Int} {d : Nat} : ∀ (l : List (Tr d)) (k : Int) (as : List (Option (Int × Tr d))), MA G co no d k l as → as.length = l.length := by
  intro l
  induction l with
  | nil => intro k as h; cases as with
    | nil => rfl
    | cons a as => exact h.elim
  | cons t l ih => intro k as h; cases as with
    | nil => exact h.elim
    | cons a as => simp [ih _ _ h.2.2]
set_option maxHeartbeats 1000000 in
theorem mall_loop {dd : Nat} {Q : Option V → Hp → Prop} {co cn rt : Int} {h c : Int → Int} (c1 : co ≤ 364) (c2 : cn ≤ 364) : ∀ (d : Nat) (l : List (Tr d)) (as : List (Option (Int × Tr d))) (k no nn : Int) (G : Hp) (l3 l4 : Option V) (κ : K3), isL l3 = false → isL l4 = false → MK G co cn h c κ → NR G cn d k nn l → MA G co no d k l as → (0 ≤ κ.1 ∧ κ.1 + (tszL d l : Int) ≤ 1000000 ∧ 0 ≤ κ.2.1 ∧ κ.2.1 + (tszL d l : Int) ≤ 1000000 ∧ 0 ≤ κ.2.2 ∧ κ.2.2 + (tszL d l : Int) ≤ 1000000) → (∀ G' l3' l4', isL l3' = false → isL l4' = false → Mt G G' → (∀ (a : Nat) (i : Int), 57 ≤ a → a ≤ 59 → (i < k ∨ k + (tszL d l : Int) ≤ i) → iv G' a i = iv G a i) → MK G' co cn h c (upA (upT h c d) as l κ).2 → nAt G' k ((upA (upT h c d) as l κ).1.flatMap (flat d nn)) → Ex (dd + 3) none 10 false cX10_matchAll 50 [some (.inr (.inr (some 35))), some (.inl rt), some (.inl (k + (tszL d l : Int))), l3', l4'] [] G' Q) → Ex (dd + 3) none 10 false cX10_matchAll 50 [some (.inr (.inr (some 35))), some (.inl rt), some (.inl k), l3, l4] [] G Q := by
  intro d
  induction d with
  | zero =>
    intro l as k no nn G l3 l4 κ hl3 hl4 hk hN hM hb kk
    cases l with
    | cons t l => exact t.elim
    | nil =>
      cases as with
      | cons a as => exact hM.elim
      | nil =>
        have := kk G l3 l4 hl3 hl4 ⟨Io.rf G, fun _ _ _ _ _ _ => rfl, fun _ _ _ _ => rfl⟩ (fun _ _ _ _ _ => rfl) hk trivial
        rw [show k + ((tszL 0 ([] : List (Tr 0)) : Nat) : Int) = k from by simp [tszL]] at this
        exact this
  | succ d ih =>
    intro l
    induction l with
    | nil =>
      intro as k no nn G l3 l4 κ hl3 hl4 hk hN hM hb kk
      cases as with
      | cons a as => exact hM.elim
      | nil =>
        have := kk G l3 l4 hl3 hl4 ⟨Io.rf G, fun _ _ _ _ _ _ => rfl, fun _ _ _ _ => rfl⟩ (fun _ _ _ _ _ => rfl) hk trivial
        rw [show k + ((tszL (d + 1) ([] : List (Tr (d + 1))) : Nat) : Int) = k from by simp [tszL]] at this
        exact this
    | cons t l ihl =>
      intro as k no nn G l3 l4 κ hl3 hl4 hk hN hM hb kk
      cases as with
      | nil => exact hM.elim
      | cons a as =>
        have hq := tsz_pos (d + 1) t
        have hr2 := hN.2.2.1
        have hlen := MA_len _ _ _ hM
        have hlen2 : as.length = l.length := by simpa using hlen
        rw [tszL_cons] at hr2 hb kk
        have hz := tsz_eq t
        obtain ⟨-, -, k0⟩ := NR_head hN
        obtain ⟨hMa, hMi, hMl⟩ := hM
        have hkk : MK G co cn h c κ := hk
        -- the rest, once the call and its parts are done
        have rest : ∀ (Gn : Hp) (n0 : Nd) (κ0 : K3) (no' j : Int) (rem : List (Tr d)), Mt G Gn → (∀ (a : Nat) (i : Int), 57 ≤ a → a ≤ 59 → (i < k ∨ k + (tsz (d + 1) t : Int) ≤ i) → iv Gn a i = iv G a i) → MK Gn co cn h c κ0 → MA Gn co no' d (k + 1) t.2 (asg j rem t.2) → nAt Gn k [(n0, nn)] → 0 ≤ κ0.1 → κ0.1 ≤ κ.1 + 1 → 0 ≤ κ0.2.1 → κ0.2.1 ≤ κ.2.1 + 1 → 0 ≤ κ0.2.2 → κ0.2.2 ≤ κ.2.2 + 1 → upT h c (d + 1) (a.map (fun q => q.2)) t κ = (mkN d n0 (upA (upT h c d) (asg j rem t.2) t.2 κ0).1, (upA (upT h c d) (asg j rem t.2) t.2 κ0).2) → ∀ l3' l4', isL l3' = false → isL l4' = false → Ex (dd + 3) none 10 false cX10_matchAll 50 [some (.inr (.inr (some 35))), some (.inl rt), some (.inl (k + 1)), l3', l4'] [] Gn Q := by
          intro Gn n0 κ0 no' j rem r1 r2 r3 r4 r5 b1 b2 b3 b4 b5 b6 hup l3' l4' q3 q4
          have hNn : NR Gn cn (d + 1) k nn (t :: l) := NR_kept hN (fun a j g1 g2 => r1.2.1 a j (by omega) (by omega) (by omega) (by omega))
          refine ih t.2 _ (k + 1) no' (nn + 1) Gn l3' l4' κ0 q3 q4 r3 (NR_parts hNn) r4 (by omega) (fun Gp m3 m4 u3 u4 p1 p2 p3 p4 => ?_)
          have hcnt := upT_cnt h c (d + 1) (a.map (fun q => q.2)) t κ
          have hszp : tszL d (upA (upT h c d) (asg j rem t.2) t.2 κ0).1 = tszL d t.2 := (upA_cnt h c d _ t.2 κ0 (MA_len _ _ _ r4)).1
          rw [show k + 1 + (tszL d t.2 : Int) = k + (tsz (d + 1) t : Int) from by omega] at p2 ⊢
          have hMG : Mt G Gp := r1.trans p1
          have ho : ∀ (a : Nat) (i : Int), 57 ≤ a → a ≤ 59 → (i < k ∨ k + (tsz (d + 1) t : Int) ≤ i) → iv Gp a i = iv G a i := fun a i g1 g2 g3 => (p2 a i g1 g2 (by omega)).trans (r2 a i g1 g2 g3)
          have hp3 : MK Gp co cn h c (upT h c (d + 1) (a.map (fun q => q.2)) t κ).2 := by rw [hup]; exact p3
          refine ihl as (k + (tsz (d + 1) t : Int)) no nn Gp m3 m4 (upT h c (d + 1) (a.map (fun q => q.2)) t κ).2 u3 u4 hp3 (NR_kept (NR_tail hN) (fun a j g1 g2 => hMG.2.1 a j (by omega) (by omega) (by omega) (by omega))) (MA_kept l _ as hMl (fun i i1 i2 => ho 57 i (by decide) (by decide) (by omega)) (fun a j g1 g2 => hMG.2.1 a j (by omega) (by omega) (by omega) (by omega))) (by omega) (fun Gz z3 z4 w3 w4 y1 y2 y3 y4 => ?_)
          have := kk Gz z3 z4 w3 w4 (hMG.trans y1) (fun a i g1 g2 g3 => (y2 a i g1 g2 (by omega)).trans (ho a i g1 g2 (by omega))) y3 (by
            simp only [upA, List.flatMap_cons]
            rw [nAt_app, flat_len, hcnt.1]
            refine ⟨nAt_kept (G := Gp) _ _ ?_ (fun a i g1 g2 g3 g4 => y2 a i (by omega) g2 (by rw [flat_len, hcnt.1] at g4; omega)), y4⟩
            rw [hup]
            refine ⟨?_, p4⟩
            rw [p2 58 k (by decide) (by decide) (by omega), p2 59 k (by decide) (by decide) (by omega)]
            exact r5.1)
          rw [show k + ((tsz (d + 1) t + tszL (d + 1) l : Nat) : Int) = k + (tsz (d + 1) t : Int) + (tszL (d + 1) l : Int) from by omega] at this
          exact this
        cases a with
        | none =>
          refine mall_none hl3 hl4 hk k0 (by omega) c2 (by omega) hMa (fun m3 hm3 => ?_)
          have kp : ∀ (a : Nat) (j : Int), a ≠ 35 → a ≠ 58 → a ≠ 59 → iv (si (si (si (si G 58 k κ.1) 59 k 1) 35 33 (κ.1 + 1)) 35 34 (κ.2.1 + 1)) a j = iv G a j := fun a j g1 g2 g3 => by simp only [iv_si]; rw [if_neg (by omega), if_neg (by omega), if_neg (by omega), if_neg (by omega)]
          have kp2 : ∀ (j : Int), j ≠ 33 → j ≠ 34 → iv (si (si (si (si G 58 k κ.1) 59 k 1) 35 33 (κ.1 + 1)) 35 34 (κ.2.1 + 1)) 35 j = iv G 35 j := fun j g1 g2 => by simp only [iv_si]; rw [if_neg (by omega), if_neg (by omega), if_neg (by omega), if_neg (by omega)]
          have kp3 : ∀ (a : Nat) (j : Int), 57 ≤ a → a ≤ 59 → j ≠ k → iv (si (si (si (si G 58 k κ.1) 59 k 1) 35 33 (κ.1 + 1)) 35 34 (κ.2.1 + 1)) a j = iv G a j := fun a j g1 g2 g3 => by simp only [iv_si]; rw [if_neg (by omega), if_neg (by omega), if_neg (by omega), if_neg (by omega)]
          have hmt : Mt G (si (si (si (si G 58 k κ.1) 59 k 1) 35 33 (κ.1 + 1)) 35 34 (κ.2.1 + 1)) := ⟨Io.rf G, fun a j g1 g2 g3 g4 => kp a j g1 g3 g4, fun j g1 g2 g3 => kp2 j g1 g2⟩
          have h35 := hk.2.2.2.2.2.2.2.2
          refine rest _ (0, nF t.1, nX t.1, nV t.1, nM t.1, κ.1, 1) (κ.1 + 1, κ.2.1 + 1, κ.2.2) 0 0 [] hmt (fun a i g1 g2 g3 => kp3 a i g1 g2 (by omega)) (MK_Mt hkk hmt (by simp [iv_si]) (by simp [iv_si]) ((kp2 35 (by decide) (by decide)).trans h35)) (MA_none _ _ _ (fun i i1 i2 => ?_)) ⟨⟨?_, ?_⟩, trivial⟩ (by dsimp only; omega) (by dsimp only; omega) (by dsimp only; omega) (by dsimp only; omega) (by dsimp only; omega) (by dsimp only; omega) (upT_none_eq h c d t κ 0) m3 l4 hm3 hl4
          · rw [kp3 57 i (by decide) (by decide) (by omega)]; exact hMi i (by omega) (by omega)
          · simp [iv_si, nN]
          · simp [iv_si, nD]
        | some q =>
          obtain ⟨ko, o⟩ := q
          obtain ⟨hM1, lo, hOo⟩ := hMa
          cases ha : anewB h c d o t with
          | false =>
            refine mall_some0 hl3 hl4 hk c1 c2 (by omega) hM1 hOo hN hMi ha (fun m3 m4 G1 hm3 hm4 i1 i2 i3 i4 => ?_)
            have kp : ∀ (a : Nat) (j : Int), a ≠ 35 → a ≠ 58 → a ≠ 59 → iv (si (si (si G 58 k (nN o.1)) 59 k (nD o.1 + 0)) 35 35 (κ.2.2 + 0)) a j = iv G a j := fun a j g1 g2 g3 => by simp only [iv_si]; rw [if_neg (by omega), if_neg (by omega), if_neg (by omega)]
            have kp2 : ∀ (j : Int), j ≠ 35 → iv (si (si (si G 58 k (nN o.1)) 59 k (nD o.1 + 0)) 35 35 (κ.2.2 + 0)) 35 j = iv G 35 j := fun j g1 => by simp only [iv_si]; rw [if_neg (by omega), if_neg (by omega), if_neg (by omega)]
            have kp3 : ∀ (a : Nat) (j : Int), 57 ≤ a → a ≤ 59 → j ≠ k → iv (si (si (si G 58 k (nN o.1)) 59 k (nD o.1 + 0)) 35 35 (κ.2.2 + 0)) a j = iv G a j := fun a j g1 g2 g3 => by simp only [iv_si]; rw [if_neg (by omega), if_neg (by omega), if_neg (by omega)]
            have hmt : Mt G G1 := ⟨i1, fun a j g1 g2 g3 g4 => (i2 a j g2).trans (kp a j g1 g3 g4), fun j g1 g2 g3 => (i2 35 j (by decide)).trans (kp2 j g3)⟩
            have h33 := hk.2.2.2.2.2.2.1
            have h34 := hk.2.2.2.2.2.2.2.1
            refine rest G1 (0, nF t.1, nX t.1, nV t.1, nM t.1, nN o.1, nD o.1 + 0) (κ.1, κ.2.1, κ.2.2 + 0) (no + 1) (ko + 1) o.2 hmt (fun a i g1 g2 g3 => ?_) (MK_Mt hkk hmt ?_ ?_ ?_) i4 ⟨⟨?_, ?_⟩, trivial⟩ (by dsimp only; omega) (by dsimp only; omega) (by dsimp only; omega) (by dsimp only; omega) (by dsimp only; omega) (by dsimp only; omega) (upT_some_eq h c d o t κ (ko + 1) 0 (by rw [ha]; rfl)) m3 m4 hm3 hm4
            · by_cases h57 : a = 57
              · subst h57; rw [i3 i (by omega)]; exact kp3 57 i g1 g2 (by omega)
              · rw [i2 a i h57]; exact kp3 a i g1 g2 (by omega)
            · rw [i2 35 33 (by decide), kp2 33 (by decide)]; exact h33
            · rw [i2 35 34 (by decide), kp2 34 (by decide)]; exact h34
            · rw [i2 35 35 (by decide)]; simp [iv_si]
            · rw [i2 58 k (by decide)]; simp [iv_si, nN]
            · rw [i2 59 k (by decide)]; simp [iv_si, nD]
          | true =>
            refine mall_some1 hl3 hl4 hk c1 c2 (by omega) hM1 hOo hN hMi ha (fun m3 m4 G1 hm3 hm4 i1 i2 i3 i4 => ?_)
            have kp : ∀ (a : Nat) (j : Int), a ≠ 35 → a ≠ 58 → a ≠ 59 → iv (si (si (si G 58 k (nN o.1)) 59 k (nD o.1 + 1)) 35 35 (κ.2.2 + 1)) a j = iv G a j := fun a j g1 g2 g3 => by simp only [iv_si]; rw [if_neg (by omega), if_neg (by omega), if_neg (by omega)]
            have kp2 : ∀ (j : Int), j ≠ 35 → iv (si (si (si G 58 k (nN o.1)) 59 k (nD o.1 + 1)) 35 35 (κ.2.2 + 1)) 35 j = iv G 35 j := fun j g1 => by simp only [iv_si]; rw [if_neg (by omega), if_neg (by omega), if_neg (by omega)]
            have kp3 : ∀ (a : Nat) (j : Int), 57 ≤ a → a ≤ 59 → j ≠ k → iv (si (si (si G 58 k (nN o.1)) 59 k (nD o.1 + 1)) 35 35 (κ.2.2 + 1)) a j = iv G a j := fun a j g1 g2 g3 => by simp only [iv_si]; rw [if_neg (by omega), if_neg (by omega), if_neg (by omega)]
            have hmt : Mt G G1 := ⟨i1, fun a j g1 g2 g3 g4 => (i2 a j g2).trans (kp a j g1 g3 g4), fun j g1 g2 g3 => (i2 35 j (by decide)).trans (kp2 j g3)⟩
            have h33 := hk.2.2.2.2.2.2.1
            have h34 := hk.2.2.2.2.2.2.2.1
            refine rest G1 (0, nF t.1, nX t.1, nV t.1, nM t.1, nN o.1, nD o.1 + 1) (κ.1, κ.2.1, κ.2.2 + 1) (no + 1) (ko + 1) o.2 hmt (fun a i g1 g2 g3 => ?_) (MK_Mt hkk hmt ?_ ?_ ?_) i4 ⟨⟨?_, ?_⟩, trivial⟩ (by dsimp only; omega) (by dsimp only; omega) (by dsimp only; omega) (by dsimp only; omega) (by dsimp only; omega) (by dsimp only; omega) (upT_some_eq h c d o t κ (ko + 1) 1 (by rw [ha]; rfl)) m3 m4 hm3 hm4
            · by_cases h57 : a = 57
              · subst h57; rw [i3 i (by omega)]; exact kp3 57 i g1 g2 (by omega)
              · rw [i2 a i h57]; exact kp3 a i g1 g2 (by omega)
            · rw [i2 35 33 (by decide), kp2 33 (by decide)]; exact h33
            · rw [i2 35 34 (by decide), kp2 34 (by decide)]; exact h34
            · rw [i2 35 35 (by decide)]; simp [iv_si]
            · rw [i2 58 k (by decide)]; simp [iv_si, nN]
            · rw [i2 59 k (by decide)]; simp [iv_si, nD]
