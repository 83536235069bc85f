/-! THE MODEL: matching -/
/-- calls that are there, laid from k on -/
def oAt (G : Hp) : Int → List (Nd × Int) → Prop
  | _, [] => True
  | k, e :: l => (iv G 44 k = nF e.1 ∧ iv G 45 k = nX e.1 ∧ iv G 46 k = nV e.1 ∧ iv G 47 k = e.2 ∧ iv G 48 k = nM e.1 ∧ iv G 49 k = nN e.1 ∧ iv G 50 k = nD e.1) ∧ oAt G (k + 1) l
theorem oAt_app {G : Hp} : ∀ (l1 l2 : List (Nd × Int)) (k : Int), oAt G k (l1 ++ l2) ↔ oAt G k l1 ∧ oAt G (k + (l1.length : Int)) l2 := by
  intro l1
  induction l1 with
  | nil => intro l2 k; simp [oAt]
  | cons e l ih =>
    intro l2 k
    simp only [List.cons_append, oAt, ih, List.length_cons]
    rw [show k + 1 + (l.length : Int) = k + ((l.length + 1 : Nat) : Int) from by omega]
    constructor
    · rintro ⟨h1, h2, h3⟩; exact ⟨⟨h1, h2⟩, h3⟩
    · rintro ⟨⟨h1, h2⟩, h3⟩; exact ⟨h1, h2, h3⟩
theorem oAt_kept {G G' : Hp} : ∀ (l : List (Nd × Int)) (k : Int), oAt G k l → (∀ (a : Nat) (j : Int), 44 ≤ a → a ≤ 50 → k ≤ j → j < k + (l.length : Int) → iv G' a j = iv G a j) → oAt G' k l := by
  intro l
  induction l with
  | nil => intro k _ _; trivial
  | cons e l ih =>
    intro k h hk
    obtain ⟨⟨h1, h2, h3, h4, h5, h7, h8⟩, h6⟩ := h
    rw [List.length_cons] at hk
    refine ⟨⟨?_, ?_, ?_, ?_, ?_, ?_, ?_⟩, ih (k + 1) h6 (fun a j g1 g2 g3 g4 => hk a j g1 g2 (by omega) (by omega))⟩
    · rw [hk 44 k (by decide) (by decide) (by omega) (by omega)]; exact h1
    · rw [hk 45 k (by decide) (by decide) (by omega) (by omega)]; exact h2
    · rw [hk 46 k (by decide) (by decide) (by omega) (by omega)]; exact h3
    · rw [hk 47 k (by decide) (by decide) (by omega) (by omega)]; exact h4
    · rw [hk 48 k (by decide) (by decide) (by omega) (by omega)]; exact h5
    · rw [hk 49 k (by decide) (by decide) (by omega) (by omega)]; exact h7
    · rw [hk 50 k (by decide) (by decide) (by omega) (by omega)]; exact h8
theorem oAt_get {G : Hp} : ∀ (l : List (Nd × Int)) (k : Int), oAt G k l → ∀ (i : Nat) (e : Nd × Int), l[i]? = some e → oAt G (k + (i : Int)) [e] := by
  intro l
  induction l with
  | nil => intro k _ i e he; cases he
  | cons a l ih =>
    intro k h i e he
    cases i with
    | zero => cases he; exact ⟨by simpa using h.1, trivial⟩
    | succ i => rw [show k + ((i + 1 : Nat) : Int) = k + 1 + (i : Int) from by omega]; exact ih (k + 1) h.2 i e he
theorem fAt_get {G : Hp} : ∀ (l : List (Nd × Int)) (k : Int), fAt G k l → ∀ (i : Nat) (e : Nd × Int), l[i]? = some e → fAt G (k + (i : Int)) [e] := by
  intro l
  induction l with
  | nil => intro k _ i e he; cases he
  | cons a l ih =>
    intro k h i e he
    cases i with
    | zero => cases he; exact ⟨by simpa using h.1, trivial⟩
    | succ i => rw [show k + ((i + 1 : Nat) : Int) = k + 1 + (i : Int) from by omega]; exact ih (k + 1) h.2 i e he
/-- a row of old trees at k, a row of new trees at k -/
def OR (G : Hp) (co : Int) (d : Nat) (k ns : Int) (l : List (Tr d)) : Prop := oAt G k (l.flatMap (flat d ns)) ∧ FOR (iv G 47) co k d ns l
def NR (G : Hp) (cn : Int) (d : Nat) (k ns : Int) (l : List (Tr d)) : Prop := fAt G k (l.flatMap (flat d ns)) ∧ FOR (iv G 55) cn k d ns l
theorem OR_root {G : Hp} {d : Nat} {t : Tr d} {co : Int} (h : oAt G 0 (flat d 1 t)) (hc : co = (tsz d t : Int)) : OR G co d 0 1 [t] := by
  refine ⟨by simpa using h, fun i e he => ?_, ?_, Or.inl ?_, by decide⟩
  · have := oAt_get _ _ h i e (by simpa using he)
    exact this.1.2.2.2.1
  · rw [tszL_cons]; show (0 : Int) + ((tsz d t + 0 : Nat) : Int) ≤ co; omega
  · rw [tszL_cons]; show (0 : Int) + ((tsz d t + 0 : Nat) : Int) = co; omega
theorem NR_root {G : Hp} {d : Nat} {t : Tr d} {co : Int} (h : fAt G 0 (flat d 1 t)) (hc : co = (tsz d t : Int)) : NR G co d 0 1 [t] := by
  refine ⟨by simpa using h, fun i e he => ?_, ?_, Or.inl ?_, by decide⟩
  · have := fAt_get _ _ h i e (by simpa using he)
    exact this.1.2.2.2.1
  · rw [tszL_cons]; show (0 : Int) + ((tsz d t + 0 : Nat) : Int) ≤ co; omega
  · rw [tszL_cons]; show (0 : Int) + ((tsz d t + 0 : Nat) : Int) = co; omega
theorem OR_tail {G : Hp} {co k ns : Int} {d : Nat} {t : Tr d} {l : List (Tr d)} (h : OR G co d k ns (t :: l)) : OR G co d (k + (tsz d t : Int)) ns l := by
  refine ⟨?_, FOR_tail h.2⟩
  have := h.1
  rw [List.flatMap_cons, oAt_app, flat_len] at this
  exact this.2
theorem NR_tail {G : Hp} {co k ns : Int} {d : Nat} {t : Tr d} {l : List (Tr d)} (h : NR G co d k ns (t :: l)) : NR G co d (k + (tsz d t : Int)) ns l := by
  refine ⟨?_, FOR_tail h.2⟩
  have := h.1
  rw [List.flatMap_cons, fAt_app, flat_len] at this
  exact this.2
theorem OR_parts {G : Hp} {co k ns : Int} {d : Nat} {t : Tr (d + 1)} {l : List (Tr (d + 1))} (h : OR G co (d + 1) k ns (t :: l)) : OR G co d (k + 1) (ns + 1) t.2 := by
  refine ⟨?_, FOR_parts h.2⟩
  have := h.1
  rw [List.flatMap_cons, oAt_app] at this
  exact this.1.2
theorem NR_parts {G : Hp} {co k ns : Int} {d : Nat} {t : Tr (d + 1)} {l : List (Tr (d + 1))} (h : NR G co (d + 1) k ns (t :: l)) : NR G co d (k + 1) (ns + 1) t.2 := by
  refine ⟨?_, FOR_parts h.2⟩
  have := h.1
  rw [List.flatMap_cons, fAt_app] at this
  exact this.1.2
theorem OR_head {G : Hp} {co k ns : Int} {d : Nat} {t : Tr d} {l : List (Tr d)} (h : OR G co d k ns (t :: l)) : oAt G k [(rt d t, ns)] ∧ endp (iv G 47) co k (k + (tsz d t : Int)) ∧ 0 ≤ k := by
  refine ⟨?_, (FOR_head h.2).2, h.2.2.2.2⟩
  have := h.1
  rw [List.flatMap_cons, oAt_app] at this
  have := oAt_get _ _ this.1 0 _ (flat_zero d ns t)
  simpa using this
theorem NR_head {G : Hp} {co k ns : Int} {d : Nat} {t : Tr d} {l : List (Tr d)} (h : NR G co d k ns (t :: l)) : fAt G k [(rt d t, ns)] ∧ endp (iv G 55) co k (k + (tsz d t : Int)) ∧ 0 ≤ k := by
  refine ⟨?_, (FOR_head h.2).2, h.2.2.2.2⟩
  have := h.1
  rw [List.flatMap_cons, fAt_app] at this
  have := fAt_get _ _ this.1 0 _ (flat_zero d ns t)
  simpa using this
theorem OR_kept {G G' : Hp} {co k ns : Int} {d : Nat} {l : List (Tr d)} (h : OR G co d k ns l) (hk : ∀ (a : Nat) (j : Int), 44 ≤ a → a ≤ 50 → iv G' a j = iv G a j) : OR G' co d k ns l := by
  refine ⟨oAt_kept _ _ h.1 (fun a j g1 g2 _ _ => hk a j g1 g2), ?_⟩
  rw [show iv G' 47 = iv G 47 from funext (fun j => hk 47 j (by decide) (by decide))]; exact h.2
theorem NR_kept {G G' : Hp} {co k ns : Int} {d : Nat} {l : List (Tr d)} (h : NR G co d k ns l) (hk : ∀ (a : Nat) (j : Int), 52 ≤ a → a ≤ 56 → iv G' a j = iv G a j) : NR G' co d k ns l := by
  refine ⟨fAt_kept _ _ h.1 (fun a j g1 g2 _ _ => hk a j g1 g2), ?_⟩
  rw [show iv G' 55 = iv G 55 from funext (fun j => hk 55 j (by decide) (by decide))]; exact h.2
theorem dan_loop {dd : Nat} {G : Hp} {Q : Option V → Hp → Prop} (hF : FM G) {co cn : Int} (hco : iv G 35 22 = co) (hcn : iv G 35 29 = cn) (c1 : co ≤ 364) (c2 : cn ≤ 364) {ko kn eo en no nn : Int} {d : Nat} : ∀ (po pn : List (Tr d)) (i j : Int), OR G co d i no po → NR G cn d j nn pn → i + (tszL d po : Int) = eo → j + (tszL d pn : Int) = en → (∀ z : Int, (z = 0 ∨ z = 1) → (z = 1 ↔ difL d po pn = true) → Q (some (.inl z)) G) → Ex (dd + 1) (some .boolean) 10 false cX10_isDoneAnew 47 [some (.inr (.inr (some 35))), some (.inl ko), some (.inl kn), some (.inl eo), some (.inl en), some (.inl i), some (.inl j)] [] G Q := by
  intro po
  induction po with
  | nil =>
    intro pn i j h1 h2 h3 h4 kk
    have e0 : tszL d ([] : List (Tr d)) = 0 := rfl
    rw [e0] at h3
    refine x_iload (q := 49) dX10_isDoneAnew_47 rfl rfl ?_
    refine x_iload_n (q := 50) dX10_isDoneAnew_49 rfl rfl ?_
    refine x_icmp_ge (q := 53) (t := 112) dX10_isDoneAnew_50 rfl (by decide) (fun h50 => ?_) (fun h50 => by exfalso; omega)
    refine x_iconst (q := 113) dX10_isDoneAnew_112 rfl (by decide) ?_
    refine x_zret dX10_isDoneAnew_113 rfl (by decide) ?_
    exact kk 0 (Or.inl rfl) ⟨fun h => by omega, fun h => by simp [difL] at h⟩
  | cons p ps ih =>
    intro pn
    cases pn with
    | nil =>
      intro i j h1 h2 h3 h4 kk
      have e0 : tszL d ([] : List (Tr d)) = 0 := rfl
      rw [e0] at h4
      have hp := tsz_pos d p
      rw [tszL_cons] at h3
      refine x_iload (q := 49) dX10_isDoneAnew_47 rfl rfl ?_
      refine x_iload_n (q := 50) dX10_isDoneAnew_49 rfl rfl ?_
      refine x_icmp_ge (q := 53) (t := 112) dX10_isDoneAnew_50 rfl (by decide) (fun h50 => by exfalso; omega) (fun h50 => ?_)
      refine x_iload (q := 55) dX10_isDoneAnew_53 rfl rfl ?_
      refine x_iload (q := 57) dX10_isDoneAnew_55 rfl rfl ?_
      refine x_icmp_ge (q := 60) (t := 112) dX10_isDoneAnew_57 rfl (by decide) (fun h57 => ?_) (fun h57 => by exfalso; omega)
      refine x_iconst (q := 113) dX10_isDoneAnew_112 rfl (by decide) ?_
      refine x_zret dX10_isDoneAnew_113 rfl (by decide) ?_
      exact kk 0 (Or.inl rfl) ⟨fun h => by omega, fun h => by simp [difL] at h⟩
    | cons q qs =>
      intro i j h1 h2 h3 h4 kk
      have hp := tsz_pos d p
      have hq := tsz_pos d q
      have hr1 := h1.2.2.1
      have hr2 := h2.2.2.1
      rw [tszL_cons] at h3 h4 hr1 hr2
      obtain ⟨⟨⟨-, -, hv1, -⟩, -⟩, he1, i0⟩ := OR_head h1
      obtain ⟨⟨⟨-, -, hv2, -⟩, -⟩, he2, j0⟩ := NR_head h2
      dsimp only at hv1 hv2
      refine x_iload (q := 49) dX10_isDoneAnew_47 rfl rfl ?_
      refine x_iload_n (q := 50) dX10_isDoneAnew_49 rfl rfl ?_
      refine x_icmp_ge (q := 53) (t := 112) dX10_isDoneAnew_50 rfl (by decide) (fun h50 => by exfalso; omega) (fun h50 => ?_)
      refine x_iload (q := 55) dX10_isDoneAnew_53 rfl rfl ?_
      refine x_iload (q := 57) dX10_isDoneAnew_55 rfl rfl ?_
      refine x_icmp_ge (q := 60) (t := 112) dX10_isDoneAnew_57 rfl (by decide) (fun h57 => by exfalso; omega) (fun h57 => ?_)
      refine x_aload_n (q := 61) dX10_isDoneAnew_60 rfl rfl ?_
      refine x_getR (q := 64) dX10_isDoneAnew_61 rfl f_10_44 rfl (ft35 hF) ?_
      refine Ex.stk (st' := [.inr (.inr (some 46))]) (by rw [fr35_17 hF]) ?_
      refine x_iload (q := 66) dX10_isDoneAnew_64 rfl rfl ?_
      refine x_iaload (q := 67) dX10_isDoneAnew_66 rfl (Or.inl (ft46 hF)) (by omega) (by rw [fl46 hF]; omega) ?_
      refine Ex.stk (st' := [.inl (nV (rt d p))]) (by rw [show iv G 46 i = nV (rt d p) from hv1]) ?_
      refine x_aload_n (q := 68) dX10_isDoneAnew_67 rfl rfl ?_
      refine x_getR (q := 71) dX10_isDoneAnew_68 rfl f_10_68 rfl (ft35 hF) ?_
      refine Ex.stk (st' := [.inr (.inr (some 54)), .inl (nV (rt d p))]) (by rw [fr35_26 hF]) ?_
      refine x_iload (q := 73) dX10_isDoneAnew_71 rfl rfl ?_
      refine x_iaload (q := 74) dX10_isDoneAnew_73 rfl (Or.inl (ft54 hF)) (by omega) (by rw [fl54 hF]; omega) ?_
      refine Ex.stk (st' := [.inl (nV (rt d q)), .inl (nV (rt d p))]) (by rw [show iv G 54 j = nV (rt d q) from hv2]) ?_
      refine x_icmp_eq (q := 77) (t := 79) dX10_isDoneAnew_74 rfl (by decide) (fun h74 => ?_) (fun h74 => ?_)
      · refine x_aload_n (q := 80) dX10_isDoneAnew_79 rfl rfl ?_
        refine x_getR (q := 83) dX10_isDoneAnew_80 rfl f_10_47 rfl (ft35 hF) ?_
        refine Ex.stk (st' := [.inr (.inr (some 47))]) (by rw [fr35_18 hF]) ?_
        refine x_aload_n (q := 84) dX10_isDoneAnew_83 rfl rfl ?_
        refine x_getI (q := 87) dX10_isDoneAnew_84 rfl f_10_173 rfl (ft35 hF) ?_
        refine Ex.stk (st' := [.inl co, .inr (.inr (some 47))]) (by rw [show iv G 35 22 = co from hco]) ?_
        refine x_iload (q := 89) dX10_isDoneAnew_87 rfl rfl ?_
        refine x_invS (q := 92) (as := [.inr (.inr (some 47)), .inl co, .inl i]) (rest := []) dX10_isDoneAnew_89 rfl l_10_176 m_X10_endOf rfl rfl (Nat.le_of_ble_eq_true rfl) (Nat.le_of_ble_eq_true rfl) (c_endOf _ (ft47 hF) (fl47 hF) i0 c1 he1) (fun r1 G1 hR => ?_)
        obtain ⟨hG1, rfl⟩ := hR
        replace hG1 := hG1.symm
        subst hG1
        refine Ex.stk (st' := [.inl (i + (tsz d p : Int))]) rfl ?_
        refine x_istore (q := 94) (ls' := [some (.inr (.inr (some 35))), some (.inl ko), some (.inl kn), some (.inl eo), some (.inl en), some (.inl (i + (tsz d p : Int))), some (.inl j)]) dX10_isDoneAnew_92 rfl (Nat.le_of_ble_eq_true rfl) (by first | rfl | exact hnl) rfl ?_
        refine x_aload_n (q := 95) dX10_isDoneAnew_94 rfl rfl ?_
        refine x_getR (q := 98) dX10_isDoneAnew_95 rfl f_10_71 rfl (ft35 hF) ?_
        refine Ex.stk (st' := [.inr (.inr (some 55))]) (by rw [fr35_27 hF]) ?_
        refine x_aload_n (q := 99) dX10_isDoneAnew_98 rfl rfl ?_
        refine x_getI (q := 102) dX10_isDoneAnew_99 rfl f_10_118 rfl (ft35 hF) ?_
        refine Ex.stk (st' := [.inl cn, .inr (.inr (some 55))]) (by rw [show iv G 35 29 = cn from hcn]) ?_
        refine x_iload (q := 104) dX10_isDoneAnew_102 rfl rfl ?_
        refine x_invS (q := 107) (as := [.inr (.inr (some 55)), .inl cn, .inl j]) (rest := []) dX10_isDoneAnew_104 rfl l_10_176 m_X10_endOf rfl rfl (Nat.le_of_ble_eq_true rfl) (Nat.le_of_ble_eq_true rfl) (c_endOf _ (ft55 hF) (fl55 hF) j0 c2 he2) (fun r1 G1 hR => ?_)
        obtain ⟨hG1, rfl⟩ := hR
        replace hG1 := hG1.symm
        subst hG1
        refine Ex.stk (st' := [.inl (j + (tsz d q : Int))]) rfl ?_
        refine x_istore (q := 109) (ls' := [some (.inr (.inr (some 35))), some (.inl ko), some (.inl kn), some (.inl eo), some (.inl en), some (.inl (i + (tsz d p : Int))), some (.inl (j + (tsz d q : Int)))]) dX10_isDoneAnew_107 rfl (Nat.le_of_ble_eq_true rfl) (by first | rfl | exact hnl) rfl ?_
        refine x_goto (t := 47) dX10_isDoneAnew_109 (by decide) ?_
        exact ih qs _ _ (OR_tail h1) (NR_tail h2) (by omega) (by omega) (fun z z1 z2 => kk z z1 (by rw [z2]; simp [difL, h74]))
      · refine x_iconst (q := 78) dX10_isDoneAnew_77 rfl (by decide) ?_
        refine x_zret dX10_isDoneAnew_78 rfl (by decide) ?_
        exact kk 1 (Or.inr rfl) ⟨fun _ => by simp [difL, h74], fun _ => rfl⟩
theorem c_isDoneAnew (dd : Nat) {G : Hp} (hF : FM G) {co cn : Int} (hco : iv G 35 22 = co) (hcn : iv G 35 29 = cn) (c1 : co ≤ 364) (c2 : cn ≤ 364) {ko kn no nn : Int} {d : Nat} {o t : Tr (d + 1)} {lo lt : List (Tr (d + 1))} (h1 : OR G co (d + 1) ko no (o :: lo)) (h2 : NR G cn (d + 1) kn nn (t :: lt)) : CX (dd + 3) 127 [.inr (.inr (some 35)), .inl ko, .inl kn] G (fun r G1 => G1 = G ∧ ∃ z, r = some (.inl z) ∧ (z = 0 ∨ z = 1) ∧ (z = 1 ↔ anewB (iv G 51) (iv G 36) d o t = true)) := by
  have hp := tsz_pos (d + 1) o
  have hq := tsz_pos (d + 1) t
  have hr1 := h1.2.2.1
  have hr2 := h2.2.2.1
  rw [tszL_cons] at hr1 hr2
  obtain ⟨⟨⟨-, -, -, -, hm, -, -⟩, -⟩, he1, k0⟩ := OR_head h1
  obtain ⟨-, he2, kn0⟩ := NR_head h2
  have k1 : ko < 364 := by omega
  replace hm : iv G 48 ko = nM o.1 := hm
  refine CX.of (d := dd + 2) m_X10_isDoneAnew (Nat.le_of_ble_eq_true rfl) ?_
  refine Ex.lcl (ls' := [some (.inr (.inr (some 35))), some (.inl ko), some (.inl kn), none, none, none, none]) rfl ?_
  refine x_aload_n (q := 1) dX10_isDoneAnew_0 rfl rfl ?_
  refine x_iload_n (q := 2) dX10_isDoneAnew_1 rfl rfl ?_
  refine x_invV (q := 5) (as := [.inr (.inr (some 35)), .inl ko]) (rest := []) dX10_isDoneAnew_2 rfl l_10_169 m_X10_isOld rfl rfl (ft35 hF) (Nat.le_of_ble_eq_true rfl) (c_isOld _ hF k0 k1) (fun r1 G1 hR => ?_)
  obtain ⟨hG1, z, rfl, hz1, hz2⟩ := hR
  replace hG1 := hG1.symm
  subst hG1
  rw [hm] at hz2
  refine Ex.stk (st' := [.inl z]) rfl ?_
  refine x_if_eq (q := 8) (t := 10) dX10_isDoneAnew_5 rfl (by decide) (fun h5 => ?_) (fun h5 => ?_)
  · refine x_aload_n (q := 11) dX10_isDoneAnew_10 rfl rfl ?_
    refine x_getR (q := 14) dX10_isDoneAnew_11 rfl f_10_47 rfl (ft35 hF) ?_
    refine Ex.stk (st' := [.inr (.inr (some 47))]) (by rw [fr35_18 hF]) ?_
    refine x_aload_n (q := 15) dX10_isDoneAnew_14 rfl rfl ?_
    refine x_getI (q := 18) dX10_isDoneAnew_15 rfl f_10_173 rfl (ft35 hF) ?_
    refine Ex.stk (st' := [.inl co, .inr (.inr (some 47))]) (by rw [show iv G 35 22 = co from hco]) ?_
    refine x_iload_n (q := 19) dX10_isDoneAnew_18 rfl rfl ?_
    refine x_invS (q := 22) (as := [.inr (.inr (some 47)), .inl co, .inl ko]) (rest := []) dX10_isDoneAnew_19 rfl l_10_176 m_X10_endOf rfl rfl (Nat.le_of_ble_eq_true rfl) (Nat.le_of_ble_eq_true rfl) (c_endOf _ (ft47 hF) (fl47 hF) k0 c1 he1) (fun r1 G1 hR => ?_)
    obtain ⟨hG1, rfl⟩ := hR
    replace hG1 := hG1.symm
    subst hG1
    refine Ex.stk (st' := [.inl (ko + (tsz (d + 1) o : Int))]) rfl ?_
    refine x_istore_n (q := 23) (ls' := [some (.inr (.inr (some 35))), some (.inl ko), some (.inl kn), some (.inl (ko + (tsz (d + 1) o : Int))), none, none, none]) dX10_isDoneAnew_22 rfl (Nat.le_of_ble_eq_true rfl) (by first | rfl | exact hnl) rfl ?_
    refine x_aload_n (q := 24) dX10_isDoneAnew_23 rfl rfl ?_
    refine x_getR (q := 27) dX10_isDoneAnew_24 rfl f_10_71 rfl (ft35 hF) ?_
    refine Ex.stk (st' := [.inr (.inr (some 55))]) (by rw [fr35_27 hF]) ?_
    refine x_aload_n (q := 28) dX10_isDoneAnew_27 rfl rfl ?_
    refine x_getI (q := 31) dX10_isDoneAnew_28 rfl f_10_118 rfl (ft35 hF) ?_
    refine Ex.stk (st' := [.inl cn, .inr (.inr (some 55))]) (by rw [show iv G 35 29 = cn from hcn]) ?_
    refine x_iload_n (q := 32) dX10_isDoneAnew_31 rfl rfl ?_
    refine x_invS (q := 35) (as := [.inr (.inr (some 55)), .inl cn, .inl kn]) (rest := []) dX10_isDoneAnew_32 rfl l_10_176 m_X10_endOf rfl rfl (Nat.le_of_ble_eq_true rfl) (Nat.le_of_ble_eq_true rfl) (c_endOf _ (ft55 hF) (fl55 hF) kn0 c2 he2) (fun r1 G1 hR => ?_)
    obtain ⟨hG1, rfl⟩ := hR
    replace hG1 := hG1.symm
    subst hG1
    refine Ex.stk (st' := [.inl (kn + (tsz (d + 1) t : Int))]) rfl ?_
    refine x_istore (q := 37) (ls' := [some (.inr (.inr (some 35))), some (.inl ko), some (.inl kn), some (.inl (ko + (tsz (d + 1) o : Int))), some (.inl (kn + (tsz (d + 1) t : Int))), none, none]) dX10_isDoneAnew_35 rfl (Nat.le_of_ble_eq_true rfl) (by first | rfl | exact hnl) rfl ?_
    refine x_iload_n (q := 38) dX10_isDoneAnew_37 rfl rfl ?_
    refine x_iconst (q := 39) dX10_isDoneAnew_38 rfl (by decide) ?_
    refine x_iadd (q := 40) (z := ko + 1) dX10_isDoneAnew_39 rfl (wr_id ⟨by omega, by omega⟩) ?_
    refine x_istore (q := 42) (ls' := [some (.inr (.inr (some 35))), some (.inl ko), some (.inl kn), some (.inl (ko + (tsz (d + 1) o : Int))), some (.inl (kn + (tsz (d + 1) t : Int))), some (.inl (ko + 1)), none]) dX10_isDoneAnew_40 rfl (Nat.le_of_ble_eq_true rfl) (by first | rfl | exact hnl) rfl ?_
    refine x_iload_n (q := 43) dX10_isDoneAnew_42 rfl rfl ?_
    refine x_iconst (q := 44) dX10_isDoneAnew_43 rfl (by decide) ?_
    refine x_iadd (q := 45) (z := kn + 1) dX10_isDoneAnew_44 rfl (wr_id ⟨by omega, by omega⟩) ?_
    refine x_istore (q := 47) (ls' := [some (.inr (.inr (some 35))), some (.inl ko), some (.inl kn), some (.inl (ko + (tsz (d + 1) o : Int))), some (.inl (kn + (tsz (d + 1) t : Int))), some (.inl (ko + 1)), some (.inl (kn + 1))]) dX10_isDoneAnew_45 rfl (Nat.le_of_ble_eq_true rfl) (by first | rfl | exact hnl) rfl ?_
    refine dan_loop (d := d) hF hco hcn c1 c2 o.2 t.2 _ _ (OR_parts h1) (NR_parts h2) ?_ ?_ ?_
    · have := tsz_eq o; omega
    · have := tsz_eq t; omega
    · intro y y1 y2
      refine ⟨rfl, y, rfl, y1, ?_⟩
      rw [y2, anewB, Bool.or_eq_true]
      exact ⟨Or.inr, fun h => h.resolve_left (fun g => by have := hz2.mpr g; omega)⟩
  · refine x_iconst (q := 9) dX10_isDoneAnew_8 rfl (by decide) ?_
    refine x_zret dX10_isDoneAnew_9 rfl (by decide) ?_
    exact ⟨rfl, 1, rfl, Or.inr rfl, ⟨fun _ => by rw [anewB, hz2.mp (hz1.resolve_left h5)]; rfl, fun _ => rfl⟩⟩
