/-! THE MODEL: what is known of one call -/
theorem vi_eq {a b : Int} (h : a = b) : (some (.inl a) : Option V) = some (.inl b) := by rw [h]
abbrev If : Type := Nd × Int × Int × Int × Int
def infL {d : Nat} (g : Int → Tr d → List If) : Int → List (Tr d) → List If
  | _, [] => []
  | k, p :: ps => g k p ++ infL g (k + (tsz d p : Int)) ps
def inf : (d : Nat) → Int → Int → Int → Tr d → List If
  | 0, _, _, _, t => t.elim
  | d + 1, ns, k, mb, t => (t.1, ns, mb, (tsz (d + 1) t : Int), (t.2.length : Int)) :: infL (fun k' p => inf d (ns + 1) k' k p) (k + 1) t.2
theorem infL_flat {d : Nat} {g : Int → Tr d → List If} {ns : Int} (hg : ∀ k t, (g k t).map (fun e => (e.1, e.2.1)) = flat d ns t) : ∀ (l : List (Tr d)) (k : Int), (infL g k l).map (fun e => (e.1, e.2.1)) = l.flatMap (flat d ns) := by
  intro l
  induction l with
  | nil => intro k; rfl
  | cons p l ih => intro k; simp only [infL, List.map_append, hg, ih, List.flatMap_cons]
theorem inf_flat : ∀ (d : Nat) (ns k mb : Int) (t : Tr d), (inf d ns k mb t).map (fun e => (e.1, e.2.1)) = flat d ns t := by
  intro d
  induction d with
  | zero => intro ns k mb t; exact t.elim
  | succ d ih =>
    intro ns k mb t
    show (t.1, ns) :: (infL (fun k' p => inf d (ns + 1) k' k p) (k + 1) t.2).map (fun e => (e.1, e.2.1)) = (t.1, ns) :: t.2.flatMap (flat d (ns + 1))
    rw [infL_flat (fun k' p => ih (ns + 1) k' k p)]
theorem inf_len (d : Nat) (ns k mb : Int) (t : Tr d) : (inf d ns k mb t).length = tsz d t := by
  rw [← List.length_map (f := fun e : If => (e.1, e.2.1)), inf_flat, flat_len]
theorem flat_hi : ∀ (d : Nat) (n : Int) (t : Tr d), ∀ e ∈ flat d n t, e.2 < n + (d : Int) := by
  intro d
  induction d with
  | zero => intro n t; exact t.elim
  | succ d ih =>
    intro n t e he
    rcases List.mem_cons.mp (show e ∈ (t.1, n) :: t.2.flatMap (flat d (n + 1)) from he) with rfl | h
    · show n < n + ((d + 1 : Nat) : Int); omega
    · obtain ⟨p, -, hp⟩ := List.mem_flatMap.mp h
      have := ih (n + 1) p e hp
      omega
/-- the last one before k whose nest is v -/
def LsT (ne : Int → Int) (k v mb : Int) : Prop := (mb = -1 ∧ ∀ j, 0 ≤ j → j < k → ne j ≠ v) ∨ (0 ≤ mb ∧ mb < k ∧ ne mb = v ∧ ∀ j, mb < j → j < k → ne j ≠ v)
theorem LsT_uni {ne : Int → Int} {k v a b : Int} (h1 : LsT ne k v a) (h2 : LsT ne k v b) : a = b := by
  rcases h1 with ⟨p1, p2⟩ | ⟨p1, p2, p3, p4⟩ <;> rcases h2 with ⟨q1, q2⟩ | ⟨q1, q2, q3, q4⟩
  · omega
  · exact absurd q3 (p2 b q1 q2)
  · exact absurd p3 (q2 a p1 p2)
  · rcases Int.lt_trichotomy a b with h | h | h
    · exact absurd q3 (p4 b h q2)
    · exact h
    · exact absurd p3 (q4 a h p2)
theorem LsT_on {ne : Int → Int} {k k2 v mb : Int} (h : LsT ne k v mb) (hk : k ≤ k2) (hn : ∀ j, k ≤ j → j < k2 → ne j ≠ v) : LsT ne k2 v mb := by
  rcases h with ⟨p1, p2⟩ | ⟨p1, p2, p3, p4⟩
  · exact Or.inl ⟨p1, fun j j0 j1 => by by_cases hj : j < k; exact p2 j j0 hj; exact hn j (by omega) j1⟩
  · exact Or.inr ⟨p1, by omega, p3, fun j j0 j1 => by by_cases hj : j < k; exact p4 j j0 hj; exact hn j (by omega) j1⟩
def cnI (ne : Int → Int) (v : Int) : Nat → Int → Int
  | 0, _ => 0
  | n + 1, a => (if ne a = v then 1 else 0) + cnI ne v n (a + 1)
theorem cnI_add (ne : Int → Int) (v : Int) : ∀ (m n : Nat) (a : Int), cnI ne v (m + n) a = cnI ne v m a + cnI ne v n (a + (m : Int)) := by
  intro m
  induction m with
  | zero => intro n a; simp [cnI]
  | succ m ih =>
    intro n a
    rw [show m + 1 + n = (m + n) + 1 from by omega]
    simp only [cnI]
    rw [ih n (a + 1), show a + 1 + (m : Int) = a + ((m + 1 : Nat) : Int) from by omega]
    omega
theorem cnI_zero {ne : Int → Int} {v : Int} : ∀ (n : Nat) (a : Int), (∀ j, a ≤ j → j < a + (n : Int) → ne j ≠ v) → cnI ne v n a = 0 := by
  intro n
  induction n with
  | zero => intro a _; rfl
  | succ n ih =>
    intro a h
    simp only [cnI]
    rw [if_neg (h a (by omega) (by omega)), ih (a + 1) (fun j j0 j1 => h j (by omega) (by omega))]
    rfl
theorem FOR_in {ne : Int → Int} {co k ns : Int} {d : Nat} {t : Tr d} {l : List (Tr d)} (h : FOR ne co k d ns (t :: l)) : ∀ j, k ≤ j → j < k + (tsz d t : Int) → ns ≤ ne j := by
  intro j j0 j1
  obtain ⟨hk, -, -, hi, -⟩ := FOR_head h
  by_cases hj : j = k
  · subst hj; rw [hk]; exact Int.le_refl _
  · have := hi j (by omega) j1
    omega
theorem FOR_cn {ne : Int → Int} {co : Int} {d : Nat} {ns : Int} : ∀ (l : List (Tr d)) (k : Int), FOR ne co k d ns l → cnI ne ns (tszL d l) k = (l.length : Int) := by
  intro l
  induction l with
  | nil => intro k _; rfl
  | cons t l ih =>
    intro k h
    have hp := tsz_pos d t
    obtain ⟨hk, -, -, hi, -⟩ := FOR_head h
    rw [tszL_cons, cnI_add, ih _ (FOR_tail h)]
    obtain ⟨m, hm⟩ : ∃ m, tsz d t = m + 1 := ⟨tsz d t - 1, by omega⟩
    rw [hm]
    simp only [cnI]
    rw [if_pos hk, cnI_zero m (k + 1) (fun j j0 j1 => by have := hi j (by omega) (by omega); omega)]
    simp only [List.length_cons]
    omega
def infP (ne : Int → Int) (co j : Int) (e : If) : Prop := endp ne co j (j + e.2.2.2.1) ∧ LsT ne j (e.2.1 - 1) e.2.2.1 ∧ cnI ne (e.2.1 + 1) (e.2.2.2.1 - 1).toNat (j + 1) = e.2.2.2.2 ∧ 1 ≤ e.2.2.2.1
theorem infL_ok {ne : Int → Int} {co : Int} {d : Nat} {ns mb : Int} {g : Int → Tr d → List If} (hl : ∀ k t, (g k t).length = tsz d t) (hg : ∀ (k : Int) (t : Tr d) (l : List (Tr d)), FOR ne co k d ns (t :: l) → LsT ne k (ns - 1) mb → ∀ (i : Nat) (e : If), (g k t)[i]? = some e → infP ne co (k + (i : Int)) e) : ∀ (l : List (Tr d)) (k : Int), FOR ne co k d ns l → LsT ne k (ns - 1) mb → ∀ (i : Nat) (e : If), (infL g k l)[i]? = some e → infP ne co (k + (i : Int)) e := by
  intro l
  induction l with
  | nil => intro k _ _ i e he; cases he
  | cons t l ih =>
    intro k h1 h2 i e he
    simp only [infL] at he
    by_cases hi : i < tsz d t
    · rw [List.getElem?_append_left (by rw [hl]; exact hi)] at he
      exact hg k t l h1 h2 i e he
    · rw [List.getElem?_append_right (by rw [hl]; omega), hl] at he
      have := ih (k + (tsz d t : Int)) (FOR_tail h1) (LsT_on h2 (by omega) (fun j j0 j1 => by have := FOR_in h1 j j0 j1; omega)) _ e he
      rw [show k + (tsz d t : Int) + ((i - tsz d t : Nat) : Int) = k + (i : Int) from by omega] at this
      exact this
theorem inf_ok {ne : Int → Int} {co : Int} : ∀ (d : Nat) (ns k mb : Int) (t : Tr d) (l : List (Tr d)), FOR ne co k d ns (t :: l) → LsT ne k (ns - 1) mb → ∀ (i : Nat) (e : If), (inf d ns k mb t)[i]? = some e → infP ne co (k + (i : Int)) e := by
  intro d
  induction d with
  | zero => intro ns k mb t; exact t.elim
  | succ d ih =>
    intro ns k mb t l h1 h2 i e he
    obtain ⟨hk, hend⟩ := FOR_head h1
    have hp := tsz_pos (d + 1) t
    have hz := tsz_eq t
    cases i with
    | zero =>
      have he2 : e = (t.1, ns, mb, (tsz (d + 1) t : Int), (t.2.length : Int)) := (Option.some.inj he).symm
      subst he2
      rw [show k + ((0 : Nat) : Int) = k from by omega]
      refine ⟨hend, h2, ?_, by dsimp only; omega⟩
      dsimp only
      rw [show ((tsz (d + 1) t : Int) - 1).toNat = tszL d t.2 from by omega]
      exact FOR_cn t.2 (k + 1) (FOR_parts h1)
    | succ i =>
      have := infL_ok (mb := k) (ns := ns + 1) (g := fun k' p => inf d (ns + 1) k' k p) (fun k' p => inf_len d (ns + 1) k' k p) (fun k' p l' g1 g2 => ih (ns + 1) k' k p l' g1 g2) t.2 (k + 1) (FOR_parts h1) (Or.inr ⟨h1.2.2.2, by omega, by omega, fun j j0 j1 => by omega⟩) i e he
      rw [show k + 1 + (i : Int) = k + ((i + 1 : Nat) : Int) from by omega] at this
      exact this
/-- all that the rows tell of the k-th call -/
theorem inf_at {G : Hp} {T : Tr 6} (ho : oAt G 0 (flat 6 1 T)) {k : Int} (k0 : 0 ≤ k) (k1 : k < (tsz 6 T : Int)) : ∃ e, (inf 6 1 0 (-1) T)[k.toNat]? = some e ∧ oAt G k [(e.1, e.2.1)] ∧ infP (iv G 47) (tsz 6 T : Int) k e ∧ 1 ≤ e.2.1 ∧ e.2.1 ≤ 6 := by
  have hl := inf_len 6 1 0 (-1) T
  obtain ⟨e, he⟩ : ∃ e, (inf 6 1 0 (-1) T)[k.toNat]? = some e := ⟨_, List.getElem?_eq_getElem (by omega)⟩
  have hf : (flat 6 1 T)[k.toNat]? = some (e.1, e.2.1) := by rw [← inf_flat 6 1 0 (-1) T, List.getElem?_map, he]; rfl
  have h1 := oAt_get _ _ ho _ _ hf
  have hO := OR_root ho rfl
  have h2 := inf_ok 6 1 0 (-1) T [] hO.2 (Or.inl ⟨rfl, fun j j0 j1 => by omega⟩) _ e he
  rw [show (0 : Int) + (k.toNat : Int) = k from by omega] at h1 h2
  have h3 := flat_nest 6 1 T _ (List.mem_of_getElem? hf)
  have h4 := flat_hi 6 1 T _ (List.mem_of_getElem? hf)
  exact ⟨e, he, h1, h2, h3, by have : (1 : Int) + ((6 : Nat) : Int) = 7 := rfl; dsimp only at h4; omega⟩
theorem maker_loop {d : Nat} {G : Hp} {Q : Option V → Hp → Prop} (hF : FM G) {k n : Int} (hn : iv G 47 k = n) (k0 : 0 ≤ k) (k1 : k < 364) (n0 : 0 ≤ n) (n1 : n ≤ 100) (kk : ∀ z, LsT (iv G 47) k (n - 1) z → Q (some (.inl z)) G) : ∀ (m : Nat) (i z : Int), 0 ≤ i → i + (m : Int) = k → LsT (iv G 47) i (n - 1) z → Ex (d) (some .int) 10 false cX10_makerOf 4 [some (.inr (.inr (some 35))), some (.inl k), some (.inl z), some (.inl i)] [] G Q := by
  intro m
  induction m with
  | zero =>
    intro i z i0 i1 hz
    have hi : i = k := by omega
    subst hi
    refine x_iload_n (q := 5) dX10_makerOf_4 rfl rfl ?_
    refine x_iload_n (q := 6) dX10_makerOf_5 rfl rfl ?_
    refine x_icmp_ge (q := 9) (t := 38) dX10_makerOf_6 rfl (by decide) (fun h6 => ?_) (fun h6 => by exfalso; omega)
    refine x_iload_n (q := 39) dX10_makerOf_38 rfl rfl ?_
    refine x_iret dX10_makerOf_39 rfl ?_
    exact kk z hz
  | succ m ih =>
    intro i z i0 i1 hz
    refine x_iload_n (q := 5) dX10_makerOf_4 rfl rfl ?_
    refine x_iload_n (q := 6) dX10_makerOf_5 rfl rfl ?_
    refine x_icmp_ge (q := 9) (t := 38) dX10_makerOf_6 rfl (by decide) (fun h6 => by exfalso; omega) (fun h6 => ?_)
    refine x_aload_n (q := 10) dX10_makerOf_9 rfl rfl ?_
    refine x_getR (q := 13) dX10_makerOf_10 rfl f_10_47 rfl (ft35 hF) ?_
    refine Ex.stk (st' := [.inr (.inr (some 47))]) (by rw [fr35_18 hF]) ?_
    refine x_iload_n (q := 14) dX10_makerOf_13 rfl rfl ?_
    refine x_iaload (q := 15) dX10_makerOf_14 rfl (Or.inl (ft47 hF)) (by omega) (by rw [fl47 hF]; omega) ?_
    refine x_aload_n (q := 16) dX10_makerOf_15 rfl rfl ?_
    refine x_getR (q := 19) dX10_makerOf_16 rfl f_10_47 rfl (ft35 hF) ?_
    refine Ex.stk (st' := [.inr (.inr (some 47)), .inl (iv G 47 i)]) (by rw [fr35_18 hF]) ?_
    refine x_iload_n (q := 20) dX10_makerOf_19 rfl rfl ?_
    refine x_iaload (q := 21) dX10_makerOf_20 rfl (Or.inl (ft47 hF)) (by omega) (by rw [fl47 hF]; omega) ?_
    refine Ex.stk (st' := [.inl n, .inl (iv G 47 i)]) (by rw [show iv G 47 k = n from hn]) ?_
    refine x_iconst (q := 22) dX10_makerOf_21 rfl (by decide) ?_
    refine x_isub (q := 23) (z := n - 1) dX10_makerOf_22 rfl (wr_id ⟨by omega, by omega⟩) ?_
    refine x_icmp_ne (q := 26) (t := 30) dX10_makerOf_23 rfl (by decide) (fun h23 => ?_) (fun h23 => ?_)
    · refine x_iload_n (q := 31) dX10_makerOf_30 rfl rfl ?_
      refine x_istore_n (q := 32) (ls' := [some (.inr (.inr (some 35))), some (.inl k), some (.inl z), some (.inl i)]) dX10_makerOf_31 rfl (Nat.le_of_ble_eq_true rfl) (by first | rfl | exact hnl | exact hnl2 _) rfl ?_
      refine x_iinc (q := 35) (ls' := [some (.inr (.inr (some 35))), some (.inl k), some (.inl z), some (.inl (i + 1))]) dX10_makerOf_32 rfl rfl (by first | rfl | exact hnl | exact hnl2 _) (by rw [show wr (i + 1) = i + 1 from (wr_id ⟨by omega, by omega⟩)]; rfl) ?_
      refine x_goto (t := 4) dX10_makerOf_35 (by decide) ?_
      first
        | exact ih _ _ (by omega) (by omega) (Or.inr ⟨i0, by omega, h23, fun j j0 j1 => by omega⟩)
        | exact ih _ _ (by omega) (by omega) (LsT_on hz (by omega) (fun j j0 j1 => by rw [show j = i from by omega]; exact h23))
    · refine x_iload_n (q := 27) dX10_makerOf_26 rfl rfl ?_
      refine x_goto (t := 31) dX10_makerOf_27 (by decide) ?_
      refine x_istore_n (q := 32) (ls' := [some (.inr (.inr (some 35))), some (.inl k), some (.inl i), some (.inl i)]) dX10_makerOf_31 rfl (Nat.le_of_ble_eq_true rfl) (by first | rfl | exact hnl | exact hnl2 _) rfl ?_
      refine x_iinc (q := 35) (ls' := [some (.inr (.inr (some 35))), some (.inl k), some (.inl i), some (.inl (i + 1))]) dX10_makerOf_32 rfl rfl (by first | rfl | exact hnl | exact hnl2 _) (by rw [show wr (i + 1) = i + 1 from (wr_id ⟨by omega, by omega⟩)]; rfl) ?_
      refine x_goto (t := 4) dX10_makerOf_35 (by decide) ?_
      first
        | exact ih _ _ (by omega) (by omega) (Or.inr ⟨i0, by omega, h23, fun j j0 j1 => by omega⟩)
        | exact ih _ _ (by omega) (by omega) (LsT_on hz (by omega) (fun j j0 j1 => by rw [show j = i from by omega]; exact h23))
theorem c_makerOf (d : Nat) {G : Hp} (hF : FM G) {k n mb : Int} (hn : iv G 47 k = n) (k0 : 0 ≤ k) (k1 : k < 364) (n0 : 0 ≤ n) (n1 : n ≤ 100) (hm : LsT (iv G 47) k (n - 1) mb) : CX (d + 1) 148 [.inr (.inr (some 35)), .inl k] G (fun r G1 => G1 = G ∧ r = some (.inl mb)) := by
  refine CX.of (d := d + 0) m_X10_makerOf (Nat.le_of_ble_eq_true rfl) ?_
  refine Ex.lcl (ls' := [some (.inr (.inr (some 35))), some (.inl k), none, none]) rfl ?_
  refine x_iconst (q := 1) dX10_makerOf_0 rfl (by decide) ?_
  refine x_istore_n (q := 2) (ls' := [some (.inr (.inr (some 35))), some (.inl k), some (.inl (-1)), none]) dX10_makerOf_1 rfl (Nat.le_of_ble_eq_true rfl) (by first | rfl | exact hnl | exact hnl2 _) rfl ?_
  refine x_iconst (q := 3) dX10_makerOf_2 rfl (by decide) ?_
  refine x_istore_n (q := 4) (ls' := [some (.inr (.inr (some 35))), some (.inl k), some (.inl (-1)), some (.inl 0)]) dX10_makerOf_3 rfl (Nat.le_of_ble_eq_true rfl) (by first | rfl | exact hnl | exact hnl2 _) rfl ?_
  exact maker_loop hF hn k0 k1 n0 n1 (fun z hz => ⟨rfl, by rw [LsT_uni hz hm]⟩) k.toNat 0 (-1) (by decide) (by omega) (Or.inl ⟨rfl, fun j j0 j1 => by omega⟩)
theorem parts_loop {d : Nat} {G : Hp} {Q : Option V → Hp → Prop} (hF : FM G) {co k n e v : Int} (hco : iv G 35 22 = co) (c1 : co ≤ 364) (hn : iv G 47 k = n) (k0 : 0 ≤ k) (k1 : k < 364) (n0 : 0 ≤ n) (n1 : n ≤ 100) (he : endp (iv G 47) co k e) (kk : Q (some (.inl v)) G) : ∀ (m : Nat) (i z : Int), k < i → i + (m : Int) = e → 0 ≤ z → z ≤ i → z + cnI (iv G 47) (n + 1) m i = v → Ex (d + 1) (some .int) 10 false cX10_partsOf 6 [some (.inr (.inr (some 35))), some (.inl k), some (.inl z), some (.inl i)] [] G Q := by
  have he1 := he.1
  have he2 := he.2.1
  intro m
  induction m with
  | zero =>
    intro i z i0 i1 z0 z1 hz
    have hi : i = e := by omega
    simp only [cnI] at hz
    have hz2 : z = v := by omega
    refine x_iload_n (q := 7) dX10_partsOf_6 rfl rfl ?_
    refine x_aload_n (q := 8) dX10_partsOf_7 rfl rfl ?_
    refine x_getR (q := 11) dX10_partsOf_8 rfl f_10_47 rfl (ft35 hF) ?_
    refine Ex.stk (st' := [.inr (.inr (some 47)), .inl i]) (by rw [fr35_18 hF]) ?_
    refine x_aload_n (q := 12) dX10_partsOf_11 rfl rfl ?_
    refine x_getI (q := 15) dX10_partsOf_12 rfl f_10_173 rfl (ft35 hF) ?_
    refine Ex.stk (st' := [.inl co, .inr (.inr (some 47)), .inl i]) (by rw [show iv G 35 22 = co from hco]) ?_
    refine x_iload_n (q := 16) dX10_partsOf_15 rfl rfl ?_
    refine x_invS (q := 19) (as := [.inr (.inr (some 47)), .inl co, .inl k]) (rest := [.inl i]) dX10_partsOf_16 rfl l_10_176 m_X10_endOf rfl rfl (Nat.le_of_ble_eq_true rfl) (Nat.le_of_ble_eq_true rfl) (c_endOf _ (ft47 hF) (fl47 hF) k0 c1 he) (fun r1 G1 hR => ?_)
    obtain ⟨hG1, rfl⟩ := hR
    replace hG1 := hG1.symm
    subst hG1
    refine Ex.stk (st' := [.inl e, .inl i]) rfl ?_
    refine x_icmp_ge (q := 22) (t := 53) dX10_partsOf_19 rfl (by decide) (fun h19 => ?_) (fun h19 => by exfalso; omega)
    refine x_iload_n (q := 54) dX10_partsOf_53 rfl rfl ?_
    refine x_iret dX10_partsOf_54 rfl ?_
    rw [hz2]; exact kk
  | succ m ih =>
    intro i z i0 i1 z0 z1 hz
    simp only [cnI] at hz
    refine x_iload_n (q := 7) dX10_partsOf_6 rfl rfl ?_
    refine x_aload_n (q := 8) dX10_partsOf_7 rfl rfl ?_
    refine x_getR (q := 11) dX10_partsOf_8 rfl f_10_47 rfl (ft35 hF) ?_
    refine Ex.stk (st' := [.inr (.inr (some 47)), .inl i]) (by rw [fr35_18 hF]) ?_
    refine x_aload_n (q := 12) dX10_partsOf_11 rfl rfl ?_
    refine x_getI (q := 15) dX10_partsOf_12 rfl f_10_173 rfl (ft35 hF) ?_
    refine Ex.stk (st' := [.inl co, .inr (.inr (some 47)), .inl i]) (by rw [show iv G 35 22 = co from hco]) ?_
    refine x_iload_n (q := 16) dX10_partsOf_15 rfl rfl ?_
    refine x_invS (q := 19) (as := [.inr (.inr (some 47)), .inl co, .inl k]) (rest := [.inl i]) dX10_partsOf_16 rfl l_10_176 m_X10_endOf rfl rfl (Nat.le_of_ble_eq_true rfl) (Nat.le_of_ble_eq_true rfl) (c_endOf _ (ft47 hF) (fl47 hF) k0 c1 he) (fun r1 G1 hR => ?_)
    obtain ⟨hG1, rfl⟩ := hR
    replace hG1 := hG1.symm
    subst hG1
    refine Ex.stk (st' := [.inl e, .inl i]) rfl ?_
    refine x_icmp_ge (q := 22) (t := 53) dX10_partsOf_19 rfl (by decide) (fun h19 => by exfalso; omega) (fun h19 => ?_)
    refine x_iload_n (q := 23) dX10_partsOf_22 rfl rfl ?_
    refine x_aload_n (q := 24) dX10_partsOf_23 rfl rfl ?_
    refine x_getR (q := 27) dX10_partsOf_24 rfl f_10_47 rfl (ft35 hF) ?_
    refine Ex.stk (st' := [.inr (.inr (some 47)), .inl z]) (by rw [fr35_18 hF]) ?_
    refine x_iload_n (q := 28) dX10_partsOf_27 rfl rfl ?_
    refine x_iaload (q := 29) dX10_partsOf_28 rfl (Or.inl (ft47 hF)) (by omega) (by rw [fl47 hF]; omega) ?_
    refine x_aload_n (q := 30) dX10_partsOf_29 rfl rfl ?_
    refine x_getR (q := 33) dX10_partsOf_30 rfl f_10_47 rfl (ft35 hF) ?_
    refine Ex.stk (st' := [.inr (.inr (some 47)), .inl (iv G 47 i), .inl z]) (by rw [fr35_18 hF]) ?_
    refine x_iload_n (q := 34) dX10_partsOf_33 rfl rfl ?_
    refine x_iaload (q := 35) dX10_partsOf_34 rfl (Or.inl (ft47 hF)) (by omega) (by rw [fl47 hF]; omega) ?_
    refine Ex.stk (st' := [.inl n, .inl (iv G 47 i), .inl z]) (by rw [show iv G 47 k = n from hn]) ?_
    refine x_iconst (q := 36) dX10_partsOf_35 rfl (by decide) ?_
    refine x_iadd (q := 37) (z := n + 1) dX10_partsOf_36 rfl (wr_id ⟨by omega, by omega⟩) ?_
    refine x_icmp_ne (q := 40) (t := 44) dX10_partsOf_37 rfl (by decide) (fun h37 => ?_) (fun h37 => ?_)
    · refine x_iconst (q := 45) dX10_partsOf_44 rfl (by decide) ?_
      refine x_iadd (q := 46) (z := z + 0) dX10_partsOf_45 rfl (wr_id ⟨by omega, by omega⟩) ?_
      refine x_istore_n (q := 47) (ls' := [some (.inr (.inr (some 35))), some (.inl k), some (.inl (z + 0)), some (.inl i)]) dX10_partsOf_46 rfl (Nat.le_of_ble_eq_true rfl) (by first | rfl | exact hnl | exact hnl2 _) rfl ?_
      refine x_iinc (q := 50) (ls' := [some (.inr (.inr (some 35))), some (.inl k), some (.inl (z + 0)), some (.inl (i + 1))]) dX10_partsOf_47 rfl rfl (by first | rfl | exact hnl | exact hnl2 _) (by rw [show wr (i + 1) = i + 1 from (wr_id ⟨by omega, by omega⟩)]; rfl) ?_
      refine x_goto (t := 6) dX10_partsOf_50 (by decide) ?_
      first
        | exact ih _ _ (by omega) (by omega) (by omega) (by omega) (by rw [if_pos h37] at hz; omega)
        | exact ih _ _ (by omega) (by omega) (by omega) (by omega) (by rw [if_neg h37] at hz; omega)
    · refine x_iconst (q := 41) dX10_partsOf_40 rfl (by decide) ?_
      refine x_goto (t := 45) dX10_partsOf_41 (by decide) ?_
      refine x_iadd (q := 46) (z := z + 1) dX10_partsOf_45 rfl (wr_id ⟨by omega, by omega⟩) ?_
      refine x_istore_n (q := 47) (ls' := [some (.inr (.inr (some 35))), some (.inl k), some (.inl (z + 1)), some (.inl i)]) dX10_partsOf_46 rfl (Nat.le_of_ble_eq_true rfl) (by first | rfl | exact hnl | exact hnl2 _) rfl ?_
      refine x_iinc (q := 50) (ls' := [some (.inr (.inr (some 35))), some (.inl k), some (.inl (z + 1)), some (.inl (i + 1))]) dX10_partsOf_47 rfl rfl (by first | rfl | exact hnl | exact hnl2 _) (by rw [show wr (i + 1) = i + 1 from (wr_id ⟨by omega, by omega⟩)]; rfl) ?_
      refine x_goto (t := 6) dX10_partsOf_50 (by decide) ?_
      first
        | exact ih _ _ (by omega) (by omega) (by omega) (by omega) (by rw [if_pos h37] at hz; omega)
        | exact ih _ _ (by omega) (by omega) (by omega) (by omega) (by rw [if_neg h37] at hz; omega)
theorem c_partsOf (d : Nat) {G : Hp} (hF : FM G) {co k n e v : Int} (hco : iv G 35 22 = co) (c1 : co ≤ 364) (hn : iv G 47 k = n) (k0 : 0 ≤ k) (k1 : k < 364) (n0 : 0 ≤ n) (n1 : n ≤ 100) (he : endp (iv G 47) co k e) (hv : cnI (iv G 47) (n + 1) (e - k - 1).toNat (k + 1) = v) : CX (d + 2) 149 [.inr (.inr (some 35)), .inl k] G (fun r G1 => G1 = G ∧ r = some (.inl v)) := by
  refine CX.of (d := d + 1) m_X10_partsOf (Nat.le_of_ble_eq_true rfl) ?_
  refine Ex.lcl (ls' := [some (.inr (.inr (some 35))), some (.inl k), none, none]) rfl ?_
  refine x_iconst (q := 1) dX10_partsOf_0 rfl (by decide) ?_
  refine x_istore_n (q := 2) (ls' := [some (.inr (.inr (some 35))), some (.inl k), some (.inl 0), none]) dX10_partsOf_1 rfl (Nat.le_of_ble_eq_true rfl) (by first | rfl | exact hnl | exact hnl2 _) rfl ?_
  refine x_iload_n (q := 3) dX10_partsOf_2 rfl rfl ?_
  refine x_iconst (q := 4) dX10_partsOf_3 rfl (by decide) ?_
  refine x_iadd (q := 5) (z := k + 1) dX10_partsOf_4 rfl (wr_id ⟨by omega, by omega⟩) ?_
  refine x_istore_n (q := 6) (ls' := [some (.inr (.inr (some 35))), some (.inl k), some (.inl 0), some (.inl (k + 1))]) dX10_partsOf_5 rfl (Nat.le_of_ble_eq_true rfl) (by first | rfl | exact hnl | exact hnl2 _) rfl ?_
  exact parts_loop hF hco c1 hn k0 k1 n0 n1 he ⟨rfl, rfl⟩ (e - k - 1).toNat (k + 1) 0 (by omega) (by have := he.1; omega) (by decide) (by omega) (by omega)
def callA (T : Tr 6) (h c : Int → Int) (k wh : Int) : Int := if 0 ≤ k ∧ k < (tsz 6 T : Int) then (match (inf 6 1 0 (-1) T)[k.toNat]? with
    | some e => if wh = 0 then nF e.1 else if wh = 1 then nX e.1 else if wh = 2 then nV e.1 else if wh = 3 then nN e.1 else if wh = 4 then nD e.1 else if wh = 5 then e.2.2.1 else if wh = 6 then e.2.1 else if wh = 7 then nM e.1 else if wh = 8 then e.2.2.2.2 else if wh = 9 then e.2.2.2.1 else if wh = 10 then (if isOldN h c (nM e.1) = true then 1 else 0) else -1000000002
    | none => 0) else -1000000001
set_option maxHeartbeats 1000000 in
theorem cm_call (d : Nat) {s : Sg} {G : Hp} (hR0 : RM s G) (c1 : tsz 6 s.2.2.2.2.1 ≤ 364) (k wh : Int) : CX (d + 4) 150 [.inr (.inr (some 35)), .inl k, .inl wh] G (fun r G' => r = some (.inl (callA s.2.2.2.2.1 s.2.2.2.2.2.1 s.2.2.1.1 k wh)) ∧ G' = G) := by
  have hF := hR0.1
  obtain ⟨-, -, -, ⟨hc0, -⟩, -, o1, h22, hh, -⟩ := hR0
  have hc : ∀ k, 0 ≤ k → k < 8 → iv G 36 k = s.2.2.1.1 k := fun k k0 k1 => hc0 k k0 (by omega)
  refine CX.of (d := d + 3) m_X10_call (Nat.le_of_ble_eq_true rfl) ?_
  refine Ex.lcl (ls' := [some (.inr (.inr (some 35))), some (.inl k), some (.inl wh)]) rfl ?_
  refine x_iload_n (q := 1) dX10_call_0 rfl rfl ?_
  refine x_i2l (q := 2) dX10_call_1 rfl ?_
  refine x_lconst (q := 3) (x := 0) dX10_call_2 rfl rfl ?_
  refine x_aload_n (q := 4) dX10_call_3 rfl rfl ?_
  refine x_getI (q := 7) dX10_call_4 rfl f_10_173 rfl (ft35 hF) ?_
  refine Ex.stk (st' := [.inl (tsz 6 s.2.2.2.2.1 : Int), .inr (.inl 0), .inr (.inl k)]) (by rw [show iv G 35 22 = (tsz 6 s.2.2.2.2.1 : Int) from h22]) ?_
  refine x_iconst (q := 8) dX10_call_7 rfl (by decide) ?_
  refine x_isub (q := 9) (z := (tsz 6 s.2.2.2.2.1 : Int) - 1) dX10_call_8 rfl (wr_id ⟨by omega, by omega⟩) ?_
  refine x_i2l (q := 10) dX10_call_9 rfl ?_
  refine x_invS (q := 13) (as := [.inr (.inl k), .inr (.inl 0), .inr (.inl ((tsz 6 s.2.2.2.2.1 : Int) - 1))]) (rest := []) dX10_call_10 rfl l_10_131 m_X10_in rfl rfl (Nat.le_of_ble_eq_true rfl) (Nat.le_of_ble_eq_true rfl) (c_in _) (fun r1 G1 hR => ?_)
  obtain ⟨hG1, z10, rfl, z10a, z10b⟩ := hR
  replace hG1 := hG1.symm
  subst hG1
  refine Ex.stk (st' := [.inl z10]) rfl ?_
  refine x_if_ne (q := 16) (t := 20) dX10_call_13 rfl (by decide) (fun h13 => ?_) (fun h13 => ?_)
  · obtain ⟨k0, k1'⟩ := z10b.mp (z10a.resolve_left h13)
    clear z10b
    obtain ⟨e, he, ⟨⟨a1, a2, a3, a4, a5, a6, a7⟩, -⟩, ⟨p1, p2, p3, p4⟩, q1, q2⟩ := inf_at o1 k0 (by omega)
    have p1' := p1.2.1
    dsimp only at a1 a2 a3 a4 a5 a6 a7
    have hA : ∀ v : Int, v = (if wh = 0 then nF e.1 else if wh = 1 then nX e.1 else if wh = 2 then nV e.1 else if wh = 3 then nN e.1 else if wh = 4 then nD e.1 else if wh = 5 then e.2.2.1 else if wh = 6 then e.2.1 else if wh = 7 then nM e.1 else if wh = 8 then e.2.2.2.2 else if wh = 9 then e.2.2.2.1 else if wh = 10 then (if isOldN s.2.2.2.2.2.1 s.2.2.1.1 (nM e.1) = true then 1 else 0) else -1000000002) → v = callA s.2.2.2.2.1 s.2.2.2.2.2.1 s.2.2.1.1 k wh := fun v hv => by rw [callA, if_pos ⟨k0, by omega⟩, he]; exact hv
    refine x_iload_n (q := 21) dX10_call_20 rfl rfl ?_
    rcases Decidable.em (wh < 0 ∨ 10 < wh) with hs21 | hs21
    · refine x_tableOut (t := 170) dX10_call_21 hs21 (by decide) ?_
      refine x_ldc (q := 172) dX10_call_170 rfl k_10_239 ?_
      refine x_iret dX10_call_172 rfl ?_
      refine ⟨vi_eq (hA _ ?_), rfl⟩
      iterate 11 rw [if_neg (by omega)]
    obtain hs21 | hs21 | hs21 | hs21 | hs21 | hs21 | hs21 | hs21 | hs21 | hs21 | hs21 : wh = 0 ∨ wh = 1 ∨ wh = 2 ∨ wh = 3 ∨ wh = 4 ∨ wh = 5 ∨ wh = 6 ∨ wh = 7 ∨ wh = 8 ∨ wh = 9 ∨ wh = 10 := by omega
    · refine x_tableIn (t := 80) (off := 59) dX10_call_21 (by omega) (by omega) (by rw [hs21]; rfl) (by decide) ?_
      refine x_aload_n (q := 81) dX10_call_80 rfl rfl ?_
      refine x_getR (q := 84) dX10_call_81 rfl f_10_38 rfl (ft35 hF) ?_
      refine Ex.stk (st' := [.inr (.inr (some 44))]) (by rw [fr35_15 hF]) ?_
      refine x_iload_n (q := 85) dX10_call_84 rfl rfl ?_
      refine x_iaload (q := 86) dX10_call_85 rfl (Or.inl (ft44 hF)) (by omega) (by rw [fl44 hF]; omega) ?_
      refine Ex.stk (st' := [.inl (nF e.1)]) (by rw [show iv G 44 k = nF e.1 from a1]) ?_
      refine x_iret dX10_call_86 rfl ?_
      refine ⟨vi_eq (hA _ ?_), rfl⟩
      rw [hs21]; simp
    · refine x_tableIn (t := 87) (off := 66) dX10_call_21 (by omega) (by omega) (by rw [hs21]; rfl) (by decide) ?_
      refine x_aload_n (q := 88) dX10_call_87 rfl rfl ?_
      refine x_getR (q := 91) dX10_call_88 rfl f_10_41 rfl (ft35 hF) ?_
      refine Ex.stk (st' := [.inr (.inr (some 45))]) (by rw [fr35_16 hF]) ?_
      refine x_iload_n (q := 92) dX10_call_91 rfl rfl ?_
      refine x_iaload (q := 93) dX10_call_92 rfl (Or.inl (ft45 hF)) (by omega) (by rw [fl45 hF]; omega) ?_
      refine Ex.stk (st' := [.inl (nX e.1)]) (by rw [show iv G 45 k = nX e.1 from a2]) ?_
      refine x_iret dX10_call_93 rfl ?_
      refine ⟨vi_eq (hA _ ?_), rfl⟩
      rw [hs21]; simp
    · refine x_tableIn (t := 94) (off := 73) dX10_call_21 (by omega) (by omega) (by rw [hs21]; rfl) (by decide) ?_
      refine x_aload_n (q := 95) dX10_call_94 rfl rfl ?_
      refine x_getR (q := 98) dX10_call_95 rfl f_10_44 rfl (ft35 hF) ?_
      refine Ex.stk (st' := [.inr (.inr (some 46))]) (by rw [fr35_17 hF]) ?_
      refine x_iload_n (q := 99) dX10_call_98 rfl rfl ?_
      refine x_iaload (q := 100) dX10_call_99 rfl (Or.inl (ft46 hF)) (by omega) (by rw [fl46 hF]; omega) ?_
      refine Ex.stk (st' := [.inl (nV e.1)]) (by rw [show iv G 46 k = nV e.1 from a3]) ?_
      refine x_iret dX10_call_100 rfl ?_
      refine ⟨vi_eq (hA _ ?_), rfl⟩
      rw [hs21]; simp
    · refine x_tableIn (t := 101) (off := 80) dX10_call_21 (by omega) (by omega) (by rw [hs21]; rfl) (by decide) ?_
      refine x_aload_n (q := 102) dX10_call_101 rfl rfl ?_
      refine x_getR (q := 105) dX10_call_102 rfl f_10_53 rfl (ft35 hF) ?_
      refine Ex.stk (st' := [.inr (.inr (some 49))]) (by rw [fr35_20 hF]) ?_
      refine x_iload_n (q := 106) dX10_call_105 rfl rfl ?_
      refine x_iaload (q := 107) dX10_call_106 rfl (Or.inl (ft49 hF)) (by omega) (by rw [fl49 hF]; omega) ?_
      refine Ex.stk (st' := [.inl (nN e.1)]) (by rw [show iv G 49 k = nN e.1 from a6]) ?_
      refine x_iret dX10_call_107 rfl ?_
      refine ⟨vi_eq (hA _ ?_), rfl⟩
      rw [hs21]; simp
    · refine x_tableIn (t := 108) (off := 87) dX10_call_21 (by omega) (by omega) (by rw [hs21]; rfl) (by decide) ?_
      refine x_aload_n (q := 109) dX10_call_108 rfl rfl ?_
      refine x_getR (q := 112) dX10_call_109 rfl f_10_56 rfl (ft35 hF) ?_
      refine Ex.stk (st' := [.inr (.inr (some 50))]) (by rw [fr35_21 hF]) ?_
      refine x_iload_n (q := 113) dX10_call_112 rfl rfl ?_
      refine x_iaload (q := 114) dX10_call_113 rfl (Or.inl (ft50 hF)) (by omega) (by rw [fl50 hF]; omega) ?_
      refine Ex.stk (st' := [.inl (nD e.1)]) (by rw [show iv G 50 k = nD e.1 from a7]) ?_
      refine x_iret dX10_call_114 rfl ?_
      refine ⟨vi_eq (hA _ ?_), rfl⟩
      rw [hs21]; simp
    · refine x_tableIn (t := 115) (off := 94) dX10_call_21 (by omega) (by omega) (by rw [hs21]; rfl) (by decide) ?_
      refine x_aload_n (q := 116) dX10_call_115 rfl rfl ?_
      refine x_iload_n (q := 117) dX10_call_116 rfl rfl ?_
      refine x_invV (q := 120) (as := [.inr (.inr (some 35)), .inl k]) (rest := []) dX10_call_117 rfl l_10_272 m_X10_makerOf rfl rfl (ft35 hF) (Nat.le_of_ble_eq_true rfl) (c_makerOf _ hF a4 k0 (by omega) (by omega) (by omega) p2) (fun r1 G1 hR => ?_)
      obtain ⟨hG1, rfl⟩ := hR
      replace hG1 := hG1.symm
      subst hG1
      refine Ex.stk (st' := [.inl e.2.2.1]) rfl ?_
      refine x_iret dX10_call_120 rfl ?_
      refine ⟨vi_eq (hA _ ?_), rfl⟩
      rw [hs21]; simp
    · refine x_tableIn (t := 121) (off := 100) dX10_call_21 (by omega) (by omega) (by rw [hs21]; rfl) (by decide) ?_
      refine x_aload_n (q := 122) dX10_call_121 rfl rfl ?_
      refine x_getR (q := 125) dX10_call_122 rfl f_10_47 rfl (ft35 hF) ?_
      refine Ex.stk (st' := [.inr (.inr (some 47))]) (by rw [fr35_18 hF]) ?_
      refine x_iload_n (q := 126) dX10_call_125 rfl rfl ?_
      refine x_iaload (q := 127) dX10_call_126 rfl (Or.inl (ft47 hF)) (by omega) (by rw [fl47 hF]; omega) ?_
      refine Ex.stk (st' := [.inl e.2.1]) (by rw [show iv G 47 k = e.2.1 from a4]) ?_
      refine x_iret dX10_call_127 rfl ?_
      refine ⟨vi_eq (hA _ ?_), rfl⟩
      rw [hs21]; simp
    · refine x_tableIn (t := 128) (off := 107) dX10_call_21 (by omega) (by omega) (by rw [hs21]; rfl) (by decide) ?_
      refine x_aload_n (q := 129) dX10_call_128 rfl rfl ?_
      refine x_getR (q := 132) dX10_call_129 rfl f_10_50 rfl (ft35 hF) ?_
      refine Ex.stk (st' := [.inr (.inr (some 48))]) (by rw [fr35_19 hF]) ?_
      refine x_iload_n (q := 133) dX10_call_132 rfl rfl ?_
      refine x_iaload (q := 134) dX10_call_133 rfl (Or.inl (ft48 hF)) (by omega) (by rw [fl48 hF]; omega) ?_
      refine Ex.stk (st' := [.inl (nM e.1)]) (by rw [show iv G 48 k = nM e.1 from a5]) ?_
      refine x_iret dX10_call_134 rfl ?_
      refine ⟨vi_eq (hA _ ?_), rfl⟩
      rw [hs21]; simp
    · refine x_tableIn (t := 135) (off := 114) dX10_call_21 (by omega) (by omega) (by rw [hs21]; rfl) (by decide) ?_
      refine x_aload_n (q := 136) dX10_call_135 rfl rfl ?_
      refine x_iload_n (q := 137) dX10_call_136 rfl rfl ?_
      refine x_invV (q := 140) (as := [.inr (.inr (some 35)), .inl k]) (rest := []) dX10_call_137 rfl l_10_275 m_X10_partsOf rfl rfl (ft35 hF) (Nat.le_of_ble_eq_true rfl) (c_partsOf _ (v := e.2.2.2.2) hF h22 (by omega) a4 k0 (by omega) (by omega) (by omega) p1 (by rw [show k + e.2.2.2.1 - k - 1 = e.2.2.2.1 - 1 from by omega]; exact p3)) (fun r1 G1 hR => ?_)
      obtain ⟨hG1, rfl⟩ := hR
      replace hG1 := hG1.symm
      subst hG1
      refine Ex.stk (st' := [.inl e.2.2.2.2]) rfl ?_
      refine x_iret dX10_call_140 rfl ?_
      refine ⟨vi_eq (hA _ ?_), rfl⟩
      rw [hs21]; simp
    · refine x_tableIn (t := 141) (off := 120) dX10_call_21 (by omega) (by omega) (by rw [hs21]; rfl) (by decide) ?_
      refine x_aload_n (q := 142) dX10_call_141 rfl rfl ?_
      refine x_getR (q := 145) dX10_call_142 rfl f_10_47 rfl (ft35 hF) ?_
      refine Ex.stk (st' := [.inr (.inr (some 47))]) (by rw [fr35_18 hF]) ?_
      refine x_aload_n (q := 146) dX10_call_145 rfl rfl ?_
      refine x_getI (q := 149) dX10_call_146 rfl f_10_173 rfl (ft35 hF) ?_
      refine Ex.stk (st' := [.inl (tsz 6 s.2.2.2.2.1 : Int), .inr (.inr (some 47))]) (by rw [show iv G 35 22 = (tsz 6 s.2.2.2.2.1 : Int) from h22]) ?_
      refine x_iload_n (q := 150) dX10_call_149 rfl rfl ?_
      refine x_invS (q := 153) (as := [.inr (.inr (some 47)), .inl (tsz 6 s.2.2.2.2.1 : Int), .inl k]) (rest := []) dX10_call_150 rfl l_10_176 m_X10_endOf rfl rfl (Nat.le_of_ble_eq_true rfl) (Nat.le_of_ble_eq_true rfl) (c_endOf _ (ft47 hF) (fl47 hF) k0 (by omega) p1) (fun r1 G1 hR => ?_)
      obtain ⟨hG1, rfl⟩ := hR
      replace hG1 := hG1.symm
      subst hG1
      refine Ex.stk (st' := [.inl (k + e.2.2.2.1)]) rfl ?_
      refine x_iload_n (q := 154) dX10_call_153 rfl rfl ?_
      refine x_isub (q := 155) (z := (k + e.2.2.2.1) - k) dX10_call_154 rfl (wr_id ⟨by omega, by omega⟩) ?_
      refine x_iret dX10_call_155 rfl ?_
      refine ⟨vi_eq (hA _ ?_), rfl⟩
      rw [hs21]; simp; omega
    · refine x_tableIn (t := 156) (off := 135) dX10_call_21 (by omega) (by omega) (by rw [hs21]; rfl) (by decide) ?_
      refine x_aload_n (q := 157) dX10_call_156 rfl rfl ?_
      refine x_iload_n (q := 158) dX10_call_157 rfl rfl ?_
      refine x_invV (q := 161) (as := [.inr (.inr (some 35)), .inl k]) (rest := []) dX10_call_158 rfl l_10_169 m_X10_isOld rfl rfl (ft35 hF) (Nat.le_of_ble_eq_true rfl) (c_isOld _ hF k0 (by omega)) (fun r1 G1 hR => ?_)
      obtain ⟨hG1, y, rfl, hy1, hy2⟩ := hR
      replace hG1 := hG1.symm
      subst hG1
      rw [a5, isOldN_congr hh hc] at hy2
      refine Ex.stk (st' := [.inl y]) rfl ?_
      refine x_if_eq (q := 164) (t := 168) dX10_call_161 rfl (by decide) (fun h161 => ?_) (fun h161 => ?_)
      · refine x_iconst (q := 169) dX10_call_168 rfl (by decide) ?_
        refine x_iret dX10_call_169 rfl ?_
        refine ⟨vi_eq (hA _ ?_), rfl⟩
        rw [hs21]; simp only [show ¬ ((10 : Int) = 0) from by decide, show ¬ ((10 : Int) = 1) from by decide, show ¬ ((10 : Int) = 2) from by decide, show ¬ ((10 : Int) = 3) from by decide, show ¬ ((10 : Int) = 4) from by decide, show ¬ ((10 : Int) = 5) from by decide, show ¬ ((10 : Int) = 6) from by decide, show ¬ ((10 : Int) = 7) from by decide, show ¬ ((10 : Int) = 8) from by decide, show ¬ ((10 : Int) = 9) from by decide, if_true, if_false]
        rw [if_neg (fun q => by have := hy2.mpr q; omega)]
      · refine x_iconst (q := 165) dX10_call_164 rfl (by decide) ?_
        refine x_goto (t := 169) dX10_call_165 (by decide) ?_
        refine x_iret dX10_call_169 rfl ?_
        refine ⟨vi_eq (hA _ ?_), rfl⟩
        rw [hs21]; simp only [show ¬ ((10 : Int) = 0) from by decide, show ¬ ((10 : Int) = 1) from by decide, show ¬ ((10 : Int) = 2) from by decide, show ¬ ((10 : Int) = 3) from by decide, show ¬ ((10 : Int) = 4) from by decide, show ¬ ((10 : Int) = 5) from by decide, show ¬ ((10 : Int) = 6) from by decide, show ¬ ((10 : Int) = 7) from by decide, show ¬ ((10 : Int) = 8) from by decide, show ¬ ((10 : Int) = 9) from by decide, if_true, if_false]
        rw [if_pos (hy2.mp (hy1.resolve_left h161))]
  · refine x_ldc_w (q := 19) dX10_call_16 rfl k_10_271 ?_
    refine x_iret dX10_call_19 rfl ?_
    refine ⟨?_, rfl⟩
    rw [callA, if_neg (fun q => by have := z10b.mpr ⟨q.1, by omega⟩; omega)]
