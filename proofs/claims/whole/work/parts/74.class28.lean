/-! THE CLASS: what is known of one call -/
def InA (G : Hp) (h : Int → Int) (β : Int) (e : If) : Prop := Nf G h β e.1 e.2.1 ∧ ∃ l : List Nat, Chn G (rv G (nAd e.1) 8) l ∧ (l.length : Int) = e.2.2.2.2 ∧ ∀ b ∈ l, tg G b = 1
theorem infL_InA {G : Hp} {h : Int → Int} {β : Int} {d : Nat} {g : Int → Tr d → List If} : ∀ (l : List (Tr d)) (k : Int), (∀ p ∈ l, ∀ k, ∀ e ∈ g k p, InA G h β e) → ∀ e ∈ infL g k l, InA G h β e := by
  intro l
  induction l with
  | nil => intro k _ e he; cases he
  | cons p l ih =>
    intro k hp e he
    rcases List.mem_append.mp he with h1 | h1
    · exact hp p (List.mem_cons_self ..) k e h1
    · exact ih _ (fun p' hp' => hp p' (List.mem_cons_of_mem _ hp')) e h1
theorem TA_inf {G : Hp} {h : Int → Int} {β : Int} : ∀ (d : Nat) (ns k mb : Int) (t : Tr d), TA G h β d ns t → ∀ e ∈ inf d ns k mb t, InA G h β e := by
  intro d
  induction d with
  | zero => intro ns k mb t; exact t.elim
  | succ d ih =>
    intro ns k mb t ⟨h1, h2, h3⟩ e he
    rcases List.mem_cons.mp (show e ∈ (t.1, ns, mb, (tsz (d + 1) t : Int), (t.2.length : Int)) :: infL (fun k' p => inf d (ns + 1) k' k p) (k + 1) t.2 from he) with rfl | hm
    · refine ⟨h1, t.2.map (aRt d), h2, by rw [List.length_map], fun b hb => ?_⟩
      obtain ⟨p, hp, rfl⟩ := List.mem_map.mp hb
      exact (TA_rt d _ p (h3 p hp)).1.1
    · exact infL_InA t.2 (k + 1) (fun p hp k' e' he' => ih (ns + 1) k' k p (h3 p hp) e' he') e hm
def erA (e : If) : If := ((0, e.1.2), e.2)
theorem infL_nad {d : Nat} {g g' : Int → Tr d → List If} (hg : ∀ k p, g' k (nad d p) = (g k p).map erA) : ∀ (l : List (Tr d)) (k : Int), infL g' k (l.map (nad d)) = (infL g k l).map erA := by
  intro l
  induction l with
  | nil => intro k; rfl
  | cons p l ih => intro k; simp only [List.map_cons, infL, List.map_append, hg, ih, nad_tsz]
theorem inf_nad : ∀ (d : Nat) (ns k mb : Int) (t : Tr d), inf d ns k mb (nad d t) = (inf d ns k mb t).map erA := by
  intro d
  induction d with
  | zero => intro ns k mb t; exact t.elim
  | succ d ih =>
    intro ns k mb t
    show ((0, t.1.2), ns, mb, (tsz (d + 1) (nad (d + 1) t) : Int), ((t.2.map (nad d)).length : Int)) :: infL (fun k' p => inf d (ns + 1) k' k p) (k + 1) (t.2.map (nad d)) = erA (t.1, ns, mb, (tsz (d + 1) t : Int), (t.2.length : Int)) :: (infL (fun k' p => inf d (ns + 1) k' k p) (k + 1) t.2).map erA
    rw [nad_tsz, List.length_map, infL_nad (fun k' p => ih (ns + 1) k' k p)]
    rfl
theorem c_numb1 (d : Nat) {G : Hp} (hF : FC G) {n k : Int} (hn : iv G 17 2 = n) (n1 : n ≤ 364) (k0 : 0 ≤ k) (k1 : k < n) {r : Option Nat} (hr : rv G 18 k = r) : CX (d + 1) 74 [.inr (.inr (some 17)), .inl k] G (fun x G1 => x = some (.inr (.inr r)) ∧ G1 = G) := by
  refine CX.of (d := d + 0) m_X8_numbered (Nat.le_of_ble_eq_true rfl) ?_
  refine Ex.lcl (ls' := [some (.inr (.inr (some 17))), some (.inl k)]) rfl ?_
  refine x_iload_n (q := 1) dX8_numbered_0 rfl rfl ?_
  refine x_if_lt (q := 4) (t := 21) dX8_numbered_1 rfl (by decide) (fun h1 => by exfalso; omega) (fun h1 => ?_)
  refine x_iload_n (q := 5) dX8_numbered_4 rfl rfl ?_
  refine x_aload_n (q := 6) dX8_numbered_5 rfl rfl ?_
  refine x_getI (q := 9) dX8_numbered_6 rfl f_8_21 rfl (ft17 hF) ?_
  refine Ex.stk (st' := [.inl n, .inl k]) (by rw [show iv G 17 2 = n from hn]) ?_
  refine x_icmp_ge (q := 12) (t := 21) dX8_numbered_9 rfl (by decide) (fun h9 => by exfalso; omega) (fun h9 => ?_)
  refine x_aload_n (q := 13) dX8_numbered_12 rfl rfl ?_
  refine x_getR (q := 16) dX8_numbered_13 rfl f_8_11 rfl (ft17 hF) ?_
  refine Ex.stk (st' := [.inr (.inr (some 18))]) (by rw [fr17_0 hF]) ?_
  refine x_iload_n (q := 17) dX8_numbered_16 rfl rfl ?_
  refine x_aaload (q := 18) dX8_numbered_17 rfl (Or.inl (ft18 hF)) (by omega) (by rw [fl18 hF]; omega) ?_
  refine Ex.stk (st' := [.inr (.inr r)]) (by rw [show rv G 18 k = r from hr]) ?_
  refine x_goto (t := 22) dX8_numbered_18 (by decide) ?_
  refine x_aret dX8_numbered_22 rfl ?_
  exact ⟨rfl, rfl⟩
theorem c_numb0 (d : Nat) {G : Hp} (hF : FC G) {n k : Int} (hn : iv G 17 2 = n) (hk : ¬ (0 ≤ k ∧ k < n)) : CX (d + 1) 74 [.inr (.inr (some 17)), .inl k] G (fun x G1 => x = some (.inr (.inr none)) ∧ G1 = G) := by
  refine CX.of (d := d + 0) m_X8_numbered (Nat.le_of_ble_eq_true rfl) ?_
  refine Ex.lcl (ls' := [some (.inr (.inr (some 17))), some (.inl k)]) rfl ?_
  refine x_iload_n (q := 1) dX8_numbered_0 rfl rfl ?_
  refine x_if_lt (q := 4) (t := 21) dX8_numbered_1 rfl (by decide) (fun h1 => ?_) (fun h1 => ?_)
  · refine x_aconst_null (q := 22) dX8_numbered_21 rfl ?_
    refine x_aret dX8_numbered_22 rfl ?_
    exact ⟨rfl, rfl⟩
  · refine x_iload_n (q := 5) dX8_numbered_4 rfl rfl ?_
    refine x_aload_n (q := 6) dX8_numbered_5 rfl rfl ?_
    refine x_getI (q := 9) dX8_numbered_6 rfl f_8_21 rfl (ft17 hF) ?_
    refine Ex.stk (st' := [.inl n, .inl k]) (by rw [show iv G 17 2 = n from hn]) ?_
    refine x_icmp_ge (q := 12) (t := 21) dX8_numbered_9 rfl (by decide) (fun h9 => ?_) (fun h9 => by exfalso; omega)
    refine x_aconst_null (q := 22) dX8_numbered_21 rfl ?_
    refine x_aret dX8_numbered_22 rfl ?_
    exact ⟨rfl, rfl⟩
theorem hmp_loop {d : Nat} {G : Hp} {a : Nat} {Q : Option V → Hp → Prop} : ∀ (l : List Nat) (z : Int) (r : Option Nat), Chn G r l → (∀ b ∈ l, tg G b = 1) → 0 ≤ z → z + (l.length : Int) ≤ 100000 → Q (some (.inl (z + (l.length : Int)))) G → Ex (d) (some .int) 1 false cX1_howManyParts 7 [some (.inr (.inr (some a))), some (.inl z), some (.inr (.inr r))] [] G Q := by
  intro l
  induction l with
  | nil =>
    intro z r hr ht z0 z1 kk
    have hr : r = none := hr
    subst hr
    simp only [List.length_nil] at kk
    refine x_aload_n (q := 8) dX1_howManyParts_7 rfl rfl ?_
    refine x_ifnull (q := 11) (t := 22) dX1_howManyParts_8 rfl (by decide) (fun h8 => ?_) (fun a8 h8 => by exfalso; cases h8)
    refine x_iload_n (q := 23) dX1_howManyParts_22 rfl rfl ?_
    refine x_iret dX1_howManyParts_23 rfl ?_
    rw [show z = z + ((0 : Nat) : Int) by omega]; exact kk
  | cons b l ih =>
    intro z r hr ht z0 z1 kk
    obtain ⟨hr, hb⟩ := hr
    subst hr
    have tb : tg G b = 1 := ht b (List.mem_cons_self ..)
    rw [List.length_cons] at z1 kk
    refine x_aload_n (q := 8) dX1_howManyParts_7 rfl rfl ?_
    refine x_ifnull (q := 11) (t := 22) dX1_howManyParts_8 rfl (by decide) (fun h8 => by exfalso; cases h8) (fun a8 h8 => ?_)
    refine x_iinc (q := 14) (ls' := [some (.inr (.inr (some a))), some (.inl (z + 1)), some (.inr (.inr (some b)))]) dX1_howManyParts_11 rfl rfl (by first | rfl | exact hnl | exact hnl2 _) (by rw [show wr (z + 1) = z + 1 from (wr_id ⟨by omega, by omega⟩)]; rfl) ?_
    refine x_aload_n (q := 15) dX1_howManyParts_14 rfl rfl ?_
    refine x_getR (q := 18) dX1_howManyParts_15 rfl f_1_50 rfl tb ?_
    refine x_astore_n (q := 19) (ls' := [some (.inr (.inr (some a))), some (.inl (z + 1)), some (.inr (.inr (rv G b 10)))]) dX1_howManyParts_18 rfl (Nat.le_of_ble_eq_true rfl) (by first | rfl | exact hnl | exact hnl2 _) rfl ?_
    refine x_goto (t := 7) dX1_howManyParts_19 (by decide) ?_
    refine ih _ _ hb (fun x hx => ht x (List.mem_cons_of_mem _ hx)) (by omega) (by omega) ?_
    rw [show z + 1 + (l.length : Int) = z + ((l.length + 1 : Nat) : Int) by omega]; exact kk
theorem c_howMany (d : Nat) {G : Hp} {a : Nat} (ha : tg G a = 1) {l : List Nat} (hl : Chn G (rv G a 8) l) (ht : ∀ b ∈ l, tg G b = 1) (h1 : (l.length : Int) ≤ 100000) : CX (d + 1) 14 [.inr (.inr (some a))] G (fun r G1 => r = some (.inl (l.length : Int)) ∧ G1 = G) := by
  refine CX.of (d := d + 0) m_X1_howManyParts (Nat.le_of_ble_eq_true rfl) ?_
  refine Ex.lcl (ls' := [some (.inr (.inr (some a))), none, none]) rfl ?_
  refine x_iconst (q := 1) dX1_howManyParts_0 rfl (by decide) ?_
  refine x_istore_n (q := 2) (ls' := [some (.inr (.inr (some a))), some (.inl 0), none]) dX1_howManyParts_1 rfl (Nat.le_of_ble_eq_true rfl) (by first | rfl | exact hnl | exact hnl2 _) rfl ?_
  refine x_aload_n (q := 3) dX1_howManyParts_2 rfl rfl ?_
  refine x_getR (q := 6) dX1_howManyParts_3 rfl f_1_34 rfl ha ?_
  refine x_astore_n (q := 7) (ls' := [some (.inr (.inr (some a))), some (.inl 0), some (.inr (.inr (rv G a 8)))]) dX1_howManyParts_6 rfl (Nat.le_of_ble_eq_true rfl) (by first | rfl | exact hnl | exact hnl2 _) rfl ?_
  refine hmp_loop l 0 _ hl ht (by decide) (by omega) ?_
  exact ⟨vi_eq (by omega), rfl⟩
