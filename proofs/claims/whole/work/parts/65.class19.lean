/-! THE CLASS: the trace is listed -/
def IA (G : Hp) : Int → List If → Prop
  | _, [] => True
  | k, e :: l => (rv G 18 k = some (nAd e.1) ∧ iv G (nAd e.1) 13 = e.2.2.1 ∧ iv G (nAd e.1) 14 = e.2.2.2.1) ∧ IA G (k + 1) l
theorem IA_app {G : Hp} : ∀ (l1 l2 : List If) (k : Int), IA G k (l1 ++ l2) ↔ IA G k l1 ∧ IA G (k + (l1.length : Int)) l2 := by
  intro l1
  induction l1 with
  | nil => intro l2 k; simp [IA]
  | cons e l ih =>
    intro l2 k
    simp only [List.cons_append, IA, ih, List.length_cons]
    rw [show k + 1 + (l.length : Int) = k + ((l.length + 1 : Nat) : Int) from by omega]
    constructor
    · rintro ⟨h1, h2, h3⟩; exact ⟨⟨h1, h2⟩, h3⟩
    · rintro ⟨⟨h1, h2⟩, h3⟩; exact ⟨h1, h2, h3⟩
theorem IA_kept {G G' : Hp} : ∀ (l : List If) (k : Int), IA G k l → (∀ j, k ≤ j → j < k + (l.length : Int) → rv G' 18 j = rv G 18 j) → (∀ e ∈ l, iv G' (nAd e.1) 13 = iv G (nAd e.1) 13 ∧ iv G' (nAd e.1) 14 = iv G (nAd e.1) 14) → IA G' k l := by
  intro l
  induction l with
  | nil => intro k _ _ _; trivial
  | cons e l ih =>
    intro k ⟨⟨h1, h2, h3⟩, h4⟩ hk he
    rw [List.length_cons] at hk
    have := he e (List.mem_cons_self ..)
    exact ⟨⟨by rw [hk k (by omega) (by omega)]; exact h1, by rw [this.1]; exact h2, by rw [this.2]; exact h3⟩, ih (k + 1) h4 (fun j j0 j1 => hk j (by omega) (by omega)) (fun e' he' => he e' (List.mem_cons_of_mem _ he'))⟩
theorem IA_get {G : Hp} : ∀ (l : List If) (k : Int), IA G k l → ∀ (i : Nat) (e : If), l[i]? = some e → rv G 18 (k + (i : Int)) = some (nAd e.1) ∧ iv G (nAd e.1) 13 = e.2.2.1 ∧ iv G (nAd e.1) 14 = e.2.2.2.1 := by
  intro l
  induction l with
  | nil => intro k _ i e he; cases he
  | cons a l ih =>
    intro k ⟨h1, h2⟩ i e he
    cases i with
    | zero => cases he; rw [show k + ((0 : Nat) : Int) = k from by omega]; exact h1
    | succ i => have := ih (k + 1) h2 i e he; rw [show k + 1 + (i : Int) = k + ((i + 1 : Nat) : Int) from by omega] at this; exact this
theorem infL_adr {d : Nat} {g : Int → Tr d → List If} (hg : ∀ k t, (g k t).map (fun e => nAd e.1) = adL d t) : ∀ (l : List (Tr d)) (k : Int), (infL g k l).map (fun e => nAd e.1) = adLs d l := by
  intro l
  induction l with
  | nil => intro k; rfl
  | cons t l ih => intro k; simp only [infL, List.map_append, hg, ih, adLs_cons]
theorem inf_adr : ∀ (d : Nat) (ns k mb : Int) (t : Tr d), (inf d ns k mb t).map (fun e => nAd e.1) = adL d t := by
  intro d
  induction d with
  | zero => intro ns k mb t; exact t.elim
  | succ d ih =>
    intro ns k mb t
    show nAd t.1 :: (infL (fun k' p => inf d (ns + 1) k' k p) (k + 1) t.2).map (fun e => nAd e.1) = nAd t.1 :: adLs d t.2
    rw [infL_adr (fun k' p => ih (ns + 1) k' k p)]
theorem infL_len {d : Nat} {g : Int → Tr d → List If} (hg : ∀ k t, (g k t).length = tsz d t) : ∀ (l : List (Tr d)) (k : Int), (infL g k l).length = tszL d l := by
  intro l
  induction l with
  | nil => intro k; rfl
  | cons t l ih => intro k; simp only [infL, List.length_append, hg, ih, tszL_cons]
/-- what listing changes -/
def LsI (A : List Nat) (lo hi : Int) (G G' : Hp) : Prop := sz G' = sz G ∧ sl G' = sl G ∧ (∀ a, tg G' a = tg G a ∧ ln G' a = ln G a) ∧ (∀ a k, rv G' a k = rv G a k ∨ (a = 18 ∧ lo ≤ k ∧ k < hi)) ∧ ∀ a k, iv G' a k = iv G a k ∨ (a = 17 ∧ k = 2) ∨ (a ∈ A ∧ (k = 13 ∨ k = 14))
theorem LsI.rf (A : List Nat) (lo hi : Int) (G : Hp) : LsI A lo hi G G := ⟨rfl, rfl, fun _ => ⟨rfl, rfl⟩, fun _ _ => Or.inl rfl, fun _ _ => Or.inl rfl⟩
theorem LsI.trans {A B C : List Nat} {l1 h1 l2 h2 lo hi : Int} {G G1 G2 : Hp} (a : LsI A l1 h1 G G1) (b : LsI B l2 h2 G1 G2) (ha : ∀ x ∈ A, x ∈ C) (hb : ∀ x ∈ B, x ∈ C) (hl : lo ≤ l1 ∧ h1 ≤ hi ∧ lo ≤ l2 ∧ h2 ≤ hi) : LsI C lo hi G G2 := by
  obtain ⟨a1, a2, a3, a4, a5⟩ := a
  obtain ⟨b1, b2, b3, b4, b5⟩ := b
  refine ⟨b1.trans a1, b2.trans a2, fun x => ⟨(b3 x).1.trans (a3 x).1, (b3 x).2.trans (a3 x).2⟩, fun x k => ?_, fun x k => ?_⟩
  · rcases b4 x k with h | h
    · rw [h]
      rcases a4 x k with g | g
      · exact Or.inl g
      · exact Or.inr ⟨g.1, by omega, by omega⟩
    · exact Or.inr ⟨h.1, by omega, by omega⟩
  · rcases b5 x k with h | h | h
    · rw [h]
      rcases a5 x k with g | g | g
      · exact Or.inl g
      · exact Or.inr (Or.inl g)
      · exact Or.inr (Or.inr ⟨ha x g.1, g.2⟩)
    · exact Or.inr (Or.inl h)
    · exact Or.inr (Or.inr ⟨hb x h.1, h.2⟩)
theorem LsI_rv {A : List Nat} {lo hi : Int} {G G' : Hp} (h : LsI A lo hi G G') {a : Nat} (ha : a ≠ 18) (k : Int) : rv G' a k = rv G a k := by
  rcases h.2.2.2.1 a k with g | g
  · exact g
  · exact absurd g.1 ha
theorem LsI_iv {A : List Nat} {lo hi : Int} {G G' : Hp} (h : LsI A lo hi G G') {a : Nat} {k : Int} (ha : ¬ (a = 17 ∧ k = 2)) (hk : a ∉ A ∨ (k ≠ 13 ∧ k ≠ 14)) : iv G' a k = iv G a k := by
  rcases h.2.2.2.2 a k with g | g | g
  · exact g
  · exact absurd g ha
  · rcases hk with q | q
    · exact absurd g.1 q
    · omega
theorem CO_LsI {A : List Nat} {lo hi : Int} {G G' : Hp} (h : LsI A lo hi G G') {a : Nat} (ha : a ≠ 18) (hc : CO G a) : CO G' a := ⟨(h.2.2.1 a).1.trans hc.1, (LsI_rv h ha 7).trans hc.2.1, (h.2.2.1 _).1.trans hc.2.2.1, (h.2.2.1 _).2.trans hc.2.2.2⟩
theorem TS_LsI {A : List Nat} {lo hi : Int} {G G' : Hp} (h : LsI A lo hi G G') : ∀ (d : Nat) (ns : Int) (t : Tr d), TS G d ns t → (∀ b ∈ adL d t, 33 ≤ b) → TS G' d ns t := by
  intro d
  induction d with
  | zero => intro ns t; exact t.elim
  | succ d ih =>
    intro ns t ⟨h1, h2, h3, h4⟩ hb
    have hr := hb (nAd t.1) (List.mem_cons_self ..)
    have hp : ∀ p ∈ t.2, ∀ b ∈ adL d p, 33 ≤ b := fun p hp b hbm => hb b (List.mem_cons_of_mem _ (List.mem_flatMap.mpr ⟨p, hp, hbm⟩))
    refine ⟨CO_LsI h (by omega) h1, by rw [LsI_iv h (by omega) (Or.inr ⟨by decide, by decide⟩)]; exact h2, ?_, fun p hpm => ih _ p (h4 p hpm) (hp p hpm)⟩
    rw [LsI_rv h (by omega)]
    refine Chn_kept _ _ h3 (fun b hbm => ?_)
    obtain ⟨p, hpm, rfl⟩ := List.mem_map.mp hbm
    exact LsI_rv h (by have := hp p hpm _ (aRt_mem d p); omega) 10
theorem FC_LsI {A : List Nat} {lo hi : Int} {G G' : Hp} (h : LsI A lo hi G G') (hF : FC G) : FC G' := by
  have h18 : ∀ e ∈ fcR, e.1 ≠ 18 := by decide
  exact ⟨fun e he => by rw [(h.2.2.1 _).1, (h.2.2.1 _).2]; exact hF.1 e he, fun e he => by rw [LsI_rv h (h18 e he)]; exact hF.2 e he⟩
def LsC (D d : Nat) : Prop := ∀ (t : Tr (d + 1)) (ns k mb : Int) (G : Hp), FC G → TS G (d + 1) ns t → (adL (d + 1) t).Nodup → (∀ b ∈ adL (d + 1) t, 33 ≤ b) → iv G 17 2 = k → 0 ≤ k → k + (tsz (d + 1) t : Int) ≤ 364 → ns + (d : Int) = 6 → CX (D + (d + 1)) 73 [.inr (.inr (some 17)), .inr (.inr (some (nAd t.1))), .inl mb] G (fun r G' => r = none ∧ LsI (adL (d + 1) t) k (k + (tsz (d + 1) t : Int)) G G' ∧ iv G' 17 2 = k + (tsz (d + 1) t : Int) ∧ IA G' k (inf (d + 1) ns k mb t))
theorem list_loop {D d : Nat} {Q : Option V → Hp → Prop} {a : Nat} {mb k ns : Int} (hC : LsC D d) (hns : ns + (d : Int) = 6) : ∀ (l : List (Tr (d + 1))) (j : Int) (G : Hp) (r : Option Nat), FC G → Chn G r (l.map (aRt (d + 1))) → (∀ p ∈ l, TS G (d + 1) ns p) → (adLs (d + 1) l).Nodup → (∀ b ∈ adLs (d + 1) l, 33 ≤ b) → iv G 17 2 = j → 0 ≤ j → j + (tszL (d + 1) l : Int) ≤ 364 → (∀ G', LsI (adLs (d + 1) l) j (j + (tszL (d + 1) l : Int)) G G' → iv G' 17 2 = j + (tszL (d + 1) l : Int) → IA G' j (infL (fun k' p => inf (d + 1) ns k' k p) j l) → Ex (D + (d + 1)) none 8 false cX8_listAll 75 [some (.inr (.inr (some 17))), some (.inr (.inr (some a))), some (.inl mb), some (.inl k), some (.inr (.inr none))] [] G' Q) → Ex (D + (d + 1)) none 8 false cX8_listAll 53 [some (.inr (.inr (some 17))), some (.inr (.inr (some a))), some (.inl mb), some (.inl k), some (.inr (.inr r))] [] G Q := by
  intro l
  induction l with
  | nil =>
    intro j G r hF hr _ _ _ h2 j0 j1 kk
    have hr : r = none := hr
    subst hr
    refine x_aload (q := 55) dX8_listAll_53 rfl rfl ?_
    refine x_ifnull (q := 58) (t := 75) dX8_listAll_55 rfl (by decide) (fun h55 => ?_) (fun a55 h55 => by exfalso; cases h55)
    refine kk G (LsI.rf _ _ _ _) (by show _ = j + ((0 : Nat) : Int); omega) trivial
  | cons t l ih =>
    intro j G r hF hr hts hnd h33 h2 j0 j1 kk
    obtain ⟨rfl, hr2⟩ := hr
    rw [adLs_cons] at hnd h33
    rw [tszL_cons] at j1
    obtain ⟨x1, x2, x3⟩ := List.nodup_append.mp hnd
    have ht := hts t (List.mem_cons_self ..)
    refine x_aload (q := 55) dX8_listAll_53 rfl rfl ?_
    refine x_ifnull (q := 58) (t := 75) dX8_listAll_55 rfl (by decide) (fun h55 => by exfalso; cases h55) (fun a55 h55 => ?_)
    refine x_aload_n (q := 59) dX8_listAll_58 rfl rfl ?_
    refine x_aload (q := 61) dX8_listAll_59 rfl rfl ?_
    refine x_iload_n (q := 62) dX8_listAll_61 rfl rfl ?_
    refine x_invV (q := 65) (as := [.inr (.inr (some 17)), .inr (.inr (some (aRt (d + 1) t))), .inl k]) (rest := []) dX8_listAll_62 rfl l_8_25 m_X8_listAll rfl rfl (ft17 hF) (Nat.le_of_ble_eq_true rfl) (hC t ns j k G hF ht x1 (fun b hb => h33 b (List.mem_append_left _ hb)) h2 j0 (by omega) hns) (fun r1 G1 hR => ?_)
    obtain ⟨rfl, g1, g2, g3⟩ := hR
    have hF1 := FC_LsI g1 hF
    have ht1 : tg G1 (nAd t.1) = 1 := (g1.2.2.1 _).1.trans ht.1.1
    refine Ex.stk (st' := []) rfl ?_
    refine x_aload (q := 67) dX8_listAll_65 rfl rfl ?_
    refine x_getR (q := 70) dX8_listAll_67 rfl f_8_38 rfl ht1 ?_
    refine x_astore (q := 72) (ls' := [some (.inr (.inr (some 17))), some (.inr (.inr (some a))), some (.inl mb), some (.inl k), some (.inr (.inr (rv G1 (aRt (d + 1) t) 10)))]) dX8_listAll_70 rfl (Nat.le_of_ble_eq_true rfl) (by first | rfl | exact hnl | exact hnl2 _) rfl ?_
    refine x_goto (t := 53) dX8_listAll_72 (by decide) ?_
    have h33t : ∀ b ∈ adLs (d + 1) l, 33 ≤ b := fun b hb => h33 b (List.mem_append_right _ hb)
    refine ih (j + (tsz (d + 1) t : Int)) G1 _ hF1 ?_ (fun p hp => TS_LsI g1 _ _ p (hts p (List.mem_cons_of_mem _ hp)) (fun b hb => h33t b (List.mem_flatMap.mpr ⟨p, hp, hb⟩))) x2 h33t g2 (by omega) (by omega) (fun G' y1 y2 y3 => kk G' ?_ ?_ ?_)
    · have e10 : rv G1 (aRt (d + 1) t) 10 = rv G (aRt (d + 1) t) 10 := LsI_rv g1 (by have := h33 (aRt (d + 1) t) (List.mem_append_left _ (aRt_mem _ t)); omega) 10
      rw [e10]
      exact Chn_kept _ _ hr2 (fun b hb => by obtain ⟨p, hp, rfl⟩ := List.mem_map.mp hb; exact LsI_rv g1 (by have := h33t _ (List.mem_flatMap.mpr ⟨p, hp, aRt_mem _ p⟩); omega) 10)
    · rw [adLs_cons, tszL_cons]
      exact g1.trans y1 (fun x hx => List.mem_append_left _ hx) (fun x hx => List.mem_append_right _ hx) ⟨by omega, by omega, by omega, by omega⟩
    · rw [y2, tszL_cons]; omega
    · show IA G' j (inf (d + 1) ns j k t ++ infL _ _ l)
      rw [IA_app, inf_len]
      refine ⟨IA_kept _ _ g3 (fun i i0 i1 => ?_) (fun e he => ?_), y3⟩
      · rw [inf_len] at i1
        rcases y1.2.2.2.1 18 i with q | q
        · exact q
        · omega
      · have hm : nAd e.1 ∈ adL (d + 1) t := by rw [← inf_adr (d + 1) ns j k t]; exact List.mem_map.mpr ⟨e, he, rfl⟩
        have hnm : nAd e.1 ∉ adLs (d + 1) l := fun q => x3 _ hm _ q rfl
        have h3 := h33 _ (List.mem_append_left _ hm)
        exact ⟨LsI_iv y1 (by omega) (Or.inl hnm), LsI_iv y1 (by omega) (Or.inl hnm)⟩
theorem ls_of {D d : Nat} (hloop : ∀ (t : Tr (d + 1)) (k mb ns : Int) (G : Hp) (Q : Option V → Hp → Prop), FC G → Chn G (rv G (nAd t.1) 8) (t.2.map (aRt d)) → (∀ p ∈ t.2, TS G d (ns + 1) p) → (adLs d t.2).Nodup → (∀ b ∈ adLs d t.2, 33 ≤ b) → iv G 17 2 = k + 1 → 0 ≤ k → k + 1 + (tszL d t.2 : Int) ≤ 364 → ns + (d : Int) = 6 → (∀ G', LsI (adLs d t.2) (k + 1) (k + 1 + (tszL d t.2 : Int)) G G' → iv G' 17 2 = k + 1 + (tszL d t.2 : Int) → IA G' (k + 1) (infL (fun k' p => inf d (ns + 1) k' k p) (k + 1) t.2) → Ex (D + d) none 8 false cX8_listAll 75 [some (.inr (.inr (some 17))), some (.inr (.inr (some (nAd t.1)))), some (.inl mb), some (.inl k), some (.inr (.inr none))] [] G' Q) → Ex (D + d) none 8 false cX8_listAll 53 [some (.inr (.inr (some 17))), some (.inr (.inr (some (nAd t.1)))), some (.inl mb), some (.inl k), some (.inr (.inr (rv G (nAd t.1) 8)))] [] G Q) : LsC D d := by
  intro t ns k mb G hF ts hnd h33 h2 k0 k1 hns
  have hta := h33 (nAd t.1) (List.mem_cons_self ..)
  obtain ⟨x1, x2⟩ := List.nodup_cons.mp (show (nAd t.1 :: adLs d t.2).Nodup from hnd)
  have hz := tsz_eq t
  have h17g := ft17 hF
  refine CX.of (d := D + d) m_X8_listAll (Nat.le_of_ble_eq_true rfl) ?_
  refine Ex.lcl (ls' := [some (.inr (.inr (some 17))), some (.inr (.inr (some (nAd t.1)))), some (.inl mb), none, none]) rfl ?_
  refine x_aload_n (q := 1) dX8_listAll_0 rfl rfl ?_
  refine x_getI (q := 4) dX8_listAll_1 rfl f_8_21 rfl h17g ?_
  refine Ex.stk (st' := [.inl k]) (by rw [show iv G 17 2 = k from h2]) ?_
  refine x_sipush (q := 7) dX8_listAll_4 rfl (by decide) ?_
  refine x_icmp_ge (q := 10) (t := 19) dX8_listAll_7 rfl (by decide) (fun h7 => by exfalso; omega) (fun h7 => ?_)
  refine x_aload_n (q := 11) dX8_listAll_10 rfl rfl ?_
  refine x_getI (q := 14) dX8_listAll_11 rfl f_8_29 rfl ts.1.1 ?_
  refine Ex.stk (st' := [.inl ns]) (by rw [show iv G (nAd t.1) 5 = ns from ts.2.1]) ?_
  refine x_bipush (q := 16) dX8_listAll_14 rfl (by decide) ?_
  refine x_icmp_le (q := 19) (t := 20) dX8_listAll_16 rfl (by decide) (fun h16 => ?_) (fun h16 => by exfalso; omega)
  refine x_aload_n (q := 21) dX8_listAll_20 rfl rfl ?_
  refine x_getI (q := 24) dX8_listAll_21 rfl f_8_21 rfl h17g ?_
  refine Ex.stk (st' := [.inl k]) (by rw [show iv G 17 2 = k from h2]) ?_
  refine x_istore_n (q := 25) (ls' := [some (.inr (.inr (some 17))), some (.inr (.inr (some (nAd t.1)))), some (.inl mb), some (.inl k), none]) dX8_listAll_24 rfl (Nat.le_of_ble_eq_true rfl) (by first | rfl | exact hnl | exact hnl2 _) rfl ?_
  refine x_aload_n (q := 26) dX8_listAll_25 rfl rfl ?_
  refine x_getR (q := 29) dX8_listAll_26 rfl f_8_11 rfl h17g ?_
  refine Ex.stk (st' := [.inr (.inr (some 18))]) (by rw [show rv G 17 0 = some 18 from fr17_0 hF]) ?_
  refine x_iload_n (q := 30) dX8_listAll_29 rfl rfl ?_
  refine x_aload_n (q := 31) dX8_listAll_30 rfl rfl ?_
  refine x_aastore (q := 32) dX8_listAll_31 rfl (Or.inl ⟨(ft18 hF), ts.1.1⟩) (by omega) (by rw [fl18 hF]; omega) ?_
  refine x_aload_n (q := 33) dX8_listAll_32 rfl rfl ?_
  refine x_dup (q := 34) dX8_listAll_33 rfl rfl ?_
  refine x_getI (q := 37) dX8_listAll_34 rfl f_8_21 rfl h17g ?_
  refine Ex.stk (st' := [.inl k, .inr (.inr (some 17))]) (by rw [show iv (sr G 18 k (some (nAd t.1))) 17 2 = k from h2]) ?_
  refine x_iconst (q := 38) dX8_listAll_37 rfl (by decide) ?_
  refine x_iadd (q := 39) (z := k + 1) dX8_listAll_38 rfl (wr_id ⟨by omega, by omega⟩) ?_
  refine x_putI (q := 42) dX8_listAll_39 rfl f_8_21 rfl (fun h => by cases h) (fun h => by cases h) h17g ?_
  refine x_aload_n (q := 43) dX8_listAll_42 rfl rfl ?_
  refine x_iload_n (q := 44) dX8_listAll_43 rfl rfl ?_
  refine x_putI (q := 47) dX8_listAll_44 rfl f_8_32 rfl (fun h => by cases h) (fun h => by cases h) ts.1.1 ?_
  refine x_aload_n (q := 48) dX8_listAll_47 rfl rfl ?_
  refine x_getR (q := 51) dX8_listAll_48 rfl f_8_35 rfl ts.1.1 ?_
  refine x_astore (q := 53) (ls' := [some (.inr (.inr (some 17))), some (.inr (.inr (some (nAd t.1)))), some (.inl mb), some (.inl k), some (.inr (.inr (rv (si (si (sr G 18 k (some (nAd t.1))) 17 2 (k + 1)) (nAd t.1) 13 mb) (nAd t.1) 8)))]) dX8_listAll_51 rfl (Nat.le_of_ble_eq_true rfl) (by first | rfl | exact hnl | exact hnl2 _) rfl ?_
  have hA3 : LsI [nAd t.1] k (k + 1) G (si (si (sr G 18 k (some (nAd t.1))) 17 2 (k + 1)) (nAd t.1) 13 mb) := by
    refine ⟨rfl, rfl, fun _ => ⟨rfl, rfl⟩, fun b j => ?_, fun b j => ?_⟩
    · simp only [rv_si, rv_sr]
      by_cases hc : b = 18 ∧ j = k
      · exact Or.inr ⟨hc.1, by omega, by omega⟩
      · exact Or.inl (if_neg hc)
    · simp only [iv_si, iv_sr]
      by_cases hc : b = nAd t.1 ∧ j = 13
      · exact Or.inr (Or.inr ⟨by rw [hc.1]; exact List.mem_singleton.mpr rfl, Or.inl hc.2⟩)
      · rw [if_neg hc]
        by_cases hd : b = 17 ∧ j = 2
        · exact Or.inr (Or.inl hd)
        · exact Or.inl (if_neg hd)
  have e18 : rv (si (si (sr G 18 k (some (nAd t.1))) 17 2 (k + 1)) (nAd t.1) 13 mb) 18 k = some (nAd t.1) := by simp [rv_si, rv_sr]
  have e13 : iv (si (si (sr G 18 k (some (nAd t.1))) 17 2 (k + 1)) (nAd t.1) 13 mb) (nAd t.1) 13 = mb := by simp [iv_si]
  have e17 : iv (si (si (sr G 18 k (some (nAd t.1))) 17 2 (k + 1)) (nAd t.1) 13 mb) 17 2 = k + 1 := by simp only [iv_si]; rw [if_neg (by omega), if_pos (by simp)]
  have hF3 := FC_LsI hA3 hF
  generalize si (si (sr G 18 k (some (nAd t.1))) 17 2 (k + 1)) (nAd t.1) 13 mb = G3 at *
  have h8 : rv G3 (nAd t.1) 8 = rv G (nAd t.1) 8 := LsI_rv hA3 (by omega) 8
  refine hloop t k mb ns G3 _ hF3 (by rw [h8]; exact Chn_kept _ _ ts.2.2.1 (fun b hb => by obtain ⟨p, hp, rfl⟩ := List.mem_map.mp hb; exact LsI_rv hA3 (by have := h33 _ (List.mem_cons_of_mem _ (List.mem_flatMap.mpr ⟨p, hp, aRt_mem d p⟩)); omega) 10)) (fun p hp => TS_LsI hA3 _ _ p (ts.2.2.2 p hp) (fun b hb => h33 b (List.mem_cons_of_mem _ (List.mem_flatMap.mpr ⟨p, hp, hb⟩)))) x2 (fun b hb => h33 b (List.mem_cons_of_mem _ hb)) e17 k0 (by omega) hns (fun G4 y1 y2 y3 => ?_)
  have hF4 := FC_LsI y1 hF3
  have ht4 : tg G4 (nAd t.1) = 1 := (y1.2.2.1 _).1.trans ((hA3.2.2.1 _).1.trans ts.1.1)
  refine x_aload_n (q := 76) dX8_listAll_75 rfl rfl ?_
  refine x_aload_n (q := 77) dX8_listAll_76 rfl rfl ?_
  refine x_getI (q := 80) dX8_listAll_77 rfl f_8_21 rfl (ft17 hF4) ?_
  refine Ex.stk (st' := [.inl (k + 1 + (tszL d t.2 : Int)), .inr (.inr (some (nAd t.1)))]) (by rw [show iv G4 17 2 = k + 1 + (tszL d t.2 : Int) from y2]) ?_
  refine x_iload_n (q := 81) dX8_listAll_80 rfl rfl ?_
  refine x_isub (q := 82) (z := (tsz (d + 1) t : Int)) dX8_listAll_81 rfl (by rw [show k + 1 + (tszL d t.2 : Int) - k = (tsz (d + 1) t : Int) from by omega]; exact wr_id ⟨by omega, by omega⟩) ?_
  refine x_putI (q := 85) dX8_listAll_82 rfl f_8_41 rfl (fun h => by cases h) (fun h => by cases h) ht4 ?_
  refine x_vret dX8_listAll_85 rfl ?_
  have hI5 : ∀ (b : Nat) (j : Int), ¬ (b = nAd t.1 ∧ j = 14) → iv (si G4 (nAd t.1) 14 (tsz (d + 1) t : Int)) b j = iv G4 b j := fun b j hb => by rw [iv_si, if_neg hb]
  refine ⟨rfl, ?_, ?_, ⟨?_, ?_, ?_⟩, ?_⟩
  · have hL5 : LsI [nAd t.1] k (k + 1) G4 (si G4 (nAd t.1) 14 (tsz (d + 1) t : Int)) := ⟨rfl, rfl, fun _ => ⟨rfl, rfl⟩, fun _ _ => Or.inl rfl, fun b j => by
      by_cases hc : b = nAd t.1 ∧ j = 14
      · exact Or.inr (Or.inr ⟨by rw [hc.1]; exact List.mem_singleton.mpr rfl, Or.inr hc.2⟩)
      · exact Or.inl (hI5 b j hc)⟩
    refine (hA3.trans y1 (C := adL (d + 1) t) (lo := k) (hi := k + (tsz (d + 1) t : Int)) (fun x hx => by rw [List.mem_singleton.mp hx]; exact List.mem_cons_self ..) (fun x hx => List.mem_cons_of_mem _ hx) ⟨by omega, by omega, by omega, by omega⟩).trans hL5 (fun x hx => hx) (fun x hx => by rw [List.mem_singleton.mp hx]; exact List.mem_cons_self ..) ⟨by omega, by omega, by omega, by omega⟩
  · rw [hI5 17 2 (by omega), y2]; omega
  · show rv G4 18 k = _
    rcases y1.2.2.2.1 18 k with q | q
    · rw [q]; exact e18
    · omega
  · rw [hI5 _ 13 (by omega)]
    show iv G4 (nAd t.1) 13 = mb
    rw [LsI_iv y1 (by omega) (Or.inl x1)]; exact e13
  · show iv (si G4 (nAd t.1) 14 (tsz (d + 1) t : Int)) (nAd t.1) 14 = (tsz (d + 1) t : Int)
    rw [iv_si, if_pos ⟨rfl, rfl⟩]
  · refine IA_kept _ _ y3 (fun j _ _ => rfl) (fun e he => ?_)
    have hm : nAd e.1 ∈ adLs d t.2 := by rw [← infL_adr (fun k' p => inf_adr d (ns + 1) k' k p) t.2 (k + 1)]; exact List.mem_map.mpr ⟨e, he, rfl⟩
    have hne : nAd e.1 ≠ nAd t.1 := fun q => x1 (q ▸ hm)
    exact ⟨hI5 _ 13 (fun z => hne z.1), hI5 _ 14 (fun z => hne z.1)⟩
theorem ls_all (D : Nat) : ∀ d, LsC D d := by
  intro d
  induction d with
  | zero =>
    refine ls_of (fun t k mb ns G Q hF hch hts hnd h33 h2 k0 k1 hns kk => ?_)
    have hp : t.2 = [] := adLs0 t.2
    rw [hp] at hch
    have hr : rv G (nAd t.1) 8 = none := hch
    rw [hr]
    have K := kk G (LsI.rf _ _ _ _) (by rw [h2, hp]; show k + 1 = k + 1 + ((0 : Nat) : Int); omega) (by rw [hp]; trivial)
    refine x_aload (q := 55) dX8_listAll_53 rfl rfl ?_
    refine x_ifnull (q := 58) (t := 75) dX8_listAll_55 rfl (by decide) (fun h55 => ?_) (fun a55 h55 => by exfalso; cases h55)
    exact K
  | succ d ih =>
    refine ls_of (fun t k mb ns G Q hF hch hts hnd h33 h2 k0 k1 hns kk => ?_)
    exact list_loop (ns := ns + 1) ih (by omega) t.2 (k + 1) G _ hF hch hts hnd h33 h2 (by omega) k1 kk
theorem TS_17 {G : Hp} {r : Option Nat} {v : Int} : ∀ (d : Nat) (ns : Int) (t : Tr d), TS G d ns t → (∀ b ∈ adL d t, 33 ≤ b) → TS (si (sr G 17 1 r) 17 2 v) d ns t := by
  intro d
  induction d with
  | zero => intro ns t; exact t.elim
  | succ d ih =>
    intro ns t ⟨h1, h2, h3, h4⟩ hb
    have hr := hb (nAd t.1) (List.mem_cons_self ..)
    refine ⟨⟨h1.1, by rw [rv_si, rv_sr, if_neg (by omega)]; exact h1.2.1, h1.2.2⟩, by rw [iv_si, if_neg (by omega)]; exact h2, ?_, fun p hp => ih _ p (h4 p hp) (fun b hbm => hb b (List.mem_cons_of_mem _ (List.mem_flatMap.mpr ⟨p, hp, hbm⟩)))⟩
    rw [rv_si, rv_sr, if_neg (by omega)]
    refine Chn_kept _ _ h3 (fun b hbm => ?_)
    obtain ⟨p, hp, rfl⟩ := List.mem_map.mp hbm
    have := hb _ (List.mem_cons_of_mem _ (List.mem_flatMap.mpr ⟨p, hp, aRt_mem d p⟩))
    rw [rv_si, rv_sr, if_neg (by omega)]
theorem c_list (d : Nat) {G : Hp} (hF : FC G) {t : Tr 6} (ts : TS G 6 1 t) (hnd : (adL 6 t).Nodup) (h33 : ∀ b ∈ adL 6 t, 33 ≤ b) (hz : tsz 6 t ≤ 364) : CX (d + 8) 72 [.inr (.inr (some 17)), .inr (.inr (some (nAd t.1)))] G (fun r G' => r = none ∧ LsI (adL 6 t) 0 (tsz 6 t : Int) (si (sr G 17 1 (some (nAd t.1))) 17 2 0) G' ∧ iv G' 17 2 = (tsz 6 t : Int) ∧ IA G' 0 (inf 6 1 0 (-1) t)) := by
  have hF2 : FC (si (sr G 17 1 (some (nAd t.1))) 17 2 0) := FX_si (FX_sr hF (a := 17) (k := 1) _ (by decide)) 17 2 0
  refine CX.of (d := d + 7) m_X8_list (Nat.le_of_ble_eq_true rfl) ?_
  refine Ex.lcl (ls' := [some (.inr (.inr (some 17))), some (.inr (.inr (some (nAd t.1))))]) rfl ?_
  refine x_aload_n (q := 1) dX8_list_0 rfl rfl ?_
  refine x_aload_n (q := 2) dX8_list_1 rfl rfl ?_
  refine x_putR (q := 5) dX8_list_2 rfl f_8_17 rfl (fun h => by cases h) (ft17 hF) ?_
  have hF := FX_sr hF (a := 17) (k := 1) (some (nAd t.1)) (by decide)
  refine x_aload_n (q := 6) dX8_list_5 rfl rfl ?_
  refine x_iconst (q := 7) dX8_list_6 rfl (by decide) ?_
  refine x_putI (q := 10) dX8_list_7 rfl f_8_21 rfl (fun h => by cases h) (fun h => by cases h) (ft17 hF) ?_
  have hF := FX_si hF 17 2 0
  refine x_aload_n (q := 11) dX8_list_10 rfl rfl ?_
  refine x_getR (q := 14) dX8_list_11 rfl f_8_17 rfl (ft17 hF) ?_
  refine Ex.stk (st' := [.inr (.inr (some (nAd t.1)))]) (by rw [show rv (si (sr G 17 1 (some (nAd t.1))) 17 2 0) 17 1 = some (nAd t.1) from (by simp [rv_si, rv_sr])]) ?_
  refine x_ifnull (q := 17) (t := 26) dX8_list_14 rfl (by decide) (fun h14 => by exfalso; cases h14) (fun a14 h14 => ?_)
  refine x_aload_n (q := 18) dX8_list_17 rfl rfl ?_
  refine x_aload_n (q := 19) dX8_list_18 rfl rfl ?_
  refine x_getR (q := 22) dX8_list_19 rfl f_8_17 rfl (ft17 hF) ?_
  refine Ex.stk (st' := [.inr (.inr (some (nAd t.1))), .inr (.inr (some 17))]) (by rw [show rv (si (sr G 17 1 (some (nAd t.1))) 17 2 0) 17 1 = some (nAd t.1) from (by simp [rv_si, rv_sr])]) ?_
  refine x_iconst (q := 23) dX8_list_22 rfl (by decide) ?_
  skip
  refine x_invV (q := 26) (as := [.inr (.inr (some 17)), .inr (.inr (some (nAd t.1))), .inl (-1)]) (rest := []) dX8_list_23 rfl l_8_25 m_X8_listAll rfl rfl (ft17 hF) (Nat.le_of_ble_eq_true rfl) (CX.up (d := 0 + (5 + 1)) (by omega) (ls_all 0 5 t 1 0 (-1) (si (sr G 17 1 (some (nAd t.1))) 17 2 0) hF2 (TS_17 _ _ _ ts h33) hnd h33 (by simp [iv_si]) (by decide) (by show (0 : Int) + (tsz 6 t : Int) ≤ 364; omega) (by decide))) (fun r1 G1 hR => ?_)
  obtain ⟨rfl, g1, g2, g3⟩ := hR
  refine Ex.stk (st' := []) rfl ?_
  refine x_vret dX8_list_26 rfl ?_
  exact ⟨rfl, by rw [show (0 : Int) + (tsz (5 + 1) t : Int) = (tsz 6 t : Int) from Int.zero_add _] at g1; exact g1, by rw [g2]; show (0 : Int) + (tsz 6 t : Int) = _; omega, g3⟩
