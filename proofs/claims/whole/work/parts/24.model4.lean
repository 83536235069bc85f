/-! THE MODEL: what layNew lays -/
theorem lay_open {dd : Nat} {G G' : Hp} {Q : Option V → Hp → Prop} (hF : FM G) {w f x v2 : Int} {l3 : Option V} (hn : isL l3 = false) (hw : iv G 35 40 = w) (w1 : 1 ≤ w) (hC : CX (dd + 4) 118 [.inr (.inr (some 35))] G (fun r G1 => r = some (.inl v2) ∧ G1 = G')) (hk : Ex (dd + 4) (some .int) 10 false cX10_layNew 48 [some (.inr (.inr (some 35))), some (.inl f), some (.inl x), some (.inl v2)] [] G' Q) : Ex (dd + 4) (some .int) 10 false cX10_layNew 36 [some (.inr (.inr (some 35))), some (.inl f), some (.inl x), l3] [] G Q := by
  have hnl : noL [some (.inr (.inr (some 35))), some (.inl f), some (.inl x), l3] = true := by simp [noL, isL] at hn ⊢; exact hn
  refine x_aload_n (q := 37) dX10_layNew_36 rfl rfl ?_
  refine x_getI (q := 40) dX10_layNew_37 rfl f_10_108 rfl (ft35 hF) ?_
  refine Ex.stk (st' := [.inl w]) (by rw [show iv G 35 40 = w from hw]) ?_
  refine x_if_le (q := 43) (t := 71) dX10_layNew_40 rfl (by decide) (fun h40 => by exfalso; omega) (fun h40 => ?_)
  refine x_aload_n (q := 44) dX10_layNew_43 rfl rfl ?_
  refine x_invV (q := 47) (as := [.inr (.inr (some 35))]) (rest := []) dX10_layNew_44 rfl l_10_155 m_X10_open rfl rfl (ft35 hF) (Nat.le_of_ble_eq_true rfl) hC (fun r1 G1 hR => ?_)
  obtain ⟨rfl, rfl⟩ := hR
  refine Ex.stk (st' := [.inl v2]) rfl ?_
  refine x_istore_n (q := 48) (ls' := [some (.inr (.inr (some 35))), some (.inl f), some (.inl x), some (.inl v2)]) dX10_layNew_47 rfl (Nat.le_of_ble_eq_true rfl) (by first | rfl | exact hnl) rfl ?_
  exact hk
theorem lay_neg {dd : Nat} {G : Hp} {Q : Option V → Hp → Prop} {f x v : Int} (hv : v < 0) (hk : Ex (dd + 4) (some .int) 10 false cX10_layNew 36 [some (.inr (.inr (some 35))), some (.inl f), some (.inl x), some (.inl v)] [] G Q) : Ex (dd + 4) (some .int) 10 false cX10_layNew 48 [some (.inr (.inr (some 35))), some (.inl f), some (.inl x), some (.inl v)] [] G Q := by
  refine x_iload_n (q := 49) dX10_layNew_48 rfl rfl ?_
  refine x_if_lt (q := 52) (t := 68) dX10_layNew_49 rfl (by decide) (fun h49 => ?_) (fun h49 => by exfalso; omega)
  refine x_goto (t := 36) dX10_layNew_68 (by decide) ?_
  exact hk
theorem lay_give {dd : Nat} {G G' : Hp} {Q : Option V → Hp → Prop} (hF : FM G) {w f x v v2 : Int} (hw : iv G 35 40 = w) (w1 : 1 ≤ w) (hv : 0 ≤ v) (hC : CX (dd + 4) 120 [.inr (.inr (some 35)), .inl v] G (fun r G1 => r = some (.inl v2) ∧ G1 = G')) (hk : Ex (dd + 4) (some .int) 10 false cX10_layNew 48 [some (.inr (.inr (some 35))), some (.inl f), some (.inl x), some (.inl v2)] [] G' Q) : Ex (dd + 4) (some .int) 10 false cX10_layNew 48 [some (.inr (.inr (some 35))), some (.inl f), some (.inl x), some (.inl v)] [] G Q := by
  refine x_iload_n (q := 49) dX10_layNew_48 rfl rfl ?_
  refine x_if_lt (q := 52) (t := 68) dX10_layNew_49 rfl (by decide) (fun h49 => by exfalso; omega) (fun h49 => ?_)
  refine x_aload_n (q := 53) dX10_layNew_52 rfl rfl ?_
  refine x_getI (q := 56) dX10_layNew_53 rfl f_10_108 rfl (ft35 hF) ?_
  refine Ex.stk (st' := [.inl w]) (by rw [show iv G 35 40 = w from hw]) ?_
  refine x_if_le (q := 59) (t := 68) dX10_layNew_56 rfl (by decide) (fun h56 => by exfalso; omega) (fun h56 => ?_)
  refine x_aload_n (q := 60) dX10_layNew_59 rfl rfl ?_
  refine x_iload_n (q := 61) dX10_layNew_60 rfl rfl ?_
  refine x_invV (q := 64) (as := [.inr (.inr (some 35)), .inl v]) (rest := []) dX10_layNew_61 rfl l_10_159 m_X10_give rfl rfl (ft35 hF) (Nat.le_of_ble_eq_true rfl) hC (fun r1 G1 hR => ?_)
  obtain ⟨rfl, rfl⟩ := hR
  refine Ex.stk (st' := [.inl v2]) rfl ?_
  refine x_istore_n (q := 65) (ls' := [some (.inr (.inr (some 35))), some (.inl f), some (.inl x), some (.inl v2)]) dX10_layNew_64 rfl (Nat.le_of_ble_eq_true rfl) (by first | rfl | exact hnl) rfl ?_
  refine x_goto (t := 48) dX10_layNew_65 (by decide) ?_
  exact hk
theorem lay_end {dd : Nat} {G : Hp} {Q : Option V → Hp → Prop} (hF : FM G) {f x v : Int} (hw : iv G 35 40 = 0) (hv : 0 ≤ v) (hk : Q (some (.inl (iv G 54 0))) G) : Ex (dd + 4) (some .int) 10 false cX10_layNew 48 [some (.inr (.inr (some 35))), some (.inl f), some (.inl x), some (.inl v)] [] G Q := by
  refine x_iload_n (q := 49) dX10_layNew_48 rfl rfl ?_
  refine x_if_lt (q := 52) (t := 68) dX10_layNew_49 rfl (by decide) (fun h49 => by exfalso; omega) (fun h49 => ?_)
  refine x_aload_n (q := 53) dX10_layNew_52 rfl rfl ?_
  refine x_getI (q := 56) dX10_layNew_53 rfl f_10_108 rfl (ft35 hF) ?_
  refine Ex.stk (st' := [.inl 0]) (by rw [show iv G 35 40 = 0 from hw]) ?_
  refine x_if_le (q := 59) (t := 68) dX10_layNew_56 rfl (by decide) (fun h56 => ?_) (fun h56 => by exfalso; omega)
  refine x_goto (t := 36) dX10_layNew_68 (by decide) ?_
  refine x_aload_n (q := 37) dX10_layNew_36 rfl rfl ?_
  refine x_getI (q := 40) dX10_layNew_37 rfl f_10_108 rfl (ft35 hF) ?_
  refine Ex.stk (st' := [.inl 0]) (by rw [show iv G 35 40 = 0 from hw]) ?_
  refine x_if_le (q := 43) (t := 71) dX10_layNew_40 rfl (by decide) (fun h40 => ?_) (fun h40 => by exfalso; omega)
  refine x_aload_n (q := 72) dX10_layNew_71 rfl rfl ?_
  refine x_getR (q := 75) dX10_layNew_72 rfl f_10_68 rfl (ft35 hF) ?_
  refine Ex.stk (st' := [.inr (.inr (some 54))]) (by rw [fr35_26 hF]) ?_
  refine x_iconst (q := 76) dX10_layNew_75 rfl (by decide) ?_
  refine x_iaload (q := 77) dX10_layNew_76 rfl (Or.inl (ft54 hF)) (by omega) (by rw [fl54 hF]; omega) ?_
  refine x_iret dX10_layNew_77 rfl ?_
  exact hk
/-- a machine state while a call is gone through -/
def MS (P : Pg) (c : Int → Int) (G : Hp) (a w cur nc ns m x : Int) : Prop := FM G ∧ iv G 42 = P.1 ∧ iv G 43 = P.2.1 ∧ iv G 35 14 = P.2.2 ∧ (∀ k, 0 ≤ k → k < 8 → iv G 36 k = c k) ∧ iv G 35 41 = a ∧ iv G 35 40 = w ∧ iv G 35 42 = cur ∧ iv G 35 29 = nc ∧ iv G 55 cur = ns ∧ iv G 56 cur = m ∧ iv G 53 cur = x ∧ (0 ≤ cur ∧ cur < nc ∧ nc ≤ 364 ∧ 1 ≤ w)
/-- nothing but ints changed -/
def Io (G G' : Hp) : Prop := (∀ a, tg G' a = tg G a) ∧ (∀ a, ln G' a = ln G a) ∧ (∀ a k, rv G' a k = rv G a k) ∧ sz G' = sz G ∧ sl G' = sl G
theorem Io.rf (G : Hp) : Io G G := ⟨fun _ => rfl, fun _ => rfl, fun _ _ => rfl, rfl, rfl⟩
theorem Io.trans {G G1 G2 : Hp} (h1 : Io G G1) (h2 : Io G1 G2) : Io G G2 := ⟨fun a => (h2.1 a).trans (h1.1 a), fun a => (h2.2.1 a).trans (h1.2.1 a), fun a k => (h2.2.2.1 a k).trans (h1.2.2.1 a k), h2.2.2.2.1.trans h1.2.2.2.1, h2.2.2.2.2.trans h1.2.2.2.2⟩
theorem Io.si {G G' : Hp} (h : Io G G') (a : Nat) (k v : Int) : Io G (si G' a k v) := h
theorem FX_Io {ts : List (Nat × Nat × Int)} {rs : List (Nat × Int × Nat)} {G G' : Hp} (h : FX ts rs G) (hi : Io G G') : FX ts rs G' := ⟨fun e he => by rw [hi.1, hi.2.1]; exact h.1 e he, fun e he => by rw [hi.2.2.1]; exact h.2 e he⟩
/-- behind a term: from G to G' -/
def EvP (w cur nc nc' b m' : Int) (G G' : Hp) : Prop := Io G G' ∧ (∀ (a : Nat) (k : Int), a ≠ 35 → (a < 52 ∨ 56 < a) → (a < 60 ∨ 62 < a) → iv G' a k = iv G a k) ∧ (∀ k, k ≠ 29 → k ≠ 41 → iv G' 35 k = iv G 35 k) ∧ iv G' 35 41 = b ∧ iv G' 35 29 = nc' ∧
  (∀ (a : Nat) (j : Int), 52 ≤ a → a ≤ 55 → j < nc → iv G' a j = iv G a j) ∧ (∀ j, j < nc → j ≠ cur → iv G' 56 j = iv G 56 j) ∧ iv G' 56 cur = m' ∧ ∀ (a : Nat) (k : Int), 60 ≤ a → a ≤ 62 → k < w → iv G' a k = iv G a k
/-- the same with one more that waits, at place w: sign, stage, value -/
def PE (w cur nc nc' b m' sg sg2 vl : Int) (G G' : Hp) : Prop := Io G G' ∧ (∀ (a : Nat) (k : Int), a ≠ 35 → (a < 52 ∨ 56 < a) → (a < 60 ∨ 62 < a) → iv G' a k = iv G a k) ∧ (∀ k, k ≠ 29 → k ≠ 40 → k ≠ 41 → iv G' 35 k = iv G 35 k) ∧ iv G' 35 40 = w + 1 ∧ iv G' 35 41 = b ∧ iv G' 35 29 = nc' ∧
  (∀ (a : Nat) (j : Int), 52 ≤ a → a ≤ 55 → j < nc → iv G' a j = iv G a j) ∧ (∀ j, j < nc → j ≠ cur → iv G' 56 j = iv G 56 j) ∧ iv G' 56 cur = m' ∧ (∀ (a : Nat) (k : Int), 60 ≤ a → a ≤ 62 → k < w → iv G' a k = iv G a k) ∧ iv G' 60 w = sg ∧ iv G' 61 w = sg2 ∧ iv G' 62 w = vl
theorem MS_EvP {P : Pg} {c : Int → Int} {G G' : Hp} {a w cur nc ns m x nc' b m' : Int} (h : MS P c G a w cur nc ns m x) (he : EvP w cur nc nc' b m' G G') (hn : nc ≤ nc') (hn2 : nc' ≤ 364) : MS P c G' b w cur nc' ns m' x := by
  obtain ⟨h1, h2, h3, h4, h5, h6, h7, h8, h9, h10, h11, h12, h13⟩ := h
  obtain ⟨e1, e2, e3, e4, e5, e6, e7, e8, e9⟩ := he
  refine ⟨FX_Io h1 e1, ?_, ?_, by rw [e3 14 (by decide) (by decide)]; exact h4, fun k k0 k1 => by rw [e2 36 k (by decide) (by decide) (by decide)]; exact h5 k k0 k1, e4, by rw [e3 40 (by decide) (by decide)]; exact h7, by rw [e3 42 (by decide) (by decide)]; exact h8, e5, by rw [e6 55 cur (by decide) (by decide) (by omega)]; exact h10, e8, by rw [e6 53 cur (by decide) (by decide) (by omega)]; exact h12, by omega⟩
  · rw [← h2]; funext k; exact e2 42 k (by decide) (by decide) (by decide)
  · rw [← h3]; funext k; exact e2 43 k (by decide) (by decide) (by decide)
theorem MS_PE {P : Pg} {c : Int → Int} {G G' : Hp} {a w cur nc ns m x nc' b m' s1 s2 s3 : Int} (h : MS P c G a w cur nc ns m x) (he : PE w cur nc nc' b m' s1 s2 s3 G G') (hn : nc ≤ nc') (hn2 : nc' ≤ 364) : MS P c G' b (w + 1) cur nc' ns m' x := by
  obtain ⟨h1, h2, h3, h4, h5, h6, h7, h8, h9, h10, h11, h12, h13⟩ := h
  obtain ⟨e1, e2, e3, e3', e4, e5, e6, e7, e8, e9⟩ := he
  refine ⟨FX_Io h1 e1, ?_, ?_, by rw [e3 14 (by decide) (by decide) (by decide)]; exact h4, fun k k0 k1 => by rw [e2 36 k (by decide) (by decide) (by decide)]; exact h5 k k0 k1, e4, e3', by rw [e3 42 (by decide) (by decide) (by decide)]; exact h8, e5, by rw [e6 55 cur (by decide) (by decide) (by omega)]; exact h10, e8, by rw [e6 53 cur (by decide) (by decide) (by omega)]; exact h12, by omega⟩
  · rw [← h2]; funext k; exact e2 42 k (by decide) (by decide) (by decide)
  · rw [← h3]; funext k; exact e2 43 k (by decide) (by decide) (by decide)
theorem PE_EvP {w cur nc n1 n2 b1 b2 m1 m2 s1 s2 s3 : Int} {G G1 G2 : Hp} (h : PE w cur nc n1 b1 m1 s1 s2 s3 G G1) (he : EvP (w + 1) cur n1 n2 b2 m2 G1 G2) (hn : nc ≤ n1) : PE w cur nc n2 b2 m2 s1 s2 s3 G G2 := by
  obtain ⟨e1, e2, e3, e3', e4, e5, e6, e7, e8, e9, e10, e11, e12⟩ := h
  obtain ⟨f1, f2, f3, f4, f5, f6, f7, f8, f9⟩ := he
  refine ⟨e1.trans f1, fun a k g1 g2 g3 => (f2 a k g1 g2 g3).trans (e2 a k g1 g2 g3), fun k g1 g2 g3 => (f3 k g1 g3).trans (e3 k g1 g2 g3), (f3 40 (by decide) (by decide)).trans e3', f4, f5, fun a j g1 g2 g3 => (f6 a j g1 g2 (by omega)).trans (e6 a j g1 g2 g3), fun j g1 g2 => (f7 j (by omega) g2).trans (e7 j g1 g2), f8, fun a k g1 g2 g3 => (f9 a k g1 g2 (by omega)).trans (e9 a k g1 g2 g3), (f9 60 w (by decide) (by decide) (by omega)).trans e10, (f9 61 w (by decide) (by decide) (by omega)).trans e11, (f9 62 w (by decide) (by decide) (by omega)).trans e12⟩
theorem PE_stage {w cur nc n1 b1 m1 s1 s2 s3 : Int} {G G1 : Hp} (h : PE w cur nc n1 b1 m1 s1 s2 s3 G G1) (t : Int) : PE w cur nc n1 b1 m1 s1 t s3 G (si G1 61 w t) := by
  obtain ⟨e1, e2, e3, e3', e4, e5, e6, e7, e8, e9, e10, e11, e12⟩ := h
  refine ⟨e1, fun a k g1 g2 g3 => ?_, e3, e3', e4, e5, fun a j g1 g2 g3 => ?_, e7, e8, fun a k g1 g2 g3 => ?_, e10, by rw [iv_si, if_pos ⟨rfl, rfl⟩], e12⟩
  · rw [iv_si, if_neg (by omega)]; exact e2 a k g1 g2 g3
  · rw [iv_si, if_neg (by omega)]; exact e6 a j g1 g2 g3
  · rw [iv_si, if_neg (by omega)]; exact e9 a k g1 g2 g3
theorem PE_value {w cur nc n1 b1 m1 s1 s2 s3 : Int} {G G1 : Hp} (h : PE w cur nc n1 b1 m1 s1 s2 s3 G G1) (t : Int) : PE w cur nc n1 b1 m1 s1 s2 t G (si G1 62 w t) := by
  obtain ⟨e1, e2, e3, e3', e4, e5, e6, e7, e8, e9, e10, e11, e12⟩ := h
  refine ⟨e1, fun a k g1 g2 g3 => ?_, e3, e3', e4, e5, fun a j g1 g2 g3 => ?_, e7, e8, fun a k g1 g2 g3 => ?_, e10, e11, by rw [iv_si, if_pos ⟨rfl, rfl⟩]⟩
  · rw [iv_si, if_neg (by omega)]; exact e2 a k g1 g2 g3
  · rw [iv_si, if_neg (by omega)]; exact e6 a j g1 g2 g3
  · rw [iv_si, if_neg (by omega)]; exact e9 a k g1 g2 g3
theorem PE_at {w cur nc n1 b1 m1 s1 s2 s3 : Int} {G G1 : Hp} (h : PE w cur nc n1 b1 m1 s1 s2 s3 G G1) (t : Int) : PE w cur nc n1 t m1 s1 s2 s3 G (si G1 35 41 t) := by
  obtain ⟨e1, e2, e3, e3', e4, e5, e6, e7, e8, e9, e10, e11, e12⟩ := h
  refine ⟨e1, fun a k g1 g2 g3 => ?_, fun k g1 g2 g3 => ?_, e3', by rw [iv_si, if_pos ⟨rfl, rfl⟩], e5, fun a j g1 g2 g3 => ?_, e7, e8, fun a k g1 g2 g3 => ?_, e10, e11, e12⟩
  · rw [iv_si, if_neg (by omega)]; exact e2 a k g1 g2 g3
  · rw [iv_si, if_neg (by omega)]; exact e3 k g1 g2 g3
  · rw [iv_si, if_neg (by omega)]; exact e6 a j g1 g2 g3
  · rw [iv_si, if_neg (by omega)]; exact e9 a k g1 g2 g3
theorem PE_pop {w cur nc n1 b1 m1 s1 s2 s3 : Int} {G G1 : Hp} (hw : iv G 35 40 = w) (h : PE w cur nc n1 b1 m1 s1 s2 s3 G G1) : EvP w cur nc n1 b1 m1 G (si G1 35 40 w) := by
  obtain ⟨e1, e2, e3, e3', e4, e5, e6, e7, e8, e9, e10, e11, e12⟩ := h
  refine ⟨e1, fun a k g1 g2 g3 => ?_, fun k g1 g2 => ?_, e4, e5, fun a j g1 g2 g3 => ?_, e7, e8, fun a k g1 g2 g3 => ?_⟩
  · rw [iv_si, if_neg (by omega)]; exact e2 a k g1 g2 g3
  · rw [iv_si]
    by_cases hk : k = 40
    · rw [if_pos ⟨rfl, hk⟩, hk, hw]
    · rw [if_neg (fun q => hk q.2)]; exact e3 k g1 hk g2
  · rw [iv_si, if_neg (by omega)]; exact e6 a j g1 g2 g3
  · rw [iv_si, if_neg (by omega)]; exact e9 a k g1 g2 g3
theorem EvP_mask {w cur nc n1 b1 m1 : Int} {G G1 : Hp} (h : EvP w cur nc n1 b1 m1 G G1) (t : Int) : EvP w cur nc n1 b1 t G (si G1 56 cur t) := by
  obtain ⟨e1, e2, e3, e4, e5, e6, e7, e8, e9⟩ := h
  refine ⟨e1, fun a k g1 g2 g3 => ?_, e3, e4, e5, fun a j g1 g2 g3 => ?_, fun j g1 g2 => ?_, by rw [iv_si, if_pos ⟨rfl, rfl⟩], fun a k g1 g2 g3 => ?_⟩
  · rw [iv_si, if_neg (by omega)]; exact e2 a k g1 g2 g3
  · rw [iv_si, if_neg (by omega)]; exact e6 a j g1 g2 g3
  · rw [iv_si, if_neg (by omega)]; exact e7 j g1 g2
  · rw [iv_si, if_neg (by omega)]; exact e9 a k g1 g2 g3
theorem EvP_at {w cur nc m : Int} {G : Hp} (b : Int) (hn : iv G 35 29 = nc) (hm : iv G 56 cur = m) : EvP w cur nc nc b m G (si G 35 41 b) := by
  refine ⟨Io.rf G, fun a k g1 g2 g3 => ?_, fun k g1 g2 => ?_, by rw [iv_si, if_pos ⟨rfl, rfl⟩], hn, fun a j g1 g2 g3 => ?_, fun j g1 g2 => rfl, hm, fun a k g1 g2 g3 => ?_⟩
  · rw [iv_si, if_neg (by omega)]
  · rw [iv_si, if_neg (by omega)]
  · rw [iv_si, if_neg (by omega)]
  · rw [iv_si, if_neg (by omega)]
/-- a sign has been opened -/
theorem PE_open {w cur nc m a' sg vl : Int} {G : Hp} (hn : iv G 35 29 = nc) (hm : iv G 56 cur = m) : PE w cur nc nc a' m sg 0 vl G (si (si (si (si (si G 35 41 a') 60 w sg) 61 w 0) 62 w vl) 35 40 (w + 1)) := by
  refine ⟨Io.rf G, fun a k g1 g2 g3 => ?_, fun k g1 g2 g3 => ?_, by simp [iv_si], by simp [iv_si], by simp [iv_si, hn], fun a j g1 g2 g3 => ?_, fun j g1 g2 => by simp [iv_si], by simp [iv_si, hm], fun a k g1 g2 g3 => ?_, by simp [iv_si], by simp [iv_si], by simp [iv_si]⟩
  · simp only [iv_si]; rw [if_neg (by omega), if_neg (by omega), if_neg (by omega), if_neg (by omega), if_neg (by omega)]
  · simp only [iv_si]; rw [if_neg (by omega), if_neg (by omega), if_neg (by omega), if_neg (by omega), if_neg (by omega)]
  · simp only [iv_si]; rw [if_neg (by omega), if_neg (by omega), if_neg (by omega), if_neg (by omega), if_neg (by omega)]
  · simp only [iv_si]; rw [if_neg (by omega), if_neg (by omega), if_neg (by omega), if_neg (by omega), if_neg (by omega)]
/-- calls laid from k on -/
def fAt (G : Hp) : Int → List (Nd × Int) → Prop
  | _, [] => True
  | k, e :: l => (iv G 52 k = nF e.1 ∧ iv G 53 k = nX e.1 ∧ iv G 54 k = nV e.1 ∧ iv G 55 k = e.2 ∧ iv G 56 k = nM e.1) ∧ fAt G (k + 1) l
theorem fAt_app {G : Hp} : ∀ (l1 l2 : List (Nd × Int)) (k : Int), fAt G k (l1 ++ l2) ↔ fAt G k l1 ∧ fAt G (k + (l1.length : Int)) l2 := by
  intro l1
  induction l1 with
  | nil => intro l2 k; simp [fAt]
  | cons e l ih =>
    intro l2 k
    simp only [List.cons_append, fAt, ih, List.length_cons]
    rw [show k + 1 + (l.length : Int) = k + ((l.length + 1 : Nat) : Int) from by omega]
    constructor
    · rintro ⟨h1, h2, h3⟩; exact ⟨⟨h1, h2⟩, h3⟩
    · rintro ⟨⟨h1, h2⟩, h3⟩; exact ⟨h1, h2, h3⟩
theorem fAt_kept {G G' : Hp} : ∀ (l : List (Nd × Int)) (k : Int), fAt G k l → (∀ (a : Nat) (j : Int), 52 ≤ a → a ≤ 56 → k ≤ j → j < k + (l.length : Int) → iv G' a j = iv G a j) → fAt G' k l := by
  intro l
  induction l with
  | nil => intro k _ _; trivial
  | cons e l ih =>
    intro k h hk
    obtain ⟨⟨h1, h2, h3, h4, h5⟩, h6⟩ := h
    rw [List.length_cons] at hk
    refine ⟨⟨?_, ?_, ?_, ?_, ?_⟩, ih (k + 1) h6 (fun a j g1 g2 g3 g4 => hk a j g1 g2 (by omega) (by omega))⟩
    · rw [hk 52 k (by decide) (by decide) (by omega) (by omega)]; exact h1
    · rw [hk 53 k (by decide) (by decide) (by omega) (by omega)]; exact h2
    · rw [hk 54 k (by decide) (by decide) (by omega) (by omega)]; exact h3
    · rw [hk 55 k (by decide) (by decide) (by omega) (by omega)]; exact h4
    · rw [hk 56 k (by decide) (by decide) (by omega) (by omega)]; exact h5
/-- what was laid before a term stays -/
theorem fAt_EvP {w cur nc n1 b m : Int} {G G' : Hp} {k : Int} {l : List (Nd × Int)} (he : EvP w cur nc n1 b m G G') (h : fAt G k l) (h1 : cur < k) (h2 : k + (l.length : Int) ≤ nc) : fAt G' k l := by
  obtain ⟨e1, e2, e3, e4, e5, e6, e7, e8, e9⟩ := he
  refine fAt_kept l k h (fun a j g1 g2 g3 g4 => ?_)
  by_cases h56 : a = 56
  · subst h56; exact e7 j (by omega) (by omega)
  · exact e6 a j g1 (by omega) (by omega)
