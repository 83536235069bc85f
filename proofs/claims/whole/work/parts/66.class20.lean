/-! THE CLASS: its memory of what is so; the plain calls -/
def RCt (t : Tx) (G : Hp) : Prop := (∀ k, 0 ≤ k → k < t.2.1 → iv G 2 k = t.1 k) ∧ iv G 1 1 = t.2.1 ∧ iv G 1 2 = t.2.2
def RCp (P : Pg) (G : Hp) : Prop := ∃ pa : Nat, (pa = 7 ∨ pa = 11) ∧ rv G 1 4 = some pa ∧ rv G 1 5 = some (18 - pa) ∧ rv G 29 4 = some pa ∧ rv G 31 4 = some pa ∧ RdOk pa P G
/-- a deed taken back -/
def undo1 (wh a b : Int) (r : Int → Int) : Int → Int := if wh = -1 then upi (upi r 8 a) 9 b else upi r wh a
def RCd (r0 : Int → Int) (hs : List (Int → Int)) (G : Hp) : Prop := 0 ≤ iv G 19 3 ∧ iv G 19 3 < 16 ∧ iv G 19 4 = (hs.length : Int) ∧ ∀ (i : Nat) (q p : Int → Int), hs[i]? = some q → (r0 :: hs)[i]? = some p → (iv G 20 ((iv G 19 3 - (i : Int)) % 16) = -1 ∨ (0 ≤ iv G 20 ((iv G 19 3 - (i : Int)) % 16) ∧ iv G 20 ((iv G 19 3 - (i : Int)) % 16) < 8)) ∧ ∀ k, 0 ≤ k → k < 10 → q k = undo1 (iv G 20 ((iv G 19 3 - (i : Int)) % 16)) (iv G 21 ((iv G 19 3 - (i : Int)) % 16)) (iv G 22 ((iv G 19 3 - (i : Int)) % 16)) p k
/-- an image -/
def ImAt (G : Hp) (a : Nat) (q : (Int → Int) × Int) : Prop := 63 ≤ a ∧ a + 1 ≤ sz G ∧ tg G a = 7 ∧ rv G a 0 = some (a + 1) ∧ tg G (a + 1) = 20 ∧ ln G (a + 1) = 8 ∧ iv G a 1 = q.1 8 ∧ iv G a 2 = q.1 9 ∧ iv G a 3 = q.2 ∧ ∀ k, 0 ≤ k → k < 8 → iv G (a + 1) k = q.1 k
def RCi (im : Int → Option ((Int → Int) × Int)) (G : Hp) : Prop := (∀ i, 0 ≤ i → i < 2 → match im i with
    | none => rv G 27 i = none
    | some q => ∃ a, rv G 27 i = some a ∧ ImAt G a q) ∧ ∀ a, rv G 27 0 = some a → rv G 27 1 ≠ some a
def RCr (r : Rw) (G : Hp) : Prop := (∀ k, 0 ≤ k → k < 8 → iv G 16 k = r.1 k) ∧ iv G 15 1 = r.1 8 ∧ iv G 15 2 = r.1 9 ∧ iv G 15 3 = r.2.2.2 ∧ RCd r.1 r.2.1 G ∧ RCi r.2.2.1 G
def RCb (b : Bk) (G : Hp) : Prop := iv G 23 3 = (b.length : Int) ∧ ∀ (i : Nat) (e : Int × Int × Int), b[i]? = some e → iv G 24 (i : Int) = e.1 ∧ iv G 25 (i : Int) = e.2.1 ∧ iv G 26 (i : Int) = e.2.2
def RCc (c : Tc) (n : Int) (G : Hp) : Prop := ∃ (t : Tr 6) (fs : List Nat) (κ : Kt), nad 6 t = c.1 ∧ TA G c.2.1 (iv G 29 5) 6 1 t ∧ rv G 17 1 = some (aRt 6 t) ∧ iv G 17 2 = (tsz 6 t : Int) ∧ IA G 0 (inf 6 1 0 (-1) t) ∧ Chn G (rv G 28 0) fs ∧ OkA G (adL 6 t ++ fs) ∧ (adL 6 t ++ fs).Nodup ∧ Ct 29 c.2.2 G ∧ Ct 31 κ G ∧ iv G 29 3 = 0 ∧ iv G 31 3 = 0 ∧ (0 ≤ iv G 29 5 ∧ iv G 29 5 ≤ n) ∧ iv G 31 5 = 0 ∧ 62 ≤ sz G ∧ ((adL 6 t ++ fs).length : Int) ≤ 728 + 364 * n ∧ (sz G : Int) ≤ 70 + 2 * ((adL 6 t ++ fs).length : Int) + 2 * n ∧ (sl G : Int) ≤ 30000 + 23 * ((adL 6 t ++ fs).length : Int) + 12 * n
def RC (n : Int) (s : Sg) (G : Hp) : Prop := FC G ∧ RCt s.1 G ∧ RCp s.2.1 G ∧ RCr s.2.2.1 G ∧ RCb s.2.2.2.1 G ∧ RCc s.2.2.2.2 n G
theorem RCc_mono {c : Tc} {n n' : Int} {G : Hp} (hn : n ≤ n') (h : RCc c n G) : RCc c n' G := by
  obtain ⟨t, fs, κ, h1, h2, h3, h4, h5, h6, h7, h8, h9, h10, h11, h12, h13, h14, h15, h16, h17, h18⟩ := h
  exact ⟨t, fs, κ, h1, h2, h3, h4, h5, h6, h7, h8, h9, h10, h11, h12, ⟨h13.1, by omega⟩, h14, h15, by omega, by omega, by omega⟩
theorem RC_mono {n n' : Int} {s : Sg} {G : Hp} (hn : n ≤ n') (h : RC n s G) : RC n' s G := ⟨h.1, h.2.1, h.2.2.1, h.2.2.2.1, h.2.2.2.2.1, RCc_mono hn h.2.2.2.2.2⟩
/-- nothing is otherwise but the text, the scene, the deeds, the book -/
def LoI (G G' : Hp) : Prop := Io G G' ∧ ∀ (a : Nat) (k : Int), a ≠ 1 → a ≠ 2 → a ≠ 15 → a ≠ 16 → a ≠ 19 → a ≠ 20 → a ≠ 21 → a ≠ 22 → a ≠ 23 → a ≠ 24 → a ≠ 25 → a ≠ 26 → iv G' a k = iv G a k
theorem LoI.rf (G : Hp) : LoI G G := ⟨Io.rf G, fun _ _ _ _ _ _ _ _ _ _ _ _ _ _ => rfl⟩
theorem LoI.trans {G G1 G2 : Hp} (h1 : LoI G G1) (h2 : LoI G1 G2) : LoI G G2 := ⟨h1.1.trans h2.1, fun a k g1 g2 g3 g4 g5 g6 g7 g8 g9 g10 g11 g12 => (h2.2 a k g1 g2 g3 g4 g5 g6 g7 g8 g9 g10 g11 g12).trans (h1.2 a k g1 g2 g3 g4 g5 g6 g7 g8 g9 g10 g11 g12)⟩
theorem LoI.si {G G1 : Hp} (h : LoI G G1) {b : Nat} (k v : Int) (hb : b = 1 ∨ b = 2 ∨ b = 15 ∨ b = 16 ∨ (19 ≤ b ∧ b ≤ 26)) : LoI G (si G1 b k v) := ⟨h.1, fun a j g1 g2 g3 g4 g5 g6 g7 g8 g9 g10 g11 g12 => by rw [iv_si, if_neg (by omega)]; exact h.2 a j g1 g2 g3 g4 g5 g6 g7 g8 g9 g10 g11 g12⟩
theorem LoI_at {G G' : Hp} (h : LoI G G') {a : Nat} (k : Int) (ha : (3 ≤ a ∧ a ≤ 14) ∨ a = 17 ∨ a = 18 ∨ 27 ≤ a) : iv G' a k = iv G a k := h.2 a k (by omega) (by omega) (by omega) (by omega) (by omega) (by omega) (by omega) (by omega) (by omega) (by omega) (by omega) (by omega)
theorem LoI.M {G G' : Hp} (h : LoI G G') : Sm isM G G' := fun a ha => ⟨h.1.1 a, h.1.2.1 a, fun k => LoI_at h k (by unfold isM at ha; omega), fun k => h.1.2.2.1 a k⟩
theorem RdOk_k {pb : Nat} {P : Pg} {G G' : Hp} (h : RdOk pb P G) (he : ∀ (a : Nat) (k : Int), pb ≤ a → a ≤ pb + 3 → iv G' a k = iv G a k) : RdOk pb P G' := by
  unfold RdOk at *
  rw [show iv G' (pb + 1) = iv G (pb + 1) from funext (fun i => he _ i (by omega) (by omega)), show iv G' (pb + 2) = iv G (pb + 2) from funext (fun i => he _ i (by omega) (by omega)), show iv G' (pb + 3) = iv G (pb + 3) from funext (fun i => he _ i (by omega) (by omega)), he pb 3 (by omega) (by omega), he pb 4 (by omega) (by omega)]
  exact h
theorem RCp_lo {P : Pg} {G G' : Hp} (h : RCp P G) (hi : LoI G G') : RCp P G' := by
  obtain ⟨pa, h1, h2, h3, h4, h5, h6⟩ := h
  exact ⟨pa, h1, by rw [hi.1.2.2.1]; exact h2, by rw [hi.1.2.2.1]; exact h3, by rw [hi.1.2.2.1]; exact h4, by rw [hi.1.2.2.1]; exact h5, RdOk_k h6 (fun a k a0 a1 => LoI_at hi k (by omega))⟩
theorem ImAt_lo {G G' : Hp} {a : Nat} {q : (Int → Int) × Int} (h : ImAt G a q) (hi : LoI G G') : ImAt G' a q := by
  obtain ⟨h1, h2, h3, h4, h5, h6, h7, h8, h9, h10⟩ := h
  exact ⟨h1, by rw [hi.1.2.2.2.1]; exact h2, (hi.1.1 a).trans h3, (hi.1.2.2.1 a 0).trans h4, (hi.1.1 _).trans h5, (hi.1.2.1 _).trans h6, (LoI_at hi 1 (by omega)).trans h7, (LoI_at hi 2 (by omega)).trans h8, (LoI_at hi 3 (by omega)).trans h9, fun k k0 k1 => (LoI_at hi k (by omega)).trans (h10 k k0 k1)⟩
theorem RCi_lo {im : Int → Option ((Int → Int) × Int)} {G G' : Hp} (h : RCi im G) (hi : LoI G G') : RCi im G' := by
  refine ⟨fun i i0 i1 => ?_, fun a => by rw [hi.1.2.2.1, hi.1.2.2.1]; exact h.2 a⟩
  have := h.1 i i0 i1
  cases hq : im i with
  | none => rw [hq] at this; dsimp only at this ⊢; rw [hi.1.2.2.1]; exact this
  | some q =>
    rw [hq] at this
    obtain ⟨a, a1, a2⟩ := this
    exact ⟨a, by rw [hi.1.2.2.1]; exact a1, ImAt_lo a2 hi⟩
theorem RCc_lo {c : Tc} {n : Int} {G G' : Hp} (h : RCc c n G) (hi : LoI G G') : RCc c n G' := by
  obtain ⟨t, fs, κ, h1, h2, h3, h4, h5, h6, h7, h8, h9, h10, h11, h12, h13, h14, h15, h16, h17, h18⟩ := h
  have hCO : ∀ b, CO G b → CO G' b := fun b hb => ⟨(hi.1.1 b).trans hb.1, (hi.1.2.2.1 b 7).trans hb.2.1, (hi.1.1 _).trans hb.2.2.1, (hi.1.2.1 _).trans hb.2.2.2⟩
  have e29 : ∀ k, iv G' 29 k = iv G 29 k := fun k => LoI_at hi k (by omega)
  have e31 : ∀ k, iv G' 31 k = iv G 31 k := fun k => LoI_at hi k (by omega)
  refine ⟨t, fs, κ, h1, ?_, by rw [hi.1.2.2.1]; exact h3, by rw [LoI_at hi 2 (by omega)]; exact h4, IA_kept _ _ h5 (fun j _ _ => hi.1.2.2.1 18 j) (fun e he => ?_), ?_, fun b hb => ⟨hCO b (h7 b hb).1, (h7 b hb).2.1, by rw [hi.1.2.2.2.1]; exact (h7 b hb).2.2⟩, h8, ⟨by rw [e29]; exact h9.1, by rw [e29]; exact h9.2.1, by rw [e29]; exact h9.2.2.1, by rw [e29]; exact h9.2.2.2⟩, ⟨by rw [e31]; exact h10.1, by rw [e31]; exact h10.2.1, by rw [e31]; exact h10.2.2.1, by rw [e31]; exact h10.2.2.2⟩, by rw [e29]; exact h11, by rw [e31]; exact h12, by rw [e29]; exact h13, by rw [e31]; exact h14, by rw [hi.1.2.2.2.1]; exact h15, h16, by rw [hi.1.2.2.2.1]; exact h17, by rw [hi.1.2.2.2.2]; exact h18⟩
  · rw [e29]
    exact TA_same _ _ t h2 (fun b hb => by
      have ob := h7 b (List.mem_append_left _ hb)
      exact ⟨hCO b ob.1, fun k => LoI_at hi k (by omega), fun k => hi.1.2.2.1 b k, fun k => LoI_at hi k (by omega)⟩)
  · have hm : nAd e.1 ∈ adL 6 t := by rw [← inf_adr 6 1 0 (-1) t]; exact List.mem_map.mpr ⟨e, he, rfl⟩
    have := (h7 _ (List.mem_append_left _ hm)).2.1
    exact ⟨LoI_at hi 13 (by omega), LoI_at hi 14 (by omega)⟩
  · rw [hi.1.2.2.1]; exact Chn_kept _ _ h6 (fun b _ => hi.1.2.2.1 b 10)
/-- a plain call: what it must show -/
theorem RC_lo {n : Int} {t t' : Tx} {P : Pg} {r r' : Rw} {b b' : Bk} {c : Tc} {G G' : Hp} (h : RC n (t, P, r, b, c) G) (hi : LoI G G') (h1 : RCt t' G') (h2 : RCr r' G') (h3 : RCb b' G') : RC n (t', P, r', b', c) G' := ⟨FX_Io h.1 hi.1, h1, RCp_lo h.2.2.1 hi, h2, h3, RCc_lo h.2.2.2.2.2 hi⟩
theorem RCt_k {t : Tx} {G G' : Hp} (h : RCt t G) (h1 : ∀ k, iv G' 2 k = iv G 2 k) (h2 : iv G' 1 1 = iv G 1 1) (h3 : iv G' 1 2 = iv G 1 2) : RCt t G' := ⟨fun k k0 k1 => (h1 k).trans (h.1 k k0 k1), h2.trans h.2.1, h3.trans h.2.2⟩
theorem RCb_k {b : Bk} {G G' : Hp} (h : RCb b G) (h1 : iv G' 23 3 = iv G 23 3) (h2 : ∀ k, iv G' 24 k = iv G 24 k) (h3 : ∀ k, iv G' 25 k = iv G 25 k) (h4 : ∀ k, iv G' 26 k = iv G 26 k) : RCb b G' := ⟨h1.trans h.1, fun i e he => by rw [h2, h3, h4]; exact h.2 i e he⟩
theorem RCd_k {r0 : Int → Int} {hs : List (Int → Int)} {G G' : Hp} (h : RCd r0 hs G) (h1 : ∀ (a : Nat) (k : Int), 19 ≤ a → a ≤ 22 → iv G' a k = iv G a k) : RCd r0 hs G' := by
  unfold RCd at *
  rw [h1 19 3 (by decide) (by decide), h1 19 4 (by decide) (by decide), show iv G' 20 = iv G 20 from funext (fun k => h1 20 k (by decide) (by decide)), show iv G' 21 = iv G 21 from funext (fun k => h1 21 k (by decide) (by decide)), show iv G' 22 = iv G 22 from funext (fun k => h1 22 k (by decide) (by decide))]
  exact h
theorem RCr_k {r : Rw} {G G' : Hp} (h : RCr r G) (hi : LoI G G') (h1 : ∀ (a : Nat) (k : Int), (a = 15 ∨ a = 16 ∨ (19 ≤ a ∧ a ≤ 22)) → iv G' a k = iv G a k) : RCr r G' := ⟨fun k k0 k1 => (h1 16 k (by omega)).trans (h.1 k k0 k1), (h1 15 1 (by omega)).trans h.2.1, (h1 15 2 (by omega)).trans h.2.2.1, (h1 15 3 (by omega)).trans h.2.2.2.1, RCd_k h.2.2.2.2.1 (fun a k a0 a1 => h1 a k (by omega)), RCi_lo h.2.2.2.2.2 hi⟩
theorem c_isCell (d : Nat) {G : Hp} {v : Int} : CX (d + 1) 98 [.inl v] G (fun r G1 => G1 = G ∧ ∃ z, r = some (.inl z) ∧ (z = 0 ∨ z = 1) ∧ (z = 1 ↔ 0 ≤ v ∧ v ≤ 7)) := by
  refine CX.of (d := d + 0) m_X9_isCell (Nat.le_of_ble_eq_true rfl) ?_
  refine Ex.lcl (ls' := [some (.inl v)]) rfl ?_
  refine x_iload_n (q := 1) dX9_isCell_0 rfl rfl ?_
  refine x_if_lt (q := 4) (t := 14) dX9_isCell_1 rfl (by decide) (fun h1 => ?_) (fun h1 => ?_)
  · refine x_iconst (q := 15) dX9_isCell_14 rfl (by decide) ?_
    refine x_zret dX9_isCell_15 rfl (by decide) ?_
    exact ⟨rfl, 0, rfl, by omega, by omega⟩
  · refine x_iload_n (q := 5) dX9_isCell_4 rfl rfl ?_
    refine x_bipush (q := 7) dX9_isCell_5 rfl (by decide) ?_
    refine x_icmp_ge (q := 10) (t := 14) dX9_isCell_7 rfl (by decide) (fun h7 => ?_) (fun h7 => ?_)
    · refine x_iconst (q := 15) dX9_isCell_14 rfl (by decide) ?_
      refine x_zret dX9_isCell_15 rfl (by decide) ?_
      exact ⟨rfl, 0, rfl, by omega, by omega⟩
    · refine x_iconst (q := 11) dX9_isCell_10 rfl (by decide) ?_
      refine x_goto (t := 15) dX9_isCell_11 (by decide) ?_
      refine x_zret dX9_isCell_15 rfl (by decide) ?_
      exact ⟨rfl, 1, rfl, by omega, by omega⟩
theorem c_isNumber (d : Nat) {G : Hp} {v : Int} : CX (d + 1) 99 [.inl v] G (fun r G1 => G1 = G ∧ ∃ z, r = some (.inl z) ∧ (z = 0 ∨ z = 1) ∧ (z = 1 ↔ 0 ≤ v ∧ v ≤ 996)) := by
  refine CX.of (d := d + 0) m_X9_isNumber (Nat.le_of_ble_eq_true rfl) ?_
  refine Ex.lcl (ls' := [some (.inl v)]) rfl ?_
  refine x_iload_n (q := 1) dX9_isNumber_0 rfl rfl ?_
  refine x_if_lt (q := 4) (t := 15) dX9_isNumber_1 rfl (by decide) (fun h1 => ?_) (fun h1 => ?_)
  · refine x_iconst (q := 16) dX9_isNumber_15 rfl (by decide) ?_
    refine x_zret dX9_isNumber_16 rfl (by decide) ?_
    exact ⟨rfl, 0, rfl, by omega, by omega⟩
  · refine x_iload_n (q := 5) dX9_isNumber_4 rfl rfl ?_
    refine x_sipush (q := 8) dX9_isNumber_5 rfl (by decide) ?_
    refine x_icmp_ge (q := 11) (t := 15) dX9_isNumber_8 rfl (by decide) (fun h8 => ?_) (fun h8 => ?_)
    · refine x_iconst (q := 16) dX9_isNumber_15 rfl (by decide) ?_
      refine x_zret dX9_isNumber_16 rfl (by decide) ?_
      exact ⟨rfl, 0, rfl, by omega, by omega⟩
    · refine x_iconst (q := 12) dX9_isNumber_11 rfl (by decide) ?_
      refine x_goto (t := 16) dX9_isNumber_12 (by decide) ?_
      refine x_zret dX9_isNumber_16 rfl (by decide) ?_
      exact ⟨rfl, 1, rfl, by omega, by omega⟩
theorem c_isImage (d : Nat) {G : Hp} {v : Int} : CX (d + 1) 100 [.inl v] G (fun r G1 => G1 = G ∧ ∃ z, r = some (.inl z) ∧ (z = 0 ∨ z = 1) ∧ (z = 1 ↔ 0 ≤ v ∧ v ≤ 1)) := by
  refine CX.of (d := d + 0) m_X9_isImage (Nat.le_of_ble_eq_true rfl) ?_
  refine Ex.lcl (ls' := [some (.inl v)]) rfl ?_
  refine x_iload_n (q := 1) dX9_isImage_0 rfl rfl ?_
  refine x_if_lt (q := 4) (t := 13) dX9_isImage_1 rfl (by decide) (fun h1 => ?_) (fun h1 => ?_)
  · refine x_iconst (q := 14) dX9_isImage_13 rfl (by decide) ?_
    refine x_zret dX9_isImage_14 rfl (by decide) ?_
    exact ⟨rfl, 0, rfl, by omega, by omega⟩
  · refine x_iload_n (q := 5) dX9_isImage_4 rfl rfl ?_
    refine x_iconst (q := 6) dX9_isImage_5 rfl (by decide) ?_
    refine x_icmp_ge (q := 9) (t := 13) dX9_isImage_6 rfl (by decide) (fun h6 => ?_) (fun h6 => ?_)
    · refine x_iconst (q := 14) dX9_isImage_13 rfl (by decide) ?_
      refine x_zret dX9_isImage_14 rfl (by decide) ?_
      exact ⟨rfl, 0, rfl, by omega, by omega⟩
    · refine x_iconst (q := 10) dX9_isImage_9 rfl (by decide) ?_
      refine x_goto (t := 14) dX9_isImage_10 (by decide) ?_
      refine x_zret dX9_isImage_14 rfl (by decide) ?_
      exact ⟨rfl, 1, rfl, by omega, by omega⟩
theorem c_addL1 (d : Nat) {G : Hp} (hF : FC G) {l n : Int} (hn : iv G 1 1 = n) (n0 : 0 ≤ n) (n1 : n < 160) : CX (d + 1) 101 [.inr (.inr (some 1)), .inl l] G (fun r G1 => r = some (.inl 1) ∧ G1 = si (si G 2 n l) 1 1 (n + 1)) := by
  refine CX.of (d := d + 0) m_X9_addLetter (Nat.le_of_ble_eq_true rfl) ?_
  refine Ex.lcl (ls' := [some (.inr (.inr (some 1))), some (.inl l)]) rfl ?_
  refine x_aload_n (q := 1) dX9_addLetter_0 rfl rfl ?_
  refine x_getI (q := 4) dX9_addLetter_1 rfl f_9_90 rfl (ft1 hF) ?_
  refine Ex.stk (st' := [.inl n]) (by rw [show iv G 1 1 = n from hn]) ?_
  refine x_sipush (q := 7) dX9_addLetter_4 rfl (by decide) ?_
  refine x_icmp_lt (q := 10) (t := 12) dX9_addLetter_7 rfl (by decide) (fun h7 => ?_) (fun h7 => by exfalso; omega)
  refine x_aload_n (q := 13) dX9_addLetter_12 rfl rfl ?_
  refine x_getR (q := 16) dX9_addLetter_13 rfl f_9_9 rfl (ft1 hF) ?_
  refine Ex.stk (st' := [.inr (.inr (some 2))]) (by rw [fr1_0 hF]) ?_
  refine x_aload_n (q := 17) dX9_addLetter_16 rfl rfl ?_
  refine x_getI (q := 20) dX9_addLetter_17 rfl f_9_90 rfl (ft1 hF) ?_
  refine Ex.stk (st' := [.inl n, .inr (.inr (some 2))]) (by rw [show iv G 1 1 = n from hn]) ?_
  refine x_iload_n (q := 21) dX9_addLetter_20 rfl rfl ?_
  refine x_iastore (q := 22) dX9_addLetter_21 rfl (ft2 hF) (by omega) (by rw [fl2 hF]; omega) ?_
  have hF := FX_si hF 2 n l
  refine x_aload_n (q := 23) dX9_addLetter_22 rfl rfl ?_
  refine x_dup (q := 24) dX9_addLetter_23 rfl rfl ?_
  refine x_getI (q := 27) dX9_addLetter_24 rfl f_9_90 rfl (ft1 hF) ?_
  refine Ex.stk (st' := [.inl n, .inr (.inr (some 1))]) (by rw [show iv (si G 2 n l) 1 1 = n from (by first | exact hn | simp [iv_si, iv_sr, iv_nw, hn])]) ?_
  refine x_iconst (q := 28) dX9_addLetter_27 rfl (by decide) ?_
  refine x_iadd (q := 29) (z := n + 1) dX9_addLetter_28 rfl (wr_id ⟨by omega, by omega⟩) ?_
  refine x_putI (q := 32) dX9_addLetter_29 rfl f_9_90 rfl (fun h => by cases h) (fun h => by cases h) (ft1 hF) ?_
  have hF := FX_si hF 1 1 (n + 1)
  refine x_iconst (q := 33) dX9_addLetter_32 rfl (by decide) ?_
  refine x_zret dX9_addLetter_33 rfl (by decide) ?_
  exact ⟨rfl, rfl⟩
theorem c_addL0 (d : Nat) {G : Hp} (hF : FC G) {l n : Int} (hn : iv G 1 1 = n) (n1 : 160 ≤ n) : CX (d + 1) 101 [.inr (.inr (some 1)), .inl l] G (fun r G1 => r = some (.inl 0) ∧ G1 = G) := by
  refine CX.of (d := d + 0) m_X9_addLetter (Nat.le_of_ble_eq_true rfl) ?_
  refine Ex.lcl (ls' := [some (.inr (.inr (some 1))), some (.inl l)]) rfl ?_
  refine x_aload_n (q := 1) dX9_addLetter_0 rfl rfl ?_
  refine x_getI (q := 4) dX9_addLetter_1 rfl f_9_90 rfl (ft1 hF) ?_
  refine Ex.stk (st' := [.inl n]) (by rw [show iv G 1 1 = n from hn]) ?_
  refine x_sipush (q := 7) dX9_addLetter_4 rfl (by decide) ?_
  refine x_icmp_lt (q := 10) (t := 12) dX9_addLetter_7 rfl (by decide) (fun h7 => by exfalso; omega) (fun h7 => ?_)
  refine x_iconst (q := 11) dX9_addLetter_10 rfl (by decide) ?_
  refine x_zret dX9_addLetter_11 rfl (by decide) ?_
  exact ⟨rfl, rfl⟩
theorem cc_feed1 (d : Nat) {n : Int} {s : Sg} {G : Hp} (hR0 : RC n s G) (l : Int) (n0 : 0 ≤ s.1.2.1) (hz : s.1.2.1 < 160) : CX (d + 2) 81 [.inr (.inr (some 1)), .inl l] G (fun r G' => r = some (.inl (o_feed l s).1) ∧ RC n (o_feed l s).2 G' ∧ Sm isM G G') := by
  have hC1 := hR0
  obtain ⟨hF, h2, h3, h4, h5, h6⟩ := hR0
  refine CX.of (d := d + 1) m_X9_feed (Nat.le_of_ble_eq_true rfl) ?_
  refine Ex.lcl (ls' := [some (.inr (.inr (some 1))), some (.inl l)]) rfl ?_
  refine x_iload_n (q := 1) dX9_feed_0 rfl rfl ?_
  refine x_if_lt (q := 4) (t := 11) dX9_feed_1 rfl (by decide) (fun h1 => ?_) (fun h1 => ?_)
  · refine x_ldc (q := 13) dX9_feed_11 rfl k_9_89 ?_
    refine x_iret dX9_feed_13 rfl ?_
    have e : o_feed l s = (-1000000002, s) := if_neg (by omega)
    rw [e]; exact ⟨rfl, hC1, Sm.rf⟩
  · refine x_iload_n (q := 5) dX9_feed_4 rfl rfl ?_
    refine x_sipush (q := 8) dX9_feed_5 rfl (by decide) ?_
    refine x_icmp_lt (q := 11) (t := 14) dX9_feed_8 rfl (by decide) (fun h8 => ?_) (fun h8 => ?_)
    · refine x_aload_n (q := 15) dX9_feed_14 rfl rfl ?_
      refine x_iload_n (q := 16) dX9_feed_15 rfl rfl ?_
      refine x_invV (q := 19) (as := [.inr (.inr (some 1)), .inl l]) (rest := []) dX9_feed_16 rfl l_9_81 m_X9_addLetter rfl rfl (ft1 hF) (Nat.le_of_ble_eq_true rfl) (c_addL1 _ hF h2.2.1 n0 (by omega)) (fun r1 G1 hR => ?_)
      obtain ⟨rfl, rfl⟩ := hR
      have hF : FC (si (si G 2 s.1.2.1 l) 1 1 (s.1.2.1 + 1)) := hF
      refine Ex.stk (st' := [.inl 1]) rfl ?_
      refine x_if_eq (q := 22) (t := 29) dX9_feed_19 rfl (by decide) (fun h19 => by exfalso; omega) (fun h19 => ?_)
      refine x_aload_n (q := 23) dX9_feed_22 rfl rfl ?_
      refine x_getI (q := 26) dX9_feed_23 rfl f_9_90 rfl (ft1 hF) ?_
      refine Ex.stk (st' := [.inl (s.1.2.1 + 1)]) (by rw [show iv (si (si G 2 s.1.2.1 l) 1 1 (s.1.2.1 + 1)) 1 1 = s.1.2.1 + 1 from (by simp [iv_si])]) ?_
      refine x_goto (t := 31) dX9_feed_26 (by decide) ?_
      refine x_iret dX9_feed_31 rfl ?_
      have e : o_feed l s = (s.1.2.1 + 1, (upi s.1.1 s.1.2.1 l, s.1.2.1 + 1, s.1.2.2), s.2) := by rw [o_feed, if_pos (by omega), if_neg (by omega)]
      rw [e]
      have hi : LoI G (si (si G 2 s.1.2.1 l) 1 1 (s.1.2.1 + 1)) := ((LoI.rf G).si _ _ (by omega)).si _ _ (by omega)
      refine ⟨rfl, RC_lo (t := s.1) (P := s.2.1) (r := s.2.2.1) (b := s.2.2.2.1) (c := s.2.2.2.2) hC1 hi ⟨fun k k0 k1 => ?_, by simp [iv_si], by simp [iv_si, h2.2.2]⟩ (RCr_k h4 hi (fun a k ha => by simp only [iv_si]; rw [if_neg (by omega), if_neg (by omega)])) (RCb_k h5 (by simp [iv_si]) (fun k => by simp [iv_si]) (fun k => by simp [iv_si]) (fun k => by simp [iv_si])), hi.M⟩
      dsimp only at k1
      show iv _ 2 k = upi s.1.1 s.1.2.1 l k
      unfold upi
      simp only [iv_si]
      rw [if_neg (by omega)]
      by_cases hk : k = s.1.2.1
      · rw [if_pos ⟨by trivial, hk⟩, if_pos hk]
      · rw [if_neg (fun q => hk q.2), if_neg hk]; exact h2.1 k k0 (by omega)
    · refine x_ldc (q := 13) dX9_feed_11 rfl k_9_89 ?_
      refine x_iret dX9_feed_13 rfl ?_
      have e : o_feed l s = (-1000000002, s) := if_neg (by omega)
      rw [e]; exact ⟨rfl, hC1, Sm.rf⟩
theorem cc_feed0 (d : Nat) {n : Int} {s : Sg} {G : Hp} (hR0 : RC n s G) (l : Int) (n0 : 0 ≤ s.1.2.1) (hz : s.1.2.1 = 160) : CX (d + 2) 81 [.inr (.inr (some 1)), .inl l] G (fun r G' => r = some (.inl (o_feed l s).1) ∧ RC n (o_feed l s).2 G' ∧ Sm isM G G') := by
  have hC1 := hR0
  obtain ⟨hF, h2, h3, h4, h5, h6⟩ := hR0
  refine CX.of (d := d + 1) m_X9_feed (Nat.le_of_ble_eq_true rfl) ?_
  refine Ex.lcl (ls' := [some (.inr (.inr (some 1))), some (.inl l)]) rfl ?_
  refine x_iload_n (q := 1) dX9_feed_0 rfl rfl ?_
  refine x_if_lt (q := 4) (t := 11) dX9_feed_1 rfl (by decide) (fun h1 => ?_) (fun h1 => ?_)
  · refine x_ldc (q := 13) dX9_feed_11 rfl k_9_89 ?_
    refine x_iret dX9_feed_13 rfl ?_
    have e : o_feed l s = (-1000000002, s) := if_neg (by omega)
    rw [e]; exact ⟨rfl, hC1, Sm.rf⟩
  · refine x_iload_n (q := 5) dX9_feed_4 rfl rfl ?_
    refine x_sipush (q := 8) dX9_feed_5 rfl (by decide) ?_
    refine x_icmp_lt (q := 11) (t := 14) dX9_feed_8 rfl (by decide) (fun h8 => ?_) (fun h8 => ?_)
    · refine x_aload_n (q := 15) dX9_feed_14 rfl rfl ?_
      refine x_iload_n (q := 16) dX9_feed_15 rfl rfl ?_
      refine x_invV (q := 19) (as := [.inr (.inr (some 1)), .inl l]) (rest := []) dX9_feed_16 rfl l_9_81 m_X9_addLetter rfl rfl (ft1 hF) (Nat.le_of_ble_eq_true rfl) (c_addL0 _ hF h2.2.1 (by omega)) (fun r1 G1 hR => ?_)
      obtain ⟨rfl, hG1⟩ := hR
      replace hG1 := hG1.symm
      subst hG1
      refine Ex.stk (st' := [.inl 0]) rfl ?_
      refine x_if_eq (q := 22) (t := 29) dX9_feed_19 rfl (by decide) (fun h19 => ?_) (fun h19 => by exfalso; omega)
      refine x_ldc (q := 31) dX9_feed_29 rfl k_9_93 ?_
      refine x_iret dX9_feed_31 rfl ?_
      have e : o_feed l s = (-1000000004, s) := by rw [o_feed, if_pos (by omega), if_pos (by omega)]
      rw [e]; exact ⟨rfl, hC1, Sm.rf⟩
    · refine x_ldc (q := 13) dX9_feed_11 rfl k_9_89 ?_
      refine x_iret dX9_feed_13 rfl ?_
      have e : o_feed l s = (-1000000002, s) := if_neg (by omega)
      rw [e]; exact ⟨rfl, hC1, Sm.rf⟩
theorem cc_fault (d : Nat) {n : Int} {s : Sg} {G : Hp} (hR0 : RC n s G) : CX (d + 1) 83 [.inr (.inr (some 1))] G (fun r G' => r = some (.inl s.1.2.2) ∧ G' = G) := by
  have hC1 := hR0
  obtain ⟨hF, h2, h3, h4, h5, h6⟩ := hR0
  refine CX.of (d := d + 0) m_X9_fault (Nat.le_of_ble_eq_true rfl) ?_
  refine Ex.lcl (ls' := [some (.inr (.inr (some 1)))]) rfl ?_
  refine x_aload_n (q := 1) dX9_fault_0 rfl rfl ?_
  refine x_getI (q := 4) dX9_fault_1 rfl f_9_13 rfl (ft1 hF) ?_
  refine Ex.stk (st' := [.inl s.1.2.2]) (by rw [show iv G 1 2 = s.1.2.2 from h2.2.2]) ?_
  refine x_iret dX9_fault_4 rfl ?_
  exact ⟨rfl, rfl⟩
theorem cc_cell (d : Nat) {n : Int} {s : Sg} {G : Hp} (hR0 : RC n s G) (i : Int) : CX (d + 2) 85 [.inr (.inr (some 1)), .inl i] G (fun r G' => r = some (.inl (o_cell i s)) ∧ G' = G) := by
  have hC1 := hR0
  obtain ⟨hF, h2, h3, h4, h5, h6⟩ := hR0
  have hrow := h4
  refine CX.of (d := d + 1) m_X9_cell (Nat.le_of_ble_eq_true rfl) ?_
  refine Ex.lcl (ls' := [some (.inr (.inr (some 1))), some (.inl i)]) rfl ?_
  refine x_iload_n (q := 1) dX9_cell_0 rfl rfl ?_
  refine x_invS (q := 4) (as := [.inl i]) (rest := []) dX9_cell_1 rfl l_9_151 m_X9_isCell rfl rfl (Nat.le_of_ble_eq_true rfl) (Nat.le_of_ble_eq_true rfl) (c_isCell _) (fun r1 G1 hR => ?_)
  obtain ⟨hG1, z1, rfl, z1a, z1b⟩ := hR
  replace hG1 := hG1.symm
  subst hG1
  refine Ex.stk (st' := [.inl z1]) rfl ?_
  refine x_if_eq (q := 7) (t := 19) dX9_cell_4 rfl (by decide) (fun h4 => ?_) (fun h4 => ?_)
  · refine x_ldc (q := 21) dX9_cell_19 rfl k_9_154 ?_
    refine x_iret dX9_cell_21 rfl ?_
    rw [o_cell, if_neg (fun q => by have := z1b.mpr q; omega)]; exact ⟨rfl, rfl⟩
  · refine x_aload_n (q := 8) dX9_cell_7 rfl rfl ?_
    refine x_getR (q := 11) dX9_cell_8 rfl f_9_37 rfl (ft1 hF) ?_
    refine Ex.stk (st' := [.inr (.inr (some 15))]) (by rw [fr1_6 hF]) ?_
    refine x_getR (q := 14) dX9_cell_11 rfl f_9_132 rfl (ft15 hF) ?_
    refine Ex.stk (st' := [.inr (.inr (some 16))]) (by rw [fr15_0 hF]) ?_
    refine x_iload_n (q := 15) dX9_cell_14 rfl rfl ?_
    refine x_iaload (q := 16) dX9_cell_15 rfl (Or.inl (ft16 hF)) (by have := z1b.mp (by omega); omega) (by rw [fl16 hF]; have := z1b.mp (by omega); omega) ?_
    refine x_goto (t := 21) dX9_cell_16 (by decide) ?_
    refine x_iret dX9_cell_21 rfl ?_
    have hz := z1b.mp (by omega)
    rw [o_cell, if_pos hz, ← hrow.1 i (by omega) (by omega)]; exact ⟨rfl, rfl⟩
theorem cc_tear (d : Nat) {n : Int} {s : Sg} {G : Hp} (hR0 : RC n s G) : CX (d + 1) 94 [.inr (.inr (some 1))] G (fun r G' => r = some (.inl (o_tear s).1) ∧ RC n (o_tear s).2 G' ∧ Sm isM G G') := by
  have hC1 := hR0
  obtain ⟨hF, h2, h3, h4, h5, h6⟩ := hR0
  refine CX.of (d := d + 0) m_X9_tear (Nat.le_of_ble_eq_true rfl) ?_
  refine Ex.lcl (ls' := [some (.inr (.inr (some 1))), none]) rfl ?_
  refine x_aload_n (q := 1) dX9_tear_0 rfl rfl ?_
  refine x_getR (q := 4) dX9_tear_1 rfl f_9_58 rfl (ft1 hF) ?_
  refine Ex.stk (st' := [.inr (.inr (some 23))]) (by rw [fr1_11 hF]) ?_
  refine x_getI (q := 7) dX9_tear_4 rfl f_9_142 rfl (ft23 hF) ?_
  refine Ex.stk (st' := [.inl (s.2.2.2.1.length : Int)]) (by rw [show iv G 23 3 = (s.2.2.2.1.length : Int) from h5.1]) ?_
  refine x_istore_n (q := 8) (ls' := [some (.inr (.inr (some 1))), some (.inl (s.2.2.2.1.length : Int))]) dX9_tear_7 rfl (Nat.le_of_ble_eq_true rfl) (by first | rfl | exact hnl | exact hnl2 _) rfl ?_
  refine x_aload_n (q := 9) dX9_tear_8 rfl rfl ?_
  refine x_getR (q := 12) dX9_tear_9 rfl f_9_58 rfl (ft1 hF) ?_
  refine Ex.stk (st' := [.inr (.inr (some 23))]) (by rw [fr1_11 hF]) ?_
  refine x_iconst (q := 13) dX9_tear_12 rfl (by decide) ?_
  refine x_putI (q := 16) dX9_tear_13 rfl f_9_142 rfl (fun h => by cases h) (fun h => by cases h) (ft23 hF) ?_
  have hF := FX_si hF 23 3 0
  refine x_iload_n (q := 17) dX9_tear_16 rfl rfl ?_
  refine x_iret dX9_tear_17 rfl ?_
  have hi : LoI G (si G 23 3 0) := (LoI.rf G).si _ _ (by omega)
  exact ⟨rfl, RC_lo (t := s.1) (P := s.2.1) (r := s.2.2.1) (b := s.2.2.2.1) (c := s.2.2.2.2) hC1 hi (RCt_k h2 (fun k => by simp [iv_si]) (by simp [iv_si]) (by simp [iv_si])) (RCr_k h4 hi (fun a k ha => by simp only [iv_si]; rw [if_neg (by omega)])) ⟨by simp [iv_si], fun i e he => by cases he⟩, hi.M⟩
theorem cc_seed (d : Nat) {n : Int} {s : Sg} {G : Hp} (hR0 : RC n s G) (v : Int) : CX (d + 1) 95 [.inr (.inr (some 1)), .inl v] G (fun r G' => r = some (.inl (o_seed v s).1) ∧ RC n (o_seed v s).2 G' ∧ Sm isM G G') := by
  have hC1 := hR0
  obtain ⟨hF, h2, h3, h4, h5, h6⟩ := hR0
  refine CX.of (d := d + 0) m_X9_seed (Nat.le_of_ble_eq_true rfl) ?_
  refine Ex.lcl (ls' := [some (.inr (.inr (some 1))), some (.inl v), none]) rfl ?_
  refine x_iload_n (q := 1) dX9_seed_0 rfl rfl ?_
  refine x_if_ge (q := 4) (t := 7) dX9_seed_1 rfl (by decide) (fun h1 => ?_) (fun h1 => ?_)
  · refine x_aload_n (q := 8) dX9_seed_7 rfl rfl ?_
    refine x_getR (q := 11) dX9_seed_8 rfl f_9_37 rfl (ft1 hF) ?_
    refine Ex.stk (st' := [.inr (.inr (some 15))]) (by rw [fr1_6 hF]) ?_
    refine x_getI (q := 14) dX9_seed_11 rfl f_9_227 rfl (ft15 hF) ?_
    refine Ex.stk (st' := [.inl s.2.2.1.2.2.2]) (by rw [show iv G 15 3 = s.2.2.1.2.2.2 from h4.2.2.2.1]) ?_
    refine x_istore_n (q := 15) (ls' := [some (.inr (.inr (some 1))), some (.inl v), some (.inl s.2.2.1.2.2.2)]) dX9_seed_14 rfl (Nat.le_of_ble_eq_true rfl) (by first | rfl | exact hnl | exact hnl2 _) rfl ?_
    refine x_aload_n (q := 16) dX9_seed_15 rfl rfl ?_
    refine x_getR (q := 19) dX9_seed_16 rfl f_9_37 rfl (ft1 hF) ?_
    refine Ex.stk (st' := [.inr (.inr (some 15))]) (by rw [fr1_6 hF]) ?_
    refine x_iload_n (q := 20) dX9_seed_19 rfl rfl ?_
    refine x_putI (q := 23) dX9_seed_20 rfl f_9_227 rfl (fun h => by cases h) (fun h => by cases h) (ft15 hF) ?_
    have hF := FX_si hF 15 3 v
    refine x_iload_n (q := 24) dX9_seed_23 rfl rfl ?_
    refine x_iret dX9_seed_24 rfl ?_
    have e : o_seed v s = (s.2.2.1.2.2.2, s.1, s.2.1, (s.2.2.1.1, s.2.2.1.2.1, s.2.2.1.2.2.1, v), s.2.2.2) := if_neg (by omega)
    rw [e]
    have hi : LoI G (si G 15 3 v) := (LoI.rf G).si _ _ (by omega)
    exact ⟨rfl, RC_lo (t := s.1) (P := s.2.1) (r := s.2.2.1) (b := s.2.2.2.1) (c := s.2.2.2.2) hC1 hi (RCt_k h2 (fun k => by simp [iv_si]) (by simp [iv_si]) (by simp [iv_si])) ⟨fun k k0 k1 => Eq.trans (by simp [iv_si]) (h4.1 k k0 k1), Eq.trans (by simp [iv_si]) h4.2.1, Eq.trans (by simp [iv_si]) h4.2.2.1, by simp [iv_si], RCd_k h4.2.2.2.2.1 (fun a k a0 a1 => by simp only [iv_si]; rw [if_neg (by omega)]), RCi_lo h4.2.2.2.2.2 hi⟩ (RCb_k h5 (by simp [iv_si]) (fun k => by simp [iv_si]) (fun k => by simp [iv_si]) (fun k => by simp [iv_si])), hi.M⟩
  · refine x_ldc (q := 6) dX9_seed_4 rfl k_9_89 ?_
    refine x_iret dX9_seed_6 rfl ?_
    have e : o_seed v s = (-1000000002, s) := if_pos h1
    rw [e]; exact ⟨rfl, hC1, Sm.rf⟩
theorem c_addE1 (d : Nat) {G : Hp} (hF : FC G) {f x v n : Int} (hn : iv G 23 3 = n) (n0 : 0 ≤ n) (n1 : n < 20) : CX (d + 1) 1 [.inr (.inr (some 23)), .inl f, .inl x, .inl v] G (fun r G1 => r = some (.inl 1) ∧ G1 = si (si (si (si G 24 n f) 25 n x) 26 n v) 23 3 (n + 1)) := by
  refine CX.of (d := d + 0) m_X0_addEntry (Nat.le_of_ble_eq_true rfl) ?_
  refine Ex.lcl (ls' := [some (.inr (.inr (some 23))), some (.inl f), some (.inl x), some (.inl v)]) rfl ?_
  refine x_aload_n (q := 1) dX0_addEntry_0 rfl rfl ?_
  refine x_getI (q := 4) dX0_addEntry_1 rfl f_0_21 rfl (ft23 hF) ?_
  refine Ex.stk (st' := [.inl n]) (by rw [show iv G 23 3 = n from hn]) ?_
  refine x_bipush (q := 6) dX0_addEntry_4 rfl (by decide) ?_
  refine x_icmp_lt (q := 9) (t := 11) dX0_addEntry_6 rfl (by decide) (fun h6 => ?_) (fun h6 => by exfalso; omega)
  refine x_aload_n (q := 12) dX0_addEntry_11 rfl rfl ?_
  refine x_getR (q := 15) dX0_addEntry_12 rfl f_0_9 rfl (ft23 hF) ?_
  refine Ex.stk (st' := [.inr (.inr (some 24))]) (by rw [fr23_0 hF]) ?_
  refine x_aload_n (q := 16) dX0_addEntry_15 rfl rfl ?_
  refine x_getI (q := 19) dX0_addEntry_16 rfl f_0_21 rfl (ft23 hF) ?_
  refine Ex.stk (st' := [.inl n, .inr (.inr (some 24))]) (by rw [show iv G 23 3 = n from hn]) ?_
  refine x_iload_n (q := 20) dX0_addEntry_19 rfl rfl ?_
  refine x_iastore (q := 21) dX0_addEntry_20 rfl (ft24 hF) (by omega) (by rw [fl24 hF]; omega) ?_
  have hF := FX_si hF 24 n f
  refine x_aload_n (q := 22) dX0_addEntry_21 rfl rfl ?_
  refine x_getR (q := 25) dX0_addEntry_22 rfl f_0_15 rfl (ft23 hF) ?_
  refine Ex.stk (st' := [.inr (.inr (some 25))]) (by rw [fr23_1 hF]) ?_
  refine x_aload_n (q := 26) dX0_addEntry_25 rfl rfl ?_
  refine x_getI (q := 29) dX0_addEntry_26 rfl f_0_21 rfl (ft23 hF) ?_
  refine Ex.stk (st' := [.inl n, .inr (.inr (some 25))]) (by rw [show iv (si G 24 n f) 23 3 = n from (by first | exact hn | simp [iv_si, iv_sr, iv_nw, hn])]) ?_
  refine x_iload_n (q := 30) dX0_addEntry_29 rfl rfl ?_
  refine x_iastore (q := 31) dX0_addEntry_30 rfl (ft25 hF) (by omega) (by rw [fl25 hF]; omega) ?_
  have hF := FX_si hF 25 n x
  refine x_aload_n (q := 32) dX0_addEntry_31 rfl rfl ?_
  refine x_getR (q := 35) dX0_addEntry_32 rfl f_0_18 rfl (ft23 hF) ?_
  refine Ex.stk (st' := [.inr (.inr (some 26))]) (by rw [fr23_2 hF]) ?_
  refine x_aload_n (q := 36) dX0_addEntry_35 rfl rfl ?_
  refine x_getI (q := 39) dX0_addEntry_36 rfl f_0_21 rfl (ft23 hF) ?_
  refine Ex.stk (st' := [.inl n, .inr (.inr (some 26))]) (by rw [show iv (si (si G 24 n f) 25 n x) 23 3 = n from (by first | exact hn | simp [iv_si, iv_sr, iv_nw, hn])]) ?_
  refine x_iload_n (q := 40) dX0_addEntry_39 rfl rfl ?_
  refine x_iastore (q := 41) dX0_addEntry_40 rfl (ft26 hF) (by omega) (by rw [fl26 hF]; omega) ?_
  have hF := FX_si hF 26 n v
  refine x_aload_n (q := 42) dX0_addEntry_41 rfl rfl ?_
  refine x_dup (q := 43) dX0_addEntry_42 rfl rfl ?_
  refine x_getI (q := 46) dX0_addEntry_43 rfl f_0_21 rfl (ft23 hF) ?_
  refine Ex.stk (st' := [.inl n, .inr (.inr (some 23))]) (by rw [show iv (si (si (si G 24 n f) 25 n x) 26 n v) 23 3 = n from (by first | exact hn | simp [iv_si, iv_sr, iv_nw, hn])]) ?_
  refine x_iconst (q := 47) dX0_addEntry_46 rfl (by decide) ?_
  refine x_iadd (q := 48) (z := n + 1) dX0_addEntry_47 rfl (wr_id ⟨by omega, by omega⟩) ?_
  refine x_putI (q := 51) dX0_addEntry_48 rfl f_0_21 rfl (fun h => by cases h) (fun h => by cases h) (ft23 hF) ?_
  have hF := FX_si hF 23 3 (n + 1)
  refine x_iconst (q := 52) dX0_addEntry_51 rfl (by decide) ?_
  refine x_zret dX0_addEntry_52 rfl (by decide) ?_
  exact ⟨rfl, rfl⟩
theorem c_addE0 (d : Nat) {G : Hp} (hF : FC G) {f x v n : Int} (hn : iv G 23 3 = n) (n1 : 20 ≤ n) : CX (d + 1) 1 [.inr (.inr (some 23)), .inl f, .inl x, .inl v] G (fun r G1 => r = some (.inl 0) ∧ G1 = G) := by
  refine CX.of (d := d + 0) m_X0_addEntry (Nat.le_of_ble_eq_true rfl) ?_
  refine Ex.lcl (ls' := [some (.inr (.inr (some 23))), some (.inl f), some (.inl x), some (.inl v)]) rfl ?_
  refine x_aload_n (q := 1) dX0_addEntry_0 rfl rfl ?_
  refine x_getI (q := 4) dX0_addEntry_1 rfl f_0_21 rfl (ft23 hF) ?_
  refine Ex.stk (st' := [.inl n]) (by rw [show iv G 23 3 = n from hn]) ?_
  refine x_bipush (q := 6) dX0_addEntry_4 rfl (by decide) ?_
  refine x_icmp_lt (q := 9) (t := 11) dX0_addEntry_6 rfl (by decide) (fun h6 => by exfalso; omega) (fun h6 => ?_)
  refine x_iconst (q := 10) dX0_addEntry_9 rfl (by decide) ?_
  refine x_zret dX0_addEntry_10 rfl (by decide) ?_
  exact ⟨rfl, rfl⟩
theorem cc_write1 (d : Nat) {n : Int} {s : Sg} {G : Hp} (hR0 : RC n s G) (f x v : Int) (hz : s.2.2.2.1.length < 20) : CX (d + 2) 93 [.inr (.inr (some 1)), .inl f, .inl x, .inl v] G (fun r G' => r = some (.inl (o_write f x v s).1) ∧ RC n (o_write f x v s).2 G' ∧ Sm isM G G') := by
  have hC1 := hR0
  obtain ⟨hF, h2, h3, h4, h5, h6⟩ := hR0
  obtain ⟨pa, p1, p2, p3, p4, p5, p6⟩ := h3
  refine CX.of (d := d + 1) m_X9_write (Nat.le_of_ble_eq_true rfl) ?_
  refine Ex.lcl (ls' := [some (.inr (.inr (some 1))), some (.inl f), some (.inl x), some (.inl v)]) rfl ?_
  refine x_aload_n (q := 1) dX9_write_0 rfl rfl ?_
  refine x_getR (q := 4) dX9_write_1 rfl f_9_27 rfl (ft1 hF) ?_
  refine Ex.stk (st' := [.inr (.inr (some pa))]) (by rw [show rv G 1 4 = some pa from p2]) ?_
  refine x_iload_n (q := 5) dX9_write_4 rfl rfl ?_
  refine x_invV (q := 8) (as := [.inr (.inr (some pa)), .inl f]) (rest := []) dX9_write_5 rfl l_9_205 m_X5_tellsOf rfl rfl (PGs_FC hF p1).1 (Nat.le_of_ble_eq_true rfl) (c_tellsOf _ (PGs_FC hF p1) p6.1) (fun r1 G1 hR => ?_)
  obtain ⟨hG1, z5, rfl, z5a, z5b⟩ := hR
  replace hG1 := hG1.symm
  subst hG1
  refine Ex.stk (st' := [.inl z5]) rfl ?_
  refine x_if_ne (q := 11) (t := 14) dX9_write_8 rfl (by decide) (fun h8 => ?_) (fun h8 => ?_)
  · refine x_iload_n (q := 15) dX9_write_14 rfl rfl ?_
    refine x_invS (q := 18) (as := [.inl x]) (rest := []) dX9_write_15 rfl l_9_199 m_X9_isNumber rfl rfl (Nat.le_of_ble_eq_true rfl) (Nat.le_of_ble_eq_true rfl) (c_isNumber _) (fun r1 G1 hR => ?_)
    obtain ⟨hG1, z15, rfl, z15a, z15b⟩ := hR
    replace hG1 := hG1.symm
    subst hG1
    refine Ex.stk (st' := [.inl z15]) rfl ?_
    refine x_if_ne (q := 21) (t := 24) dX9_write_18 rfl (by decide) (fun h18 => ?_) (fun h18 => ?_)
    · refine x_aload_n (q := 25) dX9_write_24 rfl rfl ?_
      refine x_getR (q := 28) dX9_write_25 rfl f_9_58 rfl (ft1 hF) ?_
      refine Ex.stk (st' := [.inr (.inr (some 23))]) (by rw [fr1_11 hF]) ?_
      refine x_iload_n (q := 29) dX9_write_28 rfl rfl ?_
      refine x_iload_n (q := 30) dX9_write_29 rfl rfl ?_
      refine x_iload_n (q := 31) dX9_write_30 rfl rfl ?_
      refine x_invV (q := 34) (as := [.inr (.inr (some 23)), .inl f, .inl x, .inl v]) (rest := []) dX9_write_31 rfl l_9_235 m_X0_addEntry rfl rfl (ft23 hF) (Nat.le_of_ble_eq_true rfl) (c_addE1 _ hF h5.1 (by omega) (by omega)) (fun r1 G1 hR => ?_)
      obtain ⟨rfl, rfl⟩ := hR
      have hF : FC (si (si (si (si G 24 (s.2.2.2.1.length : Int) f) 25 (s.2.2.2.1.length : Int) x) 26 (s.2.2.2.1.length : Int) v) 23 3 ((s.2.2.2.1.length : Int) + 1)) := hF
      refine Ex.stk (st' := [.inl 1]) rfl ?_
      refine x_if_eq (q := 37) (t := 47) dX9_write_34 rfl (by decide) (fun h34 => by exfalso; omega) (fun h34 => ?_)
      refine x_aload_n (q := 38) dX9_write_37 rfl rfl ?_
      refine x_getR (q := 41) dX9_write_38 rfl f_9_58 rfl (ft1 hF) ?_
      refine Ex.stk (st' := [.inr (.inr (some 23))]) (by rw [fr1_11 hF]) ?_
      refine x_getI (q := 44) dX9_write_41 rfl f_9_142 rfl (ft23 hF) ?_
      refine Ex.stk (st' := [.inl ((s.2.2.2.1.length : Int) + 1)]) (by rw [show iv (si (si (si (si G 24 (s.2.2.2.1.length : Int) f) 25 (s.2.2.2.1.length : Int) x) 26 (s.2.2.2.1.length : Int) v) 23 3 ((s.2.2.2.1.length : Int) + 1)) 23 3 = (s.2.2.2.1.length : Int) + 1 from (by simp [iv_si])]) ?_
      refine x_goto (t := 49) dX9_write_44 (by decide) ?_
      refine x_iret dX9_write_49 rfl ?_
      have e : o_write f x v s = ((s.2.2.2.1.length : Int) + 1, s.1, s.2.1, s.2.2.1, s.2.2.2.1 ++ [(f, x, v)], s.2.2.2.2) := by rw [o_write, if_pos (z5b.mp (by omega)), if_pos (z15b.mp (by omega)), if_neg (by omega)]
      rw [e]
      have hi : LoI G (si (si (si (si G 24 (s.2.2.2.1.length : Int) f) 25 (s.2.2.2.1.length : Int) x) 26 (s.2.2.2.1.length : Int) v) 23 3 ((s.2.2.2.1.length : Int) + 1)) := ((((LoI.rf G).si _ _ (by omega)).si _ _ (by omega)).si _ _ (by omega)).si _ _ (by omega)
      refine ⟨rfl, RC_lo (t := s.1) (P := s.2.1) (r := s.2.2.1) (b := s.2.2.2.1) (c := s.2.2.2.2) hC1 hi (RCt_k h2 (fun k => by simp [iv_si]) (by simp [iv_si]) (by simp [iv_si])) (RCr_k h4 hi (fun a k ha => by simp only [iv_si]; rw [if_neg (by omega), if_neg (by omega), if_neg (by omega), if_neg (by omega)])) ⟨by simp [iv_si], fun i e he => ?_⟩, hi.M⟩
      by_cases hil : i < s.2.2.2.1.length
      · rw [List.getElem?_append_left hil] at he
        have hx : ¬ ((i : Int) = (s.2.2.2.1.length : Int)) := by omega
        simp [iv_si, hx]
        exact h5.2 i e he
      · rw [List.getElem?_append_right (by omega)] at he
        have hi2 : i = s.2.2.2.1.length := by
          have := (List.getElem?_eq_some_iff.mp he).1
          simp at this; omega
        subst hi2
        simp at he
        subst he
        simp [iv_si]
    · refine x_ldc (q := 23) dX9_write_21 rfl k_9_89 ?_
      refine x_iret dX9_write_23 rfl ?_
      have e : o_write f x v s = (-1000000002, s) := by rw [o_write, if_pos (z5b.mp (by omega)), if_neg (fun q => by have := z15b.mpr q; omega)]
      rw [e]; exact ⟨rfl, hC1, Sm.rf⟩
  · refine x_ldc (q := 13) dX9_write_11 rfl k_9_154 ?_
    refine x_iret dX9_write_13 rfl ?_
    have e : o_write f x v s = (-1000000001, s) := if_neg (fun q => by have := z5b.mpr q; omega)
    rw [e]; exact ⟨rfl, hC1, Sm.rf⟩
theorem cc_write0 (d : Nat) {n : Int} {s : Sg} {G : Hp} (hR0 : RC n s G) (f x v : Int) (hz : s.2.2.2.1.length = 20) : CX (d + 2) 93 [.inr (.inr (some 1)), .inl f, .inl x, .inl v] G (fun r G' => r = some (.inl (o_write f x v s).1) ∧ RC n (o_write f x v s).2 G' ∧ Sm isM G G') := by
  have hC1 := hR0
  obtain ⟨hF, h2, h3, h4, h5, h6⟩ := hR0
  obtain ⟨pa, p1, p2, p3, p4, p5, p6⟩ := h3
  refine CX.of (d := d + 1) m_X9_write (Nat.le_of_ble_eq_true rfl) ?_
  refine Ex.lcl (ls' := [some (.inr (.inr (some 1))), some (.inl f), some (.inl x), some (.inl v)]) rfl ?_
  refine x_aload_n (q := 1) dX9_write_0 rfl rfl ?_
  refine x_getR (q := 4) dX9_write_1 rfl f_9_27 rfl (ft1 hF) ?_
  refine Ex.stk (st' := [.inr (.inr (some pa))]) (by rw [show rv G 1 4 = some pa from p2]) ?_
  refine x_iload_n (q := 5) dX9_write_4 rfl rfl ?_
  refine x_invV (q := 8) (as := [.inr (.inr (some pa)), .inl f]) (rest := []) dX9_write_5 rfl l_9_205 m_X5_tellsOf rfl rfl (PGs_FC hF p1).1 (Nat.le_of_ble_eq_true rfl) (c_tellsOf _ (PGs_FC hF p1) p6.1) (fun r1 G1 hR => ?_)
  obtain ⟨hG1, z5, rfl, z5a, z5b⟩ := hR
  replace hG1 := hG1.symm
  subst hG1
  refine Ex.stk (st' := [.inl z5]) rfl ?_
  refine x_if_ne (q := 11) (t := 14) dX9_write_8 rfl (by decide) (fun h8 => ?_) (fun h8 => ?_)
  · refine x_iload_n (q := 15) dX9_write_14 rfl rfl ?_
    refine x_invS (q := 18) (as := [.inl x]) (rest := []) dX9_write_15 rfl l_9_199 m_X9_isNumber rfl rfl (Nat.le_of_ble_eq_true rfl) (Nat.le_of_ble_eq_true rfl) (c_isNumber _) (fun r1 G1 hR => ?_)
    obtain ⟨hG1, z15, rfl, z15a, z15b⟩ := hR
    replace hG1 := hG1.symm
    subst hG1
    refine Ex.stk (st' := [.inl z15]) rfl ?_
    refine x_if_ne (q := 21) (t := 24) dX9_write_18 rfl (by decide) (fun h18 => ?_) (fun h18 => ?_)
    · refine x_aload_n (q := 25) dX9_write_24 rfl rfl ?_
      refine x_getR (q := 28) dX9_write_25 rfl f_9_58 rfl (ft1 hF) ?_
      refine Ex.stk (st' := [.inr (.inr (some 23))]) (by rw [fr1_11 hF]) ?_
      refine x_iload_n (q := 29) dX9_write_28 rfl rfl ?_
      refine x_iload_n (q := 30) dX9_write_29 rfl rfl ?_
      refine x_iload_n (q := 31) dX9_write_30 rfl rfl ?_
      refine x_invV (q := 34) (as := [.inr (.inr (some 23)), .inl f, .inl x, .inl v]) (rest := []) dX9_write_31 rfl l_9_235 m_X0_addEntry rfl rfl (ft23 hF) (Nat.le_of_ble_eq_true rfl) (c_addE0 _ hF h5.1 (by omega)) (fun r1 G1 hR => ?_)
      obtain ⟨rfl, hG1⟩ := hR
      replace hG1 := hG1.symm
      subst hG1
      refine Ex.stk (st' := [.inl 0]) rfl ?_
      refine x_if_eq (q := 37) (t := 47) dX9_write_34 rfl (by decide) (fun h34 => ?_) (fun h34 => by exfalso; omega)
      refine x_ldc (q := 49) dX9_write_47 rfl k_9_93 ?_
      refine x_iret dX9_write_49 rfl ?_
      have e : o_write f x v s = (-1000000004, s) := by rw [o_write, if_pos (z5b.mp (by omega)), if_pos (z15b.mp (by omega)), if_pos hz]
      rw [e]; exact ⟨rfl, hC1, Sm.rf⟩
    · refine x_ldc (q := 23) dX9_write_21 rfl k_9_89 ?_
      refine x_iret dX9_write_23 rfl ?_
      have e : o_write f x v s = (-1000000002, s) := by rw [o_write, if_pos (z5b.mp (by omega)), if_neg (fun q => by have := z15b.mpr q; omega)]
      rw [e]; exact ⟨rfl, hC1, Sm.rf⟩
  · refine x_ldc (q := 13) dX9_write_11 rfl k_9_154 ?_
    refine x_iret dX9_write_13 rfl ?_
    have e : o_write f x v s = (-1000000001, s) := if_neg (fun q => by have := z5b.mpr q; omega)
    rw [e]; exact ⟨rfl, hC1, Sm.rf⟩
