/-! WHAT IS SO NOW: the state of both, and the model's memory of it -/
def upi (f : Int → Int) (k v : Int) : Int → Int := fun j => if j = k then v else f j
/-- the text: letters, how many, the place of the fault -/
abbrev Tx : Type := (Int → Int) × Int × Int
/-- rows: the one that is now, those before it, images, the seed -/
abbrev Rw : Type := (Int → Int) × List (Int → Int) × (Int → Option ((Int → Int) × Int)) × Int
abbrev Bk : Type := List (Int × Int × Int)
/-- calls: the tree, cells as held, made ever, made, done anew, gone -/
abbrev Tc : Type := Tr 6 × (Int → Int) × Int × Int × Int × Int
abbrev Sg : Type := Tx × Pg × Rw × Bk × Tc
def RMt (t : Tx) (G : Hp) : Prop := (∀ k, 0 ≤ k → k < t.2.1 → iv G 38 k = t.1 k) ∧ iv G 35 6 = t.2.1 ∧ iv G 35 7 = t.2.2
def RMp (P : Pg) (G : Hp) : Prop := iv G 42 = P.1 ∧ iv G 43 = P.2.1 ∧ iv G 35 14 = P.2.2
def RMi (im : Int → Option ((Int → Int) × Int)) (G : Hp) : Prop := (∀ i, 0 ≤ i → i < 2 → match im i with
    | none => rb (iv G 35 2) i = 0
    | some q => rb (iv G 35 2) i = 1 ∧ iv G 37 i = q.2 ∧ ∀ k, 0 ≤ k → k < 10 → iv G 36 (170 + 10 * i + k) = q.1 k) ∧ 0 ≤ iv G 35 2 ∧ iv G 35 2 ≤ 3
def RMh (hs : List (Int → Int)) (G : Hp) : Prop := iv G 35 1 = (hs.length : Int) ∧ ∀ (i : Nat) (r : Int → Int), hs[i]? = some r → ∀ k, 0 ≤ k → k < 10 → iv G 36 (10 * ((i : Int) + 1) + k) = r k
def RMr (r : Rw) (G : Hp) : Prop := (∀ k, 0 ≤ k → k < 10 → iv G 36 k = r.1 k) ∧ RMh r.2.1 G ∧ RMi r.2.2.1 G ∧ iv G 35 3 = r.2.2.2
def RMb (b : Bk) (G : Hp) : Prop := iv G 35 11 = (b.length : Int) ∧ ∀ (i : Nat) (e : Int × Int × Int), b[i]? = some e → iv G 39 (i : Int) = e.1 ∧ iv G 40 (i : Int) = e.2.1 ∧ iv G 41 (i : Int) = e.2.2
def RMc (t : Tc) (G : Hp) : Prop := oAt G 0 (flat 6 1 t.1) ∧ iv G 35 22 = (tsz 6 t.1 : Int) ∧ (∀ k, 0 ≤ k → k < 8 → iv G 51 k = t.2.1 k) ∧ iv G 35 33 = t.2.2.1 ∧ iv G 35 34 = t.2.2.2.1 ∧ iv G 35 35 = t.2.2.2.2.1 ∧ iv G 35 36 = t.2.2.2.2.2
def RM (s : Sg) (G : Hp) : Prop := FM G ∧ RMt s.1 G ∧ RMp s.2.1 G ∧ RMr s.2.2.1 G ∧ RMb s.2.2.2.1 G ∧ RMc s.2.2.2.2 G
theorem RMt_k {t : Tx} {G G' : Hp} (h : RMt t G) (h1 : ∀ k, iv G' 38 k = iv G 38 k) (h2 : iv G' 35 6 = iv G 35 6) (h3 : iv G' 35 7 = iv G 35 7) : RMt t G' := ⟨fun k k0 k1 => (h1 k).trans (h.1 k k0 k1), h2.trans h.2.1, h3.trans h.2.2⟩
theorem RMp_k {P : Pg} {G G' : Hp} (h : RMp P G) (h1 : ∀ k, iv G' 42 k = iv G 42 k) (h2 : ∀ k, iv G' 43 k = iv G 43 k) (h3 : iv G' 35 14 = iv G 35 14) : RMp P G' := ⟨(funext h1).trans h.1, (funext h2).trans h.2.1, h3.trans h.2.2⟩
theorem RMi_k {im : Int → Option ((Int → Int) × Int)} {G G' : Hp} (h : RMi im G) (h1 : ∀ k, 170 ≤ k → k < 190 → iv G' 36 k = iv G 36 k) (h2 : ∀ k, iv G' 37 k = iv G 37 k) (h4 : iv G' 35 2 = iv G 35 2) : RMi im G' := by
  refine ⟨fun i i0 i1 => ?_, by rw [h4]; exact h.2⟩
  have := h.1 i i0 i1
  cases hi : im i with
  | none => rw [hi] at this; dsimp only at this ⊢; rw [h4]; exact this
  | some q => rw [hi] at this; dsimp only at this ⊢; rw [h4, h2]; exact ⟨this.1, this.2.1, fun k k0 k1 => by rw [h1 _ (by omega) (by omega)]; exact this.2.2 k k0 k1⟩
theorem RMh_k {hs : List (Int → Int)} {G G' : Hp} (h : RMh hs G) (h1 : ∀ k, 10 ≤ k → iv G' 36 k = iv G 36 k) (h3 : iv G' 35 1 = iv G 35 1) : RMh hs G' := ⟨h3.trans h.1, fun i r hr k k0 k1 => (h1 _ (by omega)).trans (h.2 i r hr k k0 k1)⟩
theorem RMr_k {r : Rw} {G G' : Hp} (h : RMr r G) (h1 : ∀ k, iv G' 36 k = iv G 36 k) (h2 : ∀ k, iv G' 37 k = iv G 37 k) (h3 : iv G' 35 1 = iv G 35 1) (h4 : iv G' 35 2 = iv G 35 2) (h5 : iv G' 35 3 = iv G 35 3) : RMr r G' := ⟨fun k k0 k1 => (h1 k).trans (h.1 k k0 k1), RMh_k h.2.1 (fun k _ => h1 k) h3, RMi_k h.2.2.1 (fun k _ _ => h1 k) h2 h4, h5.trans h.2.2.2⟩
theorem RMb_k {b : Bk} {G G' : Hp} (h : RMb b G) (h1 : ∀ k, iv G' 39 k = iv G 39 k) (h2 : ∀ k, iv G' 40 k = iv G 40 k) (h3 : ∀ k, iv G' 41 k = iv G 41 k) (h4 : iv G' 35 11 = iv G 35 11) : RMb b G' := ⟨h4.trans h.1, fun i e he => by rw [h1, h2, h3]; exact h.2 i e he⟩
theorem RMc_k {t : Tc} {G G' : Hp} (h : RMc t G) (h1 : ∀ (a : Nat) (k : Int), 44 ≤ a → a ≤ 51 → iv G' a k = iv G a k) (h2 : iv G' 35 22 = iv G 35 22) (h3 : ∀ k, 33 ≤ k → k ≤ 36 → iv G' 35 k = iv G 35 k) : RMc t G' := by
  obtain ⟨a1, a2, a3, a4, a5, a6, a7⟩ := h
  exact ⟨oAt_kept _ _ a1 (fun a j g1 g2 _ _ => h1 a j g1 (by omega)), h2.trans a2, fun k k0 k1 => (h1 51 k (by decide) (by decide)).trans (a3 k k0 k1), (h3 33 (by decide) (by decide)).trans a4, (h3 34 (by decide) (by decide)).trans a5, (h3 35 (by decide) (by decide)).trans a6, (h3 36 (by decide) (by decide)).trans a7⟩
/-- only the model's cells are otherwise -/
def Mo (G G' : Hp) : Prop := Io G G' ∧ ∀ (a : Nat) (k : Int), (a < 35 ∨ 62 < a) → iv G' a k = iv G a k
theorem Mo.rf (G : Hp) : Mo G G := ⟨Io.rf G, fun _ _ _ => rfl⟩
theorem Mo.trans {G G1 G2 : Hp} (h1 : Mo G G1) (h2 : Mo G1 G2) : Mo G G2 := ⟨h1.1.trans h2.1, fun a k ha => (h2.2 a k ha).trans (h1.2 a k ha)⟩
theorem Mo.si {G G' : Hp} (h : Mo G G') {a : Nat} (k v : Int) (h1 : 35 ≤ a) (h2 : a ≤ 62) : Mo G (si G' a k v) := ⟨h.1.si a k v, fun b j hb => by rw [iv_si, if_neg (by omega)]; exact h.2 b j hb⟩
theorem Mo.C {G G' : Hp} (h : Mo G G') : Sm isC G G' := fun a ha => ⟨h.1.1 a, h.1.2.1 a, fun k => h.2 a k (by unfold isC at ha; omega), fun k => h.1.2.2.1 a k⟩
theorem LayI.Mo {G G' : Hp} (h : LayI G G') : Mo G G' := ⟨h.1, fun a k ha => h.2.1 a k (by omega) (by omega) (by omega)⟩
/-- laying new calls leaves all that is so -/
theorem RM_LayI {s : Sg} {G G' : Hp} (h : RM s G) (hi : LayI G G') : RM s G' := by
  obtain ⟨h1, h2, h3, h4, h5, h6⟩ := h
  obtain ⟨e1, e2, e3⟩ := hi
  have E : ∀ (a : Nat) (k : Int), a ≠ 35 → (a < 52 ∨ 56 < a) → (a < 60 ∨ 62 < a) → iv G' a k = iv G a k := e2
  have D : ∀ k, k < 29 ∨ (29 < k ∧ k < 40) ∨ 42 < k → iv G' 35 k = iv G 35 k := fun k hk => e3 k (by omega) (by omega) (by omega) (by omega)
  exact ⟨FX_Io h1 e1, RMt_k h2 (fun k => E 38 k (by decide) (by decide) (by decide)) (D 6 (by decide)) (D 7 (by decide)), RMp_k h3 (fun k => E 42 k (by decide) (by decide) (by decide)) (fun k => E 43 k (by decide) (by decide) (by decide)) (D 14 (by decide)), RMr_k h4 (fun k => E 36 k (by decide) (by decide) (by decide)) (fun k => E 37 k (by decide) (by decide) (by decide)) (D 1 (by decide)) (D 2 (by decide)) (D 3 (by decide)), RMb_k h5 (fun k => E 39 k (by decide) (by decide) (by decide)) (fun k => E 40 k (by decide) (by decide) (by decide)) (fun k => E 41 k (by decide) (by decide) (by decide)) (D 11 (by decide)), RMc_k h6 (fun a k g1 g2 => E a k (by omega) (by omega) (by omega)) (D 22 (by decide)) (fun k g1 g2 => D k (by omega))⟩
theorem RM_MP {s : Sg} {G : Hp} (h : RM s G) : MP s.2.1 s.2.2.1.1 G := ⟨h.1, h.2.2.1.1, h.2.2.1.2.1, h.2.2.1.2.2, fun k k0 k1 => h.2.2.2.1.1 k k0 (by omega)⟩
/-- the model's words read only its own cells -/
theorem RM_Sm {s : Sg} {G G' : Hp} (h : RM s G) (hs : Sm isM G G') : RM s G' := by
  obtain ⟨h1, h2, h3, h4, h5, h6⟩ := h
  have e : ∀ (a : Nat) (k : Int), 35 ≤ a → a ≤ 62 → iv G' a k = iv G a k := fun a k g1 g2 => (hs a ⟨g1, g2⟩).2.2.1 k
  exact ⟨FM_Sm h1 hs, RMt_k h2 (fun k => e 38 k (by decide) (by decide)) (e 35 6 (by decide) (by decide)) (e 35 7 (by decide) (by decide)), RMp_k h3 (fun k => e 42 k (by decide) (by decide)) (fun k => e 43 k (by decide) (by decide)) (e 35 14 (by decide) (by decide)), RMr_k h4 (fun k => e 36 k (by decide) (by decide)) (fun k => e 37 k (by decide) (by decide)) (e 35 1 (by decide) (by decide)) (e 35 2 (by decide) (by decide)) (e 35 3 (by decide) (by decide)), RMb_k h5 (fun k => e 39 k (by decide) (by decide)) (fun k => e 40 k (by decide) (by decide)) (fun k => e 41 k (by decide) (by decide)) (e 35 11 (by decide) (by decide)), RMc_k h6 (fun a k g1 g2 => e a k (by omega) (by omega)) (e 35 22 (by decide) (by decide)) (fun k g1 g2 => e 35 k (by decide) (by decide))⟩
