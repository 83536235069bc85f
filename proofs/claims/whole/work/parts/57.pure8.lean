/-! Pure: terms begun and not ended; the steps that they become -/
theorem Cp_mono {st vl cd : Int → Int} : ∀ {n : Nat} {a b p q : Int}, Cp st vl cd n a b p q → Cp st vl cd (n + 1) a b p q := by
  intro n
  induction n with
  | zero => intro a b p q h; exact h.elim
  | succ n ih =>
    intro a b p q h
    rcases h with h | h | ⟨c1, q1, h1, h2⟩ | ⟨c1, c2, c3, q1, h1, h2⟩ | ⟨c1, m, q1, q2, h1, h2, h3⟩ | ⟨c1, m1, m2, q1, q2, h1, h2, h3, h4, h5, h6, h7⟩
    · exact Or.inl h
    · exact Or.inr (Or.inl h)
    · exact Or.inr (Or.inr (Or.inl ⟨c1, q1, ih h1, h2⟩))
    · exact Or.inr (Or.inr (Or.inr (Or.inl ⟨c1, c2, c3, q1, ih h1, h2⟩)))
    · exact Or.inr (Or.inr (Or.inr (Or.inr (Or.inl ⟨c1, m, q1, q2, ih h1, ih h2, h3⟩))))
    · exact Or.inr (Or.inr (Or.inr (Or.inr (Or.inr ⟨c1, m1, m2, q1, q2, ih h1, h2, h3, ih h4, h5, h6, ih h7⟩))))
theorem Cp_le {st vl cd : Int → Int} {n m : Nat} (hn : n ≤ m) {a b p q : Int} (h : Cp st vl cd n a b p q) : Cp st vl cd m a b p q := by
  induction hn with
  | refl => exact h
  | step _ ih => exact Cp_mono ih
theorem Cp_congr {st vl cd st' vl' cd' : Int → Int} : ∀ {n : Nat} {a b p q : Int}, Cp st vl cd n a b p q → (∀ i, p ≤ i → i < q → st' i = st i ∧ vl' i = vl i) → (∀ i, a ≤ i → i < b → cd' i = cd i) → Cp st' vl' cd' n a b p q := by
  intro n
  induction n with
  | zero => intro a b p q h; exact h.elim
  | succ n ih =>
    intro a b p q h hs hc
    have hlt := Cp_lt h
    have ha := hc a (by omega) (by omega)
    rcases h with ⟨c1, h1, h2, h3, h4⟩ | ⟨c1, h1, h2, h3⟩ | ⟨c1, q1, h1, h2, h3⟩ | ⟨c1, c2, c3, q1, h1, h2, h3, h4⟩ | ⟨c1, m, q1, q2, h1, h2, h3, h4⟩ | ⟨c1, m1, m2, q1, q2, h1, h2, h3, h4, h5, h6, h7⟩
    · have := hs p (by omega) (by omega)
      exact Or.inl ⟨by rw [ha]; exact c1, h1, by rw [this.1]; exact h2, by rw [this.2, ha]; exact h3, h4⟩
    · have := hs p (by omega) (by omega)
      exact Or.inr (Or.inl ⟨by rw [ha]; exact c1, h1, by rw [this.1]; exact h2, h3⟩)
    · have l1 := Cp_lt h1
      have := hs q1 (by omega) (by omega)
      exact Or.inr (Or.inr (Or.inl ⟨by rw [ha]; exact c1, q1, ih h1 (fun i i0 i1 => hs i i0 (by omega)) (fun i i0 i1 => hc i (by omega) i1), by rw [this.1]; exact h2, h3⟩))
    · have l1 := Cp_lt h1
      have := hs q1 (by omega) (by omega)
      have ha1 := hc (a + 1) (by omega) (by omega)
      exact Or.inr (Or.inr (Or.inr (Or.inl ⟨by rw [ha]; exact c1, by rw [ha1]; exact c2, by rw [ha1]; exact c3, q1, ih h1 (fun i i0 i1 => hs i i0 (by omega)) (fun i i0 i1 => hc i (by omega) i1), by rw [this.1]; exact h2, by rw [this.2, ha1]; exact h3, h4⟩)))
    · have l1 := Cp_lt h1
      have l2 := Cp_lt h2
      have := hs q2 (by omega) (by omega)
      exact Or.inr (Or.inr (Or.inr (Or.inr (Or.inl ⟨by rw [ha]; exact c1, m, q1, q2, ih h1 (fun i i0 i1 => hs i i0 (by omega)) (fun i i0 i1 => hc i (by omega) (by omega)), ih h2 (fun i i0 i1 => hs i (by omega) (by omega)) (fun i i0 i1 => hc i (by omega) i1), by rw [this.1, ha]; exact h3, h4⟩))))
    · have l1 := Cp_lt h1
      have l2 := Cp_lt h4
      have l3 := Cp_lt h7
      have e1 := hs q1 (by omega) (by omega)
      have e2 := hs q2 (by omega) (by omega)
      exact Or.inr (Or.inr (Or.inr (Or.inr (Or.inr ⟨by rw [ha]; exact c1, m1, m2, q1, q2, ih h1 (fun i i0 i1 => hs i i0 (by omega)) (fun i i0 i1 => hc i (by omega) (by omega)), by rw [e1.1]; exact h2, by rw [e1.2]; exact h3, ih h4 (fun i i0 i1 => hs i (by omega) (by omega)) (fun i i0 i1 => hc i (by omega) (by omega)), by rw [e2.1]; exact h5, by rw [e2.2]; exact h6, ih h7 (fun i i0 i1 => hs i (by omega) i1) (fun i i0 i1 => hc i (by omega) i1)⟩))))
def Cq (st vl cd : Int → Int) (a b p q : Int) : Prop := ∃ n : Nat, (n : Int) ≤ b - a ∧ Cp st vl cd n a b p q
theorem Cq_lt {st vl cd : Int → Int} {a b p q : Int} (h : Cq st vl cd a b p q) : p < q ∧ a < b := Cp_lt h.choose_spec.2
theorem Cq_congr {st vl cd st' vl' cd' : Int → Int} {a b p q : Int} (h : Cq st vl cd a b p q) (hs : ∀ i, p ≤ i → i < q → st' i = st i ∧ vl' i = vl i) (hc : ∀ i, a ≤ i → i < b → cd' i = cd i) : Cq st' vl' cd' a b p q := by
  obtain ⟨n, h1, h2⟩ := h
  exact ⟨n, h1, Cp_congr h2 hs hc⟩
theorem Cq_160 {st vl cd : Int → Int} {a b p q : Int} (h : Cq st vl cd a b p q) (hb : b - a ≤ 160) : Cp st vl cd 160 a b p q := by
  obtain ⟨n, h1, h2⟩ := h
  exact Cp_le (by omega) h2
section CQ
variable {st vl cd : Int → Int} {a b p q m q1 q2 m1 m2 : Int}
theorem Cq_fig (h : 48 ≤ cd a ∧ cd a ≤ 57) (h1 : st p = 0) (h2 : vl p = cd a - 48) : Cq st vl cd a (a + 1) p (p + 1) := ⟨1, by omega, Or.inl ⟨h, rfl, h1, h2, rfl⟩⟩
theorem Cq_n (h : cd a = 110) (h1 : st p = 1) : Cq st vl cd a (a + 1) p (p + 1) := ⟨1, by omega, Or.inr (Or.inl ⟨h, rfl, h1, rfl⟩)⟩
theorem Cq_x (h : cd a = 120) (h1 : Cq st vl cd (a + 1) b p q) (h2 : st q = 2) : Cq st vl cd a b p (q + 1) := by
  obtain ⟨n, g1, g2⟩ := h1
  exact ⟨n + 1, by omega, Or.inr (Or.inr (Or.inl ⟨h, q, g2, h2, rfl⟩))⟩
theorem Cq_f (h : cd a = 102) (c1 : 48 ≤ cd (a + 1)) (c2 : cd (a + 1) ≤ 52) (h1 : Cq st vl cd (a + 2) b p q) (h2 : st q = 3) (h3 : vl q = cd (a + 1) - 48) : Cq st vl cd a b p (q + 1) := by
  obtain ⟨n, g1, g2⟩ := h1
  exact ⟨n + 1, by omega, Or.inr (Or.inr (Or.inr (Or.inl ⟨h, c1, c2, q, g2, h2, h3, rfl⟩)))⟩
theorem Cq_b (h : cd a = 43 ∨ cd a = 45 ∨ cd a = 42 ∨ cd a = 60) (h1 : Cq st vl cd (a + 1) m p q1) (h2 : Cq st vl cd m b q1 q) (h3 : st q = opc (cd a)) : Cq st vl cd a b p (q + 1) := by
  have l1 := Cq_lt h1
  have l2 := Cq_lt h2
  obtain ⟨n, g1, g2⟩ := h1
  obtain ⟨k, f1, f2⟩ := h2
  exact ⟨max n k + 1, by omega, Or.inr (Or.inr (Or.inr (Or.inr (Or.inl ⟨h, m, q1, q, Cp_le (by omega) g2, Cp_le (by omega) f2, h3, rfl⟩))))⟩
theorem Cq_q (h : cd a = 63) (h1 : Cq st vl cd (a + 1) m1 p q1) (s1 : st q1 = 9) (v1 : vl q1 = q2 + 1) (h2 : Cq st vl cd m1 m2 (q1 + 1) q2) (s2 : st q2 = 10) (v2 : vl q2 = q) (h3 : Cq st vl cd m2 b (q2 + 1) q) : Cq st vl cd a b p q := by
  have l1 := Cq_lt h1
  have l2 := Cq_lt h2
  have l3 := Cq_lt h3
  obtain ⟨n, g1, g2⟩ := h1
  obtain ⟨k, f1, f2⟩ := h2
  obtain ⟨j, e1, e2⟩ := h3
  exact ⟨max n (max k j) + 1, by omega, Or.inr (Or.inr (Or.inr (Or.inr (Or.inr ⟨h, m1, m2, q1, q2, Cp_le (by omega) g2, s1, v1, Cp_le (by omega) f2, s2, v2, Cp_le (by omega) e2⟩))))⟩
end CQ
/-- frames: the step, its value, the terms still wanted; the innermost first -/
abbrev Frs : Type := List (Int × Int × Int)
def Opn (st vl cd : Int → Int) (A0 P0 : Int) : Frs → Int → Int → Prop
  | [], a, p => a = A0 ∧ p = P0
  | (s, v, w) :: F, a, p => ∃ a0 p0, Opn st vl cd A0 P0 F a0 p0 ∧ a0 < a ∧ p0 ≤ p ∧ ((s = 2 ∧ w = 1 ∧ cd a0 = 120 ∧ a = a0 + 1 ∧ p = p0) ∨ (s = 3 ∧ w = 1 ∧ cd a0 = 102 ∧ 48 ≤ cd (a0 + 1) ∧ cd (a0 + 1) ≤ 52 ∧ v = cd (a0 + 1) - 48 ∧ a = a0 + 2 ∧ p = p0) ∨ ((cd a0 = 43 ∨ cd a0 = 45 ∨ cd a0 = 42 ∨ cd a0 = 60) ∧ s = opc (cd a0) ∧ ((w = 2 ∧ a = a0 + 1 ∧ p = p0) ∨ (w = 1 ∧ Cq st vl cd (a0 + 1) a p0 p))) ∨ (s = 8 ∧ cd a0 = 63 ∧ ((w = 3 ∧ a = a0 + 1 ∧ p = p0) ∨ (w = 2 ∧ ∃ q1, Cq st vl cd (a0 + 1) a p0 q1 ∧ st q1 = 9 ∧ v = q1 ∧ p = q1 + 1) ∨ (w = 1 ∧ ∃ m1 q1 q2, Cq st vl cd (a0 + 1) m1 p0 q1 ∧ st q1 = 9 ∧ vl q1 = q2 + 1 ∧ Cq st vl cd m1 a (q1 + 1) q2 ∧ st q2 = 10 ∧ v = q2 ∧ p = q2 + 1))))
theorem Opn_ge {st vl cd : Int → Int} {A0 P0 : Int} : ∀ (F : Frs) (a p : Int), Opn st vl cd A0 P0 F a p → A0 ≤ a ∧ P0 ≤ p := by
  intro F
  induction F with
  | nil => intro a p ⟨h1, h2⟩; omega
  | cons f F ih =>
    obtain ⟨s, v, w⟩ := f
    rintro a p ⟨a0, p0, h1, h2, h3, -⟩
    have := ih a0 p0 h1
    omega
theorem Opn_congr {st vl cd st' vl' cd' : Int → Int} {A0 P0 : Int} : ∀ (F : Frs) (a p : Int), Opn st vl cd A0 P0 F a p → (∀ i, i < p → st' i = st i ∧ vl' i = vl i) → (∀ i, i < a → cd' i = cd i) → Opn st' vl' cd' A0 P0 F a p := by
  intro F
  induction F with
  | nil => intro a p h _ _; exact h
  | cons f F ih =>
    obtain ⟨s, v, w⟩ := f
    intro a p ⟨a0, p0, h1, h2, h3, h4⟩ hs hc
    refine ⟨a0, p0, ih a0 p0 h1 (fun i hi => hs i (by omega)) (fun i hi => hc i (by omega)), h2, h3, ?_⟩
    rw [hc a0 h2]
    rcases h4 with h4 | ⟨c1, c2, c3, c4, c5, c6, c7, c8⟩ | ⟨c1, c2, c3⟩ | ⟨c1, c2, c3⟩
    · exact Or.inl h4
    · have := hc (a0 + 1) (by omega)
      exact Or.inr (Or.inl ⟨c1, c2, c3, by rw [this]; exact c4, by rw [this]; exact c5, by rw [this]; exact c6, c7, c8⟩)
    · refine Or.inr (Or.inr (Or.inl ⟨c1, c2, ?_⟩))
      rcases c3 with c3 | ⟨c3, c4⟩
      · exact Or.inl c3
      · exact Or.inr ⟨c3, Cq_congr c4 (fun i i0 i1 => hs i i1) (fun i i0 i1 => hc i i1)⟩
    · refine Or.inr (Or.inr (Or.inr ⟨c1, c2, ?_⟩))
      rcases c3 with c3 | ⟨c3, q1, c4, c5, c6, c7⟩ | ⟨c3, m1, q1, q2, c4, c5, c6, c7, c8, c9, c10⟩
      · exact Or.inl c3
      · exact Or.inr (Or.inl ⟨c3, q1, Cq_congr c4 (fun i i0 i1 => hs i (by omega)) (fun i i0 i1 => hc i i1), by rw [(hs q1 (by omega)).1]; exact c5, c6, c7⟩)
      · have l1 := Cq_lt c7
        exact Or.inr (Or.inr ⟨c3, m1, q1, q2, Cq_congr c4 (fun i i0 i1 => hs i (by omega)) (fun i i0 i1 => hc i (by omega)), by rw [(hs q1 (by omega)).1]; exact c5, by rw [(hs q1 (by omega)).2]; exact c6, Cq_congr c7 (fun i i0 i1 => hs i (by omega)) (fun i i0 i1 => hc i i1), by rw [(hs q2 (by omega)).1]; exact c8, c9, c10⟩)
/-- how many 'f' a term has, counted letter by letter -/
theorem nfc_cnt {cd : Int → Int} : ∀ {n : Nat} {a b : Int}, Tm cd n a b → (nfc cd n a : Int) = cnI cd 102 (b - a).toNat a := by
  intro n
  induction n with
  | zero => intro a b h; exact h.elim
  | succ n ih =>
    intro a b h
    have hlt := Tm_lt h
    have one : ∀ e, a + 1 ≤ e → cnI cd 102 (e - a).toNat a = (if cd a = 102 then 1 else 0) + cnI cd 102 (e - (a + 1)).toNat (a + 1) := fun e he => by
      rw [show (e - a).toNat = 1 + (e - (a + 1)).toNat from by omega, cnI_add]
      simp only [cnI]
      rw [show a + ((1 : Nat) : Int) = a + 1 from rfl]; omega
    have two : ∀ m e, a + 1 ≤ m → m ≤ e → cnI cd 102 (e - (a + 1)).toNat (a + 1) = cnI cd 102 (m - (a + 1)).toNat (a + 1) + cnI cd 102 (e - m).toNat m := fun m e h1 h2 => by
      rw [show (e - (a + 1)).toNat = (m - (a + 1)).toNat + (e - m).toNat from by omega, cnI_add, show a + 1 + (((m - (a + 1)).toNat : Nat) : Int) = m from by omega]
    simp only [nfc]
    rcases Tm_succ h with ⟨c1, h1⟩ | ⟨c1, h1⟩ | ⟨c1, c2, c3, h1⟩ | ⟨c1, m, h1, h2⟩ | ⟨c1, m1, m2, h1, h2, h3⟩
    · rw [if_neg (by omega), if_neg (by omega), if_neg (by omega), if_neg (by omega), one b (by omega), if_neg (by omega), h1, show a + 1 - (a + 1) = 0 from by omega]; rfl
    · rw [if_pos c1, ih h1, one b (by omega), if_neg (by omega)]; omega
    · have := Tm_lt h1
      rw [if_neg (by omega), if_pos c1, one b (by omega), if_pos c1, two (a + 2) b (by omega) (by omega), show (a + 2 - (a + 1)).toNat = 1 from by omega]
      have e1 : cnI cd 102 1 (a + 1) = 0 := by simp only [cnI]; rw [if_neg (by omega)]; rfl
      have := ih h1
      omega
    · have l1 := Tm_lt h1
      have l2 := Tm_lt h2
      rw [if_neg (by omega), if_neg (by omega), if_pos c1, Tm_tend h1, one b (by omega), if_neg (by omega), two m b (by omega) (by omega)]
      have := ih h1
      have := ih h2
      omega
    · have l1 := Tm_lt h1
      have l2 := Tm_lt h2
      have l3 := Tm_lt h3
      rw [if_neg (by omega), if_neg (by omega), if_neg (by omega), if_pos c1, Tm_tend h1, Tm_tend h2, one b (by omega), if_neg (by omega), two m1 b (by omega) (by omega)]
      have e2 : cnI cd 102 (b - m1).toNat m1 = cnI cd 102 (m2 - m1).toNat m1 + cnI cd 102 (b - m2).toNat m2 := by
        rw [show (b - m1).toNat = (m2 - m1).toNat + (b - m2).toNat from by omega, cnI_add, show m1 + (((m2 - m1).toNat : Nat) : Int) = m2 from by omega]
      have := ih h1
      have := ih h2
      have := ih h3
      omega
theorem cnI_congr {g g' : Int → Int} {v : Int} : ∀ (n : Nat) (a : Int), (∀ i, a ≤ i → i < a + (n : Int) → g' i = g i) → cnI g' v n a = cnI g v n a := by
  intro n
  induction n with
  | zero => intro a _; rfl
  | succ n ih =>
    intro a h
    simp only [cnI]
    rw [h a (by omega) (by omega), ih (a + 1) (fun i i0 i1 => h i (by omega) (by omega))]
