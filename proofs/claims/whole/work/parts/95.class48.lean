/-! THE CLASS: made; rows made one after another -/
def CI (G0 G : Hp) (n w : Nat) (ts : List (Nat × Nat × Int)) (rs : List (Nat × Int × Nat)) : Prop := sz G = n ∧ sl G = sl G0 + w ∧ (∀ e ∈ ts, tg G e.1 = e.2.1 ∧ ln G e.1 = e.2.2) ∧ (∀ e ∈ rs, rv G e.1 e.2.1 = some e.2.2) ∧ (∀ (a : Nat) (k : Int), 1 ≤ a → ¬ (a = 1 ∧ k = 2) → iv G a k = 0) ∧ (∀ (a : Nat) (k : Int), 1 ≤ a → (∀ e ∈ rs, ¬ (e.1 = a ∧ e.2.1 = k)) → rv G a k = none) ∧ Sm (fun a => a = 0) G0 G ∧ ∀ e ∈ ts, e.1 ≤ n
theorem CI_new {G0 G : Hp} {n w : Nat} {ts : List (Nat × Nat × Int)} {rs : List (Nat × Int × Nat)} (h : CI G0 G n w ts rs) (hr : ∀ e ∈ rs, e.1 ≤ n) (t : Nat) (L : Int) (z : Nat) : CI G0 (nw G t L z) (n + 1) (w + z) (ts ++ [(n + 1, t, L)]) rs := by
  obtain ⟨h1, h2, h3, h4, h5, h6, h7, h8⟩ := h
  refine ⟨by show sz G + 1 = n + 1; rw [h1], by show sl G + z = _; rw [h2]; omega, fun e he => ?_, fun e he => ?_, fun a k ha hk => ?_, fun a k ha hk => ?_, fun a ha => ?_, fun e he => ?_⟩
  · rw [tg_nw, ln_nw, h1]
    rcases List.mem_append.mp he with he | he
    · have := h8 e he
      rw [if_neg (by omega), if_neg (by omega)]; exact h3 e he
    · rw [List.mem_singleton.mp he]; exact ⟨if_pos rfl, if_pos rfl⟩
  · have := hr e he
    rw [rv_nw, if_neg (by omega)]; exact h4 e he
  · rw [iv_nw]; split
    · rfl
    · exact h5 a k ha hk
  · rw [rv_nw]; split
    · rfl
    · exact h6 a k ha hk
  · subst ha
    have := h7 0 rfl
    rw [tg_nw, ln_nw, if_neg (by omega), if_neg (by omega)]
    exact ⟨this.1, this.2.1, fun k => by rw [iv_nw, if_neg (by omega)]; exact this.2.2.1 k, fun k => by rw [rv_nw, if_neg (by omega)]; exact this.2.2.2 k⟩
  · rcases List.mem_append.mp he with he | he
    · have := h8 e he; omega
    · rw [List.mem_singleton.mp he]; exact Nat.le_refl _
theorem CI_put {G0 G : Hp} {n w : Nat} {ts : List (Nat × Nat × Int)} {rs : List (Nat × Int × Nat)} (h : CI G0 G n w ts rs) (a : Nat) (k : Int) (b : Nat) (ha : 1 ≤ a) (hk : ∀ e ∈ rs, ¬ (e.1 = a ∧ e.2.1 = k)) : CI G0 (sr G a k (some b)) n w ts (rs ++ [(a, k, b)]) := by
  obtain ⟨h1, h2, h3, h4, h5, h6, h7, h8⟩ := h
  refine ⟨h1, h2, h3, fun e he => ?_, h5, fun x j hx hj => ?_, fun x hx => ?_, h8⟩
  · rw [rv_sr]
    rcases List.mem_append.mp he with he | he
    · rw [if_neg (hk e he)]; exact h4 e he
    · rw [List.mem_singleton.mp he]; exact if_pos ⟨rfl, rfl⟩
  · rw [rv_sr, if_neg (fun z => hj (a, k, b) (List.mem_append_right _ (List.mem_singleton.mpr rfl)) ⟨z.1.symm, z.2.symm⟩)]
    exact h6 x j hx (fun e he => hj e (List.mem_append_left _ he))
  · subst hx
    have := h7 0 rfl
    exact ⟨this.1, this.2.1, this.2.2.1, fun j => by rw [rv_sr, if_neg (by omega)]; exact this.2.2.2 j⟩
theorem CI_flt {G0 G : Hp} {n w : Nat} {ts : List (Nat × Nat × Int)} {rs : List (Nat × Int × Nat)} (h : CI G0 G n w ts rs) (v : Int) : CI G0 (si G 1 2 v) n w ts rs := by
  obtain ⟨h1, h2, h3, h4, h5, h6, h7, h8⟩ := h
  refine ⟨h1, h2, h3, h4, fun a k ha hk => by rw [iv_si, if_neg hk]; exact h5 a k ha hk, h6, fun x hx => ?_, h8⟩
  subst hx
  have := h7 0 rfl
  exact ⟨this.1, this.2.1, fun j => by rw [iv_si, if_neg (by omega)]; exact this.2.2.1 j, this.2.2.2⟩
/-- the first program, as its steps -/
def PF (p : Int) (G : Hp) : Prop := iv G 11 4 = 1 ∧ iv G 11 3 ≤ 320 ∧ iv G 14 0 = p ∧ 0 ≤ p ∧ iv G 12 p = 0 ∧ iv G 13 p = 0 ∧ iv G 12 (p + 1) = 11 ∧ p + 1 < iv G 11 3
theorem PF_k {p : Int} {G G' : Hp} (h : PF p G) (he : ∀ (a : Nat) (k : Int), 11 ≤ a → a ≤ 14 → iv G' a k = iv G a k) : PF p G' := by
  unfold PF at *
  rw [he 11 4 (by omega) (by omega), he 11 3 (by omega) (by omega), he 14 0 (by omega) (by omega), he 12 p (by omega) (by omega), he 13 p (by omega) (by omega), he 12 (p + 1) (by omega) (by omega)]
  exact h
theorem PF_RdOk {p : Int} {G : Hp} (h : PF p G) : RdOk 11 P0 G := by
  obtain ⟨h1, h2, h3, h4, h5, h6, h7, h8⟩ := h
  refine ⟨h1, by decide, by decide, by omega, h2, fun f f0 f1 => ?_⟩
  have hf : f = 0 := by have : P0.2.2 = 1 := rfl; omega
  subst hf
  have hc : P0.1 0 = 48 := rfl
  have hb : P0.2.1 0 = 0 := rfl
  have hcd : ∀ m : Nat, cnI P0.1 102 m 0 ≤ 3 → True := fun _ _ => trivial
  refine ⟨by rw [hb]; exact Int.le_refl _, by show 0 ≤ iv G 14 0; omega, 1, p + 1, ?_, h7, h8, by decide, ?_⟩
  · rw [hb, show iv G (11 + 3) 0 = p from h3]
    exact Cq_fig (a := 0) (by rw [hc]; decide) h5 (by rw [hc]; exact h6)
  · rw [hb]; decide
/-- the text of the beginning -/
def tx0 : Int → Int := fun k => if k = 0 then 100 else if k = 1 then 48 else 59
theorem rd_tx0 : (rdL tx0 3 0 (0, 0, 0, 0, 0)).1 = 0 := by decide
theorem PF_of {G : Hp} (h : RdOk 11 (lcL tx0 3 0 0 0 (fun _ => 0) (fun _ => 0)) G) : ∃ p, PF p G := by
  obtain ⟨h1, h2, h3, h4, h5, h6⟩ := h
  have e1 : (lcL tx0 3 0 0 0 (fun _ => 0) (fun _ => 0)).2.2 = 1 := rfl
  have e2 : (lcL tx0 3 0 0 0 (fun _ => 0) (fun _ => 0)).2.1 0 = 1 := rfl
  have e3 : (lcL tx0 3 0 0 0 (fun _ => 0) (fun _ => 0)).1 1 = 48 := rfl
  obtain ⟨a1, a2, b, q, a3, a4, a5, a6, a7⟩ := h6 0 (by decide) (by rw [e1]; decide)
  rw [e2] at a3
  obtain ⟨n, -, hc⟩ := a3
  rw [e1] at h1
  cases n with
  | zero => exact hc.elim
  | succ n =>
    rcases hc with ⟨c1, c2, c3, c4, c5⟩ | ⟨c1, -⟩ | ⟨c1, -⟩ | ⟨c1, -⟩ | ⟨c1, -⟩ | ⟨c1, -⟩
    · refine ⟨iv G 14 0, h1, h5, rfl, a2, c3, ?_, ?_, ?_⟩
      · rw [e3] at c4; exact c4
      · rw [show iv G 14 0 + 1 = q from c5.symm]; exact a4
      · rw [show iv G 14 0 + 1 = q from c5.symm]; exact a5
    · rw [e3] at c1; omega
    · rw [e3] at c1; omega
    · rw [e3] at c1; omega
    · rw [e3] at c1; omega
    · rw [e3] at c1; omega
theorem fr_P0 : fr P0 c00 5 0 0 = mkN 5 (0, 0, 0, 0, 0, 0, 0) [] := by
  rw [fr_eq]
  have h : ev P0.1 (rdc c00) (apH (hnd P0 c00 5)) 0 160 (P0.2.1 0) (0, []) = (0, 0, []) := by
    rw [ev]
    have hc : P0.1 (P0.2.1 0) = 48 := rfl
    rw [hc, if_neg (by decide), if_neg (by decide), if_neg (by decide), if_neg (by decide), if_neg (by decide)]
    rfl
  rw [h]
theorem first_P0 : first P0 c00 = (mkN 5 (0, 0, 0, 0, 0, 0, 1) [], 1, 1, 0) := by
  unfold first
  rw [fr_P0]
  rfl
