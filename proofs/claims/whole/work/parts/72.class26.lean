/-! THE CLASS: an image is kept -/
theorem FC_up {G G' : Hp} (h : FC G) (f1 : ∀ x, x ≤ 34 → tg G' x = tg G x ∧ ln G' x = ln G x) (f2 : ∀ x k, x ≤ 34 → x ≠ 27 → rv G' x k = rv G x k) : FC G' := by
  have q1 : ∀ e ∈ fcT, e.1 ≤ 34 := by decide
  have q2 : ∀ e ∈ fcR, e.1 ≤ 34 ∧ e.1 ≠ 27 := by decide
  exact ⟨fun e he => by rw [(f1 e.1 (q1 e he)).1, (f1 e.1 (q1 e he)).2]; exact h.1 e he, fun e he => by rw [f2 e.1 e.2.1 (q2 e he).1 (q2 e he).2]; exact h.2 e he⟩
theorem keep_ok {n : Int} {t : Tx} {P : Pg} {r : Rw} {b : Bk} {c : Tc} {G G' : Hp} (h : RC n (t, P, r, b, c) G) {i : Int} (hz : 0 ≤ i ∧ i ≤ 1) {a : Nat}
    (f1 : ∀ x, x ≤ sz G → tg G' x = tg G x ∧ ln G' x = ln G x)
    (f2 : ∀ x k, x ≤ sz G → (x ≠ 27 ∨ k ≠ i) → rv G' x k = rv G x k)
    (f3 : ∀ x k, x ≤ sz G → (x ≠ 19 ∨ k ≠ 4) → x ≠ a → x ≠ a + 1 → iv G' x k = iv G x k)
    (f4 : sz G ≤ sz G' ∧ sz G' ≤ sz G + 2 ∧ sl G' ≤ sl G + 12)
    (f5 : a = sz G + 1 ∨ (rv G 27 i = some a ∧ 63 ≤ a ∧ a + 1 ≤ sz G ∧ tg G a = 7 ∧ tg G (a + 1) = 20))
    (f6 : iv G' 19 4 = 0) (f7 : rv G' 27 i = some a) (f8 : ImAt G' a (r.1, r.2.2.2)) :
    RC (n + 1) (t, P, (r.1, [], (fun j => if j = i then some (r.1, r.2.2.2) else r.2.2.1 j), r.2.2.2), b, c) G' ∧ Sm isM G G' := by
  obtain ⟨hF, h2, ⟨pa, p1, p2, p3, p4, p5, p6⟩, ⟨k1, k2, k3, k4, k5, k6⟩, h5, ⟨T, fs, κ, c1, c2, c3, c4, c5, c6, c7, c8, c9, c10, c11, c12, c13, c14, c15, c16, c17, c18⟩⟩ := h
  dsimp only at k1 k2 k3 k4 k5 k6 h2 p6 h5 c1 c2 c9
  have a63 : 63 ≤ a := by omega
  have fi : ∀ (x : Nat) (k : Int), x ≤ 62 → (x ≠ 19 ∨ k ≠ 4) → iv G' x k = iv G x k := fun x k hx hk => f3 x k (by omega) hk (by omega) (by omega)
  have fr : ∀ (x : Nat) (k : Int), x ≤ 62 → (x ≠ 27 ∨ k ≠ i) → rv G' x k = rv G x k := fun x k hx hk => f2 x k (by omega) hk
  have hcell : ∀ x, CO G x → x + 1 ≤ sz G → x ≠ a ∧ x ≠ a + 1 ∧ x + 1 ≠ a := by
    intro x hx hx1
    rcases f5 with f5 | ⟨-, g1, g2, g3, g4⟩
    · exact ⟨by omega, by omega, by omega⟩
    · refine ⟨fun e => ?_, fun e => ?_, fun e => ?_⟩
      · subst e; have := hx.1; omega
      · subst e; have := hx.1; omega
      · subst e; have := hx.2.2.1; omega
  have hCO : ∀ x, CO G x → x + 1 ≤ sz G → (x = 33 ∨ 63 ≤ x) → CO G' x := fun x hx h1 h3 => ⟨((f1 x (by omega)).1).trans hx.1, (f2 x 7 (by omega) (by omega)).trans hx.2.1, ((f1 _ h1).1).trans hx.2.2.1, ((f1 _ h1).2).trans hx.2.2.2⟩
  refine ⟨⟨FC_up hF (fun x hx => f1 x (by omega)) (fun x k hx h27 => fr x k (by omega) (Or.inl h27)), RCt_k h2 (fun k => fi _ k (by omega) (by omega)) (fi _ _ (by omega) (by omega)) (fi _ _ (by omega) (by omega)), ⟨pa, p1, by rw [fr _ _ (by omega) (by omega)]; exact p2, by rw [fr _ _ (by omega) (by omega)]; exact p3, by rw [fr _ _ (by omega) (by omega)]; exact p4, by rw [fr _ _ (by omega) (by omega)]; exact p5, RdOk_k p6 (fun x k x0 x1 => fi x k (by omega) (by omega))⟩, ⟨fun k k0 k9 => (fi 16 k (by omega) (by omega)).trans (k1 k k0 k9), (fi _ _ (by omega) (by omega)).trans k2, (fi _ _ (by omega) (by omega)).trans k3, (fi _ _ (by omega) (by omega)).trans k4, ⟨by rw [fi 19 3 (by omega) (by omega)]; exact k5.1, by rw [fi 19 3 (by omega) (by omega)]; exact k5.2.1, f6, fun j q p hq _ => by cases hq⟩, ⟨?_, ?_⟩⟩, RCb_k h5 (fi _ _ (by omega) (by omega)) (fun k => fi _ k (by omega) (by omega)) (fun k => fi _ k (by omega) (by omega)) (fun k => fi _ k (by omega) (by omega)), ?_⟩, ?_⟩
  · intro j j0 j1
    by_cases hj : j = i
    · dsimp only; rw [if_pos hj]; dsimp only; exact ⟨a, by rw [hj]; exact f7, f8⟩
    · dsimp only; rw [if_neg hj]
      have hk := k6.1 j j0 j1
      cases hq : r.2.2.1 j with
      | none => rw [hq] at hk; dsimp only at hk ⊢; rw [fr 27 j (by omega) (by omega)]; exact hk
      | some q =>
        rw [hq] at hk
        obtain ⟨a', e1, g1, g2, g3, g4, g5, g6, g7, g8, g9, g10⟩ := hk
        have hne : a' ≠ a := by
          rcases f5 with f5 | ⟨f5, -⟩
          · omega
          · intro e
            subst e
            have hij : (i = 0 ∧ j = 1) ∨ (i = 1 ∧ j = 0) := by omega
            rcases hij with ⟨rfl, rfl⟩ | ⟨rfl, rfl⟩
            · exact k6.2 a' f5 e1
            · exact k6.2 a' e1 f5
        have hn2 : a' ≠ a + 1 ∧ a' + 1 ≠ a := by
          rcases f5 with f5 | ⟨-, q1, q2, q3, q4⟩
          · exact ⟨by omega, by omega⟩
          · exact ⟨fun e => by subst e; omega, fun e => by subst e; omega⟩
        exact ⟨a', by rw [fr 27 j (by omega) (by omega)]; exact e1, g1, by omega, (f1 a' (by omega)).1.trans g3, (f2 a' 0 (by omega) (by omega)).trans g4, (f1 _ g2).1.trans g5, (f1 _ g2).2.trans g6, (f3 a' 1 (by omega) (by omega) hne hn2.1).trans g7, (f3 a' 2 (by omega) (by omega) hne hn2.1).trans g8, (f3 a' 3 (by omega) (by omega) hne hn2.1).trans g9, fun k k0 k9 => (f3 (a' + 1) k g2 (by omega) hn2.2 (by omega)).trans (g10 k k0 k9)⟩
  · intro a' e1 e2
    have key : ∀ j, 0 ≤ j → j ≤ 1 → j ≠ i → rv G' 27 j ≠ some a := by
      intro j j0 j1 hj e
      rw [fr 27 j (by omega) (by omega)] at e
      have hk := k6.1 j j0 (by omega)
      cases hq : r.2.2.1 j with
      | none => rw [hq] at hk; dsimp only at hk; rw [hk] at e; cases e
      | some q =>
        rw [hq] at hk
        obtain ⟨a2, e3, g1, g2, -⟩ := hk
        rw [e3] at e
        cases e
        rcases f5 with f5 | ⟨f5, -⟩
        · omega
        · have hij : (i = 0 ∧ j = 1) ∨ (i = 1 ∧ j = 0) := by omega
          rcases hij with ⟨rfl, rfl⟩ | ⟨rfl, rfl⟩
          · exact k6.2 a f5 e3
          · exact k6.2 a e3 f5
    have hij : i = 0 ∨ i = 1 := by omega
    rcases hij with rfl | rfl
    · rw [f7] at e1; cases e1; exact key 1 (by decide) (by decide) (by decide) e2
    · rw [f7] at e2; cases e2; exact key 0 (by decide) (by decide) (by decide) e1
  · have e29 : ∀ k, iv G' 29 k = iv G 29 k := fun k => fi 29 k (by omega) (by omega)
    have e31 : ∀ k, iv G' 31 k = iv G 31 k := fun k => fi 31 k (by omega) (by omega)
    refine ⟨T, fs, κ, c1, ?_, by rw [fr _ _ (by omega) (by omega)]; exact c3, by rw [fi 17 2 (by omega) (by omega)]; exact c4, IA_kept _ _ c5 (fun j _ _ => fr 18 j (by omega) (by omega)) (fun e he => ?_), ?_, fun x hx => ⟨hCO x (c7 x hx).1 (c7 x hx).2.2 (c7 x hx).2.1, (c7 x hx).2.1, Nat.le_trans (c7 x hx).2.2 f4.1⟩, c8, ⟨by rw [e29]; exact c9.1, by rw [e29]; exact c9.2.1, by rw [e29]; exact c9.2.2.1, by rw [e29]; exact c9.2.2.2⟩, ⟨by rw [e31]; exact c10.1, by rw [e31]; exact c10.2.1, by rw [e31]; exact c10.2.2.1, by rw [e31]; exact c10.2.2.2⟩, by rw [e29]; exact c11, by rw [e31]; exact c12, by rw [e29]; omega, by rw [e31]; exact c14, by omega, by omega, by omega, by omega⟩
    · rw [e29]
      exact TA_same _ _ T c2 (fun x hx => by
        have ob := c7 x (List.mem_append_left _ hx)
        have hc := hcell x ob.1 ob.2.2
        exact ⟨hCO x ob.1 ob.2.2 ob.2.1, fun k => f3 x k (by omega) (by omega) hc.1 hc.2.1, fun k => f2 x k (by omega) (by omega), fun k => f3 (x + 1) k ob.2.2 (by omega) hc.2.2 (by omega)⟩)
    · have hm : nAd e.1 ∈ adL 6 T := by rw [← inf_adr 6 1 0 (-1) T]; exact List.mem_map.mpr ⟨e, he, rfl⟩
      have ob := c7 _ (List.mem_append_left _ hm)
      have hc := hcell _ ob.1 ob.2.2
      exact ⟨f3 _ 13 (by omega) (by omega) hc.1 hc.2.1, f3 _ 14 (by omega) (by omega) hc.1 hc.2.1⟩
    · rw [fr 28 0 (by omega) (by omega)]
      exact Chn_kept _ _ c6 (fun x hx => by
        have ob := c7 x (List.mem_append_right _ hx)
        exact f2 x 10 (by omega) (by omega))
  · intro x hx
    unfold isM at hx
    exact ⟨(f1 x (by omega)).1, (f1 x (by omega)).2, fun k => fi x k (by omega) (by omega), fun k => fr x k (by omega) (by omega)⟩
