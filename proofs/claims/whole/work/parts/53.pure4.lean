/-! Pure: bringing gives what making anew and matching gives -/
def k3 {d : Nat} (t : Tr d) : Int × Int × Int := (nF (rt d t), nX (rt d t), nV (rt d t))
/-- the first place where two rows of parts tell otherwise -/
def Dif {d : Nat} (l l' : List (Tr d)) : Prop := ∃ p o r p' q r', l = p ++ o :: r ∧ l' = p' ++ q :: r' ∧ p.map k3 = p'.map k3 ∧ nF (rt d o) = nF (rt d q) ∧ nX (rt d o) = nX (rt d q) ∧ nV (rt d o) ≠ nV (rt d q)
theorem Dif_app {d : Nat} {l l' r r' : List (Tr d)} (h : Dif l l') : Dif (l ++ r) (l' ++ r') := by
  obtain ⟨p, o, s, p', q, s', rfl, rfl, h3, h4⟩ := h
  exact ⟨p, o, s ++ r, p', q, s' ++ r', by simp, by simp, h3, h4⟩
theorem Dif_pre {d : Nat} {l l' r r' : List (Tr d)} (hl : l.map k3 = l'.map k3) (h : Dif r r') : Dif (l ++ r) (l' ++ r') := by
  obtain ⟨p, o, s, p', q, s', rfl, rfl, h3, h4⟩ := h
  exact ⟨l ++ p, o, s, l' ++ p', q, s', by simp, by simp, by rw [List.map_append, List.map_append, hl, h3], h4⟩
theorem ev_mask {α : Type} {cd : Int → Int} {c : Int → Int} (hc : Cok c) {H : Int → Int → Int × List α} (hH : ∀ k y, 0 ≤ k → k ≤ 4 → 0 ≤ y → y ≤ 996 → 0 ≤ (H k y).1 ∧ (H k y).1 ≤ 996) {x : Int} (hx : 0 ≤ x ∧ x ≤ 996) {n : Nat} {a b m : Int} {ps : List α} (hT : Tm cd n a b) (m0 : 0 ≤ m) (m1 : m ≤ 255) : (0 ≤ (ev cd (rdc c) (apH H) x n a (m, ps)).1 ∧ (ev cd (rdc c) (apH H) x n a (m, ps)).1 ≤ 996) ∧ (0 ≤ (ev cd (rdc c) (apH H) x n a (m, ps)).2.1 ∧ (ev cd (rdc c) (apH H) x n a (m, ps)).2.1 ≤ 255) ∧ ∀ i, 0 ≤ i → i < 8 → rb m i = 1 → rb (ev cd (rdc c) (apH H) x n a (m, ps)).2.1 i = 1 := by
  have := ev_inv (σ := Int × List α) (cd := cd) (rd := rdc c) (cl := apH H) (x := x) (I := fun s => (0 ≤ s.1 ∧ s.1 ≤ 255) ∧ ∀ i, 0 ≤ i → i < 8 → rb m i = 1 → rb s.1 i = 1) hx (fun v s v0 hs => ⟨rdc_rng hc v s, (mask_bor hs.1.1 hs.1.2 (i := v % 8) (j := 0) (by omega) (by omega) (by decide) (by decide)).2, fun i i0 i1 hi => by
    show rb (bor s.1 (bit (v % 8))) i = 1
    rw [(mask_bor hs.1.1 hs.1.2 (i := v % 8) (j := i) (by omega) (by omega) i0 i1).1]
    split
    · rfl
    · exact hs.2 i i0 i1 hi⟩) (fun k y s k0 k1 y0 y1 hs => ⟨hH k y k0 k1 y0 y1, hs⟩) n a b (m, ps) hT ⟨⟨m0, m1⟩, fun i _ _ hi => hi⟩
  exact this
/-- as far as what was read is the same, two goings-through are the same up to the first part that tells otherwise -/
theorem ev_fd {d : Nat} {cd h c : Int → Int} (hh : Cok h) (hc : Cok c) {H1 H2 : Int → Int → Int × List (Tr d)} (r1 : ∀ k y, 0 ≤ k → k ≤ 4 → 0 ≤ y → y ≤ 996 → 0 ≤ (H1 k y).1 ∧ (H1 k y).1 ≤ 996) (r2 : ∀ k y, 0 ≤ k → k ≤ 4 → 0 ≤ y → y ≤ 996 → 0 ≤ (H2 k y).1 ∧ (H2 k y).1 ≤ 996) (hH : ∀ k y, 0 ≤ k → k ≤ 4 → 0 ≤ y → y ≤ 996 → ((H1 k y).1 = (H2 k y).1 ∧ (H1 k y).2.map k3 = (H2 k y).2.map k3) ∨ Dif (H1 k y).2 (H2 k y).2) {x : Int} (hx : 0 ≤ x ∧ x ≤ 996) : ∀ (n : Nat) (a b m : Int), Tm cd n a b → 0 ≤ m → m ≤ 255 → (∀ i, 0 ≤ i → i < 8 → rb (ev cd (rdc h) (apH H1) x n a (m, [])).2.1 i = 1 → h i = c i) → ((ev cd (rdc h) (apH H1) x n a (m, [])).1 = (ev cd (rdc c) (apH H2) x n a (m, [])).1 ∧ (ev cd (rdc h) (apH H1) x n a (m, [])).2.1 = (ev cd (rdc c) (apH H2) x n a (m, [])).2.1 ∧ (ev cd (rdc h) (apH H1) x n a (m, [])).2.2.map k3 = (ev cd (rdc c) (apH H2) x n a (m, [])).2.2.map k3) ∨ Dif (ev cd (rdc h) (apH H1) x n a (m, [])).2.2 (ev cd (rdc c) (apH H2) x n a (m, [])).2.2 := by
  intro n
  induction n with
  | zero => intro a b m hT; exact hT.elim
  | succ n ih =>
    intro a b m hT m0 m1 hm
    rcases Tm_succ hT with ⟨c1, -⟩ | ⟨c1, h1⟩ | ⟨c1, c2, c3, h1⟩ | ⟨c1, e, h1, h2⟩ | ⟨c1, e1, e2, h1, h2, h3⟩
    · rcases c1 with c1 | c1
      · rw [ev_fig c1, ev_fig c1]; exact Or.inl ⟨rfl, rfl, rfl⟩
      · rw [ev_n c1, ev_n c1]; exact Or.inl ⟨rfl, rfl, rfl⟩
    · rw [ev_x c1] at hm ⊢
      rw [ev_x c1]
      have k1 := ev_mask (ps := []) hh r1 hx h1 m0 m1
      have g := ih _ _ m h1 m0 m1 (fun i i0 i1 hi => hm i i0 i1 (by
        show rb (bor (ev cd (rdc h) (apH H1) x n (a + 1) (m, [])).2.1 (bit _)) i = 1
        rw [(mask_bor k1.2.1.1 k1.2.1.2 (by omega) (by omega) i0 i1).1]
        split
        · rfl
        · exact hi))
      rcases g with ⟨g1, g2, g3⟩ | g
      · left
        refine ⟨?_, ?_, g3⟩
        · show h (_ % 8) = c (_ % 8)
          rw [← g1]
          refine hm _ (by omega) (by omega) ?_
          show rb (bor (ev cd (rdc h) (apH H1) x n (a + 1) (m, [])).2.1 (bit _)) _ = 1
          rw [(mask_bor k1.2.1.1 k1.2.1.2 (by omega) (by omega) (by omega) (by omega)).1, if_pos rfl]
        · show bor _ (bit (_ % 8)) = bor _ (bit (_ % 8))
          rw [g1, g2]
      · exact Or.inr g
    · rw [ev_f c1] at hm ⊢
      rw [ev_f c1]
      have k1 := ev_mask (ps := []) hh r1 hx h1 m0 m1
      have g := ih _ _ m h1 m0 m1 hm
      rcases g with ⟨g1, g2, g3⟩ | g
      · rw [← g1]
        have u : ∀ (H : Int → Int → Int × List (Tr d)) k y (s : Int × List (Tr d)), apH H k y s = ((H k y).1, s.1, s.2 ++ (H k y).2) := fun _ _ _ _ => rfl
        rw [u, u]
        dsimp only
        rcases hH (cd (a + 1) - 48) (ev cd (rdc h) (apH H1) x n (a + 2) (m, [])).1 (by omega) (by omega) k1.1.1 k1.1.2 with q | q
        · exact Or.inl ⟨q.1, g2, by rw [List.map_append, List.map_append, g3, q.2]⟩
        · exact Or.inr (Dif_pre g3 q)
      · exact Or.inr (Dif_app g)
    · rw [ev_b c1, Tm_tend h1] at hm ⊢
      rw [ev_b c1, Tm_tend h1]
      have k1 := ev_mask (ps := []) hh r1 hx h1 m0 m1
      dsimp only at hm ⊢
      generalize hA : ev cd (rdc h) (apH H1) x n (a + 1) (m, []) = A at *
      have k2 := ev_mask (ps := A.2.2) hh r1 hx h2 k1.2.1.1 k1.2.1.2
      have g := ih _ _ m h1 m0 m1 (fun i i0 i1 hi => hm i i0 i1 (k2.2.2 i i0 i1 (by rw [hA] at hi; exact hi)))
      rw [hA] at g
      generalize hB : ev cd (rdc c) (apH H2) x n (a + 1) (m, []) = B at *
      have eA : ev cd (rdc h) (apH H1) x n e A.2 = ((ev cd (rdc h) (apH H1) x n e (A.2.1, [])).1, (ev cd (rdc h) (apH H1) x n e (A.2.1, [])).2.1, A.2.2 ++ (ev cd (rdc h) (apH H1) x n e (A.2.1, [])).2.2) := ev_app cd h H1 x n e A.2.1 A.2.2
      have eB : ev cd (rdc c) (apH H2) x n e B.2 = ((ev cd (rdc c) (apH H2) x n e (B.2.1, [])).1, (ev cd (rdc c) (apH H2) x n e (B.2.1, [])).2.1, B.2.2 ++ (ev cd (rdc c) (apH H2) x n e (B.2.1, [])).2.2) := ev_app cd c H2 x n e B.2.1 B.2.2
      rw [eA] at hm ⊢
      rw [eB]
      dsimp only at hm ⊢
      rcases g with ⟨g1, g2, g3⟩ | g
      · rw [← g2]
        have g' := ih _ _ A.2.1 h2 k1.2.1.1 k1.2.1.2 hm
        rcases g' with ⟨f1, f2, f3⟩ | g'
        · exact Or.inl ⟨by rw [g1, f1], f2, by rw [List.map_append, List.map_append, g3, f3]⟩
        · exact Or.inr (Dif_pre g3 g')
      · exact Or.inr (Dif_app g)
    · rw [ev_q c1, Tm_tend h1, Tm_tend h2] at hm ⊢
      rw [ev_q c1, Tm_tend h1, Tm_tend h2]
      have k1 := ev_mask (ps := []) hh r1 hx h1 m0 m1
      generalize hA : ev cd (rdc h) (apH H1) x n (a + 1) (m, []) = A at *
      generalize hB : ev cd (rdc c) (apH H2) x n (a + 1) (m, []) = B at *
      have key : ∀ e b, Tm cd n e b → (∀ i, 0 ≤ i → i < 8 → rb (ev cd (rdc h) (apH H1) x n e A.2).2.1 i = 1 → h i = c i) → (A.1 = B.1 ∧ A.2.1 = B.2.1 ∧ A.2.2.map k3 = B.2.2.map k3) → ((ev cd (rdc h) (apH H1) x n e A.2).1 = (ev cd (rdc c) (apH H2) x n e B.2).1 ∧ (ev cd (rdc h) (apH H1) x n e A.2).2.1 = (ev cd (rdc c) (apH H2) x n e B.2).2.1 ∧ (ev cd (rdc h) (apH H1) x n e A.2).2.2.map k3 = (ev cd (rdc c) (apH H2) x n e B.2).2.2.map k3) ∨ Dif (ev cd (rdc h) (apH H1) x n e A.2).2.2 (ev cd (rdc c) (apH H2) x n e B.2).2.2 := by
        intro e b he hme ⟨g1, g2, g3⟩
        have eA : ev cd (rdc h) (apH H1) x n e A.2 = ((ev cd (rdc h) (apH H1) x n e (A.2.1, [])).1, (ev cd (rdc h) (apH H1) x n e (A.2.1, [])).2.1, A.2.2 ++ (ev cd (rdc h) (apH H1) x n e (A.2.1, [])).2.2) := ev_app cd h H1 x n e A.2.1 A.2.2
        have eB : ev cd (rdc c) (apH H2) x n e B.2 = ((ev cd (rdc c) (apH H2) x n e (B.2.1, [])).1, (ev cd (rdc c) (apH H2) x n e (B.2.1, [])).2.1, B.2.2 ++ (ev cd (rdc c) (apH H2) x n e (B.2.1, [])).2.2) := ev_app cd c H2 x n e B.2.1 B.2.2
        rw [eA] at hme ⊢
        rw [eB]
        dsimp only at hme ⊢
        rw [← g2]
        rcases ih _ _ A.2.1 he k1.2.1.1 k1.2.1.2 hme with ⟨f1, f2, f3⟩ | g'
        · exact Or.inl ⟨f1, f2, by rw [List.map_append, List.map_append, g3, f3]⟩
        · exact Or.inr (Dif_pre g3 g')
      have mono : ∀ e b, Tm cd n e b → ∀ i, 0 ≤ i → i < 8 → rb A.2.1 i = 1 → rb (ev cd (rdc h) (apH H1) x n e A.2).2.1 i = 1 := fun e b he => (ev_mask (ps := A.2.2) hh r1 hx he k1.2.1.1 k1.2.1.2).2.2
      have dapp : Dif A.2.2 B.2.2 → ∀ e e', Dif (ev cd (rdc h) (apH H1) x n e A.2).2.2 (ev cd (rdc c) (apH H2) x n e' B.2).2.2 := fun g e e' => by
        have eA : ev cd (rdc h) (apH H1) x n e A.2 = ((ev cd (rdc h) (apH H1) x n e (A.2.1, [])).1, (ev cd (rdc h) (apH H1) x n e (A.2.1, [])).2.1, A.2.2 ++ (ev cd (rdc h) (apH H1) x n e (A.2.1, [])).2.2) := ev_app cd h H1 x n e A.2.1 A.2.2
        have eB : ev cd (rdc c) (apH H2) x n e' B.2 = ((ev cd (rdc c) (apH H2) x n e' (B.2.1, [])).1, (ev cd (rdc c) (apH H2) x n e' (B.2.1, [])).2.1, B.2.2 ++ (ev cd (rdc c) (apH H2) x n e' (B.2.1, [])).2.2) := ev_app cd c H2 x n e' B.2.1 B.2.2
        rw [eA, eB]; exact Dif_app g
      have ihA := ih _ _ m h1 m0 m1
      rw [hA, hB] at ihA
      by_cases hz : A.1 = 0
      · rw [if_pos hz] at hm ⊢
        rcases ihA (fun i i0 i1 hi => hm i i0 i1 (mono _ _ h3 i i0 i1 hi)) with g | g
        · rw [if_pos (g.1 ▸ hz)]; exact key _ _ h3 hm g
        · right
          split
          · exact dapp g _ _
          · exact dapp g _ _
      · rw [if_neg hz] at hm ⊢
        rcases ihA (fun i i0 i1 hi => hm i i0 i1 (mono _ _ h2 i i0 i1 hi)) with g | g
        · rw [if_neg (g.1 ▸ hz)]; exact key _ _ h2 hm g
        · right
          split
          · exact dapp g _ _
          · exact dapp g _ _
theorem fr_rt (P : Pg) (c : Int → Int) (d : Nat) (f x : Int) : nF (rt (d + 1) (fr P c d f x)) = f ∧ nX (rt (d + 1) (fr P c d f x)) = x := by rw [fr_eq]; exact ⟨rfl, rfl⟩
theorem hnd_fd {P : Pg} {h c : Int → Int} (d : Nat) (k y : Int) : ((hnd P h d k y).1 = (hnd P c d k y).1 ∧ (hnd P h d k y).2.map k3 = (hnd P c d k y).2.map k3) ∨ Dif (hnd P h d k y).2 (hnd P c d k y).2 := by
  cases d with
  | zero => exact Or.inl ⟨rfl, rfl⟩
  | succ d =>
    simp only [hnd]
    by_cases hk : k < P.2.2
    · rw [if_pos hk, if_pos hk]
      have e1 := fr_rt P h d k y
      have e2 := fr_rt P c d k y
      by_cases hv : nV (rt (d + 1) (fr P h d k y)) = nV (rt (d + 1) (fr P c d k y))
      · left; refine ⟨hv, ?_⟩
        simp only [List.map_cons, List.map_nil, k3]
        rw [e1.1, e1.2, e2.1, e2.2, hv]
      · right; exact ⟨[], _, [], [], _, [], rfl, rfl, rfl, by rw [e1.1, e2.1], by rw [e1.2, e2.2], hv⟩
    · rw [if_neg hk, if_neg hk]; exact Or.inl ⟨rfl, rfl⟩
/-- what is the same in two trees that would be made with other cells -/
theorem fr_fd {P : Pg} (hP : Pok P) {h c : Int → Int} (hh : Cok h) (hc : Cok c) (d : Nat) {f x : Int} (f0 : 0 ≤ f) (f1 : f < P.2.2) (x0 : 0 ≤ x) (x1 : x ≤ 996) (ho : ¬ isOldN h c (nM (fr P h d f x).1) = true) : (nV (fr P h d f x).1 = nV (fr P c d f x).1 ∧ nM (fr P h d f x).1 = nM (fr P c d f x).1 ∧ (fr P h d f x).2.map k3 = (fr P c d f x).2.map k3) ∨ Dif (fr P h d f x).2 (fr P c d f x).2 := by
  obtain ⟨-, b, hT, -⟩ := hP.2.2 f f0 f1
  rw [fr_eq] at ho ⊢
  rw [fr_eq P c]
  exact ev_fd hh hc (fun k y k0 _ y0 y1 => hnd_rng hP hh d k y k0 y0 y1) (fun k y k0 _ y0 y1 => hnd_rng hP hc d k y k0 y0 y1) (fun k y _ _ _ _ => hnd_fd d k y) ⟨x0, x1⟩ 160 (P.2.1 f) b 0 hT (by decide) (by decide) (fun i i0 i1 hi => by
    by_cases he : h i = c i
    · exact he
    · exact absurd (isOldN_iff.mpr ⟨i, i0, i1, hi, he⟩) ho)
