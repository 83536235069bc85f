/-! Pure: two trees are alike -/
def alkL {d : Nat} (R : Tr d → Tr d → Prop) : List (Tr d) → List (Tr d) → Prop
  | [], [] => True
  | p :: ps, q :: qs => R p q ∧ alkL R ps qs
  | _, _ => False
def alkT : (d : Nat) → Tr d → Tr d → Prop
  | 0, t, _ => t.elim
  | d + 1, t, u => nF t.1 = nF u.1 ∧ nX t.1 = nX u.1 ∧ nV t.1 = nV u.1 ∧ alkL (alkT d) t.2 u.2
theorem spl_uni {α : Type} {P : α → Prop} : ∀ (l1 l2 r1 r2 : List α), (∀ x ∈ l1, P x) → (∀ x ∈ l2, P x) → (∀ x r, r1 = x :: r → ¬ P x) → (∀ x r, r2 = x :: r → ¬ P x) → l1 ++ r1 = l2 ++ r2 → l1 = l2 ∧ r1 = r2 := by
  intro l1
  induction l1 with
  | nil =>
    intro l2 r1 r2 h1 h2 h3 h4 he
    cases l2 with
    | nil => exact ⟨rfl, he⟩
    | cons y l2 => exact absurd (h2 y (List.mem_cons_self ..)) (h3 y (l2 ++ r2) he)
  | cons x l1 ih =>
    intro l2 r1 r2 h1 h2 h3 h4 he
    cases l2 with
    | nil => exact absurd (h1 x (List.mem_cons_self ..)) (h4 x (l1 ++ r1) he.symm)
    | cons y l2 =>
      rw [List.cons_append, List.cons_append] at he
      injection he with e1 e2
      obtain ⟨f1, f2⟩ := ih l2 r1 r2 (fun z hz => h1 z (List.mem_cons_of_mem _ hz)) (fun z hz => h2 z (List.mem_cons_of_mem _ hz)) h3 h4 e2
      exact ⟨by rw [e1, f1], f2⟩
def fq4 (d : Nat) (n : Int) (t : Tr d) : List (Int × Int × Int × Int) := (flat d n t).map q4
def fq4L (d : Nat) (n : Int) (l : List (Tr d)) : List (Int × Int × Int × Int) := l.flatMap (fq4 d n)
theorem fq4_s (d : Nat) (n : Int) (t : Tr (d + 1)) : fq4 (d + 1) n t = (nF t.1, nX t.1, nV t.1, n) :: fq4L d (n + 1) t.2 := by
  show q4 (t.1, n) :: (t.2.flatMap (flat d (n + 1))).map q4 = _
  rw [List.map_flatMap]; rfl
theorem fq4L_c (d : Nat) (n : Int) (t : Tr d) (l : List (Tr d)) : fq4L d n (t :: l) = fq4 d n t ++ fq4L d n l := by simp [fq4L]
theorem fq4_ge (d : Nat) (n : Int) (t : Tr d) : ∀ x ∈ fq4 d n t, n ≤ x.2.2.2 := by
  intro x hx
  obtain ⟨e, he, rfl⟩ := List.mem_map.mp hx
  exact flat_nest d n t e he
theorem fq4L_ge (d : Nat) (n : Int) (l : List (Tr d)) : ∀ x ∈ fq4L d n l, n ≤ x.2.2.2 := by
  intro x hx
  obtain ⟨p, -, hp⟩ := List.mem_flatMap.mp hx
  exact fq4_ge d n p x hp
theorem fq4L_hd (d : Nat) (n : Int) (l : List (Tr d)) : ∀ x r, fq4L d n l = x :: r → ¬ (n + 1 ≤ x.2.2.2) := by
  intro x r h
  cases l with
  | nil => cases h
  | cons p l =>
    cases d with
    | zero => exact p.elim
    | succ d =>
      rw [fq4L_c, fq4_s, List.cons_append] at h
      injection h with h1 h2
      rw [← h1]; show ¬ (n + 1 ≤ n); omega
theorem alkL_iff {d : Nat} (n : Int) (ih : ∀ t u : Tr d, alkT d t u ↔ fq4 d n t = fq4 d n u) : ∀ (l m : List (Tr d)), alkL (alkT d) l m ↔ fq4L d n l = fq4L d n m := by
  intro l
  induction l with
  | nil =>
    intro m
    cases m with
    | nil => exact ⟨fun _ => rfl, fun _ => trivial⟩
    | cons q m =>
      refine ⟨fun h => h.elim, fun h => ?_⟩
      cases d with
      | zero => exact q.elim
      | succ d => rw [fq4L_c, fq4_s] at h; cases h
  | cons p l il =>
    intro m
    cases m with
    | nil =>
      refine ⟨fun h => h.elim, fun h => ?_⟩
      cases d with
      | zero => exact p.elim
      | succ d => rw [fq4L_c, fq4_s] at h; cases h
    | cons q m =>
      show alkT d p q ∧ alkL (alkT d) l m ↔ _
      rw [ih, il, fq4L_c, fq4L_c]
      refine ⟨fun h => by rw [h.1, h.2], fun h => ?_⟩
      cases d with
      | zero => exact p.elim
      | succ d =>
        rw [fq4_s, fq4_s, List.cons_append, List.cons_append] at h
        injection h with h1 h2
        obtain ⟨g1, g2⟩ := spl_uni (P := fun x : Int × Int × Int × Int => n + 1 ≤ x.2.2.2) _ _ _ _ (fq4L_ge d (n + 1) p.2) (fq4L_ge d (n + 1) q.2) (fq4L_hd (d + 1) n l) (fq4L_hd (d + 1) n m) h2
        exact ⟨by rw [fq4_s, fq4_s, h1, g1], g2⟩
theorem alkT_iff : ∀ (d : Nat) (n : Int) (t u : Tr d), alkT d t u ↔ fq4 d n t = fq4 d n u := by
  intro d
  induction d with
  | zero => intro n t; exact t.elim
  | succ d ih =>
    intro n t u
    show nF t.1 = nF u.1 ∧ nX t.1 = nX u.1 ∧ nV t.1 = nV u.1 ∧ alkL (alkT d) t.2 u.2 ↔ _
    rw [alkL_iff (n + 1) (ih (n + 1)), fq4_s, fq4_s]
    refine ⟨fun h => by rw [h.1, h.2.1, h.2.2.1, h.2.2.2], fun h => ?_⟩
    injection h with h1 h2
    simp only [Prod.mk.injEq] at h1
    exact ⟨h1.1, h1.2.1, h1.2.2.1, h2⟩
theorem alkB_iff (T N : Tr 6) : alkB T N = true ↔ alkT 6 T N := by
  rw [alkT_iff 6 1, alkB, decide_eq_true_eq]; rfl
