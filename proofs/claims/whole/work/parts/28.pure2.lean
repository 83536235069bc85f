/-! Trees laid flat: where parts begin and end; matching -/
theorem flat_nest : ∀ (d : Nat) (n : Int) (t : Tr d), ∀ e ∈ flat d n t, n ≤ e.2 := by
  intro d
  induction d with
  | zero => intro n t; exact t.elim
  | succ d ih =>
    intro n t e he
    rcases List.mem_cons.mp (show e ∈ (t.1, n) :: t.2.flatMap (flat d (n + 1)) from he) with rfl | h
    · exact Int.le_refl _
    · obtain ⟨p, -, hp⟩ := List.mem_flatMap.mp h
      have := ih (n + 1) p e hp
      omega
theorem tsz_pos : ∀ (d : Nat) (t : Tr d), 1 ≤ tsz d t := by
  intro d t
  cases d with
  | zero => exact t.elim
  | succ d => exact Nat.le_add_right _ _
/-- a row of trees, laid flat from k on, in a row of nests -/
def FOR (ne : Int → Int) (cnt k : Int) (d : Nat) (ns : Int) (l : List (Tr d)) : Prop := (∀ (i : Nat) (e : Nd × Int), (l.flatMap (flat d ns))[i]? = some e → ne (k + (i : Int)) = e.2) ∧ k + (tszL d l : Int) ≤ cnt ∧ (k + (tszL d l : Int) = cnt ∨ ne (k + (tszL d l : Int)) ≤ ns) ∧ 0 ≤ k
theorem tszL_cons (d : Nat) (t : Tr d) (l : List (Tr d)) : tszL d (t :: l) = tsz d t + tszL d l := by simp [tszL]
theorem flat_get {d : Nat} {ns : Int} (t : Tr d) (i : Nat) (hi : i < tsz d t) : ∃ e, (flat d ns t)[i]? = some e := ⟨_, List.getElem?_eq_getElem (by rw [flat_len]; exact hi)⟩
theorem flat_zero : ∀ (d : Nat) (ns : Int) (t : Tr d), (flat d ns t)[0]? = some (rt d t, ns) := by
  intro d ns t
  cases d with
  | zero => exact t.elim
  | succ d => rfl
theorem FOR_head {ne : Int → Int} {cnt k : Int} {d : Nat} {ns : Int} {t : Tr d} {l : List (Tr d)} (h : FOR ne cnt k d ns (t :: l)) : ne k = ns ∧ endp ne cnt k (k + (tsz d t : Int)) := by
  obtain ⟨h1, h2, h3, h4⟩ := h
  have hp := tsz_pos d t
  rw [tszL_cons] at h2 h3
  have hin : ∀ (i : Nat) (e : Nd × Int), (flat d ns t)[i]? = some e → ne (k + (i : Int)) = e.2 := by
    intro i e he
    refine h1 i e ?_
    rw [List.flatMap_cons, List.getElem?_append_left (List.getElem?_eq_some_iff.mp he).1]; exact he
  have hk : ne k = ns := by
    have := hin 0 _ (flat_zero d ns t)
    simpa using this
  refine ⟨hk, by omega, by omega, fun j j1 j2 => ?_, ?_⟩
  · obtain ⟨i, hi⟩ : ∃ i : Nat, j = k + (i : Int) := ⟨(j - k).toNat, by omega⟩
    subst hi
    obtain ⟨e, he⟩ := flat_get (ns := ns) t i (by omega)
    rw [hin i e he, hk]
    cases d with
    | zero => exact t.elim
    | succ d =>
      cases i with
      | zero => omega
      | succ i =>
        have he2 : (t.2.flatMap (flat d (ns + 1)))[i]? = some e := he
        obtain ⟨p, -, hp2⟩ := List.mem_flatMap.mp (List.mem_of_getElem? he2)
        have := flat_nest d (ns + 1) p e hp2
        omega
  · cases l with
    | nil =>
      have e0 : tszL d ([] : List (Tr d)) = 0 := rfl
      rw [e0] at h2 h3
      rw [hk]
      rcases h3 with h3 | h3
      · left; omega
      · right; rw [show k + ((tsz d t + 0 : Nat) : Int) = k + (tsz d t : Int) from by omega] at h3; exact h3
    | cons u l =>
      right
      have hu := tsz_pos d u
      have hz := h1 (tsz d t) (rt d u, ns) (by
        rw [List.flatMap_cons, List.getElem?_append_right (by rw [flat_len]; exact Nat.le_refl _), flat_len, Nat.sub_self, List.flatMap_cons, List.getElem?_append_left (by rw [flat_len]; omega)]
        exact flat_zero d ns u)
      rw [hz, hk]; exact Int.le_refl _
theorem FOR_tail {ne : Int → Int} {cnt k : Int} {d : Nat} {ns : Int} {t : Tr d} {l : List (Tr d)} (h : FOR ne cnt k d ns (t :: l)) : FOR ne cnt (k + (tsz d t : Int)) d ns l := by
  obtain ⟨h1, h2, h3, h4⟩ := h
  rw [tszL_cons] at h2 h3
  refine ⟨fun i e he => ?_, by omega, ?_, by omega⟩
  · have := h1 (tsz d t + i) e (by rw [List.flatMap_cons, List.getElem?_append_right (by rw [flat_len]; omega), flat_len, show tsz d t + i - tsz d t = i from by omega]; exact he)
    rw [show k + (tsz d t : Int) + (i : Int) = k + ((tsz d t + i : Nat) : Int) from by omega]; exact this
  · rw [show k + (tsz d t : Int) + (tszL d l : Int) = k + ((tsz d t + tszL d l : Nat) : Int) from by omega]; exact h3
theorem tsz_eq {d : Nat} (t : Tr (d + 1)) : tsz (d + 1) t = 1 + tszL d t.2 := rfl
theorem FOR_parts {ne : Int → Int} {cnt k : Int} {d : Nat} {ns : Int} {t : Tr (d + 1)} {l : List (Tr (d + 1))} (h : FOR ne cnt k (d + 1) ns (t :: l)) : FOR ne cnt (k + 1) d (ns + 1) t.2 := by
  obtain ⟨hk, e1, e2, e3, e4⟩ := FOR_head h
  obtain ⟨h1, h2, h3, h4⟩ := h
  rw [tszL_cons] at h2 h3
  have hz := tsz_eq t
  refine ⟨fun i e he => ?_, by omega, ?_, by omega⟩
  · have hlt := (List.getElem?_eq_some_iff.mp he).1
    rw [flatL_len] at hlt
    have := h1 (i + 1) e (by
      rw [List.flatMap_cons, List.getElem?_append_left (by rw [flat_len]; omega)]
      exact he)
    rw [show k + 1 + (i : Int) = k + ((i + 1 : Nat) : Int) from by omega]; exact this
  · rw [show k + 1 + (tszL d t.2 : Int) = k + (tsz (d + 1) t : Int) from by omega]
    rcases e4 with e4 | e4
    · exact Or.inl e4
    · right; omega
/-- counts of a matching: made ever, made, done anew -/
abbrev K3 : Type := Int × Int × Int
/-- do two rows of parts tell otherwise somewhere, as far as both go -/
def difL (d : Nat) : List (Tr d) → List (Tr d) → Bool
  | p :: ps, q :: qs => decide (nV (rt d p) ≠ nV (rt d q)) || difL d ps qs
  | _, _ => false
/-- the first of a function and argument: it and the rest -/
def fn1 {d : Nat} (f x : Int) : List (Tr d) → Option (Tr d × List (Tr d))
  | [] => none
  | t :: l => if nF (rt d t) = f ∧ nX (rt d t) = x then some (t, l) else fn1 f x l
def upL {d : Nat} (up : Option (Tr d) → Tr d → K3 → Tr d × K3) : List (Tr d) → List (Tr d) → K3 → List (Tr d) × K3
  | _, [], κ => ([], κ)
  | rem, t :: l, κ => (match fn1 (nF (rt d t)) (nX (rt d t)) rem with
    | some (o, rem') => ((up (some o) t κ).1 :: (upL up rem' l (up (some o) t κ).2).1, (upL up rem' l (up (some o) t κ).2).2)
    | none => ((up none t κ).1 :: (upL up rem l (up none t κ).2).1, (upL up rem l (up none t κ).2).2))
def anewB (h c : Int → Int) (d : Nat) (o t : Tr (d + 1)) : Bool := isOldN h c (nM o.1) || difL d o.2 t.2
/-- the new tree t, given to the old one -/
def upT (h c : Int → Int) : (d : Nat) → Option (Tr d) → Tr d → K3 → Tr d × K3
  | 0, _, t, _ => t.elim
  | d + 1, none, t, κ => (mkN d (0, nF t.1, nX t.1, nV t.1, nM t.1, κ.1, 1) (upL (upT h c d) [] t.2 (κ.1 + 1, κ.2.1 + 1, κ.2.2)).1, (upL (upT h c d) [] t.2 (κ.1 + 1, κ.2.1 + 1, κ.2.2)).2)
  | d + 1, some o, t, κ => (mkN d (0, nF t.1, nX t.1, nV t.1, nM t.1, nN o.1, nD o.1 + (if anewB h c d o t = true then 1 else 0)) (upL (upT h c d) o.2 t.2 (κ.1, κ.2.1, κ.2.2 + (if anewB h c d o t = true then 1 else 0))).1, (upL (upT h c d) o.2 t.2 (κ.1, κ.2.1, κ.2.2 + (if anewB h c d o t = true then 1 else 0))).2)
