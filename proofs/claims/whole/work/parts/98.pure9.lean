/-! PURE: names of calls are distinct, and stay small -/
def nds : (d : Nat) → Tr d → List Nd
  | 0, t => t.elim
  | d + 1, t => t.1 :: t.2.flatMap (nds d)
def nms (d : Nat) (t : Tr d) : List Int := (nds d t).map nN
def ond (d : Nat) : Option (Tr d) → List Nd
  | none => []
  | some t => nds d t
def onm (d : Nat) (o : Option (Tr d)) : List Int := (ond d o).map nN
theorem flat_nds : ∀ (d : Nat) (n : Int) (t : Tr d), (flat d n t).map Prod.fst = nds d t := by
  intro d
  induction d with
  | zero => intro n t; exact t.elim
  | succ d ih =>
    intro n t
    simp only [flat, nds, List.map_cons, List.map_flatMap]
    congr 1
    have : (fun a => List.map Prod.fst (flat d (n + 1) a)) = nds d := funext (fun a => ih (n + 1) a)
    rw [this]
theorem inf_nds (d : Nat) (ns k mb : Int) (t : Tr d) : (inf d ns k mb t).map (fun e => e.1) = nds d t := by
  rw [← flat_nds d ns t, ← inf_flat d ns k mb t, List.map_map]
  rfl
theorem fn1_split {d : Nat} {f x : Int} : ∀ {l : List (Tr d)} {o : Tr d} {r : List (Tr d)}, fn1 f x l = some (o, r) → ∃ p, l = p ++ o :: r := by
  intro l
  induction l with
  | nil => intro o r h; cases h
  | cons t l ih =>
    intro o r h
    simp only [fn1] at h
    split at h
    · cases h; exact ⟨[], rfl⟩
    · obtain ⟨p, hp⟩ := ih h; exact ⟨t :: p, by rw [hp]; rfl⟩
theorem upL_nm (h c : Int → Int) {d : Nat} (ih : ∀ (o : Option (Tr d)) (t : Tr d) (κ : K3), (onm d o).Nodup → (∀ x ∈ onm d o, x < κ.1) → (nms d (upT h c d o t κ).1).Nodup ∧ ∀ x ∈ nms d (upT h c d o t κ).1, x ∈ onm d o ∨ (κ.1 ≤ x ∧ x < (upT h c d o t κ).2.1)) : ∀ (l rem : List (Tr d)) (κ : K3), (rem.flatMap (nms d)).Nodup → (∀ x ∈ rem.flatMap (nms d), x < κ.1) → κ.1 ≤ (upL (upT h c d) rem l κ).2.1 ∧ ((upL (upT h c d) rem l κ).1.flatMap (nms d)).Nodup ∧ ∀ x ∈ (upL (upT h c d) rem l κ).1.flatMap (nms d), x ∈ rem.flatMap (nms d) ∨ (κ.1 ≤ x ∧ x < (upL (upT h c d) rem l κ).2.1) := by
  intro l
  induction l with
  | nil => intro rem κ _ _; exact ⟨Int.le_refl _, List.nodup_nil, fun x hx => by cases hx⟩
  | cons t l il =>
    intro rem κ hn hl
    cases hf : fn1 (nF (rt d t)) (nX (rt d t)) rem with
    | none =>
      have e : upL (upT h c d) rem (t :: l) κ = ((upT h c d none t κ).1 :: (upL (upT h c d) rem l (upT h c d none t κ).2).1, (upL (upT h c d) rem l (upT h c d none t κ).2).2) := by rw [upL, hf]
      rw [e]
      have hc := upT_cnt h c d none t κ
      obtain ⟨i1, i2⟩ := ih none t κ List.nodup_nil (fun x hx => by cases hx)
      obtain ⟨j0, j1, j2⟩ := il rem (upT h c d none t κ).2 hn (fun x hx => by have := hl x hx; omega)
      refine ⟨by dsimp only; omega, ?_, fun x hx => ?_⟩
      · rw [List.flatMap_cons, List.nodup_append]
        refine ⟨i1, j1, fun x hx y hy e => ?_⟩
        subst e
        rcases i2 x hx with q | q
        · cases q
        · rcases j2 x hy with q2 | q2
          · have := hl x q2; omega
          · omega
      · rw [List.flatMap_cons] at hx
        dsimp only
        rcases List.mem_append.mp hx with hx | hx
        · rcases i2 x hx with q | q
          · cases q
          · exact Or.inr ⟨q.1, by omega⟩
        · rcases j2 x hx with q | q
          · exact Or.inl q
          · exact Or.inr ⟨by omega, q.2⟩
    | some q =>
      obtain ⟨o, r⟩ := q
      have e : upL (upT h c d) rem (t :: l) κ = ((upT h c d (some o) t κ).1 :: (upL (upT h c d) r l (upT h c d (some o) t κ).2).1, (upL (upT h c d) r l (upT h c d (some o) t κ).2).2) := by rw [upL, hf]
      rw [e]
      obtain ⟨p, hp⟩ := fn1_split hf
      subst hp
      have e3 : (p ++ o :: r).flatMap (nms d) = p.flatMap (nms d) ++ (nms d o ++ r.flatMap (nms d)) := by rw [List.flatMap_append, List.flatMap_cons]
      rw [e3] at hn hl
      have hn2 := (List.nodup_append.mp hn).2.1
      have hn3 := List.nodup_append.mp hn2
      have lo : ∀ x ∈ nms d o, x < κ.1 := fun x hx => hl x (List.mem_append_right _ (List.mem_append_left _ hx))
      have lr : ∀ x ∈ r.flatMap (nms d), x < κ.1 := fun x hx => hl x (List.mem_append_right _ (List.mem_append_right _ hx))
      have hc := upT_cnt h c d (some o) t κ
      obtain ⟨i1, i2⟩ := ih (some o) t κ hn3.1 lo
      obtain ⟨j0, j1, j2⟩ := il r (upT h c d (some o) t κ).2 hn3.2.1 (fun x hx => by have := lr x hx; omega)
      refine ⟨by dsimp only; omega, ?_, fun x hx => ?_⟩
      · rw [List.flatMap_cons, List.nodup_append]
        refine ⟨i1, j1, fun x hx y hy e => ?_⟩
        subst e
        rcases i2 x hx with q | q
        · rcases j2 x hy with q2 | q2
          · exact hn3.2.2 x q x q2 rfl
          · have := lo x q; omega
        · rcases j2 x hy with q2 | q2
          · have := lr x q2; omega
          · omega
      · rw [List.flatMap_cons] at hx
        rw [e3]
        dsimp only
        rcases List.mem_append.mp hx with hx | hx
        · rcases i2 x hx with q | q
          · exact Or.inl (List.mem_append_right _ (List.mem_append_left _ q))
          · exact Or.inr ⟨q.1, by omega⟩
        · rcases j2 x hx with q | q
          · exact Or.inl (List.mem_append_right _ (List.mem_append_right _ q))
          · exact Or.inr ⟨by omega, q.2⟩
theorem nms_succ (d : Nat) (t : Tr (d + 1)) : nms (d + 1) t = nN t.1 :: t.2.flatMap (nms d) := by
  unfold nms
  simp only [nds, List.map_cons, List.map_flatMap]
theorem upT_nm (h c : Int → Int) : ∀ (d : Nat) (o : Option (Tr d)) (t : Tr d) (κ : K3), (onm d o).Nodup → (∀ x ∈ onm d o, x < κ.1) → (nms d (upT h c d o t κ).1).Nodup ∧ ∀ x ∈ nms d (upT h c d o t κ).1, x ∈ onm d o ∨ (κ.1 ≤ x ∧ x < (upT h c d o t κ).2.1) := by
  intro d
  induction d with
  | zero => intro o t; exact t.elim
  | succ d ih =>
    intro o t κ hn hl
    cases o with
    | none =>
      obtain ⟨j0, j1, j2⟩ := upL_nm h c ih t.2 [] (κ.1 + 1, κ.2.1 + 1, κ.2.2) List.nodup_nil (fun x hx => by cases hx)
      have e : nms (d + 1) (upT h c (d + 1) none t κ).1 = κ.1 :: (upL (upT h c d) [] t.2 (κ.1 + 1, κ.2.1 + 1, κ.2.2)).1.flatMap (nms d) := by rw [nms_succ]; rfl
      have e2 : (upT h c (d + 1) none t κ).2.1 = (upL (upT h c d) [] t.2 (κ.1 + 1, κ.2.1 + 1, κ.2.2)).2.1 := rfl
      rw [e, e2]
      dsimp only at j0 j2
      refine ⟨List.nodup_cons.mpr ⟨fun hx => ?_, j1⟩, fun x hx => ?_⟩
      · rcases j2 _ hx with q | q
        · cases q
        · omega
      · rcases List.mem_cons.mp hx with q | q
        · exact Or.inr ⟨by omega, by omega⟩
        · rcases j2 x q with q | q
          · cases q
          · exact Or.inr ⟨by omega, q.2⟩
    | some o =>
      have hno : onm (d + 1) (some o) = nN o.1 :: o.2.flatMap (nms d) := nms_succ d o
      rw [hno] at hn hl ⊢
      have hn2 := List.nodup_cons.mp hn
      obtain ⟨j0, j1, j2⟩ := upL_nm h c ih t.2 o.2 (κ.1, κ.2.1, κ.2.2 + (if anewB h c d o t = true then 1 else 0)) hn2.2 (fun x hx => hl x (List.mem_cons_of_mem _ hx))
      have e : nms (d + 1) (upT h c (d + 1) (some o) t κ).1 = nN o.1 :: (upL (upT h c d) o.2 t.2 (κ.1, κ.2.1, κ.2.2 + (if anewB h c d o t = true then 1 else 0))).1.flatMap (nms d) := by rw [nms_succ]; rfl
      have e2 : (upT h c (d + 1) (some o) t κ).2.1 = (upL (upT h c d) o.2 t.2 (κ.1, κ.2.1, κ.2.2 + (if anewB h c d o t = true then 1 else 0))).2.1 := rfl
      rw [e, e2]
      dsimp only at j0 j2
      have h0 := hl (nN o.1) (List.mem_cons_self ..)
      refine ⟨List.nodup_cons.mpr ⟨fun hx => ?_, j1⟩, fun x hx => ?_⟩
      · rcases j2 _ hx with q | q
        · exact hn2.1 q
        · omega
      · rcases List.mem_cons.mp hx with q | q
        · rw [q]; exact Or.inl (List.mem_cons_self ..)
        · rcases j2 x q with q | q
          · exact Or.inl (List.mem_cons_of_mem _ q)
          · exact Or.inr q
theorem upL_nd (h c : Int → Int) {d : Nat} {B : Int} (ih : ∀ (o : Option (Tr d)) (t : Tr d) (κ : K3), (∀ e ∈ ond d o, 0 ≤ nD e ∧ nD e ≤ B) → ∀ e ∈ nds d (upT h c d o t κ).1, 0 ≤ nD e ∧ nD e ≤ B + 1) : ∀ (l rem : List (Tr d)) (κ : K3), (∀ e ∈ rem.flatMap (nds d), 0 ≤ nD e ∧ nD e ≤ B) → ∀ e ∈ (upL (upT h c d) rem l κ).1.flatMap (nds d), 0 ≤ nD e ∧ nD e ≤ B + 1 := by
  intro l
  induction l with
  | nil => intro rem κ _ e he; cases he
  | cons t l il =>
    intro rem κ hl e he
    cases hf : fn1 (nF (rt d t)) (nX (rt d t)) rem with
    | none =>
      have e1 : upL (upT h c d) rem (t :: l) κ = ((upT h c d none t κ).1 :: (upL (upT h c d) rem l (upT h c d none t κ).2).1, (upL (upT h c d) rem l (upT h c d none t κ).2).2) := by rw [upL, hf]
      rw [e1, List.flatMap_cons] at he
      rcases List.mem_append.mp he with he | he
      · exact ih none t κ (fun x hx => by cases hx) e he
      · exact il rem _ hl e he
    | some q =>
      obtain ⟨o, r⟩ := q
      have e1 : upL (upT h c d) rem (t :: l) κ = ((upT h c d (some o) t κ).1 :: (upL (upT h c d) r l (upT h c d (some o) t κ).2).1, (upL (upT h c d) r l (upT h c d (some o) t κ).2).2) := by rw [upL, hf]
      rw [e1, List.flatMap_cons] at he
      obtain ⟨p, hp⟩ := fn1_split hf
      subst hp
      rw [List.flatMap_append, List.flatMap_cons] at hl
      rcases List.mem_append.mp he with he | he
      · exact ih (some o) t κ (fun x hx => hl x (List.mem_append_right _ (List.mem_append_left _ hx))) e he
      · exact il r _ (fun x hx => hl x (List.mem_append_right _ (List.mem_append_right _ hx))) e he
theorem upT_nd (h c : Int → Int) {B : Int} (b0 : 0 ≤ B) : ∀ (d : Nat) (o : Option (Tr d)) (t : Tr d) (κ : K3), (∀ e ∈ ond d o, 0 ≤ nD e ∧ nD e ≤ B) → ∀ e ∈ nds d (upT h c d o t κ).1, 0 ≤ nD e ∧ nD e ≤ B + 1 := by
  intro d
  induction d with
  | zero => intro o t; exact t.elim
  | succ d ih =>
    intro o t κ hl e he
    cases o with
    | none =>
      rcases List.mem_cons.mp he with q | q
      · rw [q]; exact ⟨show (0 : Int) ≤ 1 by decide, show (1 : Int) ≤ B + 1 by omega⟩
      · exact upL_nd h c ih t.2 [] _ (fun x hx => by cases hx) e q
    | some o =>
      have h0 := hl o.1 (List.mem_cons_self ..)
      rcases List.mem_cons.mp he with q | q
      · rw [q]
        refine ⟨show 0 ≤ nD o.1 + (if anewB h c d o t = true then 1 else 0) from ?_, show nD o.1 + (if anewB h c d o t = true then 1 else 0) ≤ B + 1 from ?_⟩
        · split <;> omega
        · split <;> omega
      · exact upL_nd h c ih t.2 o.2 _ (fun x hx => hl x (List.mem_cons_of_mem _ hx)) e q
