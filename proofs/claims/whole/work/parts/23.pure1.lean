/-! Pure facts of what terms tell -/
/-- a call that only appends parts -/
def apH {α : Type} (h : Int → Int → Int × List α) (k y : Int) (s : Int × List α) : Int × Int × List α := ((h k y).1, s.1, s.2 ++ (h k y).2)
/-- how many 'f' a term has -/
def nfc (cd : Int → Int) : Nat → Int → Nat
  | 0, _ => 0
  | n + 1, a => if cd a = 120 then nfc cd n (a + 1) else if cd a = 102 then 1 + nfc cd n (a + 2) else if cd a = 43 ∨ cd a = 45 ∨ cd a = 42 ∨ cd a = 60 then nfc cd n (a + 1) + nfc cd n (tend cd n (a + 1)) else if cd a = 63 then nfc cd n (a + 1) + (nfc cd n (tend cd n (a + 1)) + nfc cd n (tend cd n (tend cd n (a + 1)))) else 0
section EVS
variable {σ : Type} {cd : Int → Int} {rd : Int → σ → Int × σ} {cl : Int → Int → σ → Int × σ} {x : Int} {n : Nat} {a : Int} {s : σ}
theorem ev_fig (h : 48 ≤ cd a ∧ cd a ≤ 57) : ev cd rd cl x (n + 1) a s = (cd a - 48, s) := by
  simp only [ev]; rw [if_neg (by omega), if_neg (by omega), if_neg (by omega), if_neg (by omega), if_neg (by omega)]
theorem ev_n (h : cd a = 110) : ev cd rd cl x (n + 1) a s = (x, s) := by
  simp only [ev]; rw [if_pos h]
theorem ev_x (h : cd a = 120) : ev cd rd cl x (n + 1) a s = rd (ev cd rd cl x n (a + 1) s).1 (ev cd rd cl x n (a + 1) s).2 := by
  simp only [ev]; rw [if_neg (by omega), if_pos h]
theorem ev_f (h : cd a = 102) : ev cd rd cl x (n + 1) a s = cl (cd (a + 1) - 48) (ev cd rd cl x n (a + 2) s).1 (ev cd rd cl x n (a + 2) s).2 := by
  simp only [ev]; rw [if_neg (by omega), if_neg (by omega), if_pos h]
theorem ev_b (h : cd a = 43 ∨ cd a = 45 ∨ cd a = 42 ∨ cd a = 60) : ev cd rd cl x (n + 1) a s = (opv (cd a) (ev cd rd cl x n (a + 1) s).1 (ev cd rd cl x n (tend cd n (a + 1)) (ev cd rd cl x n (a + 1) s).2).1, (ev cd rd cl x n (tend cd n (a + 1)) (ev cd rd cl x n (a + 1) s).2).2) := by
  simp only [ev]; rw [if_neg (by omega), if_neg (by omega), if_neg (by omega), if_pos h]
theorem ev_q (h : cd a = 63) : ev cd rd cl x (n + 1) a s = if (ev cd rd cl x n (a + 1) s).1 = 0 then ev cd rd cl x n (tend cd n (tend cd n (a + 1))) (ev cd rd cl x n (a + 1) s).2 else ev cd rd cl x n (tend cd n (a + 1)) (ev cd rd cl x n (a + 1) s).2 := by
  simp only [ev]; rw [if_neg (by omega), if_neg (by omega), if_neg (by omega), if_neg (by omega), if_pos h]
end EVS
theorem Tm_succ {cd : Int → Int} {n : Nat} {a b : Int} (h : Tm cd (n + 1) a b) : (((48 ≤ cd a ∧ cd a ≤ 57) ∨ cd a = 110) ∧ b = a + 1) ∨ (cd a = 120 ∧ Tm cd n (a + 1) b) ∨ (cd a = 102 ∧ 48 ≤ cd (a + 1) ∧ cd (a + 1) ≤ 52 ∧ Tm cd n (a + 2) b) ∨ ((cd a = 43 ∨ cd a = 45 ∨ cd a = 42 ∨ cd a = 60) ∧ ∃ m, Tm cd n (a + 1) m ∧ Tm cd n m b) ∨ (cd a = 63 ∧ ∃ m1 m2, Tm cd n (a + 1) m1 ∧ Tm cd n m1 m2 ∧ Tm cd n m2 b) := h
/-- parts are appended -/
theorem ev_app {α : Type} (cd : Int → Int) (c : Int → Int) (h : Int → Int → Int × List α) (x : Int) : ∀ (n : Nat) (a : Int) (m : Int) (ps : List α), ev cd (rdc c) (apH h) x n a (m, ps) = ((ev cd (rdc c) (apH h) x n a (m, [])).1, (ev cd (rdc c) (apH h) x n a (m, [])).2.1, ps ++ (ev cd (rdc c) (apH h) x n a (m, [])).2.2) := by
  intro n
  induction n with
  | zero => intro a m ps; simp [ev]
  | succ n ih =>
    intro a m ps
    simp only [ev]
    split
    · simp
    split
    · rw [ih (a + 1) m ps]; simp [rdc]
    split
    · rw [ih (a + 2) m ps]; simp [apH]
    split
    · rw [ih (a + 1) m ps]
      generalize ev cd (rdc c) (apH h) x n (a + 1) (m, []) = r
      obtain ⟨v, m1, q1⟩ := r
      dsimp only
      rw [ih (tend cd n (a + 1)) m1 (ps ++ q1), ih (tend cd n (a + 1)) m1 q1]
      simp
    split
    · rw [ih (a + 1) m ps]
      generalize ev cd (rdc c) (apH h) x n (a + 1) (m, []) = r
      obtain ⟨v, m1, q1⟩ := r
      dsimp only
      split
      · rw [ih _ m1 (ps ++ q1), ih _ m1 q1]; simp
      · rw [ih _ m1 (ps ++ q1), ih _ m1 q1]; simp
    · simp
theorem opv_rng {c a b : Int} (ha : 0 ≤ a ∧ a ≤ 996) (hb : 0 ≤ b ∧ b ≤ 996) : 0 ≤ opv c a b ∧ opv c a b ≤ 996 := by
  unfold opv
  split
  · omega
  · split
    · omega
    · split
      · have := Int.emod_nonneg (a * b) (by decide : (997 : Int) ≠ 0)
        have := Int.emod_lt_of_pos (a * b) (by decide : (0 : Int) < 997)
        omega
      · split <;> omega
/-- what terms tell are numbers -/
theorem ev_rng {σ : Type} {cd : Int → Int} {rd : Int → σ → Int × σ} {cl : Int → Int → σ → Int × σ} {x : Int} (hx : 0 ≤ x ∧ x ≤ 996) (hr : ∀ v s, 0 ≤ v → 0 ≤ (rd v s).1 ∧ (rd v s).1 ≤ 996) (hc : ∀ k y s, 0 ≤ k → k ≤ 4 → 0 ≤ y → y ≤ 996 → 0 ≤ (cl k y s).1 ∧ (cl k y s).1 ≤ 996) : ∀ (n : Nat) (a b : Int) (s : σ), Tm cd n a b → 0 ≤ (ev cd rd cl x n a s).1 ∧ (ev cd rd cl x n a s).1 ≤ 996 := by
  intro n
  induction n with
  | zero => intro a b s h; exact h.elim
  | succ n ih =>
    intro a b s h
    rcases Tm_succ h with ⟨h0 | h0, -⟩ | ⟨h0, h1⟩ | ⟨h0, k0, k1, h1⟩ | ⟨h0, m, h1, h2⟩ | ⟨h0, m1, m2, h1, h2, h3⟩
    · rw [ev_fig h0]; show 0 ≤ cd a - 48 ∧ cd a - 48 ≤ 996; omega
    · rw [ev_n h0]; exact hx
    · rw [ev_x h0]; exact hr _ _ (ih _ _ _ h1).1
    · rw [ev_f h0]; have := ih (a + 2) b s h1; exact hc _ _ _ (by omega) (by omega) this.1 this.2
    · rw [ev_b h0]; rw [Tm_tend h1]; exact opv_rng (ih _ _ _ h1) (ih _ _ _ h2)
    · rw [ev_q h0, Tm_tend h1, Tm_tend h2]
      split
      · exact ih _ _ _ h3
      · exact ih _ _ _ h2
/-- not more parts than 'f' -/
theorem ev_len {α : Type} {cd : Int → Int} {c : Int → Int} {h : Int → Int → Int × List α} {x : Int} (hh : ∀ k y, (h k y).2.length ≤ 1) : ∀ (n : Nat) (a b m : Int), Tm cd n a b → (ev cd (rdc c) (apH h) x n a (m, [])).2.2.length ≤ nfc cd n a := by
  intro n
  induction n with
  | zero => intro a b m h; exact h.elim
  | succ n ih =>
    intro a b m hT
    rcases Tm_succ hT with ⟨h0 | h0, -⟩ | ⟨h0, h1⟩ | ⟨h0, -, -, h1⟩ | ⟨h0, m1, h1, h2⟩ | ⟨h0, m1, m2, h1, h2, h3⟩
    · rw [ev_fig h0]; simp
    · rw [ev_n h0]; simp
    · rw [ev_x h0]; simp only [nfc]; rw [if_pos h0]; exact ih _ _ _ h1
    · rw [ev_f h0]; simp only [nfc]; rw [if_neg (by omega), if_pos h0]
      have e := ih (a + 2) b m h1
      have e2 := hh (cd (a + 1) - 48) (ev cd (rdc c) (apH h) x n (a + 2) (m, [])).1
      simp only [apH, List.length_append]; omega
    · rw [ev_b h0]; simp only [nfc]; rw [if_neg (by omega), if_neg (by omega), if_pos h0, Tm_tend h1]
      have e := ih (a + 1) m1 m h1
      generalize ev cd (rdc c) (apH h) x n (a + 1) (m, []) = r at e ⊢
      obtain ⟨v, mm, q1⟩ := r
      dsimp only at e ⊢
      rw [ev_app]
      have e2 := ih m1 b mm h2
      simp only [List.length_append]; omega
    · have e0 : nfc cd (n + 1) a = nfc cd n (a + 1) + (nfc cd n m1 + nfc cd n m2) := by simp only [nfc]; rw [if_neg (by omega), if_neg (by omega), if_neg (by omega), if_pos h0, Tm_tend h1, Tm_tend h2]
      rw [ev_q h0, e0, Tm_tend h1, Tm_tend h2]
      have e := ih (a + 1) m1 m h1
      generalize ev cd (rdc c) (apH h) x n (a + 1) (m, []) = r at e ⊢
      obtain ⟨v, mm, q1⟩ := r
      dsimp only at e ⊢
      split
      · rw [ev_app]
        have e2 := ih m2 b mm h3
        simp only [List.length_append]; omega
      · rw [ev_app]
        have e2 := ih m1 m2 mm h2
        simp only [List.length_append]; omega
/-- what a called function tells, at level d, and the part that is made -/
def hnd (P : Pg) (c : Int → Int) : (d : Nat) → Int → Int → Int × List (Tr d)
  | 0, _, _ => (0, [])
  | d + 1, k, y => if k < P.2.2 then (nV (rt (d + 1) (fr P c d k y)), [fr P c d k y]) else (0, [])
theorem fr_eq (P : Pg) (c : Int → Int) (d : Nat) (f x : Int) : fr P c d f x = mkN d (0, f, x, (ev P.1 (rdc c) (apH (hnd P c d)) x 160 (P.2.1 f) (0, [])).1, (ev P.1 (rdc c) (apH (hnd P c d)) x 160 (P.2.1 f) (0, [])).2.1, 0, 0) (ev P.1 (rdc c) (apH (hnd P c d)) x 160 (P.2.1 f) (0, [])).2.2 := by
  cases d with
  | zero =>
    have e : (apH (hnd P c 0)) = (fun _ _ s => (0, s)) := by funext k y s; simp [apH, hnd]
    rw [e]; rfl
  | succ d =>
    have e : (apH (hnd P c (d + 1))) = (fun k y s => if k < P.2.2 then (nV (rt (d + 1) (fr P c d k y)), s.1, s.2 ++ [fr P c d k y]) else (0, s)) := by
      funext k y s
      simp only [apH, hnd]
      split <;> simp
    rw [e]; rfl
theorem hnd_len (P : Pg) (c : Int → Int) (d : Nat) (k y : Int) : (hnd P c d k y).2.length ≤ 1 := by
  cases d with
  | zero => simp [hnd]
  | succ d => simp only [hnd]; split <;> simp
/-- a program in order -/
def Pok (P : Pg) : Prop := 1 ≤ P.2.2 ∧ P.2.2 ≤ 5 ∧ ∀ f, 0 ≤ f → f < P.2.2 → 0 ≤ P.2.1 f ∧ ∃ b, Tm P.1 160 (P.2.1 f) b ∧ b ≤ 159 ∧ nfc P.1 160 (P.2.1 f) ≤ 3
def Cok (c : Int → Int) : Prop := ∀ k, 0 ≤ k → k < 8 → 0 ≤ c k ∧ c k ≤ 996
theorem rdc_rng {α : Type} {c : Int → Int} (hc : Cok c) (v : Int) (s : Int × α) : 0 ≤ (rdc c v s).1 ∧ (rdc c v s).1 ≤ 996 := hc _ (by omega) (by omega)
theorem fr_rng {P : Pg} (hP : Pok P) {c : Int → Int} (hc : Cok c) : ∀ (d : Nat) (f x : Int), 0 ≤ f → f < P.2.2 → 0 ≤ x → x ≤ 996 → 0 ≤ nV (rt (d + 1) (fr P c d f x)) ∧ nV (rt (d + 1) (fr P c d f x)) ≤ 996 := by
  have hh : ∀ (d : Nat) (f x : Int), (∀ k y (s : Int × List (Tr d)), 0 ≤ k → k ≤ 4 → 0 ≤ y → y ≤ 996 → 0 ≤ (apH (hnd P c d) k y s).1 ∧ (apH (hnd P c d) k y s).1 ≤ 996) → 0 ≤ f → f < P.2.2 → 0 ≤ x → x ≤ 996 → 0 ≤ nV (rt (d + 1) (fr P c d f x)) ∧ nV (rt (d + 1) (fr P c d f x)) ≤ 996 := by
    intro d f x h f0 f1 x0 x1
    rw [fr_eq]
    obtain ⟨-, b, hb, -⟩ := hP.2.2 f f0 f1
    exact ev_rng ⟨x0, x1⟩ (fun v s _ => rdc_rng hc v s) h 160 _ b _ hb
  intro d
  induction d with
  | zero => intro f x; exact hh 0 f x (fun k y s _ _ _ _ => by simp [apH, hnd])
  | succ d ih =>
    intro f x
    refine hh (d + 1) f x (fun k y s k0 k1 y0 y1 => ?_)
    simp only [apH, hnd]
    split
    · rename_i hk; exact ih k y k0 hk y0 y1
    · simp
theorem hnd_rng {P : Pg} (hP : Pok P) {c : Int → Int} (hc : Cok c) (d : Nat) (k y : Int) (k0 : 0 ≤ k) (y0 : 0 ≤ y) (y1 : y ≤ 996) : 0 ≤ (hnd P c d k y).1 ∧ (hnd P c d k y).1 ≤ 996 := by
  cases d with
  | zero => simp [hnd]
  | succ d =>
    simp only [hnd]
    split
    · rename_i hk; exact fr_rng hP hc d k y k0 hk y0 y1
    · simp
/-- sizes: at most three parts a call -/
def SS : Nat → Nat
  | 0 => 0
  | d + 1 => 1 + 3 * SS d
theorem sum_le {α : Type} {f : α → Nat} {B : Nat} : ∀ (l : List α), (∀ t ∈ l, f t ≤ B) → (l.map f).sum ≤ l.length * B := by
  intro l
  induction l with
  | nil => intro _; simp
  | cons t l ih =>
    intro h
    have h1 := h t List.mem_cons_self
    have h2 := ih (fun u hu => h u (List.mem_cons_of_mem _ hu))
    rw [List.map_cons, List.sum_cons, List.length_cons, Nat.add_mul]
    omega
/-- every part of what a term makes is a made call -/
theorem ev_parts {α : Type} {cd : Int → Int} {c : Int → Int} {h : Int → Int → Int × List α} {x : Int} {R : α → Prop} (hx : 0 ≤ x ∧ x ≤ 996) (hc : Cok c) (hr : ∀ k y, 0 ≤ k → k ≤ 4 → 0 ≤ y → y ≤ 996 → 0 ≤ (h k y).1 ∧ (h k y).1 ≤ 996) (hR : ∀ k y, 0 ≤ k → k ≤ 4 → 0 ≤ y → y ≤ 996 → ∀ t ∈ (h k y).2, R t) : ∀ (n : Nat) (a b m : Int), Tm cd n a b → ∀ t ∈ (ev cd (rdc c) (apH h) x n a (m, [])).2.2, R t := by
  have rg := ev_rng (cd := cd) (rd := rdc c (α := List α)) (cl := apH h) hx (fun v s _ => rdc_rng hc v s) (fun k y s k0 k1 y0 y1 => hr k y k0 k1 y0 y1)
  intro n
  induction n with
  | zero => intro a b m h; exact h.elim
  | succ n ih =>
    intro a b m hT
    rcases Tm_succ hT with ⟨h0 | h0, -⟩ | ⟨h0, h1⟩ | ⟨h0, k0, k1, h1⟩ | ⟨h0, m1, h1, h2⟩ | ⟨h0, m1, m2, h1, h2, h3⟩
    · rw [ev_fig h0]; intro t ht; cases ht
    · rw [ev_n h0]; intro t ht; cases ht
    · rw [ev_x h0]; exact ih _ _ _ h1
    · rw [ev_f h0]
      intro t ht
      have e := rg n (a + 2) b (m, []) h1
      simp only [apH] at ht
      rcases List.mem_append.mp ht with ht | ht
      · exact ih _ _ _ h1 t ht
      · exact hR _ _ (by omega) (by omega) e.1 e.2 t ht
    · rw [ev_b h0, Tm_tend h1]
      have e := ih (a + 1) m1 m h1
      generalize ev cd (rdc c) (apH h) x n (a + 1) (m, []) = r at e ⊢
      obtain ⟨v, mm, q1⟩ := r
      dsimp only at e ⊢
      rw [ev_app]
      intro t ht
      rcases List.mem_append.mp ht with ht | ht
      · exact e t ht
      · exact ih m1 b mm h2 t ht
    · rw [ev_q h0, Tm_tend h1, Tm_tend h2]
      have e := ih (a + 1) m1 m h1
      generalize ev cd (rdc c) (apH h) x n (a + 1) (m, []) = r at e ⊢
      obtain ⟨v, mm, q1⟩ := r
      dsimp only at e ⊢
      intro t ht
      split at ht
      · rw [ev_app] at ht
        rcases List.mem_append.mp ht with ht | ht
        · exact e t ht
        · exact ih m2 b mm h3 t ht
      · rw [ev_app] at ht
        rcases List.mem_append.mp ht with ht | ht
        · exact e t ht
        · exact ih m1 m2 mm h2 t ht
theorem fr_size {P : Pg} (hP : Pok P) {c : Int → Int} (hc : Cok c) : ∀ (d : Nat) (f x : Int), 0 ≤ f → f < P.2.2 → 0 ≤ x → x ≤ 996 → tsz (d + 1) (fr P c d f x) ≤ SS (d + 1) := by
  have hh : ∀ (d : Nat) (f x : Int), (∀ k y, 0 ≤ k → k ≤ 4 → 0 ≤ y → y ≤ 996 → ∀ t ∈ (hnd P c d k y).2, tsz d t ≤ SS d) → 0 ≤ f → f < P.2.2 → 0 ≤ x → x ≤ 996 → tsz (d + 1) (fr P c d f x) ≤ SS (d + 1) := by
    intro d f x h f0 f1 x0 x1
    rw [fr_eq]
    obtain ⟨-, b, hb, -, h3⟩ := hP.2.2 f f0 f1
    have e1 := ev_len (c := c) (x := x) (fun k y => hnd_len P c d k y) 160 _ b 0 hb
    have e2 := ev_parts (R := fun t => tsz d t ≤ SS d) ⟨x0, x1⟩ hc (fun k y k0 _ y0 y1 => hnd_rng hP hc d k y k0 y0 y1) h 160 _ b 0 hb
    have e3 := sum_le _ e2
    have e5 : ∀ (nd : Nd) (ps : List (Tr d)), tsz (d + 1) (mkN d nd ps) = 1 + (ps.map (tsz d)).sum := fun _ _ => rfl
    rw [e5]
    show _ ≤ 1 + 3 * SS d
    have e4 := Nat.mul_le_mul_right (SS d) (Nat.le_trans e1 h3)
    omega
  intro d
  induction d with
  | zero => intro f x; exact hh 0 f x (fun k y _ _ _ _ t ht => by simp [hnd] at ht)
  | succ d ih =>
    intro f x
    refine hh (d + 1) f x (fun k y k0 k1 y0 y1 t ht => ?_)
    simp only [hnd] at ht
    split at ht
    · rename_i hk; rw [List.mem_singleton.mp ht]; exact ih k y k0 hk y0 y1
    · cases ht
theorem hnd_size {P : Pg} (hP : Pok P) {c : Int → Int} (hc : Cok c) (d : Nat) (k y : Int) (k0 : 0 ≤ k) (y0 : 0 ≤ y) (y1 : y ≤ 996) : ∀ t ∈ (hnd P c d k y).2, tsz d t ≤ SS d := by
  cases d with
  | zero => intro t ht; simp [hnd] at ht
  | succ d =>
    intro t ht
    simp only [hnd] at ht
    split at ht
    · rename_i hk; rw [List.mem_singleton.mp ht]; exact fr_size hP hc d k y k0 hk y0 y1
    · cases ht
theorem flat_len : ∀ (d : Nat) (n : Int) (t : Tr d), (flat d n t).length = tsz d t := by
  intro d
  induction d with
  | zero => intro n t; exact t.elim
  | succ d ih =>
    intro n t
    simp only [flat, tsz, List.length_cons, List.length_flatMap]
    have : (List.map (fun a => (flat d (n + 1) a).length) t.2) = List.map (tsz d) t.2 := List.map_congr_left (fun a _ => ih (n + 1) a)
    rw [this]; omega
theorem flatL_len (d : Nat) (n : Int) (l : List (Tr d)) : (l.flatMap (flat d n)).length = tszL d l := by
  unfold tszL
  rw [List.length_flatMap]
  congr 1
  exact List.map_congr_left (fun a _ => flat_len d n a)
/-- the size of what a term makes -/
theorem ev_size {P : Pg} (hP : Pok P) {c : Int → Int} (hc : Cok c) (d : Nat) {x : Int} (hx : 0 ≤ x ∧ x ≤ 996) {n : Nat} {a b m : Int} (hT : Tm P.1 n a b) : tszL d (ev P.1 (rdc c) (apH (hnd P c d)) x n a (m, [])).2.2 ≤ nfc P.1 n a * SS d := by
  have e1 := ev_len (c := c) (x := x) (fun k y => hnd_len P c d k y) n a b m hT
  have e2 := ev_parts (R := fun t => tsz d t ≤ SS d) hx hc (fun k y k0 _ y0 y1 => hnd_rng hP hc d k y k0 y0 y1) (fun k y k0 _ y0 y1 => hnd_size hP hc d k y k0 y0 y1) n a b m hT
  exact Nat.le_trans (sum_le _ e2) (Nat.mul_le_mul_right _ e1)
