/-! SOUNDNESS, first part: what a step of the abstract machine says; memories stay well formed; locals -/
def vok (v : V) : Prop := match v with
  | .inl x => i32 x
  | .inr (.inl x) => i64 x
  | _ => True
theorem ldv_spec {ls : Ls} {k t q : Nat} {st : List V} {G : Hp} {o : Ot} (h : ldv ls k t q st G = some o) : ∃ v, ls[k]? = some (some v) ∧ o = .inl (q, ls, v :: st, G) ∧ ((t = 0 ∧ ∃ x, v = .inl x) ∨ (t = 1 ∧ ∃ x, v = .inr (.inl x)) ∨ (t = 2 ∧ ∃ r, v = .inr (.inr r))) := by
  unfold ldv at h
  split at h
  · rename_i v hv
    split at h
    · cases h; exact ⟨_, hv, rfl, Or.inl ⟨rfl, _, rfl⟩⟩
    · cases h; exact ⟨_, hv, rfl, Or.inr (Or.inl ⟨rfl, _, rfl⟩)⟩
    · cases h; exact ⟨_, hv, rfl, Or.inr (Or.inr ⟨rfl, _, rfl⟩)⟩
    · cases h
  · cases h
theorem stv_spec {ls : Ls} {k t q : Nat} {st : List V} {G : Hp} {o : Ot} (h : stv ls k t q st G = some o) : ∃ v st', st = v :: st' ∧ k < ls.length ∧ noL ls = true ∧ o = .inl (q, ls.set k (some v), st', G) ∧ ((t = 0 ∧ ∃ x, v = .inl x) ∨ (t = 2 ∧ ∃ r, v = .inr (.inr r))) := by
  unfold stv at h
  split at h
  · split at h
    · split at h
      · rename_i hc; cases h; exact ⟨_, _, rfl, hc.1, hc.2, rfl, Or.inl ⟨rfl, _, rfl⟩⟩
      · cases h
    · split at h
      · rename_i hc; cases h; exact ⟨_, _, rfl, hc.1, hc.2, rfl, Or.inr ⟨rfl, _, rfl⟩⟩
      · cases h
    · cases h
  · cases h
theorem bi2_spec {q : Nat} {ls : Ls} {st : List V} {G : Hp} {f : Int → Int → Option Int} {o : Ot} (h : bi2 q ls st G f = some o) : ∃ x y v st', st = .inl y :: .inl x :: st' ∧ f x y = some v ∧ o = .inl (q, ls, .inl v :: st', G) := by
  unfold bi2 at h
  split at h
  · split at h
    · rename_i hf; cases h; exact ⟨_, _, _, _, rfl, hf, rfl⟩
    · cases h
  · cases h
theorem bl2_spec {q : Nat} {ls : Ls} {st : List V} {G : Hp} {f : Int → Int → Option V} {o : Ot} (h : bl2 q ls st G f = some o) : ∃ x y v st', st = .inr (.inl y) :: .inr (.inl x) :: st' ∧ f x y = some v ∧ o = .inl (q, ls, v :: st', G) := by
  unfold bl2 at h
  split at h
  · split at h
    · rename_i hf; cases h; exact ⟨_, _, _, _, rfl, hf, rfl⟩
    · cases h
  · cases h
theorem gto_spec {pc : Nat} {off : Int} {ls : Ls} {st : List V} {G : Hp} {o : Ot} (h : gto pc off ls st G = some o) : ∃ t : Nat, (pc : Int) + off = (t : Int) ∧ o = .inl (t, ls, st, G) := by
  unfold gto at h
  split at h
  · rename_i hc; cases h; exact ⟨_, by omega, rfl⟩
  · cases h
/-- memories stay well formed -/
theorem gwf_si {L : Nat} {xs : Nat → Int32} {G : Hp} (h : gwf L xs G) {a : Nat} {k v : Int} (ha : a ≠ 0) (hv : i32 v) : gwf L xs (si G a k v) := by
  obtain ⟨h1, h2, h3, h4, h5, h6, h7⟩ := h
  refine ⟨h1, h2, h3, h4, fun j hj => ?_, fun b j => ?_, h7⟩
  · rw [iv_si, if_neg (fun h => ha h.1.symm)]; exact h5 j hj
  · rw [iv_si]; split
    · exact hv
    · exact h6 b j
theorem gwf_sr {L : Nat} {xs : Nat → Int32} {G : Hp} (h : gwf L xs G) {a : Nat} {k : Int} {r : Option Nat} : gwf L xs (sr G a k r) := h
theorem gwf_nw {L : Nat} {xs : Nat → Int32} {G : Hp} (h : gwf L xs G) {t w : Nat} {n : Int} (ht : t ≠ 30) (hn : 0 ≤ n ∧ n ≤ 100000) : gwf L xs (nw G t n w) := by
  obtain ⟨h1, h2, h3, h4, h5, h6, h7⟩ := h
  refine ⟨fun a ha => ?_, ?_, fun a ha => ?_, ?_, fun j hj => ?_, fun b j => ?_, fun a => ?_⟩
  · rw [sz_nw] at ha; rw [tg_nw, if_neg (by omega)]; exact h1 a (by omega)
  · rw [tg_nw, if_neg (by omega)]; exact h2
  · rw [tg_nw] at ha; split at ha
    · exact absurd ha ht
    · exact h3 a ha
  · rw [ln_nw, if_neg (by omega)]; exact h4
  · rw [iv_nw, if_neg (by omega)]; exact h5 j hj
  · rw [iv_nw]; split
    · exact i32_0
    · exact h6 b j
  · rw [ln_nw]; split
    · exact hn
    · exact h7 a
theorem gwf_cp {L : Nat} {xs : Nat → Int32} {G : Hp} (h : gwf L xs G) {a b : Nat} {sp dp n : Int} (hb : b ≠ 0) : gwf L xs (cp G a sp b dp n) := by
  obtain ⟨h1, h2, h3, h4, h5, h6, h7⟩ := h
  refine ⟨h1, h2, h3, h4, fun j hj => ?_, fun c j => ?_, h7⟩
  · rw [iv_cp, if_neg (fun h => hb h.1.symm)]; exact h5 j hj
  · rw [iv_cp]; split
    · exact h6 _ _
    · exact h6 c j
theorem gwf_lt {L : Nat} {xs : Nat → Int32} {G : Hp} (h : gwf L xs G) {a c : Nat} (ht : tg G a = c) (hc : c < 30) : 1 ≤ a ∧ a ≤ sz G := by
  obtain ⟨h1, h2, -⟩ := h
  refine ⟨?_, ?_⟩
  · rcases Nat.eq_zero_or_pos a with e | e
    · subst e; omega
    · exact e
  · rcases Nat.lt_or_ge (sz G) a with e | e
    · have := h1 a e; omega
    · exact e
/-- locals -/
def encl (E : Ev) (ls : Ls) : List (Nat × Value) := (List.range ls.length).filterMap (fun k => match ls[k]? with
  | some (some v) => some (k, vv E v)
  | _ => none)
theorem encl_mem {E : Ev} {ls : Ls} {q : Nat × Value} : q ∈ encl E ls ↔ ∃ v, ls[q.1]? = some (some v) ∧ q.2 = vv E v := by
  unfold encl
  rw [List.mem_filterMap]
  constructor
  · rintro ⟨k, hk, h⟩
    split at h
    · rename_i v hv; cases h; exact ⟨v, hv, rfl⟩
    · cases h
  · rintro ⟨v, hv, e⟩
    refine ⟨q.1, List.mem_range.mpr (List.getElem?_eq_some_iff.mp hv).1, ?_⟩
    rw [hv]
    obtain ⟨a, b⟩ := q
    simp only at e
    subst e
    rfl
def lsOk (E : Ev) (arr : Array Slot) (nL : Nat) (ls : Ls) : Prop := lv_has arr nL (encl E ls) ∧ ls.length = nL
theorem lsOk_at {E : Ev} {arr : Array Slot} {nL : Nat} {ls : Ls} (h : lsOk E arr nL ls) {k : Nat} {v : V} (hv : ls[k]? = some (some v)) : arr[k]? = some (.val (vv E v)) := h.1.2.2 (k, vv E v) (encl_mem.mpr ⟨v, hv, rfl⟩)
theorem vv_cat (E : Ev) (v : V) : (vv E v).category = vcat v := by
  rcases v with x | x | r
  · rfl
  · rfl
  · cases r <;> rfl
theorem noL_at {ls : Ls} (h : noL ls = true) {k : Nat} {v : V} (hv : ls[k]? = some (some v)) : vcat v = 1 := by
  have h1 := List.all_eq_true.mp h (some v) (List.mem_of_getElem? hv)
  rcases v with x | x | r
  · rfl
  · simp [isL] at h1
  · rfl
theorem lsOk_set {E : Ev} {arr' : Array Slot} {nL : Nat} {ls : Ls} {k : Nat} {v : V} (hn : noL ls = true) (hl : ls.length = nL) (h : lv_has arr' nL ((k, vv E v) :: (encl E ls).filter (fun q => !(q.1 == k) && !(q.1 + 1 == k && q.2.category == 2)))) : lsOk E arr' nL (ls.set k (some v)) := by
  refine ⟨⟨h.1, h.2.1, fun q hq => ?_⟩, by rw [List.length_set]; exact hl⟩
  obtain ⟨w, hw, e⟩ := encl_mem.mp hq
  by_cases hk : q.1 = k
  · have hlt : k < ls.length := by
      have := (List.getElem?_eq_some_iff.mp hw).1
      rw [List.length_set] at this; omega
    rw [hk, List.getElem?_set_self hlt] at hw
    cases hw
    obtain ⟨a, b⟩ := q
    simp only at hk e
    subst hk; subst e
    exact h.2.2 _ List.mem_cons_self
  · rw [List.getElem?_set_ne (Ne.symm hk)] at hw
    refine h.2.2 q (List.mem_cons_of_mem _ (List.mem_filter.mpr ⟨encl_mem.mpr ⟨w, hw, e⟩, ?_⟩))
    have hc : (q.2.category == 2) = false := by rw [e, vv_cat, noL_at hn hw]; rfl
    simp [hk, hc]
theorem vok_set {ls : Ls} {k : Nat} {v : V} (hl : ∀ (j : Nat) (w : V), ls[j]? = some (some w) → vok w) (hv : vok v) : ∀ (j : Nat) (w : V), (ls.set k (some v))[j]? = some (some w) → vok w := by
  intro j w h
  by_cases hk : j = k
  · have hlt : k < ls.length := by
      have := (List.getElem?_eq_some_iff.mp h).1
      rw [List.length_set] at this; omega
    rw [hk, List.getElem?_set_self hlt] at h
    cases h; exact hv
  · rw [List.getElem?_set_ne (Ne.symm hk)] at h
    exact hl j w h
theorem lsOk_entr {E : Ev} {nL : Nat} {as : List V} (h : (lg_sl (as.map (vv E))).length ≤ nL) : lsOk E ((lg_sl (as.map (vv E)) ++ List.replicate (nL - (lg_sl (as.map (vv E))).length) Slot.unset).toArray) nL (entr as nL) := by
  have e := lv_entry (as.map (vv E)) h
  have hlen : ∀ as : List V, (as.flatMap sl1).length = (lg_sl (as.map (vv E))).length := by
    intro as
    induction as with
    | nil => rfl
    | cons v t ih =>
      rcases v with x | x | r
      · simp only [List.flatMap_cons, List.length_append, List.map_cons, lg_sl, ih, sl1]; rfl
      · simp only [List.flatMap_cons, List.length_append, List.map_cons, lg_sl, ih, sl1]; rfl
      · cases r <;> (simp only [List.flatMap_cons, List.length_append, List.map_cons, lg_sl, ih, sl1]; rfl)
  have key : ∀ (as : List V) (i : Nat) (k : Nat) (v : V), (as.flatMap sl1)[k]? = some (some v) → (i + k, vv E v) ∈ lv_args i (as.map (vv E)) := by
    intro as
    induction as with
    | nil => intro i k v hk; simp at hk
    | cons a t ih =>
      intro i k v hk
      rw [List.map_cons, lv_args]
      rcases a with x | x | r
      · cases k with
        | zero => simp [sl1] at hk; subst hk; exact List.mem_cons_self
        | succ k =>
          have := ih (i + 1) k v (by simpa [sl1] using hk)
          rw [show i + 1 + k = i + (k + 1) by omega] at this
          exact List.mem_cons_of_mem _ this
      · cases k with
        | zero => simp [sl1] at hk; subst hk; exact List.mem_cons_self
        | succ k =>
          cases k with
          | zero => simp [sl1] at hk
          | succ k =>
            have := ih (i + 2) k v (by simpa [sl1] using hk)
            rw [show i + 2 + k = i + (k + 1 + 1) by omega] at this
            exact List.mem_cons_of_mem _ this
      · have h1 : (vv E (.inr (.inr r))).category = 1 := vv_cat E _
        cases k with
        | zero => simp [sl1] at hk; subst hk; exact List.mem_cons_self
        | succ k =>
          have := ih (i + 1) k v (by simpa [sl1] using hk)
          rw [show i + 1 + k = i + (k + 1) by omega] at this
          rw [if_neg (by rw [h1]; decide)]
          exact List.mem_cons_of_mem _ this
  refine ⟨⟨e.1, e.2.1, fun q hq => ?_⟩, ?_⟩
  · obtain ⟨v, hv, e2⟩ := encl_mem.mp hq
    refine e.2.2 q ?_
    unfold entr at hv
    rcases Nat.lt_or_ge q.1 (as.flatMap sl1).length with hlt | hge
    · rw [List.getElem?_append_left hlt] at hv
      have := key as 0 q.1 v hv
      obtain ⟨a, b⟩ := q
      simp only at e2
      subst e2
      simpa using this
    · rw [List.getElem?_append_right hge, List.getElem?_replicate] at hv
      split at hv <;> simp at hv
  · unfold entr
    rw [List.length_append, List.length_replicate, hlen]
    omega
theorem vok_entr {nL : Nat} {as : List V} (h : ∀ v ∈ as, vok v) : ∀ (k : Nat) (v : V), (entr as nL)[k]? = some (some v) → vok v := by
  intro k v hk
  have hm := List.mem_of_getElem? hk
  unfold entr at hm
  rcases List.mem_append.mp hm with h1 | h1
  · obtain ⟨a, ha, hb⟩ := List.mem_flatMap.mp h1
    rcases a with x | x | r
    · simp [sl1] at hb; subst hb; exact h _ ha
    · simp [sl1] at hb; subst hb; exact h _ ha
    · simp [sl1] at hb; subst hb; exact h _ ha
  · have := (List.mem_replicate.mp h1).2
    cases this
