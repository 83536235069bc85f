/-! The machine's heap as a picture of the abstract memory. E: where the cells begin, the script's cell; the class numbers of the arrays; classes and slots -/
abbrev Ev : Type := (Nat × Nat) × (ClassId × ClassId × ClassId) × (Nat → ClassId) × (Nat → Nat → Nat)
def adr (E : Ev) (a : Nat) : Nat := if a = 0 then E.1.2 else E.1.1 + (a - 1)
def vv (E : Ev) (v : V) : Value := match v with
  | .inl x => .int (Int32.ofInt x)
  | .inr (.inl x) => .long (Int64.ofInt x)
  | .inr (.inr r) => va_rf (r.map (adr E))
def fv (E : Ev) (G : Hp) (c a k : Nat) : Value := if isR c k = true then va_rf ((rv G a (k : Int)).map (adr E)) else .int (Int32.ofInt (iv G a (k : Int)))
def fls (E : Ev) (G : Hp) (c a : Nat) : List Value := (List.range (cN c)).map (fv E G c a)
def ent (E : Ev) (G : Hp) (a : Nat) : va_E :=
  if tg G a = 20 then .inl (E.2.1.1, (ln G a).toNat, .inl (fun k => Int32.ofInt (iv G a (k : Int))))
  else if tg G a = 21 then .inl (E.2.1.2.1, (ln G a).toNat, .inr (.inr (.inr (.inr (fun k => (rv G a (k : Int)).map (adr E))))))
  else if tg G a = 22 then .inl (E.2.1.2.2, (ln G a).toNat, .inr (.inr (.inr (.inr (fun k => (rv G a (k : Int)).map (adr E))))))
  else .inr (tg G a, fls E G (tg G a) a)
abbrev Dv (E : Ev) : va_G := E.2.2
def rep (E : Ev) (G : Hp) (H : Heap) : Prop := H.size = E.1.1 + sz G ∧ ∀ a, 1 ≤ a → a ≤ sz G → va_at (Dv E) vwCl (E.1.1 + (a - 1), ent E G a) H
def gwf (L : Nat) (xs : Nat → Int32) (G : Hp) : Prop := (∀ a, sz G < a → tg G a = 31) ∧ tg G 0 = 30 ∧ (∀ a, tg G a = 30 → a = 0) ∧ ln G 0 = (L : Int) ∧ (∀ j : Nat, j < L → iv G 0 (j : Int) = (xs j).toInt) ∧ (∀ a k, i32 (iv G a k)) ∧ ∀ a, 0 ≤ ln G a ∧ ln G a ≤ 100000
theorem adr_pos (E : Ev) {a : Nat} (h : 1 ≤ a) : adr E a = E.1.1 + (a - 1) := by unfold adr; rw [if_neg (by omega)]
theorem adr_new (E : Ev) (G : Hp) : adr E (sz G + 1) = E.1.1 + sz G := by rw [adr_pos E (by omega)]; omega
theorem rep_at {E : Ev} {G : Hp} {H : Heap} (h : rep E G H) {a : Nat} (h1 : 1 ≤ a) (h2 : a ≤ sz G) : va_P (Dv E) vwCl [(adr E a, ent E G a)] H := by
  intro k q hk
  cases k with
  | zero => cases hk; rw [adr_pos E h1]; exact h.2 a h1 h2
  | succ k => simp at hk
theorem rep_upd {E : Ev} {G G' : Hp} {H H' : Heap} (h : rep E G H) {a : Nat} (h1 : 1 ≤ a) (hs : sz G' = sz G) (he : ∀ b, b ≠ a → ent E G' b = ent E G b) (ha : va_at (Dv E) vwCl (adr E a, ent E G' a) H') (hz : H'.size = H.size) (oq : ∀ q : Nat, q ≠ adr E a → H'[q]? = H[q]?) : rep E G' H' := by
  rw [adr_pos E h1] at ha oq
  refine ⟨by rw [hz, hs]; exact h.1, fun b hb1 hb2 => ?_⟩
  by_cases hb : b = a
  · subst hb; exact ha
  · rw [he b hb]
    refine (h.2 b hb1 (by rw [← hs]; exact hb2)).kept (oq _ ?_)
    show E.1.1 + (b - 1) ≠ _
    omega
theorem rep_new {E : Ev} {G G' : Hp} {H H' : Heap} (h : rep E G H) (hs : sz G' = sz G + 1) (he : ∀ b, b ≤ sz G → ent E G' b = ent E G b) (ha : va_at (Dv E) vwCl (E.1.1 + sz G, ent E G' (sz G + 1)) H') (hz : H'.size = H.size + 1) (oq : ∀ q : Nat, q < H.size → H'[q]? = H[q]?) : rep E G' H' := by
  refine ⟨by rw [hz, hs, h.1]; omega, fun b hb1 hb2 => ?_⟩
  by_cases hb : b = sz G + 1
  · subst hb
    rw [show E.1.1 + (sz G + 1 - 1) = E.1.1 + sz G from by omega]
    exact ha
  · rw [he b (by omega)]
    refine (h.2 b hb1 (by omega)).kept (oq _ ?_)
    show E.1.1 + (b - 1) < _
    rw [h.1]; omega
theorem ent_obj {E : Ev} {G : Hp} {a c : Nat} (h : tg G a = c) (hc : c < 11) : ent E G a = .inr (c, fls E G c a) := by
  unfold ent
  rw [if_neg (by omega), if_neg (by omega), if_neg (by omega), h]
theorem ent_int {E : Ev} {G : Hp} {a : Nat} (h : tg G a = 20) : ent E G a = .inl (E.2.1.1, (ln G a).toNat, .inl (fun k => Int32.ofInt (iv G a (k : Int)))) := by
  unfold ent; rw [if_pos h]
theorem ent_call {E : Ev} {G : Hp} {a : Nat} (h : tg G a = 21) : ent E G a = .inl (E.2.1.2.1, (ln G a).toNat, .inr (.inr (.inr (.inr (fun k => (rv G a (k : Int)).map (adr E)))))) := by
  unfold ent; rw [if_neg (by omega), if_pos h]
theorem ent_scene {E : Ev} {G : Hp} {a : Nat} (h : tg G a = 22) : ent E G a = .inl (E.2.1.2.2, (ln G a).toNat, .inr (.inr (.inr (.inr (fun k => (rv G a (k : Int)).map (adr E)))))) := by
  unfold ent; rw [if_neg (by omega), if_neg (by omega), if_pos h]
theorem ent_same {E : Ev} {G G' : Hp} {a : Nat} (h1 : tg G' a = tg G a) (h2 : ln G' a = ln G a) (h3 : ∀ k, iv G' a k = iv G a k) (h4 : ∀ k, rv G' a k = rv G a k) : ent E G' a = ent E G a := by
  unfold ent fls fv
  simp only [h1, h2, h3, h4]
theorem fls_at {E : Ev} {G : Hp} {c a k : Nat} (hk : k < cN c) : (fls E G c a)[k]? = some (fv E G c a k) := by
  unfold fls
  rw [List.getElem?_map, List.getElem?_range hk]
  rfl
theorem fls_len (E : Ev) (G : Hp) (c a : Nat) : (fls E G c a).length = cN c := by simp [fls]
theorem fls_V {E : Ev} {G : Hp} {c a k : Nat} (hk : k < cN c) : vp_V (fls E G c a) k = fv E G c a k := by
  unfold vp_V
  rw [List.getD_eq_getElem?_getD, fls_at hk]
  rfl
theorem cl_at {c : Nat} (hc : c < 11) : vwCl[c]? = some (cn c, cT c, cN c) := by
  match c, hc with
  | 0, _ => rfl
  | 1, _ => rfl
  | 2, _ => rfl
  | 3, _ => rfl
  | 4, _ => rfl
  | 5, _ => rfl
  | 6, _ => rfl
  | 7, _ => rfl
  | 8, _ => rfl
  | 9, _ => rfl
  | 10, _ => rfl
  | (n + 11), h => exact absurd h (by omega)
theorem ws_in {c : Nat} (hc : c < 11) : ∀ w ∈ u_ws (cn c) (cT c) (cN c), w ∈ lw_tbl := by
  match c, hc with
  | 0, _ => exact iwX0
  | 1, _ => exact iwX1
  | 2, _ => exact iwX2
  | 3, _ => exact iwX3
  | 4, _ => exact iwX4
  | 5, _ => exact iwX5
  | 6, _ => exact iwX6
  | 7, _ => exact iwX7
  | 8, _ => exact iwX8
  | 9, _ => exact iwX9
  | 10, _ => exact iwX10
  | (n + 11), h => exact absurd h (by omega)
theorem nm_ok {c : Nat} (hc : c < 11) : ∀ a, a < cN c → ∀ b, b < cN c → a ≠ b → (cT c a).2.1 ≠ (cT c b).2.1 := by
  match c, hc with
  | 0, _ => exact nmX0
  | 1, _ => exact nmX1
  | 2, _ => exact nmX2
  | 3, _ => exact nmX3
  | 4, _ => exact nmX4
  | 5, _ => exact nmX5
  | 6, _ => exact nmX6
  | 7, _ => exact nmX7
  | 8, _ => exact nmX8
  | 9, _ => exact nmX9
  | 10, _ => exact nmX10
  | (n + 11), h => exact absurd h (by omega)
theorem ty_ok {c : Nat} (hc : c < 11) : ∀ k, k < cN c → parseFieldDescriptor (cT c k).2.2.1 = some (cY c k) := by
  match c, hc with
  | 0, _ => exact tyX0_ok
  | 1, _ => exact tyX1_ok
  | 2, _ => exact tyX2_ok
  | 3, _ => exact tyX3_ok
  | 4, _ => exact tyX4_ok
  | 5, _ => exact tyX5_ok
  | 6, _ => exact tyX6_ok
  | 7, _ => exact tyX7_ok
  | 8, _ => exact tyX8_ok
  | 9, _ => exact tyX9_ok
  | 10, _ => exact tyX10_ok
  | (n + 11), h => exact absurd h (by omega)
theorem own_ok : ∀ c, c < 11 → ∀ k, k < cN c → (cT c k).1 = cn c := by decide +kernel
theorem cY_kinds : ∀ c, c < 11 → ∀ k, k < cN c → cY c k = .int ∨ cY c k = .boolean ∨ (∃ C, cY c k = .object C) ∨ ∃ t, cY c k = .array t := by
  intro c hc k hk
  have h : (match cY c k with | .int => true | .boolean => true | .object _ => true | .array _ => true | _ => false) = true := by
    revert k; revert c; decide +kernel
  cases hy : cY c k <;> simp_all
theorem lay_good (C : String) (T : u_T) (k : Nat) : goodWord (u_lay C T k) = true := by
  unfold u_lay; split <;> rfl
theorem in_g {w : Cond} (h : w ∈ lw_tbl) (hg : goodWord w = true) : w ∈ gtbl := List.mem_filter.mpr ⟨h, hg⟩
theorem ws_ing {c : Nat} (hc : c < 11) : ∀ w ∈ u_ws (cn c) (cT c) (cN c), w ∈ gtbl := by
  intro w h
  refine in_g (ws_in hc w h) ?_
  obtain ⟨k, -, rfl⟩ := List.mem_map.mp h
  exact lay_good _ _ _
theorem g_inst {c : Nat} (hc : c < 11) : Cond.instantiable (cn c) (cN c) ∈ gtbl := in_g (List.mem_of_getElem? (insts c hc)) rfl
theorem g_init {c : Nat} (hc : c < 11) : Cond.initialized (cn c) ∈ gtbl := in_g (List.mem_of_getElem? (inits c hc)) rfl
/-- links out of the tables -/
theorem find_mem {α : Type} {l : List α} {p : α → Bool} {x : α} (h : l.find? p = some x) : x ∈ l ∧ p x = true := ⟨List.mem_of_find?_eq_some h, List.find?_some h⟩
theorem g_field {own idx c : Nat} {k : Int} (h : fres own idx = some (c, k)) : Cond.fieldLink (cn own) idx (cT c k.toNat).1 (cT c k.toNat).2.1 (cT c k.toNat).2.2.1 ∈ gtbl ∧ c < 11 ∧ 0 ≤ k ∧ k.toNat < cN c := by
  unfold fres at h
  cases hf : ftab.find? (fun e => e.1 == own && e.2.1 == idx) with
  | none => rw [hf] at h; cases h
  | some e =>
    rw [hf] at h
    obtain ⟨h1, h2⟩ := find_mem hf
    simp only [Bool.and_eq_true, beq_iff_eq] at h2
    have h3 := ftab_ok e h1
    obtain ⟨o, i, c', k', p⟩ := e
    simp only [Option.map_some, Option.some.injEq, Prod.mk.injEq] at h
    obtain ⟨rfl, rfl⟩ := h
    obtain ⟨rfl, rfl⟩ := h2
    exact ⟨in_g (List.mem_of_getElem? h3.1) rfl, h3.2⟩
theorem g_link {own idx mid z : Nat} (h : lres own idx = some (mid, z)) : (if z = 1 then Cond.methodLinkNest (cn own) idx (myn mid) "TakenUpCalls" else Cond.methodLink (cn own) idx (myn mid)) ∈ lw_tbl ∧ ∃ p, (own, idx, mid, z, p) ∈ ltab := by
  unfold lres at h
  cases hf : ltab.find? (fun e => e.1 == own && e.2.1 == idx) with
  | none => rw [hf] at h; cases h
  | some e =>
    rw [hf] at h
    obtain ⟨h1, h2⟩ := find_mem hf
    simp only [Bool.and_eq_true, beq_iff_eq] at h2
    have h3 := ltab_ok e h1
    obtain ⟨o, i, c', k', p⟩ := e
    simp only [Option.map_some, Option.some.injEq, Prod.mk.injEq] at h
    obtain ⟨rfl, rfl⟩ := h
    obtain ⟨rfl, rfl⟩ := h2
    exact ⟨List.mem_of_getElem? h3, p, h1⟩
theorem g_new {own idx c : Nat} (h : nres own idx = some c) : Cond.classLink (cn own) idx (cn c) ∈ gtbl ∧ c < 11 := by
  unfold nres at h
  cases hf : ntab.find? (fun e => e.1 == own && e.2.1 == idx) with
  | none => rw [hf] at h; cases h
  | some e =>
    rw [hf] at h
    obtain ⟨h1, h2⟩ := find_mem hf
    simp only [Bool.and_eq_true, beq_iff_eq] at h2
    have h3 := ntab_ok e h1
    obtain ⟨o, i, c', p⟩ := e
    simp only [Option.map_some, Option.some.injEq] at h
    subst h
    obtain ⟨rfl, rfl⟩ := h2
    exact ⟨in_g (List.mem_of_getElem? h3.1) rfl, h3.2⟩
theorem g_const {own idx : Nat} {v : Int} (h : kres own idx = some v) : Cond.constant (cn own) idx (Int32.ofInt v) ∈ gtbl ∧ i32 v := by
  unfold kres at h
  cases hf : ktab.find? (fun e => e.1 == own && e.2.1 == idx) with
  | none => rw [hf] at h; cases h
  | some e =>
    rw [hf] at h
    obtain ⟨h1, h2⟩ := find_mem hf
    simp only [Bool.and_eq_true, beq_iff_eq] at h2
    have h3 := ktab_ok e h1
    obtain ⟨o, i, c', p⟩ := e
    simp only [Option.map_some, Option.some.injEq] at h
    subst h
    obtain ⟨rfl, rfl⟩ := h2
    exact ⟨in_g (List.mem_of_getElem? h3.1) rfl, h3.2⟩
theorem g_constL {own idx : Nat} {v : Int} (h : jres own idx = some v) : Cond.constantLong (cn own) idx (Int64.ofInt v) ∈ gtbl ∧ i64 v := by
  unfold jres at h
  cases hf : jtab.find? (fun e => e.1 == own && e.2.1 == idx) with
  | none => rw [hf] at h; cases h
  | some e =>
    rw [hf] at h
    obtain ⟨h1, h2⟩ := find_mem hf
    simp only [Bool.and_eq_true, beq_iff_eq] at h2
    have h3 := jtab_ok e h1
    obtain ⟨o, i, c', p⟩ := e
    simp only [Option.map_some, Option.some.injEq] at h
    subst h
    obtain ⟨rfl, rfl⟩ := h2
    exact ⟨in_g (List.mem_of_getElem? h3.1) rfl, h3.2⟩
theorem m_ok {mid nL own kind na : Nat} {y : MethodName} {cc : ByteArray} {ret : Option FieldType} (h : mtab[mid]? = some (y, cc, nL, ret, own, kind, na)) : own = 11 ∨ (Cond.code y cc nL ret ∈ gtbl ∧ (if kind = 1 then Cond.static y else Cond.instanceMethod y) ∈ gtbl ∧ (kind = 0 → Cond.selects y.cls y y ∈ gtbl) ∧ Cond.initialized y.cls ∈ gtbl ∧ y.cls = cn own ∧ plainFor y = true ∧ y.cls ≠ "java/lang/invoke/MethodHandle" ∧ y.cls ≠ "java/lang/invoke/VarHandle" ∧ (parseMethodDescriptor y.desc).map (fun d => d.parameters.length) = some na ∧ nL ≤ 16 ∧ (kind = 2 → y.name = "<init>" ∧ ret = none)) := by
  have hl := (List.getElem?_eq_some_iff.mp h).1
  rw [mtab_len2] at hl
  obtain ⟨p, hp⟩ : ∃ p, mpl[mid]? = some p := ⟨_, List.getElem?_eq_getElem (by rw [mpl_len2]; exact hl)⟩
  have hz : (mtab.zip mpl)[mid]? = some ((y, cc, nL, ret, own, kind, na), p) := by rw [List.getElem?_zip_eq_some]; exact ⟨h, hp⟩
  have h1 := mtab_ok _ (List.mem_of_getElem? hz)
  obtain ⟨p1, p2, p3, p4⟩ := p
  rcases h1 with h1 | ⟨h1, h2, h3, h4, h5⟩
  · exact Or.inl h1
  · refine Or.inr ⟨in_g (List.mem_of_getElem? h1) rfl, in_g (List.mem_of_getElem? h2) (by split <;> rfl), fun e => in_g (List.mem_of_getElem? (h3 e)) rfl, in_g (List.mem_of_getElem? h4) rfl, h5⟩
theorem myn_of {mid nL own kind na : Nat} {y : MethodName} {cc : ByteArray} {ret : Option FieldType} (h : mtab[mid]? = some (y, cc, nL, ret, own, kind, na)) : myn mid = y := by
  have hl := (List.getElem?_eq_some_iff.mp h).1
  rw [mtab_len2] at hl
  unfold myn
  rw [if_neg (by omega), if_neg (by omega), List.getD_eq_getElem?_getD, h]
  rfl
