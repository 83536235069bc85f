/-! SOUNDNESS, fourth part: runs and calls -/
theorem stp_mono {ret : Option FieldType} {own : Nat} {ini : Bool} {i : Instr} {pc q0 q : Nat} {ls ls' : Ls} {st st' : List V} {G G1 : Hp} (h : stp ret own ini i pc q0 ls st G = some (.inl (q, ls', st', G1))) : sz G ≤ sz G1 ∧ sl G ≤ sl G1 := by
  have same : ∀ {q2 : Nat} {l2 : Ls} {s2 : List V} {G2 : Hp}, G2 = G → (Sum.inl (q, ls', st', G1) : Ot) = .inl (q2, l2, s2, G2) → sz G ≤ sz G1 ∧ sl G ≤ sl G1 := by
    intro q2 l2 s2 G2 e h
    cases h
    rw [e]
    exact ⟨Nat.le_refl _, Nat.le_refl _⟩
  cases i with
  | aload_n k | aload k | iload_n k | iload k | lload_n k | lload k =>
    obtain ⟨v, -, ho, -⟩ := ldv_spec h
    exact same rfl ho
  | istore_n k | istore k | astore_n k | astore k =>
    obtain ⟨v, st2, -, -, -, ho, -⟩ := stv_spec h
    exact same rfl ho
  | iadd | isub | imul | idiv | irem | iand | ior | ixor | ishl | ishr =>
    simp only [stp] at h
    obtain ⟨x, y, v, st2, -, -, ho⟩ := bi2_spec h
    exact same rfl ho
  | ladd | lmul | lrem | lcmp =>
    simp only [stp] at h
    obtain ⟨x, y, v, st2, -, -, ho⟩ := bl2_spec h
    exact same rfl ho
  | goto off =>
    obtain ⟨t, -, ho⟩ := gto_spec h
    exact same rfl ho
  | newarray ty =>
    cases ty with
    | int =>
      obtain ⟨n, st2, -, -, ho⟩ := newA_spec h
      cases ho
      exact ⟨Nat.le_succ _, Nat.le_add_right _ _⟩
    | _ => simp [stp] at h
  | anewarray k =>
    simp only [stp] at h
    split at h
    · obtain ⟨n, st2, -, -, ho⟩ := newA_spec h
      cases ho
      exact ⟨Nat.le_succ _, Nat.le_add_right _ _⟩
    · obtain ⟨n, st2, -, -, ho⟩ := newA_spec h
      cases ho
      exact ⟨Nat.le_succ _, Nat.le_add_right _ _⟩
    · cases h
  | new k =>
    simp only [stp, newO] at h
    split at h
    · cases h; exact ⟨Nat.le_succ _, Nat.le_add_right _ _⟩
    · cases h
  | if_acmp cd off =>
    cases cd <;> (simp only [stp, gto, nxt] at h; repeat' split at h) <;> first | (cases h; done) | (cases h; exact ⟨Nat.le_refl _, Nat.le_refl _⟩)
  | iinc _ _ | iconst _ | bipush _ | sipush _ | lconst _ | ldc _ | ldc_w _ | ldc2_w _ | aconst_null | i2l | l2i | dup | dup2 | pop | ifCond _ _ | if_icmp _ _ | ifnull _ | ifnonnull _ | tableswitch _ _ _ _ | lookupswitch _ _ | getfield _ | putfield _ | iaload | iastore | aaload | aastore | arraylength | invokevirtual _ | invokestatic _ | invokespecial _ | ireturn | areturn | return_ =>
    simp only [stp, un1, pushI, getF, putF, iald, aald, iast, aast, alen, invV, invS, invI, gto, nxt] at h
    (repeat' split at h) <;> first | (cases h; done) | (cases h; exact ⟨Nat.le_refl _, Nat.le_refl _⟩)
  | _ => simp [stp] at h
theorem stp_call {ret : Option FieldType} {own : Nat} {ini : Bool} {i : Instr} {pc q0 q mid : Nat} {ls : Ls} {st as rest : List V} {G : Hp} (h : stp ret own ini i pc q0 ls st G = some (.inr (.inl (mid, as, q, rest)))) : (∃ k, i = .invokevirtual k ∧ invV own k q0 st G = some (.inr (.inl (mid, as, q, rest)))) ∨ (∃ k, i = .invokestatic k ∧ invS own k q0 ls st G = some (.inr (.inl (mid, as, q, rest)))) ∨ (∃ k, i = .invokespecial k ∧ invI own k q0 ls st G = some (.inr (.inl (mid, as, q, rest)))) := by
  cases i with
  | invokevirtual k => exact Or.inl ⟨k, rfl, h⟩
  | invokestatic k => exact Or.inr (Or.inl ⟨k, rfl, h⟩)
  | invokespecial k => exact Or.inr (Or.inr ⟨k, rfl, h⟩)
  | aload_n k | aload k | iload_n k | iload k | lload_n k | lload k =>
    obtain ⟨v, -, ho, -⟩ := ldv_spec h
    cases ho
  | istore_n k | istore k | astore_n k | astore k =>
    obtain ⟨v, st2, -, -, -, ho, -⟩ := stv_spec h
    cases ho
  | iadd | isub | imul | idiv | irem | iand | ior | ixor | ishl | ishr =>
    simp only [stp] at h
    obtain ⟨x, y, v, st2, -, -, ho⟩ := bi2_spec h
    cases ho
  | ladd | lmul | lrem | lcmp =>
    simp only [stp] at h
    obtain ⟨x, y, v, st2, -, -, ho⟩ := bl2_spec h
    cases ho
  | goto off =>
    obtain ⟨t, -, ho⟩ := gto_spec h
    cases ho
  | newarray ty =>
    cases ty with
    | int =>
      obtain ⟨n, st2, -, -, ho⟩ := newA_spec h
      cases ho
    | _ => simp [stp] at h
  | anewarray k =>
    simp only [stp] at h
    split at h
    · obtain ⟨n, st2, -, -, ho⟩ := newA_spec h
      cases ho
    · obtain ⟨n, st2, -, -, ho⟩ := newA_spec h
      cases ho
    · cases h
  | if_acmp cd off =>
    cases cd <;> (simp only [stp, gto, nxt] at h; repeat' split at h) <;> (cases h; done)
  | iinc _ _ | iconst _ | bipush _ | sipush _ | lconst _ | ldc _ | ldc_w _ | ldc2_w _ | aconst_null | i2l | l2i | dup | dup2 | pop | ifCond _ _ | if_icmp _ _ | ifnull _ | ifnonnull _ | tableswitch _ _ _ _ | lookupswitch _ _ | getfield _ | putfield _ | iaload | iastore | aaload | aastore | arraylength | new _ | ireturn | areturn | return_ =>
    simp only [stp, un1, pushI, getF, putF, iald, aald, iast, aast, alen, newO, gto, nxt] at h
    (repeat' split at h) <;> (cases h; done)
  | _ => simp [stp] at h
theorem stp_ret {ret : Option FieldType} {own : Nat} {ini : Bool} {i : Instr} {pc q0 : Nat} {ls : Ls} {st : List V} {G : Hp} {v : Option V} (h : stp ret own ini i pc q0 ls st G = some (.inr (.inr v))) : (∃ x, i = .ireturn ∧ st = [.inl x] ∧ v = some (.inl x) ∧ (ret = some .int ∨ (ret = some .boolean ∧ (x = 0 ∨ x = 1)))) ∨ (∃ r C, i = .areturn ∧ st = [.inr (.inr r)] ∧ v = some (.inr (.inr r)) ∧ ret = some (.object C)) ∨ (i = .return_ ∧ st = [] ∧ v = none ∧ ret = none) := by
  cases i with
  | ireturn =>
    simp only [stp] at h
    split at h
    · cases h; exact Or.inl ⟨_, rfl, rfl, rfl, Or.inl rfl⟩
    · split at h
      · rename_i hc; cases h; exact Or.inl ⟨_, rfl, rfl, rfl, Or.inr ⟨rfl, hc⟩⟩
      · cases h
    · cases h
  | areturn =>
    simp only [stp] at h
    split at h
    · cases h; exact Or.inr (Or.inl ⟨_, _, rfl, rfl, rfl, rfl⟩)
    · cases h
  | return_ =>
    simp only [stp] at h
    split at h
    · cases h; exact Or.inr (Or.inr ⟨rfl, rfl, rfl, rfl⟩)
    · cases h
  | aload_n k | aload k | iload_n k | iload k | lload_n k | lload k =>
    obtain ⟨v, -, ho, -⟩ := ldv_spec h
    cases ho
  | istore_n k | istore k | astore_n k | astore k =>
    obtain ⟨v, st2, -, -, -, ho, -⟩ := stv_spec h
    cases ho
  | iadd | isub | imul | idiv | irem | iand | ior | ixor | ishl | ishr =>
    simp only [stp] at h
    obtain ⟨x, y, v, st2, -, -, ho⟩ := bi2_spec h
    cases ho
  | ladd | lmul | lrem | lcmp =>
    simp only [stp] at h
    obtain ⟨x, y, v, st2, -, -, ho⟩ := bl2_spec h
    cases ho
  | goto off =>
    obtain ⟨t, -, ho⟩ := gto_spec h
    cases ho
  | newarray ty =>
    cases ty with
    | int =>
      obtain ⟨n, st2, -, -, ho⟩ := newA_spec h
      cases ho
    | _ => simp [stp] at h
  | anewarray k =>
    simp only [stp] at h
    split at h
    · obtain ⟨n, st2, -, -, ho⟩ := newA_spec h
      cases ho
    · obtain ⟨n, st2, -, -, ho⟩ := newA_spec h
      cases ho
    · cases h
  | if_acmp cd off =>
    cases cd <;> (simp only [stp, gto, nxt] at h; repeat' split at h) <;> (cases h; done)
  | iinc _ _ | iconst _ | bipush _ | sipush _ | lconst _ | ldc _ | ldc_w _ | ldc2_w _ | aconst_null | i2l | l2i | dup | dup2 | pop | ifCond _ _ | if_icmp _ _ | ifnull _ | ifnonnull _ | tableswitch _ _ _ _ | lookupswitch _ _ | getfield _ | putfield _ | iaload | iastore | aaload | aastore | arraylength | new _ | invokevirtual _ | invokestatic _ | invokespecial _ =>
    simp only [stp, un1, pushI, getF, putF, iald, aald, iast, aast, alen, newO, invV, invS, invI, gto, nxt] at h
    (repeat' split at h) <;> (cases h; done)
  | _ => simp [stp] at h
theorem runR_szmono {C : Nat → List V → Hp → Option V → Hp → Prop} (hC : ∀ mid as G r G', C mid as G r G' → sz G ≤ sz G' ∧ sl G ≤ sl G') {ret : Option FieldType} {own : Nat} {ini : Bool} {cc : ByteArray} : ∀ (n pc : Nat) (ls : Ls) (st : List V) (G : Hp) (r : Option V) (G' : Hp), runR C ret own ini cc n pc ls st G r G' → sz G ≤ sz G' ∧ sl G ≤ sl G' := by
  intro n
  induction n with
  | zero => intro pc ls st G r G' h; exact h.elim
  | succ n ih =>
    intro pc ls st G r G' h
    simp only [runR] at h
    cases hd : decode cc pc with
    | error e => rw [hd] at h; exact h.elim
    | ok x =>
      obtain ⟨i, len⟩ := x
      rw [hd] at h
      dsimp only at h
      replace h := h.2
      cases hs : stp ret own ini i pc (pc + len) ls st G with
      | none => rw [hs] at h; exact h.elim
      | some o =>
        rw [hs] at h
        rcases o with ⟨q, ls', st', G1⟩ | ⟨mid, as, q, rest⟩ | v
        · have h1 := stp_mono hs
          have h2 := ih _ _ _ _ _ _ h
          omega
        · obtain ⟨r1, G1, h1, h2⟩ := h
          have h1 := hC _ _ _ _ _ h1
          have h2 := ih _ _ _ _ _ _ h2
          omega
        · obtain ⟨-, rfl⟩ := h
          exact ⟨Nat.le_refl _, Nat.le_refl _⟩
theorem Cal_szmono : ∀ (d mid : Nat) (as : List V) (G : Hp) (r : Option V) (G' : Hp), Cal d mid as G r G' → sz G ≤ sz G' ∧ sl G ≤ sl G' := by
  intro d
  induction d with
  | zero => intro mid as G r G' h; exact h.elim
  | succ d ih =>
    intro mid as G r G' h
    simp only [Cal] at h
    cases hm : mtab[mid]? with
    | none => rw [hm] at h; exact h.elim
    | some x =>
      obtain ⟨y, cc, nL, ret, own, kind, na⟩ := x
      rw [hm] at h
      obtain ⟨-, n, h1⟩ := h
      exact runR_szmono ih _ _ _ _ _ _ _ h1
/-- the room of a call d deep -/
def rmm (d mc ms : Nat) : Room := { frames := d, cells := mc, slots := ms, locals := 64 * d }
/-- words that are no good words, carried by the world -/
def nests (U : State) : Prop := (∀ e ∈ ltab, e.2.2.2.1 = 1 → va_Nw (.methodLinkNest (cn e.1) e.2.1 (myn e.2.2.1) "TakenUpCalls") U) ∧ va_AO RX1 U ∧ va_AO RX7 U
def Pw (E : Ev) (L : Nat) (xs : Nat → Int32) (G : Hp) (U : State) : Prop := rep E G U.heap ∧ va_K (Dv E) vwCl (tysv E) U ∧ (va_X E.1.2 L xs U U.heap ∧ E.1.2 < E.1.1) ∧ nests U
def QA (E : Ev) (L : Nat) (xs : Nat → Int32) (r : Option V) (G' : Hp) : Array Value → State → Outcome → State → Prop := match r with
  | none => va_Qv (fun _ : Unit => True) (fun _ t => rep E G' t.heap ∧ gwf L xs G') (Av E)
  | some (.inl x) => va_Qi (fun z (_ : Unit) => z = Int32.ofInt x ∧ i32 x) (fun _ t => rep E G' t.heap ∧ gwf L xs G') (Av E)
  | some (.inr (.inr o)) => va_Qq (fun z (_ : Unit) => z = o.map (adr E)) (fun _ t => rep E G' t.heap ∧ gwf L xs G') (Av E)
  | some (.inr (.inl _)) => fun _ _ _ _ => False
abbrev wsM (y : MethodName) (cc : ByteArray) (nL : Nat) (ret : Option FieldType) : List Cond := Cond.code y cc nL ret :: gtbl
def MetA (l : Launch) (E : Ev) (L : Nat) (xs : Nat → Int32) (d mid : Nat) (as : List V) (G : Hp) (r : Option V) (G' : Hp) : Prop := ∀ (y : MethodName) (cc : ByteArray) (nL : Nat) (ret : Option FieldType) (own kind na : Nat), mtab[mid]? = some (y, cc, nL, ret, own, kind, na) → own ≠ 11 → Met l y (wsM y cc nL ret) (rmm d (sz G' - sz G) (sl G' - sl G)) (va_Pc (as.map (vv E)) (Pw E L xs G)) (QA E L xs r G') (sz G' - sz G) (sl G' - sl G) (Av E)
theorem Pw_blind (E : Ev) (L : Nat) (xs : Nat → Int32) (G : Hp) (av : List Value) : FrameBlind (va_Pc av (Pw E L xs G)) := by
  intro a U g mk h
  obtain ⟨h0, h1, h2, ⟨h3, h3'⟩, h4, h5, h6⟩ := h
  have al := Vm.Alike.refl U.vm
  exact ⟨h0, h1, va_K.moved (u := U) (U := U.calling g mk a) al h2, ⟨va_X.moved (u := U) (U := U.calling g mk a) al h3, h3'⟩, fun e he hz => va_Nw.same rfl (u := U) (U := U.calling g mk a) rfl (h4 e he hz), va_AO.moved (u := U) (U := U.calling g mk a) al h5, va_AO.moved (u := U) (U := U.calling g mk a) al h6⟩
theorem wsM_good {y : MethodName} {cc : ByteArray} {nL : Nat} {ret : Option FieldType} (h : Cond.code y cc nL ret ∈ gtbl) : GoodIn gtbl (wsM y cc nL ret) := by
  intro w hw
  have hm : w ∈ gtbl := by
    rcases List.mem_cons.mp hw with rfl | hw
    · exact h
    · exact hw
  exact ⟨hm, good_of_word (List.mem_filter.mp hm).2⟩
theorem Met.ofWF {l : Launch} {y : MethodName} {ws ws' : List Cond} {rm : Room} {Pc : Array Value → State → Prop} {Qc : Array Value → State → Outcome → State → Prop} {mc ms : Nat} {free : Addr → Prop} {cc : ByteArray} {maxL : Nat} {ret : Option FieldType}
    (hy : plainFor y = true) (hw : ws = Cond.code y cc maxL ret :: ws')
    (body : ∀ p e s m args below meth c s₁, BodyLoose p l y (headSpec ws rm) cc maxL ret e s m args below meth c s₁ → c.maxLocals = maxL → Pc args s →
      W p l e (headSpec ws rm).room s m args below meth c s.heap [] 0 0 (MQ below Qc args s mc ms free) (entryFrame m args maxL)) : Met l y ws rm Pc Qc mc ms free := by
  refine MetFree.of_bodySF (code := cc) (maxLocals := maxL) (ret := ret) hy ?_ ?_
  · intro args s m h hn
    obtain ⟨meth, c, h1, h2, h3, h4, h5, h6, -, -⟩ := Cond.code_spec hn (atoms_spec (ws := ws) h _ (by rw [hw]; exact List.mem_cons_self))
    exact ⟨meth, c, h1, h2, h3, h4, h5, h6⟩
  · intro p e s m args below meth c s₁ B hml hP _
    have hh0 : s₁.heap = s.heap := by rw [B.state]; rfl
    obtain ⟨t, a1, o, b1, b2, b3⟩ := body p e s m args below meth c s₁ B hml hP s₁ hh0 (Stand.of_body B)
    exact ⟨t, o, a1, b1, b2, ⟨b3.1, b3.2⟩⟩
theorem own_kinds : ∀ q ∈ mtab, q.2.2.2.2.2.1 = 0 → q.2.2.2.2.1 < 11 := by decide +kernel
theorem own_lt {mid nL own kind na : Nat} {y : MethodName} {cc : ByteArray} {ret : Option FieldType} (h : mtab[mid]? = some (y, cc, nL, ret, own, kind, na)) (hk : kind = 0) : own < 11 := own_kinds _ (List.mem_of_getElem? h) hk
theorem law_links : ∀ e ∈ ltab, e.2.2.1 ≠ 166 := by decide +kernel
theorem law_only : ∀ (mid : Nat) (q : MethodName × ByteArray × Nat × Option FieldType × Nat × Nat × Nat), mtab[mid]? = some q → q.2.2.2.2.1 = 11 → mid = 166 := by
  have h : ∀ mid, mid < 167 → ((mtab[mid]?).map (fun q => q.2.2.2.2.1)) = some 11 → mid = 166 := by decide +kernel
  intro mid q hq h11
  have hl := (List.getElem?_eq_some_iff.mp hq).1
  rw [mtab_len2] at hl
  exact h mid hl (by rw [hq]; exact congrArg some h11)
theorem call_link {ret : Option FieldType} {own : Nat} {ini : Bool} {i : Instr} {pc q0 q mid : Nat} {ls : Ls} {st as rest : List V} {G : Hp} (h : stp ret own ini i pc q0 ls st G = some (.inr (.inl (mid, as, q, rest)))) : ∃ k z, lres own k = some (mid, z) := by
  have hs0 := h
  clear h
  rcases stp_call hs0 with ⟨k, rfl, h⟩ | ⟨k, rfl, h⟩ | ⟨k, rfl, h⟩
  · unfold invV at h
    split at h
    · rename_i hl
      split at h
      · split at h
        · split at h
          · cases h; exact ⟨k, _, hl⟩
          · cases h
        · cases h
      · cases h
    · cases h
  · unfold invS at h
    split at h
    · split at h
      · split at h <;> cases h
      · cases h
    · rename_i hl
      split at h
      · split at h
        · cases h; exact ⟨k, _, hl⟩
        · cases h
      · cases h
    · cases h
  · unfold invI at h
    split at h
    · split at h
      · split at h <;> cases h
      · cases h
    · rename_i hl
      split at h
      · split at h
        · split at h
          · cases h; exact ⟨k, _, hl⟩
          · cases h
        · cases h
      · cases h
    · cases h
theorem call_law {ret : Option FieldType} {own : Nat} {ini : Bool} {i : Instr} {pc q0 q mid : Nat} {ls : Ls} {st as rest : List V} {G : Hp} (h : stp ret own ini i pc q0 ls st G = some (.inr (.inl (mid, as, q, rest)))) {y : MethodName} {cc' : ByteArray} {nL' : Nat} {ret' : Option FieldType} {own' kind na : Nat} (hm : mtab[mid]? = some (y, cc', nL', ret', own', kind, na)) (h11 : own' = 11) : False := by
  obtain ⟨k, z, hl⟩ := call_link h
  obtain ⟨-, p0, hp0⟩ := g_link hl
  exact law_links _ hp0 (law_only mid _ hm h11)
theorem call_args {ret : Option FieldType} {own : Nat} {ini : Bool} {i : Instr} {pc q0 q mid : Nat} {ls : Ls} {st as rest : List V} {G : Hp} (h : stp ret own ini i pc q0 ls st G = some (.inr (.inl (mid, as, q, rest)))) (hv : ∀ v ∈ st, vok v) : ∀ v ∈ as, vok v := by
  have tk : ∀ (n : Nat), ∀ v ∈ (st.take n).reverse, vok v := fun n v h => hv v (List.mem_of_mem_take (List.mem_reverse.mp h))
  have cn : ∀ (a : Nat) (n : Nat), ∀ v ∈ (Sum.inr (Sum.inr (some a)) : V) :: (st.take n).reverse, vok v := by
    intro a n v h
    rcases List.mem_cons.mp h with rfl | h
    · exact trivial
    · exact tk n v h
  have hs0 := h
  clear h
  rcases stp_call hs0 with ⟨k, rfl, h⟩ | ⟨k, rfl, h⟩ | ⟨k, rfl, h⟩
  · unfold invV at h
    split at h
    · split at h
      · split at h
        · split at h
          · cases h; exact cn _ _
          · cases h
        · cases h
      · cases h
    · cases h
  · unfold invS at h
    split at h
    · split at h
      · split at h <;> cases h
      · cases h
    · split at h
      · split at h
        · cases h; exact tk _
        · cases h
      · cases h
    · cases h
  · unfold invI at h
    split at h
    · split at h
      · split at h <;> cases h
      · cases h
    · split at h
      · split at h
        · split at h
          · cases h; exact cn _ _
          · cases h
        · cases h
      · cases h
    · cases h
theorem sl1_len (E : Ev) : ∀ as : List V, (as.flatMap sl1).length = (lg_sl (as.map (vv E))).length := by
  intro as
  induction as with
  | nil => rfl
  | cons v t ih =>
    rcases v with x | x | r
    · simp only [List.flatMap_cons, List.length_append, List.map_cons, lg_sl, ih, sl1]; rfl
    · simp only [List.flatMap_cons, List.length_append, List.map_cons, lg_sl, ih, sl1]; rfl
    · cases r <;> (simp only [List.flatMap_cons, List.length_append, List.map_cons, lg_sl, ih, sl1]; rfl)
