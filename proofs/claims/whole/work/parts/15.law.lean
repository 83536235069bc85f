/-! THE CLAIM OUT OF ONE WALK OF THE LAW'S BODY. Your part is whole_start (and what it stands on); all else here is the same for every law, but numbers. -/
def R_law : String := "TakenUpCallsLaw"
def lw_P (b : Addr) (xs : List Int32) (args : Array Value) (s : State) : Prop := args = #[.ref b] ∧ s.IntsAt b xs ∧ xs.length ≤ 2048 ∧ (Jvm.Cond.and given_1 narrow_1).before args s = true
def lw_Q (_ : Array Value) (s : State) (o : Outcome) (t : State) : Prop := o = .returned (some (.int 1)) ∧ Framed s o t [] 600000 7302250
def lw_Z (below : List Frame) (a : Array Value) (s : State) : State → Prop := fun t => ∃ o, t.status = .running ∧ Ended t below o ∧ lw_Q a s o t
/-- the law's own end, with 1 on the stack, nothing written that was there before, its room as the claim has it -/
theorem lw_ret {p : Program} {l : Launch} {e : Env} {s : State} {m : MethodId} {below : List Frame} {meth : Method} {c : Code} {b : Nat} (hx : p.tables.exec = Jvm.exec) (hb : c.code = code) (hr : meth.sig.returnType = ret) (hlocks : meth.locks = false) {pc : Nat} {H : Heap} {ls : Array Slot} (hdg : decode code pc = .ok (.ireturn, 1)) : W p l e room_1 s m #[Value.ref b] below meth c H [] 600000 7302250 (lw_Z below #[Value.ref b] s) (F0 m pc ls [.int 1]) := by
  intro T hT X
  obtain ⟨fs, hret, hrun, hended, hW, hframe⟩ := X.leave (v := some (.int 1)) (hlocks := hlocks) (fun h => by rw [hr] at h; cases h)
  have hmeth' : T.vm.method? m = some meth := X.method'
  refine ⟨T.setFrames fs, ?_, .returned (some (.int 1)), hrun, hended, rfl, ⟨_, rfl⟩, hW, hframe⟩
  jvm_step X.here [X.here.top, hx, hb, hdg, hmeth', hr, ret, narrow_b1]
  (try refine ⟨rfl, ?_⟩); (try refine ⟨rfl, ?_⟩)
  first | (intro acts; rw [hret _ acts rfl rfl rfl]) | rw [hret _ _ rfl rfl rfl]
  exact Steps.refl _
/-- what holds at the law's entry: the machine, the code, the tables' words (any of lw_tbl by 'hts w (by decide +kernel)'), the script of L ints xs at the cell b, what the Statement gives of the start (any of its parts by flat_of_before) -/
def lw_At (p : Program) (s : State) (m : MethodId) (meth : Method) (c : Code) (b L : Nat) (xs : Nat → Int32) : Prop :=
  p.tables.exec = Jvm.exec ∧ c.code = code ∧ meth.sig.returnType = ret ∧ c.maxLocals = 4 ∧ s.vm.findClass R_law = some m.cls ∧ (∀ w ∈ lw_tbl, w.before #[Value.ref b] s = true) ∧ va_X b L xs s s.heap ∧ b < s.heap.size ∧ meth.locks = false ∧ (Jvm.Cond.and given_1 narrow_1).before #[Value.ref b] s = true
/-- the memory at the law's entry: the script alone -/
def G0 (L : Nat) (xs : Nat → Int32) : Hp := (fun a => if a = 0 then 30 else 31, fun a => if a = 0 then (L : Int) else 0, fun a k => if a = 0 ∧ 0 ≤ k ∧ k < (L : Int) then (xs k.toNat).toInt else 0, fun _ _ => none, 0, 0)
theorem gwf_G0 {L : Nat} (hL : L ≤ 2048) (xs : Nat → Int32) : gwf L xs (G0 L xs) := by
  refine ⟨fun a ha => ?_, rfl, fun a ha => ?_, rfl, fun j hj => ?_, fun a k => ?_, fun a => ?_⟩
  · have h0 : sz (G0 L xs) = 0 := rfl
    show (if a = 0 then 30 else 31) = 31
    rw [if_neg (by omega)]
  · have : (if a = 0 then 30 else 31) = 30 := ha
    split at this
    · assumption
    · omega
  · show (if (0 : Nat) = 0 ∧ (0 : Int) ≤ (j : Int) ∧ (j : Int) < (L : Int) then (xs (j : Int).toNat).toInt else 0) = _
    rw [if_pos ⟨rfl, by omega, by omega⟩]
    rfl
  · show i32 (if a = 0 ∧ 0 ≤ k ∧ k < (L : Int) then (xs k.toNat).toInt else 0)
    split
    · exact to_i32 _
    · exact i32_0
  · show 0 ≤ (if a = 0 then (L : Int) else 0) ∧ (if a = 0 then (L : Int) else 0) ≤ 100000
    split <;> omega
/-- what is left to show: in the abstract machine the law answers 1, in the room -/
def AMgoal : Prop := ∀ (L : Nat) (xs : Nat → Int32), L ≤ 2048 → ∃ n G', runR (Cal 1000) (some .boolean) 11 false cL_law n 0 (entr [.inr (.inr (some 0))] 4) [] (G0 L xs) (some (.inl 1)) G' ∧ sz G' ≤ 600000 ∧ sl G' ≤ 7302250
theorem kn_all {s : State} {args : Array Value} (hts : ∀ w ∈ gtbl, w.before args s = true) : ∃ (dC : Nat → ClassId) (dI : Nat → Nat → Nat), ∀ (c : Nat) (q : vw_C), vwCl[c]? = some q → u_Kn s q.1 q.2.1 q.2.2 (dC c) (dI c) := by
  have h : ∀ c, ∃ (cC : ClassId) (iS : Nat → Nat), c < 11 → u_Kn s (cn c) (cT c) (cN c) cC iS := by
    intro c
    by_cases hc : c < 11
    · obtain ⟨cC, iS, h⟩ := u_known hts (ws_ing hc) (hts _ (g_inst hc))
      exact ⟨cC, iS, fun _ => h⟩
    · exact ⟨0, fun _ => 0, fun h => absurd h hc⟩
  refine ⟨fun c => Classical.choose (h c), fun c => Classical.choose (Classical.choose_spec (h c)), fun c q hq => ?_⟩
  have hc : c < 11 := (List.getElem?_eq_some_iff.mp hq).1
  rw [cl_at hc] at hq
  cases hq
  exact Classical.choose_spec (Classical.choose_spec (h c)) hc
theorem arr_over {s : State} {args : Array Value} {C : String} (h : (Cond.arrayOver (.object C)).before args s = true) : ∃ cA : ClassId, ArrOfT s cA (.object C) ∧ va_RA s cA (.object C) := by
  obtain ⟨comp, c, k, h1, h2, h3, h4, h5⟩ := Cond.arrayOver_spec h
  exact ⟨c, fun n z => ⟨(fun k h => by cases h), k, h3, comp, h4⟩, k, comp, h3, h4, h1, h5⟩
theorem whole_of_am (H0 : AMgoal) {p : Program} {e : Env} {s : State} {m : MethodId} {below : List Frame} {meth : Method} {c : Code} (l : Launch) {b L : Nat} {xs : Nat → Int32} (hL : L ≤ 2048) (C0 : lw_At p s m meth c b L xs) : W p l e room_1 s m #[Value.ref b] below meth c s.heap [] 0 0 (lw_Z below #[Value.ref b] s) (entryFrame m ([Value.ref b] : List Value).toArray 4) := by
  obtain ⟨hx, hb, hr, hml, hown, hts0, hX, hbl, hlocks, hgv⟩ := C0
  have hts : ∀ w ∈ gtbl, w.before #[Value.ref b] s = true := fun w hw => hts0 w (List.mem_filter.mp hw).1
  obtain ⟨dC, dI, hKn⟩ := kn_all hts
  obtain ⟨cI, kI, compI, i1, i2, i3⟩ := Cond.arrayClass_spec (hts0 _ w_ac)
  obtain ⟨cC, c1, c2⟩ := arr_over (hts0 _ w_aoC)
  obtain ⟨cS, s1, s2⟩ := arr_over (hts0 _ w_aoS)
  obtain ⟨n, G', hrun, hz1, hz2⟩ := H0 L xs hL
  have hK : va_K (dC, dI) vwCl [(cI, .int), (cC, .object RX1), (cS, .object RX7)] s := by
    refine ⟨hKn, fun k q hq => ?_⟩
    match k, hq with
    | 0, hq => cases hq; exact ⟨fun n z => ⟨(fun k h => by cases h), kI, i2, compI, i3⟩, i1⟩
    | 1, hq => cases hq; exact ⟨c1, c2⟩
    | 2, hq => cases hq; exact ⟨s1, s2⟩
    | (k + 3), hq => simp at hq
  have hC : Ctx ((s.heap.size, b), (cI, cC, cS), dC, dI) L xs p s m #[Value.ref b] meth c cL_law 11 4 false := by
    refine ⟨hx, hb, hml, hown, hts, hK, ⟨hX, hbl, Nat.le_refl _⟩, ⟨fun q hq hz => ?_, va_AO.of (hts0 _ w_aoC), va_AO.of (hts0 _ w_aoS)⟩, fun h => by cases h⟩
    have h := ltab_ok q hq
    unfold lOk at h
    rw [if_pos hz] at h
    exact va_Nw.of rfl (hts0 _ (List.mem_of_getElem? h))
  rw [lg_entry_eq]
  have hrep : rep ((s.heap.size, b), (cI, cC, cS), dC, dI) (G0 L xs) s.heap := ⟨rfl, fun a h1 h2 => by have : sz (G0 L xs) = 0 := rfl; omega⟩
  have W0 := snd_run (l := l) (e := e) (below := below) (R := room_1) (Q := lw_Z below #[Value.ref b] s) (d := 1000) hC (snd_met l _ L xs 1000) (by decide) (by decide) (ret := some .boolean) (rF := some (.inl 1)) (GF := G') (k0 := 0) (n0 := 0) (by show sz G' - 0 ≤ 600000; omega) (by show sl G' - 0 ≤ 7302250; omega)
    (by
      intro x pc arr H locs hrx hix hd hrt hg' hr' hS'
      cases hrx
      refine va_forget (fun q hq => hS'.2.2 q hq) ?_
      refine W.widen (k := 600000) (n := 7302250) (by omega) (by omega) ?_
      exact lw_ret hx hb hr hlocks hd)
    (by intro o C pc arr H locs hrx; cases hrx)
    (by intro pc arr H locs hrx; cases hrx)
    n 0 _ [] (G0 L xs) hrun (gwf_G0 hL xs) (fun v h => by cases h) (vok_entr (fun v h => by rw [List.mem_singleton.mp h]; exact trivial)) (Nat.zero_le _) (Nat.zero_le _) _ s.heap [] (lsOk_entr (E := ((s.heap.size, b), (cI, cC, cS), dC, dI)) (by rw [← sl1_len]; decide)) hrep va_S.rf
  exact W0
