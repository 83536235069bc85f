/-! SOUNDNESS, third part: one step of the abstract machine is a step of the machine -/
theorem copy_z : ∀ e ∈ ltab, e.2.2.1 = 901 → e.2.2.2.1 = 0 := by decide +kernel
theorem obj_z : ∀ e ∈ ltab, e.2.2.1 = 900 → e.2.2.2.1 = 0 := by decide +kernel
theorem cats_map (E : Ev) (st : List V) : ((st.map (vv E)).map fun v => v.category).sum = cats st := by
  unfold cats
  rw [List.map_map]
  congr 1
  exact List.map_congr_left (fun v _ => vv_cat E v)
theorem newA_spec {t q : Nat} {ls : Ls} {st : List V} {G : Hp} {o : Ot} (h : newA t q ls st G = some o) : ∃ n st2, st = .inl n :: st2 ∧ (0 ≤ n ∧ n ≤ 100000) ∧ o = .inl (q, ls, .inr (.inr (some (sz G + 1))) :: st2, nw G t n n.toNat) := by
  unfold newA at h
  split at h
  · split at h
    · rename_i hc; cases h; exact ⟨_, _, rfl, hc, rfl⟩
    · cases h
  · cases h
theorem adr_inj {E : Ev} (hb : E.1.2 < E.1.1) {x y : Nat} (h : adr E x = adr E y) : x = y := by
  unfold adr at h
  split at h <;> split at h <;> omega
theorem rf_inj {E : Ev} {L : Nat} {xs : Nat → Int32} {p : Program} {s : State} {m : MethodId} {args : Array Value} {meth : Method} {c : Code} {cc : ByteArray} {own nL : Nat} {ini : Bool} {G : Hp} (hx : Ctx E L xs p s m args meth c cc own nL ini) (_ : gwf L xs G) {x y : Option Nat} (h : x.map (adr E) = y.map (adr E)) : x = y := by
  have hb := hx.2.2.2.2.2.2.1.2.1
  cases x with
  | none => cases y with
    | none => rfl
    | some b => cases h
  | some a => cases y with
    | none => cases h
    | some b => rw [adr_inj hb (Option.some.inj h)]
section ST
variable {p : Program} {l : Launch} {e : Env} {R : Room} {s : State} {m : MethodId} {args : Array Value} {below : List Frame} {meth : Method} {c : Code} {H : Heap} {locs : List Loc} {cells slots : Nat} {Q : State → Prop}
variable {E : Ev} {L : Nat} {xs : Nat → Int32} {cc : ByteArray} {own nL : Nat} {ini : Bool} {pc : Nat} {arr : Array Slot} {rest : List Value} {G : Hp}
set_option maxHeartbeats 4000000 in
theorem snd_step (hx : Ctx E L xs p s m args meth c cc own nL ini) {i : Instr} {len : Nat} {ret : Option FieldType} (hd : decode cc pc = .ok (i, len)) (hlen : lenOk i len = true) {ls ls' : Ls} {st st' : List V} {G1 : Hp} {q : Nat} (hs : stp ret own ini i pc (pc + len) ls st G = some (.inl (q, ls', st', G1)))
    (hg : gwf L xs G) (hv : ∀ v ∈ st, vok v) (hl : ∀ (k : Nat) (v : V), ls[k]? = some (some v) → vok v) (ha : lsOk E arr nL ls) (hr : rep E G H) (hS : va_S (Av E) s.heap H locs) (hc1 : cells + (sz G1 - sz G) ≤ R.cells) (hc2 : slots + (sl G1 - sl G) ≤ R.slots) (hfr : 1 ≤ R.frames) (hlo : 64 ≤ R.locals)
    (kk : gwf L xs G1 → (∀ v ∈ st', vok v) → (∀ (k : Nat) (v : V), ls'[k]? = some (some v) → vok v) → sz G ≤ sz G1 → sl G ≤ sl G1 → ∀ (arr' : Array Slot) (H' : Heap) (locs' : List Loc), lsOk E arr' nL ls' → rep E G1 H' → va_S (Av E) s.heap H' locs' → W p l e R s m args below meth c H' locs' (cells + (sz G1 - sz G)) (slots + (sl G1 - sl G)) Q (F0 m q arr' (st'.map (vv E)))) : W p l e R s m args below meth c H locs cells slots Q (F0 m pc arr (st.map (vv E))) := by
  have hx' := hx
  obtain ⟨hexec, hb, hml, hown, hts, hK, -, -, -⟩ := hx'
  -- the heap stays
  have stay : ∀ (q' : Nat) (ls2 : Ls) (st2 : List V), (q, ls', st', G1) = (q', ls2, st2, G) → (∀ v ∈ st2, vok v) → (∀ (k : Nat) (v : V), ls2[k]? = some (some v) → vok v) → ∀ arr', lsOk E arr' nL ls2 → W p l e R s m args below meth c H locs cells slots Q (F0 m q' arr' (st2.map (vv E))) := by
    intro q' ls2 st2 he h1 h2 arr' h3
    cases he
    have := kk hg h1 h2 (Nat.le_refl _) (Nat.le_refl _) arr' H locs h3 hr hS
    simpa only [Nat.sub_self, Nat.add_zero] using this
  -- a memory of the same size
  have keep : ∀ (G2 : Hp) (q' : Nat) (st2 : List V), (q, ls', st', G1) = (q', ls, st2, G2) → sz G2 = sz G → sl G2 = sl G → gwf L xs G2 → (∀ v ∈ st2, vok v) → ∀ H' locs', rep E G2 H' → va_S (Av E) s.heap H' locs' → W p l e R s m args below meth c H' locs' cells slots Q (F0 m q' arr (st2.map (vv E))) := by
    intro G2 q' st2 he z1 z2 h1 h2 H' locs' h3 h4
    cases he
    have := kk h1 h2 hl (by omega) (by omega) arr H' locs' ha h3 h4
    rw [z1, z2] at this
    simpa only [Nat.sub_self, Nat.add_zero] using this
  -- one cell more
  have grow : ∀ (G2 : Hp) (q' : Nat) (st2 : List V) (w : Nat), (q, ls', st', G1) = (q', ls, st2, G2) → sz G2 = sz G + 1 → sl G2 = sl G + w → gwf L xs G2 → (∀ v ∈ st2, vok v) → ∀ H', rep E G2 H' → va_S (Av E) s.heap H' locs → W p l e R s m args below meth c H' locs (cells + 1) (slots + w) Q (F0 m q' arr (st2.map (vv E))) := by
    intro G2 q' st2 w he z1 z2 h1 h2 H' h3 h4
    cases he
    have := kk h1 h2 hl (by omega) (by omega) arr H' locs ha h3 h4
    rw [z1, z2, show sz G + 1 - sz G = 1 from by omega, show sl G + w - sl G = w from by omega] at this
    exact this
  have inj : ∀ {o : Ot}, some o = some (.inl (q, ls', st', G1)) → o = .inl (q, ls', st', G1) := fun h => Option.some.inj h
  have cons : ∀ {v : V} {t : List V}, vok v → (∀ w ∈ t, vok w) → ∀ w ∈ v :: t, vok w := by
    intro v t h1 h2 w hw
    rcases List.mem_cons.mp hw with rfl | hw
    · exact h1
    · exact h2 w hw
  cases i with
  | aload_n k =>
    obtain rfl : len = 1 := by simpa [lenOk] using hlen
    obtain ⟨v, hv1, ho, ht⟩ := ldv_spec (show ldv ls k.val 2 (pc + 1) st G = some (.inl (q, ls', st', G1)) from hs)
    have ho := Sum.inl.inj ho
    rcases ht with ⟨h, x, rfl⟩ | ⟨h, x, rfl⟩ | ⟨h, x, rfl⟩ <;> first | exact absurd h (by decide) | skip
    have hat := lsOk_at ha hv1
    have kw := stay _ _ _ ho (cons (hl _ _ hv1) hv) hl arr ha
    cases x with
    | none => exact lv_aload_nN hexec hb hd rfl hat kw
    | some a => exact lv_aload_n hexec hb hd rfl hat kw
  | aload k =>
    obtain rfl : len = 2 := by simpa [lenOk] using hlen
    obtain ⟨v, hv1, ho, ht⟩ := ldv_spec (show ldv ls k 2 (pc + 2) st G = some (.inl (q, ls', st', G1)) from hs)
    have ho := Sum.inl.inj ho
    rcases ht with ⟨h, x, rfl⟩ | ⟨h, x, rfl⟩ | ⟨h, x, rfl⟩ <;> first | exact absurd h (by decide) | skip
    have hat := lsOk_at ha hv1
    have kw := stay _ _ _ ho (cons (hl _ _ hv1) hv) hl arr ha
    cases x with
    | none => exact lv_aloadN hexec hb hd hat kw
    | some a => exact lv_aload hexec hb hd hat kw
  | iload_n k =>
    obtain rfl : len = 1 := by simpa [lenOk] using hlen
    obtain ⟨v, hv1, ho, ht⟩ := ldv_spec (show ldv ls k.val 0 (pc + 1) st G = some (.inl (q, ls', st', G1)) from hs)
    have ho := Sum.inl.inj ho
    rcases ht with ⟨h, x, rfl⟩ | ⟨h, x, rfl⟩ | ⟨h, x, rfl⟩ <;> first | exact absurd h (by decide) | skip
    have hat := lsOk_at ha hv1
    have kw := stay _ _ _ ho (cons (hl _ _ hv1) hv) hl arr ha
    exact lv_iload_n hexec hb hd rfl hat kw
  | iload k =>
    obtain rfl : len = 2 := by simpa [lenOk] using hlen
    obtain ⟨v, hv1, ho, ht⟩ := ldv_spec (show ldv ls k 0 (pc + 2) st G = some (.inl (q, ls', st', G1)) from hs)
    have ho := Sum.inl.inj ho
    rcases ht with ⟨h, x, rfl⟩ | ⟨h, x, rfl⟩ | ⟨h, x, rfl⟩ <;> first | exact absurd h (by decide) | skip
    have hat := lsOk_at ha hv1
    have kw := stay _ _ _ ho (cons (hl _ _ hv1) hv) hl arr ha
    exact lv_iload hexec hb hd hat kw
  | lload_n k =>
    obtain rfl : len = 1 := by simpa [lenOk] using hlen
    obtain ⟨v, hv1, ho, ht⟩ := ldv_spec (show ldv ls k.val 1 (pc + 1) st G = some (.inl (q, ls', st', G1)) from hs)
    have ho := Sum.inl.inj ho
    rcases ht with ⟨h, x, rfl⟩ | ⟨h, x, rfl⟩ | ⟨h, x, rfl⟩ <;> first | exact absurd h (by decide) | skip
    have hat := lsOk_at ha hv1
    have kw := stay _ _ _ ho (cons (hl _ _ hv1) hv) hl arr ha
    exact lv_lload_n hexec hb hd rfl hat kw
  | lload k =>
    obtain rfl : len = 2 := by simpa [lenOk] using hlen
    obtain ⟨v, hv1, ho, ht⟩ := ldv_spec (show ldv ls k 1 (pc + 2) st G = some (.inl (q, ls', st', G1)) from hs)
    have ho := Sum.inl.inj ho
    rcases ht with ⟨h, x, rfl⟩ | ⟨h, x, rfl⟩ | ⟨h, x, rfl⟩ <;> first | exact absurd h (by decide) | skip
    have hat := lsOk_at ha hv1
    have kw := stay _ _ _ ho (cons (hl _ _ hv1) hv) hl arr ha
    exact lv_lload hexec hb hd hat kw
  | istore_n k =>
    obtain rfl : len = 1 := by simpa [lenOk] using hlen
    obtain ⟨v, st2, rfl, hk, hn, ho, ht⟩ := stv_spec (show stv ls k.val 0 (pc + 1) st G = some (.inl (q, ls', st', G1)) from hs)
    have ho := Sum.inl.inj ho
    have hk2 : k.val < nL := by rw [← ha.2]; exact hk
    have hvv : vok v := hv v List.mem_cons_self
    have kw : ∀ arr', lv_has arr' nL ((k.val, vv E v) :: (encl E ls).filter (fun q => !(q.1 == k.val) && !(q.1 + 1 == k.val && q.2.category == 2))) → W p l e R s m args below meth c H locs cells slots Q (F0 m (pc + 1) arr' (st2.map (vv E))) := fun arr' h => stay _ _ _ ho (fun w hw => hv w (List.mem_cons_of_mem _ hw)) (vok_set hl hvv) arr' (lsOk_set hn ha.2 h)
    rcases ht with ⟨h, x, rfl⟩ | ⟨h, x, rfl⟩ <;> first | exact absurd h (by decide) | skip
    exact lv_istore_n hexec hb hd rfl ha.1 hk2 rfl kw
  | istore k =>
    obtain rfl : len = 2 := by simpa [lenOk] using hlen
    obtain ⟨v, st2, rfl, hk, hn, ho, ht⟩ := stv_spec (show stv ls k 0 (pc + 2) st G = some (.inl (q, ls', st', G1)) from hs)
    have ho := Sum.inl.inj ho
    have hk2 : k < nL := by rw [← ha.2]; exact hk
    have hvv : vok v := hv v List.mem_cons_self
    have kw : ∀ arr', lv_has arr' nL ((k, vv E v) :: (encl E ls).filter (fun q => !(q.1 == k) && !(q.1 + 1 == k && q.2.category == 2))) → W p l e R s m args below meth c H locs cells slots Q (F0 m (pc + 2) arr' (st2.map (vv E))) := fun arr' h => stay _ _ _ ho (fun w hw => hv w (List.mem_cons_of_mem _ hw)) (vok_set hl hvv) arr' (lsOk_set hn ha.2 h)
    rcases ht with ⟨h, x, rfl⟩ | ⟨h, x, rfl⟩ <;> first | exact absurd h (by decide) | skip
    exact lv_istore hexec hb hd ha.1 hk2 rfl kw
  | astore_n k =>
    obtain rfl : len = 1 := by simpa [lenOk] using hlen
    obtain ⟨v, st2, rfl, hk, hn, ho, ht⟩ := stv_spec (show stv ls k.val 2 (pc + 1) st G = some (.inl (q, ls', st', G1)) from hs)
    have ho := Sum.inl.inj ho
    have hk2 : k.val < nL := by rw [← ha.2]; exact hk
    have hvv : vok v := hv v List.mem_cons_self
    have kw : ∀ arr', lv_has arr' nL ((k.val, vv E v) :: (encl E ls).filter (fun q => !(q.1 == k.val) && !(q.1 + 1 == k.val && q.2.category == 2))) → W p l e R s m args below meth c H locs cells slots Q (F0 m (pc + 1) arr' (st2.map (vv E))) := fun arr' h => stay _ _ _ ho (fun w hw => hv w (List.mem_cons_of_mem _ hw)) (vok_set hl hvv) arr' (lsOk_set hn ha.2 h)
    rcases ht with ⟨h, x, rfl⟩ | ⟨h, x, rfl⟩ <;> first | exact absurd h (by decide) | skip
    cases x with
    | none => exact lv_astore_nN hexec hb hd rfl ha.1 hk2 rfl kw
    | some a => exact lv_astore_n hexec hb hd rfl ha.1 hk2 rfl kw
  | astore k =>
    obtain rfl : len = 2 := by simpa [lenOk] using hlen
    obtain ⟨v, st2, rfl, hk, hn, ho, ht⟩ := stv_spec (show stv ls k 2 (pc + 2) st G = some (.inl (q, ls', st', G1)) from hs)
    have ho := Sum.inl.inj ho
    have hk2 : k < nL := by rw [← ha.2]; exact hk
    have hvv : vok v := hv v List.mem_cons_self
    have kw : ∀ arr', lv_has arr' nL ((k, vv E v) :: (encl E ls).filter (fun q => !(q.1 == k) && !(q.1 + 1 == k && q.2.category == 2))) → W p l e R s m args below meth c H locs cells slots Q (F0 m (pc + 2) arr' (st2.map (vv E))) := fun arr' h => stay _ _ _ ho (fun w hw => hv w (List.mem_cons_of_mem _ hw)) (vok_set hl hvv) arr' (lsOk_set hn ha.2 h)
    rcases ht with ⟨h, x, rfl⟩ | ⟨h, x, rfl⟩ <;> first | exact absurd h (by decide) | skip
    cases x with
    | none => exact lv_astoreN hexec hb hd ha.1 hk2 rfl kw
    | some a => exact lv_astore hexec hb hd ha.1 hk2 rfl kw
  | iinc k n =>
    obtain rfl : len = 3 := by simpa [lenOk] using hlen
    simp only [stp] at hs
    split at hs
    · rename_i x hx1
      split at hs
      · rename_i hn
        have ho := Sum.inl.inj (inj hs).symm
        have hk : k < ls.length := (List.getElem?_eq_some_iff.mp hx1).1
        obtain ⟨j, hj⟩ := List.getElem?_of_mem (encl_mem (E := E) (q := (k, vv E (.inl x))).mpr ⟨_, hx1, rfl⟩)
        exact lv_iinc hexec hb hd ha.1 hj (v := Int32.ofInt (wr (x + n))) (by rw [ci_wr, Int32.ofInt_add]) (by rw [← ha.2]; exact hk) rfl (fun arr' h => stay _ _ _ ho hv (vok_set hl (wr_i32 _)) arr' (lsOk_set (v := .inl (wr (x + n))) hn ha.2 h))
      · cases hs
    · cases hs
  | iconst n =>
    obtain rfl : len = 1 := by simpa [lenOk] using hlen
    simp only [stp, pushI] at hs
    split at hs
    · rename_i hc
      have ho := Sum.inl.inj (inj hs).symm
      exact lv_iconst hexec hb hd rfl (stay _ _ _ ho (cons (v := .inl n) (show i32 n from ⟨by omega, by omega⟩) hv) hl arr ha)
    · cases hs
  | bipush n =>
    obtain rfl : len = 2 := by simpa [lenOk] using hlen
    simp only [stp, pushI] at hs
    split at hs
    · rename_i hc
      have ho := Sum.inl.inj (inj hs).symm
      exact lv_bipush hexec hb hd (ci_b hc) (stay _ _ _ ho (cons (v := .inl n) (show i32 n from ⟨by omega, by omega⟩) hv) hl arr ha)
    · cases hs
  | sipush n =>
    obtain rfl : len = 3 := by simpa [lenOk] using hlen
    simp only [stp, pushI] at hs
    split at hs
    · rename_i hc
      have ho := Sum.inl.inj (inj hs).symm
      exact lv_sipush hexec hb hd (ci_s hc) (stay _ _ _ ho (cons (v := .inl n) (show i32 n from ⟨by omega, by omega⟩) hv) hl arr ha)
    · cases hs
  | lconst n =>
    obtain rfl : len = 1 := by simpa [lenOk] using hlen
    have ho := Sum.inl.inj (inj (show some _ = _ from hs)).symm
    exact lv_lconst hexec hb hd (lc_nat n) (stay _ _ _ ho (cons (v := .inr (.inl (n.val : Int))) (show i64 _ from ⟨by omega, by omega⟩) hv) hl arr ha)
  | ldc k =>
    obtain rfl : len = 2 := by simpa [lenOk] using hlen
    simp only [stp] at hs
    split at hs
    · rename_i x hx1
      have ho := Sum.inl.inj (inj hs).symm
      obtain ⟨h1, h2⟩ := g_const hx1
      exact lv_ldc hexec hb hown (hts _ h1) hd (stay _ _ _ ho (cons (v := .inl x) h2 hv) hl arr ha)
    · cases hs
  | ldc_w k =>
    obtain rfl : len = 3 := by simpa [lenOk] using hlen
    simp only [stp] at hs
    split at hs
    · rename_i x hx1
      have ho := Sum.inl.inj (inj hs).symm
      obtain ⟨h1, h2⟩ := g_const hx1
      exact lv_ldcw hexec hb hown (hts _ h1) hd (stay _ _ _ ho (cons (v := .inl x) h2 hv) hl arr ha)
    · cases hs
  | ldc2_w k =>
    obtain rfl : len = 3 := by simpa [lenOk] using hlen
    simp only [stp] at hs
    split at hs
    · rename_i x hx1
      have ho := Sum.inl.inj (inj hs).symm
      obtain ⟨h1, h2⟩ := g_constL hx1
      exact lv_ldc2 hexec hb hown (hts _ h1) hd (stay _ _ _ ho (cons (v := .inr (.inl x)) h2 hv) hl arr ha)
    · cases hs
  | aconst_null =>
    obtain rfl : len = 1 := by simpa [lenOk] using hlen
    have ho := Sum.inl.inj (inj (show some _ = _ from hs)).symm
    exact lv_null hexec hb hd (stay _ _ _ ho (cons (v := .inr (.inr none)) trivial hv) hl arr ha)
  | iadd =>
    obtain rfl : len = 1 := by simpa [lenOk] using hlen
    simp only [stp] at hs
    obtain ⟨x, y, v, st2, rfl, hf, ho⟩ := bi2_spec hs
    have ho := Sum.inl.inj ho
    have hy : i32 y := hv _ List.mem_cons_self
    have hx2 : i32 x := hv _ (List.mem_cons_of_mem _ List.mem_cons_self)
    have hv2 : ∀ w ∈ st2, vok w := fun w hw => hv w (List.mem_cons_of_mem _ (List.mem_cons_of_mem _ hw))
    cases hf
    have kw := stay _ _ _ ho (cons (v := .inl (wr (x + y))) (wr_i32 _) hv2) hl arr ha
    refine lv_iadd hexec hb hd ?_
    have e1 : Int32.ofInt x + Int32.ofInt y = Int32.ofInt (wr (x + y)) := by rw [ci_wr, Int32.ofInt_add]
    rw [e1]; exact kw
  | isub =>
    obtain rfl : len = 1 := by simpa [lenOk] using hlen
    simp only [stp] at hs
    obtain ⟨x, y, v, st2, rfl, hf, ho⟩ := bi2_spec hs
    have ho := Sum.inl.inj ho
    have hy : i32 y := hv _ List.mem_cons_self
    have hx2 : i32 x := hv _ (List.mem_cons_of_mem _ List.mem_cons_self)
    have hv2 : ∀ w ∈ st2, vok w := fun w hw => hv w (List.mem_cons_of_mem _ (List.mem_cons_of_mem _ hw))
    cases hf
    have kw := stay _ _ _ ho (cons (v := .inl (wr (x - y))) (wr_i32 _) hv2) hl arr ha
    refine lv_isub hexec hb hd ?_
    have e1 : Int32.ofInt x - Int32.ofInt y = Int32.ofInt (wr (x - y)) := by rw [ci_wr, Int32.ofInt_sub]
    rw [e1]; exact kw
  | imul =>
    obtain rfl : len = 1 := by simpa [lenOk] using hlen
    simp only [stp] at hs
    obtain ⟨x, y, v, st2, rfl, hf, ho⟩ := bi2_spec hs
    have ho := Sum.inl.inj ho
    have hy : i32 y := hv _ List.mem_cons_self
    have hx2 : i32 x := hv _ (List.mem_cons_of_mem _ List.mem_cons_self)
    have hv2 : ∀ w ∈ st2, vok w := fun w hw => hv w (List.mem_cons_of_mem _ (List.mem_cons_of_mem _ hw))
    cases hf
    have kw := stay _ _ _ ho (cons (v := .inl (wr (x * y))) (wr_i32 _) hv2) hl arr ha
    refine lv_imul hexec hb hd ?_
    have e1 : Int32.ofInt x * Int32.ofInt y = Int32.ofInt (wr (x * y)) := by rw [ci_wr, Int32.ofInt_mul]
    rw [e1]; exact kw
  | iand =>
    obtain rfl : len = 1 := by simpa [lenOk] using hlen
    simp only [stp] at hs
    obtain ⟨x, y, v, st2, rfl, hf, ho⟩ := bi2_spec hs
    have ho := Sum.inl.inj ho
    have hy : i32 y := hv _ List.mem_cons_self
    have hx2 : i32 x := hv _ (List.mem_cons_of_mem _ List.mem_cons_self)
    have hv2 : ∀ w ∈ st2, vok w := fun w hw => hv w (List.mem_cons_of_mem _ (List.mem_cons_of_mem _ hw))
    cases hf
    have kw := stay _ _ _ ho (cons (v := .inl _) (to_i32 _) hv2) hl arr ha
    refine lv_iand hexec hb hd ?_
    rw [← Int32.ofInt_toInt (Int32.ofInt x &&& Int32.ofInt y)]; exact kw
  | ior =>
    obtain rfl : len = 1 := by simpa [lenOk] using hlen
    simp only [stp] at hs
    obtain ⟨x, y, v, st2, rfl, hf, ho⟩ := bi2_spec hs
    have ho := Sum.inl.inj ho
    have hy : i32 y := hv _ List.mem_cons_self
    have hx2 : i32 x := hv _ (List.mem_cons_of_mem _ List.mem_cons_self)
    have hv2 : ∀ w ∈ st2, vok w := fun w hw => hv w (List.mem_cons_of_mem _ (List.mem_cons_of_mem _ hw))
    cases hf
    have kw := stay _ _ _ ho (cons (v := .inl _) (to_i32 _) hv2) hl arr ha
    refine lv_ior hexec hb hd ?_
    rw [← Int32.ofInt_toInt (Int32.ofInt x ||| Int32.ofInt y)]; exact kw
  | ixor =>
    obtain rfl : len = 1 := by simpa [lenOk] using hlen
    simp only [stp] at hs
    obtain ⟨x, y, v, st2, rfl, hf, ho⟩ := bi2_spec hs
    have ho := Sum.inl.inj ho
    have hy : i32 y := hv _ List.mem_cons_self
    have hx2 : i32 x := hv _ (List.mem_cons_of_mem _ List.mem_cons_self)
    have hv2 : ∀ w ∈ st2, vok w := fun w hw => hv w (List.mem_cons_of_mem _ (List.mem_cons_of_mem _ hw))
    cases hf
    have kw := stay _ _ _ ho (cons (v := .inl _) (to_i32 _) hv2) hl arr ha
    refine lv_ixor hexec hb hd ?_
    rw [← Int32.ofInt_toInt (Int32.ofInt x ^^^ Int32.ofInt y)]; exact kw
  | ishl =>
    obtain rfl : len = 1 := by simpa [lenOk] using hlen
    simp only [stp] at hs
    obtain ⟨x, y, v, st2, rfl, hf, ho⟩ := bi2_spec hs
    have ho := Sum.inl.inj ho
    have hy : i32 y := hv _ List.mem_cons_self
    have hx2 : i32 x := hv _ (List.mem_cons_of_mem _ List.mem_cons_self)
    have hv2 : ∀ w ∈ st2, vok w := fun w hw => hv w (List.mem_cons_of_mem _ (List.mem_cons_of_mem _ hw))
    cases hf
    have kw := stay _ _ _ ho (cons (v := .inl _) (to_i32 _) hv2) hl arr ha
    refine lv_ishl hexec hb hd ?_
    rw [← Int32.ofInt_toInt (Int32.ofInt x <<< (Int32.ofInt y &&& 31))]; exact kw
  | ishr =>
    obtain rfl : len = 1 := by simpa [lenOk] using hlen
    simp only [stp] at hs
    obtain ⟨x, y, v, st2, rfl, hf, ho⟩ := bi2_spec hs
    have ho := Sum.inl.inj ho
    have hy : i32 y := hv _ List.mem_cons_self
    have hx2 : i32 x := hv _ (List.mem_cons_of_mem _ List.mem_cons_self)
    have hv2 : ∀ w ∈ st2, vok w := fun w hw => hv w (List.mem_cons_of_mem _ (List.mem_cons_of_mem _ hw))
    cases hf
    have kw := stay _ _ _ ho (cons (v := .inl _) (to_i32 _) hv2) hl arr ha
    refine lv_ishr hexec hb hd ?_
    rw [← Int32.ofInt_toInt (Int32.ofInt x >>> (Int32.ofInt y &&& 31))]; exact kw
  | idiv =>
    obtain rfl : len = 1 := by simpa [lenOk] using hlen
    simp only [stp] at hs
    obtain ⟨x, y, v, st2, rfl, hf, ho⟩ := bi2_spec hs
    have ho := Sum.inl.inj ho
    have hy : i32 y := hv _ List.mem_cons_self
    have hx2 : i32 x := hv _ (List.mem_cons_of_mem _ List.mem_cons_self)
    have hv2 : ∀ w ∈ st2, vok w := fun w hw => hv w (List.mem_cons_of_mem _ (List.mem_cons_of_mem _ hw))
    split at hf
    · cases hf
    · rename_i hy0
      cases hf
      have kw := stay _ _ _ ho (cons (v := .inl _) (wr_i32 _) hv2) hl arr ha
      refine lv_idiv hexec hb hd (fun h => hy0 ((ci_eq hy i32_0).mp (by rw [ci_0]; exact h))) ?_
      rw [ci_div hx2 hy]; exact kw
  | irem =>
    obtain rfl : len = 1 := by simpa [lenOk] using hlen
    simp only [stp] at hs
    obtain ⟨x, y, v, st2, rfl, hf, ho⟩ := bi2_spec hs
    have ho := Sum.inl.inj ho
    have hy : i32 y := hv _ List.mem_cons_self
    have hx2 : i32 x := hv _ (List.mem_cons_of_mem _ List.mem_cons_self)
    have hv2 : ∀ w ∈ st2, vok w := fun w hw => hv w (List.mem_cons_of_mem _ (List.mem_cons_of_mem _ hw))
    split at hf
    · cases hf
    · rename_i hy0
      cases hf
      have kw := stay _ _ _ ho (cons (v := .inl (x.tmod y)) (tmod_lt hx2) hv2) hl arr ha
      refine lv_irem hexec hb hd (fun h => hy0 ((ci_eq hy i32_0).mp (by rw [ci_0]; exact h))) ?_
      rw [ci_rem hx2 hy]; exact kw
  | i2l =>
    obtain rfl : len = 1 := by simpa [lenOk] using hlen
    simp only [stp, un1] at hs
    split at hs
    · rename_i x st2
      have ho := Sum.inl.inj (inj hs).symm
      have hx2 : i32 x := hv _ List.mem_cons_self
      exact lv_i2l hexec hb hd (ci_i2l hx2) (stay _ _ _ ho (cons (v := .inr (.inl x)) (show i64 x from ⟨by have := hx2.1; omega, by have := hx2.2; omega⟩) (fun w hw => hv w (List.mem_cons_of_mem _ hw))) hl arr ha)
    · cases hs
  | l2i =>
    obtain rfl : len = 1 := by simpa [lenOk] using hlen
    simp only [stp] at hs
    split at hs
    · rename_i x st2
      have ho := Sum.inl.inj (inj hs).symm
      have hx2 : i64 x := hv _ List.mem_cons_self
      exact lv_l2i hexec hb hd (cl_l2i hx2) (stay _ _ _ ho (cons (v := .inl (wr x)) (wr_i32 _) (fun w hw => hv w (List.mem_cons_of_mem _ hw))) hl arr ha)
    · cases hs
  | ladd =>
    obtain rfl : len = 1 := by simpa [lenOk] using hlen
    simp only [stp] at hs
    obtain ⟨x, y, v, st2, rfl, hf, ho⟩ := bl2_spec hs
    have ho := Sum.inl.inj ho
    have hy : i64 y := hv _ List.mem_cons_self
    have hx2 : i64 x := hv _ (List.mem_cons_of_mem _ List.mem_cons_self)
    have hv2 : ∀ w ∈ st2, vok w := fun w hw => hv w (List.mem_cons_of_mem _ (List.mem_cons_of_mem _ hw))
    cases hf
    have kw := stay _ _ _ ho (cons (v := .inr (.inl (wl (x + y)))) (wl_i64 _) hv2) hl arr ha
    refine lv_ladd hexec hb hd ?_
    have e1 : Int64.ofInt x + Int64.ofInt y = Int64.ofInt (wl (x + y)) := by rw [cl_wl, Int64.ofInt_add]
    rw [e1]; exact kw
  | lmul =>
    obtain rfl : len = 1 := by simpa [lenOk] using hlen
    simp only [stp] at hs
    obtain ⟨x, y, v, st2, rfl, hf, ho⟩ := bl2_spec hs
    have ho := Sum.inl.inj ho
    have hy : i64 y := hv _ List.mem_cons_self
    have hx2 : i64 x := hv _ (List.mem_cons_of_mem _ List.mem_cons_self)
    have hv2 : ∀ w ∈ st2, vok w := fun w hw => hv w (List.mem_cons_of_mem _ (List.mem_cons_of_mem _ hw))
    cases hf
    have kw := stay _ _ _ ho (cons (v := .inr (.inl (wl (x * y)))) (wl_i64 _) hv2) hl arr ha
    refine lv_lmul hexec hb hd ?_
    have e1 : Int64.ofInt x * Int64.ofInt y = Int64.ofInt (wl (x * y)) := by rw [cl_wl, Int64.ofInt_mul]
    rw [e1]; exact kw
  | lrem =>
    obtain rfl : len = 1 := by simpa [lenOk] using hlen
    simp only [stp] at hs
    obtain ⟨x, y, v, st2, rfl, hf, ho⟩ := bl2_spec hs
    have ho := Sum.inl.inj ho
    have hy : i64 y := hv _ List.mem_cons_self
    have hx2 : i64 x := hv _ (List.mem_cons_of_mem _ List.mem_cons_self)
    have hv2 : ∀ w ∈ st2, vok w := fun w hw => hv w (List.mem_cons_of_mem _ (List.mem_cons_of_mem _ hw))
    split at hf
    · cases hf
    · rename_i hy0
      cases hf
      have kw := stay _ _ _ ho (cons (v := .inr (.inl (x.tmod y))) (tmod_lt hx2) hv2) hl arr ha
      refine lv_lrem hexec hb hd (fun h => hy0 ((cl_eq hy ⟨by omega, by omega⟩).mp (by rw [h]; rfl))) ?_
      rw [cl_rem hx2 hy]; exact kw
  | lcmp =>
    obtain rfl : len = 1 := by simpa [lenOk] using hlen
    simp only [stp] at hs
    obtain ⟨x, y, v, st2, rfl, hf, ho⟩ := bl2_spec hs
    have ho := Sum.inl.inj ho
    have hy : i64 y := hv _ List.mem_cons_self
    have hx2 : i64 x := hv _ (List.mem_cons_of_mem _ List.mem_cons_self)
    have hv2 : ∀ w ∈ st2, vok w := fun w hw => hv w (List.mem_cons_of_mem _ (List.mem_cons_of_mem _ hw))
    cases hf
    have kw := stay _ _ _ ho (cons (v := .inl (if x < y then -1 else if x = y then 0 else 1)) (show i32 _ from by unfold i32; split <;> (try split) <;> omega) hv2) hl arr ha
    refine W.lcmp hexec hb hd ?_
    rw [cl_cmp hx2 hy]; exact kw
  | dup =>
    obtain rfl : len = 1 := by simpa [lenOk] using hlen
    simp only [stp] at hs
    split at hs
    · rename_i v st2
      split at hs
      · rename_i hc
        have ho := Sum.inl.inj (inj hs).symm
        exact lv_dup hexec hb hd (by rw [vv_cat]; exact hc) (stay _ _ _ ho (cons (hv _ List.mem_cons_self) hv) hl arr ha)
      · cases hs
    · cases hs
  | dup2 =>
    obtain rfl : len = 1 := by simpa [lenOk] using hlen
    simp only [stp] at hs
    split at hs
    · rename_i v w st2
      split at hs
      · rename_i hc
        have ho := Sum.inl.inj (inj hs).symm
        exact lv_dup2_11 hexec hb hd (by rw [vv_cat]; exact hc.1) (by rw [vv_cat]; exact hc.2) (stay _ _ _ ho (cons (hv _ List.mem_cons_self) (cons (hv _ (List.mem_cons_of_mem _ List.mem_cons_self)) hv)) hl arr ha)
      · cases hs
    · cases hs
  | pop =>
    obtain rfl : len = 1 := by simpa [lenOk] using hlen
    simp only [stp] at hs
    split at hs
    · rename_i v st2
      split at hs
      · rename_i hc
        have ho := Sum.inl.inj (inj hs).symm
        exact lv_pop hexec hb hd (by rw [vv_cat]; exact hc) (stay _ _ _ ho (fun w hw => hv w (List.mem_cons_of_mem _ hw)) hl arr ha)
      · cases hs
    · cases hs
  | goto off =>
    obtain rfl : len = 3 := by simpa [lenOk] using hlen
    obtain ⟨t, ht, ho⟩ := gto_spec (show gto pc off ls st G = some (.inl (q, ls', st', G1)) from hs)
    exact lv_goto hexec hb hd ht (stay _ _ _ (Sum.inl.inj ho) hv hl arr ha)
  | ifCond cd off =>
    obtain rfl : len = 3 := by simpa [lenOk] using hlen
    simp only [stp] at hs
    split at hs
    · rename_i x st2
      have hx2 : i32 x := hv _ List.mem_cons_self
      have hv2 : ∀ w ∈ st2, vok w := fun w hw => hv w (List.mem_cons_of_mem _ hw)
      have e0 : Int32.ofInt x = 0 ↔ x = 0 := by rw [← ci_0]; exact ci_eq hx2 i32_0
      have e1 : Int32.ofInt x < 0 ↔ x < 0 := by rw [← ci_0]; exact ci_lt hx2 i32_0
      have e2 : (0 : Int32) < Int32.ofInt x ↔ 0 < x := by rw [← ci_0]; exact ci_lt i32_0 hx2
      have e3 : (0 : Int32) ≤ Int32.ofInt x ↔ 0 ≤ x := by rw [← ci_0]; exact ci_le i32_0 hx2
      have e4 : Int32.ofInt x ≤ 0 ↔ x ≤ 0 := by rw [← ci_0]; exact ci_le hx2 i32_0
      split at hs
      case isFalse => cases hs
      rename_i h0
      have JJ : (pc : Int) + off = ((((pc : Int) + off).toNat : Nat) : Int) := by omega
      split at hs
      · rename_i hc
        obtain ⟨t, ht, ho⟩ := gto_spec hs
        have kw := stay _ _ _ (Sum.inl.inj ho) hv2 hl arr ha
        cases cd <;> simp only [cmpI, decide_eq_true_eq] at hc
        · exact lv_if_eq hexec hb hd ht (fun _ => kw) (fun h => absurd (e0.mpr hc) h)
        · exact lv_if_ne hexec hb hd ht (fun _ => kw) (fun h => by first | exact absurd (fun h2 => hc (e0.mp h2)) h | exact absurd h (fun h2 => hc (e0.mp h2)))
        · exact lv_if_lt hexec hb hd ht (fun _ => kw) (fun h => absurd (e1.mpr hc) h)
        · exact lv_if_ge hexec hb hd ht (fun _ => kw) (fun h => absurd (e3.mpr hc) h)
        · exact lv_if_gt hexec hb hd ht (fun _ => kw) (fun h => absurd (e2.mpr hc) h)
        · exact lv_if_le hexec hb hd ht (fun _ => kw) (fun h => absurd (e4.mpr hc) h)
      · rename_i hc
        have kw := stay _ _ _ (Sum.inl.inj (inj hs).symm) hv2 hl arr ha
        cases cd <;> simp only [cmpI, decide_eq_true_eq] at hc
        · exact lv_if_eq hexec hb hd JJ (fun h => absurd (e0.mp h) hc) (fun _ => kw)
        · exact lv_if_ne hexec hb hd JJ (fun h => absurd (fun h2 => h (e0.mpr h2)) hc) (fun _ => kw)
        · exact lv_if_lt hexec hb hd JJ (fun h => absurd (e1.mp h) hc) (fun _ => kw)
        · exact lv_if_ge hexec hb hd JJ (fun h => absurd (e3.mp h) hc) (fun _ => kw)
        · exact lv_if_gt hexec hb hd JJ (fun h => absurd (e2.mp h) hc) (fun _ => kw)
        · exact lv_if_le hexec hb hd JJ (fun h => absurd (e4.mp h) hc) (fun _ => kw)
    · cases hs
  | if_icmp cd off =>
    obtain rfl : len = 3 := by simpa [lenOk] using hlen
    simp only [stp] at hs
    split at hs
    · rename_i y x st2
      have hy2 : i32 y := hv _ List.mem_cons_self
      have hx2 : i32 x := hv _ (List.mem_cons_of_mem _ List.mem_cons_self)
      have hv2 : ∀ w ∈ st2, vok w := fun w hw => hv w (List.mem_cons_of_mem _ (List.mem_cons_of_mem _ hw))
      have e0 := ci_eq hx2 hy2
      have e1 := ci_lt hx2 hy2
      have e2 := ci_lt hy2 hx2
      have e3 := ci_le hy2 hx2
      have e4 := ci_le hx2 hy2
      split at hs
      case isFalse => cases hs
      rename_i h0
      have JJ : (pc : Int) + off = ((((pc : Int) + off).toNat : Nat) : Int) := by omega
      split at hs
      · rename_i hc
        obtain ⟨t, ht, ho⟩ := gto_spec hs
        have kw := stay _ _ _ (Sum.inl.inj ho) hv2 hl arr ha
        cases cd <;> simp only [cmpI, decide_eq_true_eq] at hc
        · exact lv_icmp_eq hexec hb hd ht (fun _ => kw) (fun h => absurd (e0.mpr hc) h)
        · exact lv_icmp_ne hexec hb hd ht (fun _ => kw) (fun h => absurd h (fun h2 => hc (e0.mp h2)))
        · exact lv_icmp_lt hexec hb hd ht (fun _ => kw) (fun h => absurd (e1.mpr hc) h)
        · exact lv_icmp_ge hexec hb hd ht (fun _ => kw) (fun h => absurd (e3.mpr hc) h)
        · exact lv_icmp_gt hexec hb hd ht (fun _ => kw) (fun h => absurd (e2.mpr hc) h)
        · exact lv_icmp_le hexec hb hd ht (fun _ => kw) (fun h => absurd (e4.mpr hc) h)
      · rename_i hc
        have kw := stay _ _ _ (Sum.inl.inj (inj hs).symm) hv2 hl arr ha
        cases cd <;> simp only [cmpI, decide_eq_true_eq] at hc
        · exact lv_icmp_eq hexec hb hd JJ (fun h => absurd (e0.mp h) hc) (fun _ => kw)
        · exact lv_icmp_ne hexec hb hd JJ (fun h => absurd (fun h2 => h (e0.mpr h2)) hc) (fun _ => kw)
        · exact lv_icmp_lt hexec hb hd JJ (fun h => absurd (e1.mp h) hc) (fun _ => kw)
        · exact lv_icmp_ge hexec hb hd JJ (fun h => absurd (e3.mp h) hc) (fun _ => kw)
        · exact lv_icmp_gt hexec hb hd JJ (fun h => absurd (e2.mp h) hc) (fun _ => kw)
        · exact lv_icmp_le hexec hb hd JJ (fun h => absurd (e4.mp h) hc) (fun _ => kw)
    · cases hs
  | ifnull off =>
    obtain rfl : len = 3 := by simpa [lenOk] using hlen
    simp only [stp] at hs
    split at hs
    · obtain ⟨t, ht, ho⟩ := gto_spec hs
      exact lv_ifnullN hexec hb hd ht (stay _ _ _ (Sum.inl.inj ho) (fun w hw => hv w (List.mem_cons_of_mem _ hw)) hl arr ha)
    · exact lv_ifnull hexec hb hd (stay _ _ _ (Sum.inl.inj (inj hs).symm) (fun w hw => hv w (List.mem_cons_of_mem _ hw)) hl arr ha)
    · cases hs
  | ifnonnull off =>
    obtain rfl : len = 3 := by simpa [lenOk] using hlen
    simp only [stp] at hs
    split at hs
    · exact lv_ifnonnullN hexec hb hd (stay _ _ _ (Sum.inl.inj (inj hs).symm) (fun w hw => hv w (List.mem_cons_of_mem _ hw)) hl arr ha)
    · obtain ⟨t, ht, ho⟩ := gto_spec hs
      exact lv_ifnonnull hexec hb hd ht (stay _ _ _ (Sum.inl.inj ho) (fun w hw => hv w (List.mem_cons_of_mem _ hw)) hl arr ha)
    · cases hs
  | if_acmp cd off =>
    obtain rfl : len = 3 := by simpa [lenOk] using hlen
    cases cd
    · simp only [stp] at hs
      split at hs
      · rename_i y x st2
        have hv2 : ∀ w ∈ st2, vok w := fun w hw => hv w (List.mem_cons_of_mem _ (List.mem_cons_of_mem _ hw))
        split at hs
        case isFalse => cases hs
        rename_i h0
        have JJ : (pc : Int) + off = ((((pc : Int) + off).toNat : Nat) : Int) := by omega
        split at hs
        · rename_i hc
          obtain ⟨t, ht, ho⟩ := gto_spec hs
          have kw := stay _ _ _ (Sum.inl.inj ho) hv2 hl arr ha
          exact lv_acmp_eq hexec hb hd ht (fun _ => kw) (fun h => absurd (by rw [hc]) h)
        · rename_i hc
          have kw := stay _ _ _ (Sum.inl.inj (inj hs).symm) hv2 hl arr ha
          exact lv_acmp_eq hexec hb hd JJ (fun h => absurd (rf_inj hx hg h) hc) (fun _ => kw)
      · cases hs
    · simp only [stp] at hs
      split at hs
      · rename_i y x st2
        have hv2 : ∀ w ∈ st2, vok w := fun w hw => hv w (List.mem_cons_of_mem _ (List.mem_cons_of_mem _ hw))
        split at hs
        case isFalse => cases hs
        rename_i h0
        have JJ : (pc : Int) + off = ((((pc : Int) + off).toNat : Nat) : Int) := by omega
        split at hs
        · rename_i hc
          obtain ⟨t, ht, ho⟩ := gto_spec hs
          have kw := stay _ _ _ (Sum.inl.inj ho) hv2 hl arr ha
          exact lv_acmp_ne hexec hb hd ht (fun _ => kw) (fun h => absurd (rf_inj hx hg h) hc)
        · rename_i hc
          have kw := stay _ _ _ (Sum.inl.inj (inj hs).symm) hv2 hl arr ha
          have hc : x = y := Classical.byContradiction hc
          exact lv_acmp_ne hexec hb hd JJ (fun h => absurd (by rw [hc]) h) (fun _ => kw)
      · cases hs
  | tableswitch df lo hi offs =>
    simp only [stp] at hs
    split at hs
    · rename_i x st2
      have hx2 : i32 x := hv _ List.mem_cons_self
      have hv2 : ∀ w ∈ st2, vok w := fun w hw => hv w (List.mem_cons_of_mem _ hw)
      have ex := ci_to hx2
      split at hs
      · rename_i hc
        obtain ⟨t, ht, ho⟩ := gto_spec hs
        exact lv_tableOut hexec hb hd (by rw [ex]; exact hc) ht (stay _ _ _ (Sum.inl.inj ho) hv2 hl arr ha)
      · rename_i hc
        split at hs
        · rename_i off hof
          obtain ⟨t, ht, ho⟩ := gto_spec hs
          exact lv_tableIn hexec hb hd (by rw [ex]; omega) (by rw [ex]; omega) (by rw [ex]; exact hof) ht (stay _ _ _ (Sum.inl.inj ho) hv2 hl arr ha)
        · cases hs
    · cases hs
  | lookupswitch df ps =>
    simp only [stp] at hs
    split at hs
    · rename_i x st2
      have hx2 : i32 x := hv _ List.mem_cons_self
      have hv2 : ∀ w ∈ st2, vok w := fun w hw => hv w (List.mem_cons_of_mem _ hw)
      have ex := ci_to hx2
      split at hs
      · rename_i hc
        obtain ⟨t, ht, ho⟩ := gto_spec hs
        exact lv_lookup hexec hb hd hc (by rw [ex]) ht (stay _ _ _ (Sum.inl.inj ho) hv2 hl arr ha)
      · cases hs
    · cases hs
  | getfield k =>
    obtain rfl : len = 3 := by simpa [lenOk] using hlen
    simp only [stp, getF] at hs
    split at hs
    · rename_i c0 k0 a st2 hf
      have hv2 : ∀ w ∈ st2, vok w := fun w hw => hv w (List.mem_cons_of_mem _ hw)
      have hk0 := (g_field hf).2.2.1
      split at hs
      · rename_i ht
        refine sd_get hx hg hr hf ht hd ?_
        unfold fv
        rw [show ((k0.toNat : Nat) : Int) = k0 from by omega]
        split at hs
        · rename_i hR
          rw [if_pos hR]
          exact stay _ _ _ (Sum.inl.inj (inj hs).symm) (cons (v := .inr (.inr (rv G a k0))) trivial hv2) hl arr ha
        · rename_i hR
          rw [if_neg hR]
          exact stay _ _ _ (Sum.inl.inj (inj hs).symm) (cons (v := .inl (iv G a k0)) (hg.2.2.2.2.2.1 a k0) hv2) hl arr ha
      · cases hs
    · cases hs
  | putfield k =>
    obtain rfl : len = 3 := by simpa [lenOk] using hlen
    simp only [stp, putF] at hs
    split at hs
    · rename_i c0 k0 v a st2 hf
      have hv2 : ∀ w ∈ st2, vok w := fun w hw => hv w (List.mem_cons_of_mem _ (List.mem_cons_of_mem _ hw))
      obtain ⟨-, hc0, hk0, hk1⟩ := g_field hf
      split at hs
      · rename_i ht
        obtain ⟨g1, g2⟩ := gwf_lt hg ht.1 (by omega)
        split at hs
        · rename_i x
          split at hs
          · rename_i hz
            have hnf : narrow (cY c0 k0.toNat) (.int (Int32.ofInt x)) = .int (Int32.ofInt x) ∧ fits (cY c0 k0.toNat) (.int (Int32.ofInt x)) = true := by
              rcases cY_kinds c0 hc0 k0.toNat hk1 with h | h | ⟨C, h⟩ | ⟨t, h⟩
              · rw [h]; exact ⟨rfl, rfl⟩
              · have hz2 := hz.2 (by unfold isZ; rw [h])
                rw [h]
                rcases hz2 with rfl | rfl <;> exact ⟨by decide, by decide⟩
              · have := hz.1; unfold isR at this; rw [h] at this; cases this
              · have := hz.1; unfold isR at this; rw [h] at this; cases this
            refine sd_put hx hg hr hS hf ht.1 ht.2 hnf.1 hnf.2 (G' := si G a k0 x) rfl (fun b hb => ent_si_ne E G hb _ _) ?_ hd ?_
            · rw [ent_obj (c := c0) (show tg (si G a k0 x) a = c0 from ht.1) hc0, fls_si E G hk0 hk1 hz.1]; rfl
            · exact keep _ _ _ (Sum.inl.inj (inj hs).symm) rfl rfl (gwf_si hg (by omega) (hv (.inl x) List.mem_cons_self)) hv2
          · cases hs
        · rename_i r
          split at hs
          · rename_i hz
            have hnf : narrow (cY c0 k0.toNat) (va_rf (r.map (adr E))) = va_rf (r.map (adr E)) ∧ fits (cY c0 k0.toNat) (va_rf (r.map (adr E))) = true := by
              unfold isR at hz
              rcases cY_kinds c0 hc0 k0.toNat hk1 with h | h | ⟨C, h⟩ | ⟨t, h⟩
              · rw [h] at hz; cases hz
              · rw [h] at hz; cases hz
              · rw [h]; cases r <;> exact ⟨rfl, rfl⟩
              · rw [h]; cases r <;> exact ⟨rfl, rfl⟩
            refine sd_put hx hg hr hS hf ht.1 ht.2 hnf.1 hnf.2 (G' := sr G a k0 r) rfl (fun b hb => ent_sr_ne E G hb _ _) ?_ hd ?_
            · rw [ent_obj (c := c0) (show tg (sr G a k0 r) a = c0 from ht.1) hc0, fls_sr E G hk0 hk1 hz]; rfl
            · exact keep _ _ _ (Sum.inl.inj (inj hs).symm) rfl rfl (gwf_sr hg) hv2
          · cases hs
        · cases hs
      · cases hs
    · cases hs
  | iaload =>
    obtain rfl : len = 1 := by simpa [lenOk] using hlen
    simp only [stp, iald] at hs
    split at hs
    · rename_i j a st2
      split at hs
      · rename_i hc
        exact sd_iald hx hg hr hS hc.1 hc.2.1 hc.2.2 hd (stay _ _ _ (Sum.inl.inj (inj hs).symm) (cons (v := .inl (iv G a j)) (hg.2.2.2.2.2.1 a j) (fun w hw => hv w (List.mem_cons_of_mem _ (List.mem_cons_of_mem _ hw)))) hl arr ha)
      · cases hs
    · cases hs
  | aaload =>
    obtain rfl : len = 1 := by simpa [lenOk] using hlen
    simp only [stp, aald] at hs
    split at hs
    · rename_i j a st2
      split at hs
      · rename_i hc
        exact sd_aald hx hg hr hc.1 hc.2.1 hc.2.2 hd (stay _ _ _ (Sum.inl.inj (inj hs).symm) (cons (v := .inr (.inr (rv G a j))) trivial (fun w hw => hv w (List.mem_cons_of_mem _ (List.mem_cons_of_mem _ hw)))) hl arr ha)
      · cases hs
    · cases hs
  | iastore =>
    obtain rfl : len = 1 := by simpa [lenOk] using hlen
    simp only [stp, iast] at hs
    split at hs
    · rename_i x j a st2
      split at hs
      · rename_i hc
        obtain ⟨g1, g2⟩ := gwf_lt hg hc.1 (by omega)
        exact sd_iast hx hg hr hS hc.1 hc.2.1 hc.2.2 hd (keep _ _ _ (Sum.inl.inj (inj hs).symm) rfl rfl (gwf_si hg (by omega) (hv (.inl x) List.mem_cons_self)) (fun w hw => hv w (List.mem_cons_of_mem _ (List.mem_cons_of_mem _ (List.mem_cons_of_mem _ hw)))))
      · cases hs
    · cases hs
  | aastore =>
    obtain rfl : len = 1 := by simpa [lenOk] using hlen
    simp only [stp, aast] at hs
    split at hs
    · rename_i x j a st2
      split at hs
      · rename_i hc
        exact sd_aast hx hg hr hS hc.1 hc.2.1 hc.2.2 hd (keep _ _ _ (Sum.inl.inj (inj hs).symm) rfl rfl (gwf_sr hg) (fun w hw => hv w (List.mem_cons_of_mem _ (List.mem_cons_of_mem _ (List.mem_cons_of_mem _ hw)))))
      · cases hs
    · cases hs
  | arraylength =>
    obtain rfl : len = 1 := by simpa [lenOk] using hlen
    simp only [stp, alen] at hs
    split at hs
    · rename_i a st2
      split at hs
      · rename_i hc
        have h7 := hg.2.2.2.2.2.2 a
        exact sd_alen hx hg hr hS hc hd (stay _ _ _ (Sum.inl.inj (inj hs).symm) (cons (v := .inl (ln G a)) (show i32 _ from ⟨by omega, by omega⟩) (fun w hw => hv w (List.mem_cons_of_mem _ hw))) hl arr ha)
      · cases hs
    · cases hs
  | newarray ty =>
    obtain rfl : len = 2 := by simpa [lenOk] using hlen
    cases ty with
    | int =>
      simp only [stp, newA] at hs
      split at hs
      · rename_i n st2
        split at hs
        · rename_i hc
          have ho := Sum.inl.inj (inj hs).symm
          have hz : G1 = nw G 20 n n.toNat := by cases ho; rfl
          rw [hz, sz_nw] at hc1
          rw [hz, sl_nw] at hc2
          exact sd_newarr hx hr hS hc (by omega) (by omega) hd (grow _ _ _ _ ho rfl rfl (gwf_nw hg (by decide) hc) (cons (v := .inr (.inr (some (sz G + 1)))) trivial (fun w hw => hv w (List.mem_cons_of_mem _ hw))))
        · cases hs
      · cases hs
    | _ => simp [stp] at hs
  | anewarray k =>
    obtain rfl : len = 3 := by simpa [lenOk] using hlen
    have go : ∀ (c1 t : Nat), nres own k = some c1 → ((c1 = 1 ∧ t = 21) ∨ (c1 = 7 ∧ t = 22)) → newA t (pc + 3) ls st G = some (.inl (q, ls', st', G1)) → W p l e R s m args below meth c H locs cells slots Q (F0 m pc arr (st.map (vv E))) := by
      intro c1 t hk hct hs
      obtain ⟨n, st2, rfl, hc, ho⟩ := newA_spec hs
      have ho := Sum.inl.inj ho
      have hz : G1 = nw G t n n.toNat := by cases ho; rfl
      rw [hz, sz_nw] at hc1
      rw [hz, sl_nw] at hc2
      exact sd_anew hx hr hS hk hct hc (by omega) (by omega) hd (grow _ _ _ _ ho rfl rfl (gwf_nw hg (by omega) hc) (cons (v := .inr (.inr (some (sz G + 1)))) trivial (fun w hw => hv w (List.mem_cons_of_mem _ hw))))
    simp only [stp] at hs
    split at hs
    · rename_i hk; exact go 1 21 hk (Or.inl ⟨rfl, rfl⟩) hs
    · rename_i hk; exact go 7 22 hk (Or.inr ⟨rfl, rfl⟩) hs
    · cases hs
  | new k =>
    obtain rfl : len = 3 := by simpa [lenOk] using hlen
    simp only [stp, newO] at hs
    split at hs
    · rename_i c1 hk
      have ho := Sum.inl.inj (inj hs).symm
      have hz : G1 = nw G c1 0 (cN c1) := by cases ho; rfl
      have hc11 := (g_new hk).2
      rw [hz, sz_nw] at hc1
      rw [hz, sl_nw] at hc2
      exact sd_new hx hr hS hk (by omega) (by omega) hd (grow _ _ _ _ ho rfl rfl (gwf_nw hg (by omega) ⟨by omega, by omega⟩) (cons (v := .inr (.inr (some (sz G + 1)))) trivial hv))
    · cases hs
  | invokestatic k =>
    obtain rfl : len = 3 := by simpa [lenOk] using hlen
    simp only [stp, invS] at hs
    split at hs
    · rename_i z hlk
      split at hs
      · rename_i n dp b sp a st2
        split at hs
        · rename_i hc
          have ho := Sum.inl.inj (inj hs).symm
          obtain ⟨b1, b2⟩ := gwf_lt hg hc.2.1 (by omega)
          obtain ⟨p0, hp0⟩ := (g_link hlk).2
          refine sd_copy hx hg hr hS ha.1.1 hlk (copy_z _ hp0 rfl) hc.1 hc.2.1 hc.2.2.1 hc.2.2.2.1 hc.2.2.2.2.1 hc.2.2.2.2.2.1 hc.2.2.2.2.2.2.1 hfr ?_ hd (keep _ _ _ ho rfl rfl (gwf_cp hg (by omega)) (fun w hw => hv w (List.mem_cons_of_mem _ (List.mem_cons_of_mem _ (List.mem_cons_of_mem _ (List.mem_cons_of_mem _ (List.mem_cons_of_mem _ hw)))))))
          have h8 := hc.2.2.2.2.2.2.2
          have h9 : nativeFrameWords "java/lang/System" "arraycopy" 5 = 7 := by decide
          show ((st2.map (vv E)).map fun v => v.category).sum + _ ≤ _
          rw [cats_map, h9]
          omega
        · cases hs
      · cases hs
    · split at hs
      · split at hs
        · cases hs
        · cases hs
      · cases hs
    · cases hs
  | invokespecial k =>
    obtain rfl : len = 3 := by simpa [lenOk] using hlen
    simp only [stp, invI] at hs
    split at hs
    · rename_i z hlk
      split at hs
      · rename_i a st2
        split at hs
        · rename_i hc
          have ho := Sum.inl.inj (inj hs).symm
          obtain ⟨p0, hp0⟩ := (g_link hlk).2
          have hz := obj_z _ hp0 rfl
          have h1 := (g_link hlk).1
          rw [if_neg (by rw [show z = 0 from hz]; decide)] at h1
          have hlink : (Cond.methodLink (cn own) k Lib.objectInit).before args s = true := hts _ (in_g h1 rfl)
          exact W.objInit hexec hb hown hlink (hts _ (in_g w_oi rfl)) (hts _ (in_g w_oc rfl)) rfl (by show arr.size = _; rw [hml]; exact ha.1.1) rfl hd hfr (by show 2 * 0 + ((st2.map (vv E)).map fun v => v.category).sum + 12 ≤ _; rw [cats_map]; omega) (stay _ _ _ ho (fun w hw => hv w (List.mem_cons_of_mem _ hw)) hl arr ha)
        · cases hs
      · cases hs
    · split at hs
      · split at hs
        · split at hs
          · cases hs
          · cases hs
        · cases hs
      · cases hs
    · cases hs
  | invokevirtual k =>
    simp only [stp, invV] at hs
    split at hs
    · split at hs
      · split at hs
        · split at hs
          · cases hs
          · cases hs
        · cases hs
      · cases hs
    · cases hs
  | ireturn =>
    simp only [stp] at hs
    split at hs
    · cases hs
    · split at hs
      · cases hs
      · cases hs
    · cases hs
  | areturn =>
    simp only [stp] at hs
    split at hs
    · cases hs
    · cases hs
  | return_ =>
    simp only [stp] at hs
    split at hs
    · cases hs
    · cases hs
  | _ => simp [stp] at hs
end ST
