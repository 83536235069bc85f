/-! RULES of the abstract machine: goal first, one instruction each -/
section XR
variable {d : Nat} {ret : Option FieldType} {own : Nat} {ini : Bool} {cc : ByteArray} {pc q t n : Nat} {ls : Ls} {st : List V} {G : Hp} {Q : Option V → Hp → Prop}
theorem Ex.nx {i : Instr} {len : Nat} {ls' : Ls} {st' : List V} {G1 : Hp} (hd : decode cc pc = .ok (i, len)) (hn : lenOk i len = true) (hs : stp ret own ini i pc (pc + len) ls st G = some (.inl (q, ls', st', G1))) (h : Ex d ret own ini cc q ls' st' G1 Q) : Ex d ret own ini cc pc ls st G Q := by
  obtain ⟨n, r, G', h1, h2⟩ := h
  exact ⟨n + 1, r, G', by simp only [runR, hd, hs]; exact ⟨hn, h1⟩, h2⟩
theorem Ex.cl {i : Instr} {len mid : Nat} {as rest : List V} {R : Option V → Hp → Prop} (hd : decode cc pc = .ok (i, len)) (hn : lenOk i len = true) (hs : stp ret own ini i pc (pc + len) ls st G = some (.inr (.inl (mid, as, q, rest)))) (hc : CX d mid as G R) (h : ∀ r1 G1, R r1 G1 → Ex d ret own ini cc q ls (r1.toList ++ rest) G1 Q) : Ex d ret own ini cc pc ls st G Q := by
  obtain ⟨r1, G1, hC, hR⟩ := hc
  obtain ⟨n, r, G', h1, h2⟩ := h r1 G1 hR
  exact ⟨n + 1, r, G', by simp only [runR, hd, hs]; exact ⟨hn, r1, G1, hC, h1⟩, h2⟩
theorem Ex.rt {i : Instr} {len : Nat} {v : Option V} (hd : decode cc pc = .ok (i, len)) (hn : lenOk i len = true) (hs : stp ret own ini i pc (pc + len) ls st G = some (.inr (.inr v))) (h : Q v G) : Ex d ret own ini cc pc ls st G Q :=
  ⟨1, v, G, by simp [runR, hd, hs, hn], h⟩
theorem Ex.stk {st' : List V} (e : st = st') (h : Ex d ret own ini cc pc ls st' G Q) : Ex d ret own ini cc pc ls st G Q := e ▸ h
theorem Ex.lcl {ls' : Ls} (e : ls = ls') (h : Ex d ret own ini cc pc ls' st G Q) : Ex d ret own ini cc pc ls st G Q := e ▸ h
theorem Ex.mem {G' : Hp} (e : G = G') (h : Ex d ret own ini cc pc ls st G' Q) : Ex d ret own ini cc pc ls st G Q := e ▸ h
theorem Ex.mono {Q' : Option V → Hp → Prop} (h : Ex d ret own ini cc pc ls st G Q') (k : ∀ r G', Q' r G' → Q r G') : Ex d ret own ini cc pc ls st G Q := by
  obtain ⟨n, r, G', h1, h2⟩ := h
  exact ⟨n, r, G', h1, k _ _ h2⟩
theorem CX.mono {mid : Nat} {as : List V} {Q' : Option V → Hp → Prop} (h : CX d mid as G Q') (k : ∀ r G', Q' r G' → Q r G') : CX d mid as G Q := by
  obtain ⟨r, G', h1, h2⟩ := h
  exact ⟨r, G', h1, k _ _ h2⟩
theorem CX.of {mid nL kind na : Nat} {as : List V} {y : MethodName} (hm : mtab[mid]? = some (y, cc, nL, ret, own, kind, na)) (hna : (as.flatMap sl1).length ≤ nL) (h : Ex d ret own (kind == 2) cc 0 (entr as nL) [] G Q) : CX (d + 1) mid as G Q := by
  obtain ⟨n, r, G', h1, h2⟩ := h
  exact ⟨r, G', by simp only [Cal, hm]; exact ⟨hna, n, h1⟩, h2⟩
theorem runR_mono {C C' : Nat → List V → Hp → Option V → Hp → Prop} (hC : ∀ m a G r G', C m a G r G' → C' m a G r G') : ∀ (n pc : Nat) (ls : Ls) (st : List V) (G : Hp) (r : Option V) (G' : Hp), runR C ret own ini cc n pc ls st G r G' → runR C' ret own ini cc n pc ls st G r G' := by
  intro n
  induction n with
  | zero => intro pc ls st G r G' h; exact h
  | succ n ih =>
    intro pc ls st G r G' h
    simp only [runR] at h ⊢
    cases hd : decode cc pc with
    | error e => rw [hd] at h; exact h
    | ok x =>
      obtain ⟨i, len⟩ := x
      rw [hd] at h
      dsimp only at h ⊢
      refine ⟨h.1, ?_⟩
      replace h := h.2
      cases hs : stp ret own ini i pc (pc + len) ls st G with
      | none => rw [hs] at h; exact h
      | some o =>
        rw [hs] at h
        rcases o with ⟨q, ls', st', G1⟩ | ⟨mid, as, q, rest⟩ | v
        · exact ih _ _ _ _ _ _ h
        · obtain ⟨r1, G1, h1, h2⟩ := h
          exact ⟨r1, G1, hC _ _ _ _ _ h1, ih _ _ _ _ _ _ h2⟩
        · exact h
theorem Cal_succ : ∀ (d mid : Nat) (as : List V) (G : Hp) (r : Option V) (G' : Hp), Cal d mid as G r G' → Cal (d + 1) mid as G r G' := by
  intro d
  induction d with
  | zero => intro mid as G r G' h; exact h.elim
  | succ d ih =>
    intro mid as G r G' h
    simp only [Cal] at h
    simp only [Cal]
    cases hm : mtab[mid]? with
    | none => rw [hm] at h; exact h
    | some x =>
      obtain ⟨y, cc, nL, ret, own, kind, na⟩ := x
      rw [hm] at h
      obtain ⟨h0, n, h1⟩ := h
      refine ⟨h0, n, runR_mono ?_ _ _ _ _ _ _ _ h1⟩
      intro m a G r G' h2
      exact ih m a G r G' h2
theorem Cal_le {d d' : Nat} (hl : d ≤ d') {mid : Nat} {as : List V} {G : Hp} {r : Option V} {G' : Hp} (h : Cal d mid as G r G') : Cal d' mid as G r G' := by
  induction hl with
  | refl => exact h
  | step _ ih => exact Cal_succ _ _ _ _ _ _ ih
theorem CX.up {d' mid : Nat} {as : List V} (hl : d ≤ d') (h : CX d mid as G Q) : CX d' mid as G Q := by
  obtain ⟨r, G', h1, h2⟩ := h
  exact ⟨r, G', Cal_le hl h1, h2⟩

theorem x_aload_n {k : Fin 4} {r : Option Nat} (hd : decode cc pc = .ok (.aload_n k, 1)) (hq : pc + 1 = q) (hl : ls[k.val]? = some (some (.inr (.inr r)))) (h : Ex d ret own ini cc q ls (.inr (.inr r) :: st) G Q) : Ex d ret own ini cc pc ls (st) G Q := Ex.nx hd (by rfl) (by subst hq; simp [stp, ldv, hl, nxt]) h
theorem x_aload {k : Nat} {r : Option Nat} (hd : decode cc pc = .ok (.aload k, 2)) (hq : pc + 2 = q) (hl : ls[k]? = some (some (.inr (.inr r)))) (h : Ex d ret own ini cc q ls (.inr (.inr r) :: st) G Q) : Ex d ret own ini cc pc ls (st) G Q := Ex.nx hd (by rfl) (by subst hq; simp [stp, ldv, hl, nxt]) h
theorem x_iload_n {k : Fin 4} {x : Int} (hd : decode cc pc = .ok (.iload_n k, 1)) (hq : pc + 1 = q) (hl : ls[k.val]? = some (some (.inl x))) (h : Ex d ret own ini cc q ls (.inl x :: st) G Q) : Ex d ret own ini cc pc ls (st) G Q := Ex.nx hd (by rfl) (by subst hq; simp [stp, ldv, hl, nxt]) h
theorem x_iload {k : Nat} {x : Int} (hd : decode cc pc = .ok (.iload k, 2)) (hq : pc + 2 = q) (hl : ls[k]? = some (some (.inl x))) (h : Ex d ret own ini cc q ls (.inl x :: st) G Q) : Ex d ret own ini cc pc ls (st) G Q := Ex.nx hd (by rfl) (by subst hq; simp [stp, ldv, hl, nxt]) h
theorem x_lload_n {k : Fin 4} {x : Int} (hd : decode cc pc = .ok (.lload_n k, 1)) (hq : pc + 1 = q) (hl : ls[k.val]? = some (some (.inr (.inl x)))) (h : Ex d ret own ini cc q ls (.inr (.inl x) :: st) G Q) : Ex d ret own ini cc pc ls (st) G Q := Ex.nx hd (by rfl) (by subst hq; simp [stp, ldv, hl, nxt]) h
theorem x_lload {k : Nat} {x : Int} (hd : decode cc pc = .ok (.lload k, 2)) (hq : pc + 2 = q) (hl : ls[k]? = some (some (.inr (.inl x)))) (h : Ex d ret own ini cc q ls (.inr (.inl x) :: st) G Q) : Ex d ret own ini cc pc ls (st) G Q := Ex.nx hd (by rfl) (by subst hq; simp [stp, ldv, hl, nxt]) h
theorem x_istore_n {k : Fin 4} {x : Int} {ls' : Ls} (hd : decode cc pc = .ok (.istore_n k, 1)) (hq : pc + 1 = q) (hk : k.val < ls.length) (hn : noL ls = true) (hl : ls.set k.val (some (.inl x)) = ls') (h : Ex d ret own ini cc q ls' (st) G Q) : Ex d ret own ini cc pc ls (.inl x :: st) G Q := Ex.nx hd (by rfl) (by subst hq; simp [stp, stv, hk, hn, hl, nxt]) h
theorem x_istore {k : Nat} {x : Int} {ls' : Ls} (hd : decode cc pc = .ok (.istore k, 2)) (hq : pc + 2 = q) (hk : k < ls.length) (hn : noL ls = true) (hl : ls.set k (some (.inl x)) = ls') (h : Ex d ret own ini cc q ls' (st) G Q) : Ex d ret own ini cc pc ls (.inl x :: st) G Q := Ex.nx hd (by rfl) (by subst hq; simp [stp, stv, hk, hn, hl, nxt]) h
theorem x_astore_n {k : Fin 4} {r : Option Nat} {ls' : Ls} (hd : decode cc pc = .ok (.astore_n k, 1)) (hq : pc + 1 = q) (hk : k.val < ls.length) (hn : noL ls = true) (hl : ls.set k.val (some (.inr (.inr r))) = ls') (h : Ex d ret own ini cc q ls' (st) G Q) : Ex d ret own ini cc pc ls (.inr (.inr r) :: st) G Q := Ex.nx hd (by rfl) (by subst hq; simp [stp, stv, hk, hn, hl, nxt]) h
theorem x_astore {k : Nat} {r : Option Nat} {ls' : Ls} (hd : decode cc pc = .ok (.astore k, 2)) (hq : pc + 2 = q) (hk : k < ls.length) (hn : noL ls = true) (hl : ls.set k (some (.inr (.inr r))) = ls') (h : Ex d ret own ini cc q ls' (st) G Q) : Ex d ret own ini cc pc ls (.inr (.inr r) :: st) G Q := Ex.nx hd (by rfl) (by subst hq; simp [stp, stv, hk, hn, hl, nxt]) h
theorem x_iinc {k : Nat} {c x : Int} {ls' : Ls} (hd : decode cc pc = .ok (.iinc k c, 3)) (hq : pc + 3 = q) (hx : ls[k]? = some (some (.inl x))) (hn : noL ls = true) (hl : ls.set k (some (.inl (wr (x + c)))) = ls') (h : Ex d ret own ini cc q ls' (st) G Q) : Ex d ret own ini cc pc ls (st) G Q := Ex.nx hd (by rfl) (by subst hq; simp [stp, hx, hn, hl, nxt]) h
theorem x_iconst {c : Int} (hd : decode cc pc = .ok (.iconst c, 1)) (hq : pc + 1 = q) (hc : -1 ≤ c ∧ c ≤ 5) (h : Ex d ret own ini cc q ls (.inl c :: st) G Q) : Ex d ret own ini cc pc ls (st) G Q := Ex.nx hd (by rfl) (by subst hq; simp [stp, pushI, hc.1, hc.2, nxt]) h
theorem x_bipush {c : Int} (hd : decode cc pc = .ok (.bipush c, 2)) (hq : pc + 2 = q) (hc : -128 ≤ c ∧ c ≤ 127) (h : Ex d ret own ini cc q ls (.inl c :: st) G Q) : Ex d ret own ini cc pc ls (st) G Q := Ex.nx hd (by rfl) (by subst hq; simp [stp, pushI, hc.1, hc.2, nxt]) h
theorem x_sipush {c : Int} (hd : decode cc pc = .ok (.sipush c, 3)) (hq : pc + 3 = q) (hc : -32768 ≤ c ∧ c ≤ 32767) (h : Ex d ret own ini cc q ls (.inl c :: st) G Q) : Ex d ret own ini cc pc ls (st) G Q := Ex.nx hd (by rfl) (by subst hq; simp [stp, pushI, hc.1, hc.2, nxt]) h
theorem x_lconst {c : Fin 2} {x : Int} (hd : decode cc pc = .ok (.lconst c, 1)) (hq : pc + 1 = q) (hc : (c.val : Int) = x) (h : Ex d ret own ini cc q ls (.inr (.inl x) :: st) G Q) : Ex d ret own ini cc pc ls (st) G Q := Ex.nx hd (by rfl) (by subst hq; simp [stp, hc, nxt]) h
theorem x_ldc {k : Nat} {x : Int} (hd : decode cc pc = .ok (.ldc k, 2)) (hq : pc + 2 = q) (hk : kres own k = some x) (h : Ex d ret own ini cc q ls (.inl x :: st) G Q) : Ex d ret own ini cc pc ls (st) G Q := Ex.nx hd (by rfl) (by subst hq; simp [stp, hk, nxt]) h
theorem x_ldc_w {k : Nat} {x : Int} (hd : decode cc pc = .ok (.ldc_w k, 3)) (hq : pc + 3 = q) (hk : kres own k = some x) (h : Ex d ret own ini cc q ls (.inl x :: st) G Q) : Ex d ret own ini cc pc ls (st) G Q := Ex.nx hd (by rfl) (by subst hq; simp [stp, hk, nxt]) h
theorem x_ldc2_w {k : Nat} {x : Int} (hd : decode cc pc = .ok (.ldc2_w k, 3)) (hq : pc + 3 = q) (hk : jres own k = some x) (h : Ex d ret own ini cc q ls (.inr (.inl x) :: st) G Q) : Ex d ret own ini cc pc ls (st) G Q := Ex.nx hd (by rfl) (by subst hq; simp [stp, hk, nxt]) h
theorem x_aconst_null  (hd : decode cc pc = .ok (.aconst_null, 1)) (hq : pc + 1 = q)  (h : Ex d ret own ini cc q ls (.inr (.inr none) :: st) G Q) : Ex d ret own ini cc pc ls (st) G Q := Ex.nx hd (by rfl) (by subst hq; simp [stp, nxt]) h
theorem x_iadd {x y z : Int} (hd : decode cc pc = .ok (.iadd, 1)) (hq : pc + 1 = q) (hz : wr (x + y) = z) (h : Ex d ret own ini cc q ls (.inl z :: st) G Q) : Ex d ret own ini cc pc ls (.inl y :: .inl x :: st) G Q := Ex.nx hd (by rfl) (by subst hq; subst hz; simp [stp, bi2, nxt]) h
theorem x_isub {x y z : Int} (hd : decode cc pc = .ok (.isub, 1)) (hq : pc + 1 = q) (hz : wr (x - y) = z) (h : Ex d ret own ini cc q ls (.inl z :: st) G Q) : Ex d ret own ini cc pc ls (.inl y :: .inl x :: st) G Q := Ex.nx hd (by rfl) (by subst hq; subst hz; simp [stp, bi2, nxt]) h
theorem x_imul {x y z : Int} (hd : decode cc pc = .ok (.imul, 1)) (hq : pc + 1 = q) (hz : wr (x * y) = z) (h : Ex d ret own ini cc q ls (.inl z :: st) G Q) : Ex d ret own ini cc pc ls (.inl y :: .inl x :: st) G Q := Ex.nx hd (by rfl) (by subst hq; subst hz; simp [stp, bi2, nxt]) h
theorem x_iand {x y z : Int} (hd : decode cc pc = .ok (.iand, 1)) (hq : pc + 1 = q) (hz : (Int32.ofInt x &&& Int32.ofInt y).toInt = z) (h : Ex d ret own ini cc q ls (.inl z :: st) G Q) : Ex d ret own ini cc pc ls (.inl y :: .inl x :: st) G Q := Ex.nx hd (by rfl) (by subst hq; subst hz; simp [stp, bi2, nxt]) h
theorem x_ior {x y z : Int} (hd : decode cc pc = .ok (.ior, 1)) (hq : pc + 1 = q) (hz : (Int32.ofInt x ||| Int32.ofInt y).toInt = z) (h : Ex d ret own ini cc q ls (.inl z :: st) G Q) : Ex d ret own ini cc pc ls (.inl y :: .inl x :: st) G Q := Ex.nx hd (by rfl) (by subst hq; subst hz; simp [stp, bi2, nxt]) h
theorem x_ixor {x y z : Int} (hd : decode cc pc = .ok (.ixor, 1)) (hq : pc + 1 = q) (hz : (Int32.ofInt x ^^^ Int32.ofInt y).toInt = z) (h : Ex d ret own ini cc q ls (.inl z :: st) G Q) : Ex d ret own ini cc pc ls (.inl y :: .inl x :: st) G Q := Ex.nx hd (by rfl) (by subst hq; subst hz; simp [stp, bi2, nxt]) h
theorem x_ishl {x y z : Int} (hd : decode cc pc = .ok (.ishl, 1)) (hq : pc + 1 = q) (hz : (Int32.ofInt x <<< (Int32.ofInt y &&& 31)).toInt = z) (h : Ex d ret own ini cc q ls (.inl z :: st) G Q) : Ex d ret own ini cc pc ls (.inl y :: .inl x :: st) G Q := Ex.nx hd (by rfl) (by subst hq; subst hz; simp [stp, bi2, nxt]) h
theorem x_ishr {x y z : Int} (hd : decode cc pc = .ok (.ishr, 1)) (hq : pc + 1 = q) (hz : (Int32.ofInt x >>> (Int32.ofInt y &&& 31)).toInt = z) (h : Ex d ret own ini cc q ls (.inl z :: st) G Q) : Ex d ret own ini cc pc ls (.inl y :: .inl x :: st) G Q := Ex.nx hd (by rfl) (by subst hq; subst hz; simp [stp, bi2, nxt]) h
theorem x_idiv {x y z : Int} (hd : decode cc pc = .ok (.idiv, 1)) (hq : pc + 1 = q) (hy : ¬ y = 0) (hz : wr (x.tdiv y) = z) (h : Ex d ret own ini cc q ls (.inl z :: st) G Q) : Ex d ret own ini cc pc ls (.inl y :: .inl x :: st) G Q := Ex.nx hd (by rfl) (by subst hq; subst hz; simp [stp, bi2, nxt, hy]) h
theorem x_irem {x y z : Int} (hd : decode cc pc = .ok (.irem, 1)) (hq : pc + 1 = q) (hy : ¬ y = 0) (hz : x.tmod y = z) (h : Ex d ret own ini cc q ls (.inl z :: st) G Q) : Ex d ret own ini cc pc ls (.inl y :: .inl x :: st) G Q := Ex.nx hd (by rfl) (by subst hq; subst hz; simp [stp, bi2, nxt, hy]) h
theorem x_i2l {x : Int} (hd : decode cc pc = .ok (.i2l, 1)) (hq : pc + 1 = q)  (h : Ex d ret own ini cc q ls (.inr (.inl x) :: st) G Q) : Ex d ret own ini cc pc ls (.inl x :: st) G Q := Ex.nx hd (by rfl) (by subst hq; simp [stp, un1, nxt]) h
theorem x_l2i {x z : Int} (hd : decode cc pc = .ok (.l2i, 1)) (hq : pc + 1 = q) (hz : wr x = z) (h : Ex d ret own ini cc q ls (.inl z :: st) G Q) : Ex d ret own ini cc pc ls (.inr (.inl x) :: st) G Q := Ex.nx hd (by rfl) (by subst hq; subst hz; simp [stp, nxt]) h
theorem x_ladd {x y z : Int} (hd : decode cc pc = .ok (.ladd, 1)) (hq : pc + 1 = q) (hz : wl (x + y) = z) (h : Ex d ret own ini cc q ls (.inr (.inl z) :: st) G Q) : Ex d ret own ini cc pc ls (.inr (.inl y) :: .inr (.inl x) :: st) G Q := Ex.nx hd (by rfl) (by subst hq; subst hz; simp [stp, bl2, nxt]) h
theorem x_lmul {x y z : Int} (hd : decode cc pc = .ok (.lmul, 1)) (hq : pc + 1 = q) (hz : wl (x * y) = z) (h : Ex d ret own ini cc q ls (.inr (.inl z) :: st) G Q) : Ex d ret own ini cc pc ls (.inr (.inl y) :: .inr (.inl x) :: st) G Q := Ex.nx hd (by rfl) (by subst hq; subst hz; simp [stp, bl2, nxt]) h
theorem x_lrem {x y z : Int} (hd : decode cc pc = .ok (.lrem, 1)) (hq : pc + 1 = q) (hy : ¬ y = 0) (hz : x.tmod y = z) (h : Ex d ret own ini cc q ls (.inr (.inl z) :: st) G Q) : Ex d ret own ini cc pc ls (.inr (.inl y) :: .inr (.inl x) :: st) G Q := Ex.nx hd (by rfl) (by subst hq; subst hz; simp [stp, bl2, nxt, hy]) h
theorem x_lcmp {x y z : Int} (hd : decode cc pc = .ok (.lcmp, 1)) (hq : pc + 1 = q) (hz : (if x < y then (-1 : Int) else if x = y then 0 else 1) = z) (h : Ex d ret own ini cc q ls (.inl z :: st) G Q) : Ex d ret own ini cc pc ls (.inr (.inl y) :: .inr (.inl x) :: st) G Q := Ex.nx hd (by rfl) (by subst hq; subst hz; simp [stp, bl2, nxt]) h
theorem x_dup {v : V} (hd : decode cc pc = .ok (.dup, 1)) (hq : pc + 1 = q) (hv : vcat v = 1) (h : Ex d ret own ini cc q ls (v :: v :: st) G Q) : Ex d ret own ini cc pc ls (v :: st) G Q := Ex.nx hd (by rfl) (by subst hq; simp [stp, hv, nxt]) h
theorem x_dup2 {v w : V} (hd : decode cc pc = .ok (.dup2, 1)) (hq : pc + 1 = q) (hv : vcat v = 1) (hw : vcat w = 1) (h : Ex d ret own ini cc q ls (v :: w :: v :: w :: st) G Q) : Ex d ret own ini cc pc ls (v :: w :: st) G Q := Ex.nx hd (by rfl) (by subst hq; simp [stp, hv, hw, nxt]) h
theorem x_pop {v : V} (hd : decode cc pc = .ok (.pop, 1)) (hq : pc + 1 = q) (hv : vcat v = 1) (h : Ex d ret own ini cc q ls (st) G Q) : Ex d ret own ini cc pc ls (v :: st) G Q := Ex.nx hd (by rfl) (by subst hq; simp [stp, hv, nxt]) h
theorem gto_at {off : Int} (ht : (pc : Int) + off = (t : Int)) : gto pc off ls st G = some (.inl (t, ls, st, G)) := by
  have h0 : 0 ≤ (pc : Int) + off := by omega
  have h1 : ((pc : Int) + off).toNat = t := by omega
  simp [gto, h0, h1, nxt]
theorem x_goto {off : Int} (hd : decode cc pc = .ok (.goto off, 3)) (ht : (pc : Int) + off = (t : Int)) (h : Ex d ret own ini cc t ls st G Q) : Ex d ret own ini cc pc ls st G Q := Ex.nx hd (by rfl) (by simp only [stp]; exact gto_at ht) h
theorem x_icmp_eq {off x y : Int} (hd : decode cc pc = .ok (.if_icmp .eq off, 3)) (hq : pc + 3 = q) (ht : (pc : Int) + off = (t : Int)) (h1 : x = y → Ex d ret own ini cc t ls st G Q) (h2 : ¬ x = y → Ex d ret own ini cc q ls st G Q) : Ex d ret own ini cc pc ls (.inl y :: .inl x :: st) G Q := by
  have h0 : 0 ≤ (pc : Int) + off := by omega
  by_cases hc : x = y
  · exact Ex.nx hd (by rfl) (by simp only [stp, cmpI, decide_eq_true hc, if_pos h0, if_true]; exact gto_at ht) (h1 hc)
  · exact Ex.nx hd (by rfl) (by subst hq; simp only [stp, cmpI, decide_eq_false hc, if_pos h0]; rfl) (h2 (by omega))
theorem x_if_eq {off x : Int} (hd : decode cc pc = .ok (.ifCond .eq off, 3)) (hq : pc + 3 = q) (ht : (pc : Int) + off = (t : Int)) (h1 : x = 0 → Ex d ret own ini cc t ls st G Q) (h2 : ¬ x = 0 → Ex d ret own ini cc q ls st G Q) : Ex d ret own ini cc pc ls (.inl x :: st) G Q := by
  have h0 : 0 ≤ (pc : Int) + off := by omega
  by_cases hc : x = 0
  · exact Ex.nx hd (by rfl) (by simp only [stp, cmpI, decide_eq_true hc, if_pos h0, if_true]; exact gto_at ht) (h1 hc)
  · exact Ex.nx hd (by rfl) (by subst hq; simp only [stp, cmpI, decide_eq_false hc, if_pos h0]; rfl) (h2 (by omega))
theorem x_icmp_ne {off x y : Int} (hd : decode cc pc = .ok (.if_icmp .ne off, 3)) (hq : pc + 3 = q) (ht : (pc : Int) + off = (t : Int)) (h1 : ¬ x = y → Ex d ret own ini cc t ls st G Q) (h2 : x = y → Ex d ret own ini cc q ls st G Q) : Ex d ret own ini cc pc ls (.inl y :: .inl x :: st) G Q := by
  have h0 : 0 ≤ (pc : Int) + off := by omega
  by_cases hc : ¬ x = y
  · exact Ex.nx hd (by rfl) (by simp only [stp, cmpI, decide_eq_true hc, if_pos h0, if_true]; exact gto_at ht) (h1 hc)
  · exact Ex.nx hd (by rfl) (by subst hq; simp only [stp, cmpI, decide_eq_false hc, if_pos h0]; rfl) (h2 (by omega))
theorem x_if_ne {off x : Int} (hd : decode cc pc = .ok (.ifCond .ne off, 3)) (hq : pc + 3 = q) (ht : (pc : Int) + off = (t : Int)) (h1 : ¬ x = 0 → Ex d ret own ini cc t ls st G Q) (h2 : x = 0 → Ex d ret own ini cc q ls st G Q) : Ex d ret own ini cc pc ls (.inl x :: st) G Q := by
  have h0 : 0 ≤ (pc : Int) + off := by omega
  by_cases hc : ¬ x = 0
  · exact Ex.nx hd (by rfl) (by simp only [stp, cmpI, decide_eq_true hc, if_pos h0, if_true]; exact gto_at ht) (h1 hc)
  · exact Ex.nx hd (by rfl) (by subst hq; simp only [stp, cmpI, decide_eq_false hc, if_pos h0]; rfl) (h2 (by omega))
theorem x_icmp_lt {off x y : Int} (hd : decode cc pc = .ok (.if_icmp .lt off, 3)) (hq : pc + 3 = q) (ht : (pc : Int) + off = (t : Int)) (h1 : x < y → Ex d ret own ini cc t ls st G Q) (h2 : y ≤ x → Ex d ret own ini cc q ls st G Q) : Ex d ret own ini cc pc ls (.inl y :: .inl x :: st) G Q := by
  have h0 : 0 ≤ (pc : Int) + off := by omega
  by_cases hc : x < y
  · exact Ex.nx hd (by rfl) (by simp only [stp, cmpI, decide_eq_true hc, if_pos h0, if_true]; exact gto_at ht) (h1 hc)
  · exact Ex.nx hd (by rfl) (by subst hq; simp only [stp, cmpI, decide_eq_false hc, if_pos h0]; rfl) (h2 (by omega))
theorem x_if_lt {off x : Int} (hd : decode cc pc = .ok (.ifCond .lt off, 3)) (hq : pc + 3 = q) (ht : (pc : Int) + off = (t : Int)) (h1 : x < 0 → Ex d ret own ini cc t ls st G Q) (h2 : 0 ≤ x → Ex d ret own ini cc q ls st G Q) : Ex d ret own ini cc pc ls (.inl x :: st) G Q := by
  have h0 : 0 ≤ (pc : Int) + off := by omega
  by_cases hc : x < 0
  · exact Ex.nx hd (by rfl) (by simp only [stp, cmpI, decide_eq_true hc, if_pos h0, if_true]; exact gto_at ht) (h1 hc)
  · exact Ex.nx hd (by rfl) (by subst hq; simp only [stp, cmpI, decide_eq_false hc, if_pos h0]; rfl) (h2 (by omega))
theorem x_icmp_ge {off x y : Int} (hd : decode cc pc = .ok (.if_icmp .ge off, 3)) (hq : pc + 3 = q) (ht : (pc : Int) + off = (t : Int)) (h1 : y ≤ x → Ex d ret own ini cc t ls st G Q) (h2 : x < y → Ex d ret own ini cc q ls st G Q) : Ex d ret own ini cc pc ls (.inl y :: .inl x :: st) G Q := by
  have h0 : 0 ≤ (pc : Int) + off := by omega
  by_cases hc : y ≤ x
  · exact Ex.nx hd (by rfl) (by simp only [stp, cmpI, decide_eq_true hc, if_pos h0, if_true]; exact gto_at ht) (h1 hc)
  · exact Ex.nx hd (by rfl) (by subst hq; simp only [stp, cmpI, decide_eq_false hc, if_pos h0]; rfl) (h2 (by omega))
theorem x_if_ge {off x : Int} (hd : decode cc pc = .ok (.ifCond .ge off, 3)) (hq : pc + 3 = q) (ht : (pc : Int) + off = (t : Int)) (h1 : 0 ≤ x → Ex d ret own ini cc t ls st G Q) (h2 : x < 0 → Ex d ret own ini cc q ls st G Q) : Ex d ret own ini cc pc ls (.inl x :: st) G Q := by
  have h0 : 0 ≤ (pc : Int) + off := by omega
  by_cases hc : 0 ≤ x
  · exact Ex.nx hd (by rfl) (by simp only [stp, cmpI, decide_eq_true hc, if_pos h0, if_true]; exact gto_at ht) (h1 hc)
  · exact Ex.nx hd (by rfl) (by subst hq; simp only [stp, cmpI, decide_eq_false hc, if_pos h0]; rfl) (h2 (by omega))
theorem x_icmp_gt {off x y : Int} (hd : decode cc pc = .ok (.if_icmp .gt off, 3)) (hq : pc + 3 = q) (ht : (pc : Int) + off = (t : Int)) (h1 : y < x → Ex d ret own ini cc t ls st G Q) (h2 : x ≤ y → Ex d ret own ini cc q ls st G Q) : Ex d ret own ini cc pc ls (.inl y :: .inl x :: st) G Q := by
  have h0 : 0 ≤ (pc : Int) + off := by omega
  by_cases hc : y < x
  · exact Ex.nx hd (by rfl) (by simp only [stp, cmpI, decide_eq_true hc, if_pos h0, if_true]; exact gto_at ht) (h1 hc)
  · exact Ex.nx hd (by rfl) (by subst hq; simp only [stp, cmpI, decide_eq_false hc, if_pos h0]; rfl) (h2 (by omega))
theorem x_if_gt {off x : Int} (hd : decode cc pc = .ok (.ifCond .gt off, 3)) (hq : pc + 3 = q) (ht : (pc : Int) + off = (t : Int)) (h1 : 0 < x → Ex d ret own ini cc t ls st G Q) (h2 : x ≤ 0 → Ex d ret own ini cc q ls st G Q) : Ex d ret own ini cc pc ls (.inl x :: st) G Q := by
  have h0 : 0 ≤ (pc : Int) + off := by omega
  by_cases hc : 0 < x
  · exact Ex.nx hd (by rfl) (by simp only [stp, cmpI, decide_eq_true hc, if_pos h0, if_true]; exact gto_at ht) (h1 hc)
  · exact Ex.nx hd (by rfl) (by subst hq; simp only [stp, cmpI, decide_eq_false hc, if_pos h0]; rfl) (h2 (by omega))
theorem x_icmp_le {off x y : Int} (hd : decode cc pc = .ok (.if_icmp .le off, 3)) (hq : pc + 3 = q) (ht : (pc : Int) + off = (t : Int)) (h1 : x ≤ y → Ex d ret own ini cc t ls st G Q) (h2 : y < x → Ex d ret own ini cc q ls st G Q) : Ex d ret own ini cc pc ls (.inl y :: .inl x :: st) G Q := by
  have h0 : 0 ≤ (pc : Int) + off := by omega
  by_cases hc : x ≤ y
  · exact Ex.nx hd (by rfl) (by simp only [stp, cmpI, decide_eq_true hc, if_pos h0, if_true]; exact gto_at ht) (h1 hc)
  · exact Ex.nx hd (by rfl) (by subst hq; simp only [stp, cmpI, decide_eq_false hc, if_pos h0]; rfl) (h2 (by omega))
theorem x_if_le {off x : Int} (hd : decode cc pc = .ok (.ifCond .le off, 3)) (hq : pc + 3 = q) (ht : (pc : Int) + off = (t : Int)) (h1 : x ≤ 0 → Ex d ret own ini cc t ls st G Q) (h2 : 0 < x → Ex d ret own ini cc q ls st G Q) : Ex d ret own ini cc pc ls (.inl x :: st) G Q := by
  have h0 : 0 ≤ (pc : Int) + off := by omega
  by_cases hc : x ≤ 0
  · exact Ex.nx hd (by rfl) (by simp only [stp, cmpI, decide_eq_true hc, if_pos h0, if_true]; exact gto_at ht) (h1 hc)
  · exact Ex.nx hd (by rfl) (by subst hq; simp only [stp, cmpI, decide_eq_false hc, if_pos h0]; rfl) (h2 (by omega))
theorem x_ifnull {off : Int} {r : Option Nat} (hd : decode cc pc = .ok (.ifnull off, 3)) (hq : pc + 3 = q) (ht : (pc : Int) + off = (t : Int)) (h1 : r = none → Ex d ret own ini cc t ls st G Q) (h2 : ∀ a, r = some a → Ex d ret own ini cc q ls st G Q) : Ex d ret own ini cc pc ls (.inr (.inr r) :: st) G Q := by
  cases r with
  | none => exact Ex.nx hd (by rfl) (by simp only [stp]; exact gto_at ht) (h1 rfl)
  | some a => exact Ex.nx hd (by rfl) (by subst hq; simp [stp, nxt]) (h2 a rfl)
theorem x_ifnonnull {off : Int} {r : Option Nat} (hd : decode cc pc = .ok (.ifnonnull off, 3)) (hq : pc + 3 = q) (ht : (pc : Int) + off = (t : Int)) (h1 : ∀ a, r = some a → Ex d ret own ini cc t ls st G Q) (h2 : r = none → Ex d ret own ini cc q ls st G Q) : Ex d ret own ini cc pc ls (.inr (.inr r) :: st) G Q := by
  cases r with
  | none => exact Ex.nx hd (by rfl) (by subst hq; simp [stp, nxt]) (h2 rfl)
  | some a => exact Ex.nx hd (by rfl) (by simp only [stp]; exact gto_at ht) (h1 a rfl)
theorem x_acmp_eq {off : Int} {x y : Option Nat} (hd : decode cc pc = .ok (.if_acmp .eq off, 3)) (hq : pc + 3 = q) (ht : (pc : Int) + off = (t : Int)) (h1 : x = y → Ex d ret own ini cc t ls st G Q) (h2 : ¬ x = y → Ex d ret own ini cc q ls st G Q) : Ex d ret own ini cc pc ls (.inr (.inr y) :: .inr (.inr x) :: st) G Q := by
  have h0 : 0 ≤ (pc : Int) + off := by omega
  by_cases hc : x = y
  · exact Ex.nx hd (by rfl) (by simp only [stp, if_pos h0, hc, if_true]; exact gto_at ht) (h1 hc)
  · exact Ex.nx hd (by rfl) (by subst hq; simp only [stp, if_pos h0, hc, if_false]; rfl) (h2 hc)
theorem x_acmp_ne {off : Int} {x y : Option Nat} (hd : decode cc pc = .ok (.if_acmp .ne off, 3)) (hq : pc + 3 = q) (ht : (pc : Int) + off = (t : Int)) (h1 : ¬ x = y → Ex d ret own ini cc t ls st G Q) (h2 : x = y → Ex d ret own ini cc q ls st G Q) : Ex d ret own ini cc pc ls (.inr (.inr y) :: .inr (.inr x) :: st) G Q := by
  have h0 : 0 ≤ (pc : Int) + off := by omega
  by_cases hc : x = y
  · exact Ex.nx hd (by rfl) (by subst hq; simp only [stp, if_pos h0, hc, not_true_eq_false, if_false]; rfl) (h2 hc)
  · exact Ex.nx hd (by rfl) (by simp only [stp, if_pos h0, hc, not_false_eq_true, if_true]; exact gto_at ht) (h1 hc)
theorem x_tableIn {df lo hi off x : Int} {offs : Array Int} (hd : decode cc pc = .ok (.tableswitch df lo hi offs, n)) (h1 : lo ≤ x) (h2 : x ≤ hi) (ho : offs[(x - lo).toNat]? = some off) (ht : (pc : Int) + off = (t : Int)) (h : Ex d ret own ini cc t ls st G Q) : Ex d ret own ini cc pc ls (.inl x :: st) G Q := Ex.nx hd (by rfl) (by
  have hc : ¬ (x < lo ∨ hi < x) := by omega
  simp only [stp, hc, if_false, ho]; exact gto_at ht) h
theorem x_tableOut {df lo hi x : Int} {offs : Array Int} (hd : decode cc pc = .ok (.tableswitch df lo hi offs, n)) (h1 : x < lo ∨ hi < x) (ht : (pc : Int) + df = (t : Int)) (h : Ex d ret own ini cc t ls st G Q) : Ex d ret own ini cc pc ls (.inl x :: st) G Q := Ex.nx hd (by rfl) (by
  simp only [stp, h1, if_true]; exact gto_at ht) h
theorem x_lookup {df off x : Int} {ps : Array (Int × Int)} (hd : decode cc pc = .ok (.lookupswitch df ps, n)) (hp : (ps.toList.zip (ps.toList.drop 1)).all (fun (a, next) => a.1 < next.1) = true) (ho : Op.lookupswitch.offset ps.toList df x = off) (ht : (pc : Int) + off = (t : Int)) (h : Ex d ret own ini cc t ls st G Q) : Ex d ret own ini cc pc ls (.inl x :: st) G Q := Ex.nx hd (by rfl) (by
  simp only [stp, hp, if_true, ho]; exact gto_at ht) h
theorem x_getI {idx c a : Nat} {k : Int} (hd : decode cc pc = .ok (.getfield idx, 3)) (hq : pc + 3 = q) (hf : fres own idx = some (c, k)) (hr : isR c k.toNat = false) (ht : tg G a = c) (h : Ex d ret own ini cc q ls (.inl (iv G a k) :: st) G Q) : Ex d ret own ini cc pc ls (.inr (.inr (some a)) :: st) G Q := Ex.nx hd (by rfl) (by subst hq; simp [stp, getF, hf, hr, ht, nxt]) h
theorem x_getR {idx c a : Nat} {k : Int} (hd : decode cc pc = .ok (.getfield idx, 3)) (hq : pc + 3 = q) (hf : fres own idx = some (c, k)) (hr : isR c k.toNat = true) (ht : tg G a = c) (h : Ex d ret own ini cc q ls (.inr (.inr (rv G a k)) :: st) G Q) : Ex d ret own ini cc pc ls (.inr (.inr (some a)) :: st) G Q := Ex.nx hd (by rfl) (by subst hq; simp [stp, getF, hf, hr, ht, nxt]) h
theorem x_putI {idx c a : Nat} {k x : Int} (hd : decode cc pc = .ok (.putfield idx, 3)) (hq : pc + 3 = q) (hf : fres own idx = some (c, k)) (hr : isR c k.toNat = false) (hz : isZ c k.toNat = true → x = 0 ∨ x = 1) (hfi : (cT c k.toNat).2.2.2 = true → ini = true ∧ c = own) (ht : tg G a = c) (h : Ex d ret own ini cc q ls (st) (si G a k x) Q) : Ex d ret own ini cc pc ls (.inl x :: .inr (.inr (some a)) :: st) G Q := Ex.nx hd (by rfl) (by subst hq; simp only [stp, putF, hf]; rw [if_pos ⟨ht, hfi⟩]; rw [if_pos ⟨hr, hz⟩]; rfl) h
theorem x_putR {idx c a : Nat} {k : Int} {r : Option Nat} (hd : decode cc pc = .ok (.putfield idx, 3)) (hq : pc + 3 = q) (hf : fres own idx = some (c, k)) (hr : isR c k.toNat = true) (hfi : (cT c k.toNat).2.2.2 = true → ini = true ∧ c = own) (ht : tg G a = c) (h : Ex d ret own ini cc q ls (st) (sr G a k r) Q) : Ex d ret own ini cc pc ls (.inr (.inr r) :: .inr (.inr (some a)) :: st) G Q := Ex.nx hd (by rfl) (by subst hq; simp only [stp, putF, hf]; rw [if_pos ⟨ht, hfi⟩]; rw [if_pos hr]; rfl) h
theorem x_iaload {i : Int} {a : Nat} (hd : decode cc pc = .ok (.iaload, 1)) (hq : pc + 1 = q) (ht : tg G a = 20 ∨ tg G a = 30) (h0 : 0 ≤ i) (h1 : i < ln G a) (h : Ex d ret own ini cc q ls (.inl (iv G a i) :: st) G Q) : Ex d ret own ini cc pc ls (.inl i :: .inr (.inr (some a)) :: st) G Q := Ex.nx hd (by rfl) (by subst hq; simp only [stp, iald]; rw [if_pos ⟨ht, h0, h1⟩]; rfl) h
theorem x_aaload {i : Int} {a : Nat} (hd : decode cc pc = .ok (.aaload, 1)) (hq : pc + 1 = q) (ht : tg G a = 21 ∨ tg G a = 22) (h0 : 0 ≤ i) (h1 : i < ln G a) (h : Ex d ret own ini cc q ls (.inr (.inr (rv G a i)) :: st) G Q) : Ex d ret own ini cc pc ls (.inl i :: .inr (.inr (some a)) :: st) G Q := Ex.nx hd (by rfl) (by subst hq; simp only [stp, aald]; rw [if_pos ⟨ht, h0, h1⟩]; rfl) h
theorem x_iastore {i x : Int} {a : Nat} (hd : decode cc pc = .ok (.iastore, 1)) (hq : pc + 1 = q) (ht : tg G a = 20) (h0 : 0 ≤ i) (h1 : i < ln G a) (h : Ex d ret own ini cc q ls (st) (si G a i x) Q) : Ex d ret own ini cc pc ls (.inl x :: .inl i :: .inr (.inr (some a)) :: st) G Q := Ex.nx hd (by rfl) (by subst hq; simp only [stp, iast]; rw [if_pos ⟨ht, h0, h1⟩]; rfl) h
theorem x_aastore {i : Int} {a x : Nat} (hd : decode cc pc = .ok (.aastore, 1)) (hq : pc + 1 = q) (ht : (tg G a = 21 ∧ tg G x = 1) ∨ (tg G a = 22 ∧ tg G x = 7)) (h0 : 0 ≤ i) (h1 : i < ln G a) (h : Ex d ret own ini cc q ls (st) (sr G a i (some x)) Q) : Ex d ret own ini cc pc ls (.inr (.inr (some x)) :: .inl i :: .inr (.inr (some a)) :: st) G Q := Ex.nx hd (by rfl) (by subst hq; simp only [stp, aast]; rw [if_pos ⟨ht, h0, h1⟩]; rfl) h
theorem x_arraylength {a : Nat} (hd : decode cc pc = .ok (.arraylength, 1)) (hq : pc + 1 = q) (ht : tg G a = 20 ∨ tg G a = 30) (h : Ex d ret own ini cc q ls (.inl (ln G a) :: st) G Q) : Ex d ret own ini cc pc ls (.inr (.inr (some a)) :: st) G Q := Ex.nx hd (by rfl) (by subst hq; simp only [stp, alen]; rw [if_pos ht]; rfl) h
theorem x_newarray {x : Int} (hd : decode cc pc = .ok (.newarray .int, 2)) (hq : pc + 2 = q) (h0 : 0 ≤ x ∧ x ≤ 100000) (h : Ex d ret own ini cc q ls (.inr (.inr (some (sz G + 1))) :: st) (nw G 20 x x.toNat) Q) : Ex d ret own ini cc pc ls (.inl x :: st) G Q := Ex.nx hd (by rfl) (by subst hq; simp only [stp, newA]; rw [if_pos h0]; rfl) h
theorem x_anewC {x : Int} {k : Nat} (hd : decode cc pc = .ok (.anewarray k, 3)) (hq : pc + 3 = q) (hk : nres own k = some 1) (h0 : 0 ≤ x ∧ x ≤ 100000) (h : Ex d ret own ini cc q ls (.inr (.inr (some (sz G + 1))) :: st) (nw G 21 x x.toNat) Q) : Ex d ret own ini cc pc ls (.inl x :: st) G Q := Ex.nx hd (by rfl) (by subst hq; simp only [stp, hk, newA]; rw [if_pos h0]; rfl) h
theorem x_anewS {x : Int} {k : Nat} (hd : decode cc pc = .ok (.anewarray k, 3)) (hq : pc + 3 = q) (hk : nres own k = some 7) (h0 : 0 ≤ x ∧ x ≤ 100000) (h : Ex d ret own ini cc q ls (.inr (.inr (some (sz G + 1))) :: st) (nw G 22 x x.toNat) Q) : Ex d ret own ini cc pc ls (.inl x :: st) G Q := Ex.nx hd (by rfl) (by subst hq; simp only [stp, hk, newA]; rw [if_pos h0]; rfl) h
theorem x_new {k c : Nat} (hd : decode cc pc = .ok (.new k, 3)) (hq : pc + 3 = q) (hk : nres own k = some c) (h : Ex d ret own ini cc q ls (.inr (.inr (some (sz G + 1))) :: st) (nw G c 0 (cN c)) Q) : Ex d ret own ini cc pc ls (st) G Q := Ex.nx hd (by rfl) (by subst hq; simp only [stp, newO, hk]; rfl) h
theorem x_invV {idx mid c na nL a : Nat} {y : MethodName} {cc' : ByteArray} {ret' : Option FieldType} {as rest : List V} {R : Option V → Hp → Prop} (hd : decode cc pc = .ok (.invokevirtual idx, 3)) (hq : pc + 3 = q) (hl : lres own idx = some (mid, 0)) (hm : mtab[mid]? = some (y, cc', nL, ret', c, 0, na)) (hst : st.drop na = .inr (.inr (some a)) :: rest) (has : .inr (.inr (some a)) :: (st.take na).reverse = as) (ht : tg G a = c) (hc : cats rest ≤ 8) (hC : CX d mid as G R) (h : ∀ r1 G1, R r1 G1 → Ex d ret own ini cc q ls (r1.toList ++ rest) G1 Q) : Ex d ret own ini cc pc ls st G Q := Ex.cl hd (by rfl) (by subst hq; simp only [stp, invV, hl, hm, hst]; rw [if_pos ⟨ht, hc⟩, has]) hC h
theorem x_invS {idx mid z c na nL : Nat} {y : MethodName} {cc' : ByteArray} {ret' : Option FieldType} {as rest : List V} {R : Option V → Hp → Prop} (hd : decode cc pc = .ok (.invokestatic idx, 3)) (hq : pc + 3 = q) (hl : lres own idx = some (mid, z)) (hm : mtab[mid]? = some (y, cc', nL, ret', c, 1, na)) (hst : st.drop na = rest) (has : (st.take na).reverse = as) (hna : na ≤ st.length) (hc : cats rest ≤ 8) (hC : CX d mid as G R) (h : ∀ r1 G1, R r1 G1 → Ex d ret own ini cc q ls (r1.toList ++ rest) G1 Q) : Ex d ret own ini cc pc ls st G Q := Ex.cl hd (by rfl) (by
  subst hq
  have hlt : mid < mtab.length := (List.getElem?_eq_some_iff.mp hm).1
  rw [mtab_len2] at hlt
  simp only [stp, invS, hl]
  split
  · rename_i e; cases e; omega
  · rename_i mid2 z2 _ e; cases e; simp only [hm]; rw [if_pos ⟨hna, by rw [hst]; exact hc⟩, has, hst]
  · rename_i e; exact absurd rfl (e mid z)) hC h
theorem x_invI {idx mid z c na nL a : Nat} {y : MethodName} {cc' : ByteArray} {ret' : Option FieldType} {as rest : List V} {R : Option V → Hp → Prop} (hd : decode cc pc = .ok (.invokespecial idx, 3)) (hq : pc + 3 = q) (hl : lres own idx = some (mid, z)) (hm : mtab[mid]? = some (y, cc', nL, ret', c, 2, na)) (hst : st.drop na = .inr (.inr (some a)) :: rest) (has : .inr (.inr (some a)) :: (st.take na).reverse = as) (hc : cats rest ≤ 8) (hC : CX d mid as G R) (h : ∀ r1 G1, R r1 G1 → Ex d ret own ini cc q ls (r1.toList ++ rest) G1 Q) : Ex d ret own ini cc pc ls st G Q := Ex.cl hd (by rfl) (by
  subst hq
  have hlt : mid < mtab.length := (List.getElem?_eq_some_iff.mp hm).1
  rw [mtab_len2] at hlt
  simp only [stp, invI, hl]
  split
  · rename_i e; cases e; omega
  · rename_i mid2 z2 _ e; cases e; simp only [hm, hst]; rw [if_pos hc, has]
  · rename_i e; exact absurd rfl (e mid z)) hC h
theorem x_objI {idx z a : Nat} (hd : decode cc pc = .ok (.invokespecial idx, 3)) (hq : pc + 3 = q) (hl : lres own idx = some (900, z)) (hc : cats st ≤ 8) (h : Ex d ret own ini cc q ls st G Q) : Ex d ret own ini cc pc ls (.inr (.inr (some a)) :: st) G Q := Ex.nx hd (by rfl) (by subst hq; simp only [stp, invI, hl]; rw [if_pos hc]; rfl) h
theorem x_copy {idx z a b : Nat} {sp dp m : Int} (hd : decode cc pc = .ok (.invokestatic idx, 3)) (hq : pc + 3 = q) (hl : lres own idx = some (901, z)) (h1 : tg G a = 20) (h2 : tg G b = 20) (h3 : 0 ≤ sp) (h4 : 0 ≤ dp) (h5 : 0 ≤ m) (h6 : sp + m ≤ ln G a) (h7 : dp + m ≤ ln G b) (hc : cats st ≤ 8) (h : Ex d ret own ini cc q ls st (cp G a sp b dp m) Q) : Ex d ret own ini cc pc ls (.inl m :: .inl dp :: .inr (.inr (some b)) :: .inl sp :: .inr (.inr (some a)) :: st) G Q := Ex.nx hd (by rfl) (by subst hq; simp only [stp, invS, hl]; rw [if_pos ⟨h1, h2, h3, h4, h5, h6, h7, hc⟩]; rfl) h
theorem x_iret {x : Int} (hd : decode cc pc = .ok (.ireturn, 1)) (hr : ret = some .int) (h : Q (some (.inl x)) G) : Ex d ret own ini cc pc ls [.inl x] G Q := Ex.rt hd (by rfl) (by subst hr; simp [stp]) h
theorem x_zret {x : Int} (hd : decode cc pc = .ok (.ireturn, 1)) (hr : ret = some .boolean) (hx : x = 0 ∨ x = 1) (h : Q (some (.inl x)) G) : Ex d ret own ini cc pc ls [.inl x] G Q := Ex.rt hd (by rfl) (by subst hr; simp [stp, hx]) h
theorem x_aret {C : String} {r : Option Nat} (hd : decode cc pc = .ok (.areturn, 1)) (hr : ret = some (.object C)) (h : Q (some (.inr (.inr r))) G) : Ex d ret own ini cc pc ls [.inr (.inr r)] G Q := Ex.rt hd (by rfl) (by subst hr; simp [stp]) h
theorem x_vret (hd : decode cc pc = .ok (.return_, 1)) (hr : ret = none) (h : Q none G) : Ex d ret own ini cc pc ls [] G Q := Ex.rt hd (by rfl) (by subst hr; simp [stp]) h
end XR
section MEM
variable (G : Hp) (a b : Nat) (j k v : Int) (r : Option Nat) (t w : Nat) (n : Int)
theorem iv_si : iv (si G a k v) b j = if b = a ∧ j = k then v else iv G b j := rfl
theorem iv_sr : iv (sr G a k r) b j = iv G b j := rfl
theorem rv_si : rv (si G a k v) b j = rv G b j := rfl
theorem rv_sr : rv (sr G a k r) b j = if b = a ∧ j = k then r else rv G b j := rfl
theorem tg_si : tg (si G a k v) b = tg G b := rfl
theorem tg_sr : tg (sr G a k r) b = tg G b := rfl
theorem ln_si : ln (si G a k v) b = ln G b := rfl
theorem ln_sr : ln (sr G a k r) b = ln G b := rfl
theorem sz_si : sz (si G a k v) = sz G := rfl
theorem sz_sr : sz (sr G a k r) = sz G := rfl
theorem sl_si : sl (si G a k v) = sl G := rfl
theorem sl_sr : sl (sr G a k r) = sl G := rfl
theorem tg_nw : tg (nw G t n w) b = if b = sz G + 1 then t else tg G b := rfl
theorem ln_nw : ln (nw G t n w) b = if b = sz G + 1 then n else ln G b := rfl
theorem iv_nw : iv (nw G t n w) b j = if b = sz G + 1 then 0 else iv G b j := rfl
theorem rv_nw : rv (nw G t n w) b j = if b = sz G + 1 then none else rv G b j := rfl
theorem sz_nw : sz (nw G t n w) = sz G + 1 := rfl
theorem sl_nw : sl (nw G t n w) = sl G + w := rfl
theorem iv_cp (sp dp m : Int) (c : Nat) : iv (cp G a sp b dp m) c j = if c = b ∧ dp ≤ j ∧ j < dp + m then iv G a (sp + (j - dp)) else iv G c j := rfl
theorem rv_cp (sp dp m : Int) (c : Nat) : rv (cp G a sp b dp m) c j = rv G c j := rfl
theorem tg_cp (sp dp m : Int) (c : Nat) : tg (cp G a sp b dp m) c = tg G c := rfl
theorem ln_cp (sp dp m : Int) (c : Nat) : ln (cp G a sp b dp m) c = ln G c := rfl
theorem sz_cp (sp dp m : Int) : sz (cp G a sp b dp m) = sz G := rfl
theorem sl_cp (sp dp m : Int) : sl (cp G a sp b dp m) = sl G := rfl
end MEM
theorem wr_id {x : Int} (h : -2147483648 ≤ x ∧ x < 2147483648) : wr x = x := by
  unfold wr; rw [Int.bmod_def]; split <;> omega
theorem wl_id {x : Int} (h : -9223372036854775808 ≤ x ∧ x < 9223372036854775808) : wl x = x := by
  unfold wl; rw [Int.bmod_def]; split <;> omega
theorem wr_i32 (x : Int) : i32 (wr x) := by
  unfold i32 wr; rw [Int.bmod_def]; split <;> omega

theorem f_6_9 : fres 6 9 = some (6, 0) := by decide +kernel
theorem f_6_15 : fres 6 15 = some (6, 1) := by decide +kernel
theorem f_6_18 : fres 6 18 = some (6, 2) := by decide +kernel
theorem f_6_64 : fres 6 64 = some (6, 3) := by decide +kernel
theorem f_6_30 : fres 6 30 = some (6, 4) := by decide +kernel
theorem f_6_67 : fres 6 67 = some (6, 5) := by decide +kernel
theorem f_6_21 : fres 6 21 = some (6, 6) := by decide +kernel
theorem f_6_40 : fres 6 40 = some (6, 7) := by decide +kernel
theorem f_9_252 : fres 9 252 = some (6, 7) := by decide +kernel
theorem f_5_9 : fres 5 9 = some (5, 0) := by decide +kernel
theorem f_5_15 : fres 5 15 = some (5, 1) := by decide +kernel
theorem f_5_18 : fres 5 18 = some (5, 2) := by decide +kernel
theorem f_5_21 : fres 5 21 = some (5, 3) := by decide +kernel
theorem f_5_25 : fres 5 25 = some (5, 4) := by decide +kernel
theorem f_6_47 : fres 6 47 = some (5, 4) := by decide +kernel
theorem f_9_94 : fres 9 94 = some (5, 4) := by decide +kernel
theorem f_7_9 : fres 7 9 = some (7, 0) := by decide +kernel
theorem f_9_132 : fres 9 132 = some (7, 0) := by decide +kernel
theorem f_2_50 : fres 2 50 = some (7, 0) := by decide +kernel
theorem f_3_90 : fres 3 90 = some (7, 0) := by decide +kernel
theorem f_7_21 : fres 7 21 = some (7, 1) := by decide +kernel
theorem f_3_41 : fres 3 41 = some (7, 1) := by decide +kernel
theorem f_9_103 : fres 9 103 = some (7, 1) := by decide +kernel
theorem f_2_38 : fres 2 38 = some (7, 1) := by decide +kernel
theorem f_7_25 : fres 7 25 = some (7, 2) := by decide +kernel
theorem f_3_46 : fres 3 46 = some (7, 2) := by decide +kernel
theorem f_9_106 : fres 9 106 = some (7, 2) := by decide +kernel
theorem f_2_43 : fres 2 43 = some (7, 2) := by decide +kernel
theorem f_7_28 : fres 7 28 = some (7, 3) := by decide +kernel
theorem f_9_227 : fres 9 227 = some (7, 3) := by decide +kernel
theorem f_8_11 : fres 8 11 = some (8, 0) := by decide +kernel
theorem f_8_17 : fres 8 17 = some (8, 1) := by decide +kernel
theorem f_9_212 : fres 9 212 = some (8, 1) := by decide +kernel
theorem f_8_21 : fres 8 21 = some (8, 2) := by decide +kernel
theorem f_9_100 : fres 9 100 = some (8, 2) := by decide +kernel
theorem f_2_9 : fres 2 9 = some (2, 0) := by decide +kernel
theorem f_2_15 : fres 2 15 = some (2, 1) := by decide +kernel
theorem f_2_18 : fres 2 18 = some (2, 2) := by decide +kernel
theorem f_2_25 : fres 2 25 = some (2, 3) := by decide +kernel
theorem f_2_29 : fres 2 29 = some (2, 4) := by decide +kernel
theorem f_9_148 : fres 9 148 = some (2, 4) := by decide +kernel
theorem f_0_9 : fres 0 9 = some (0, 0) := by decide +kernel
theorem f_0_15 : fres 0 15 = some (0, 1) := by decide +kernel
theorem f_0_18 : fres 0 18 = some (0, 2) := by decide +kernel
theorem f_0_21 : fres 0 21 = some (0, 3) := by decide +kernel
theorem f_9_142 : fres 9 142 = some (0, 3) := by decide +kernel
theorem f_4_7 : fres 4 7 = some (4, 0) := by decide +kernel
theorem f_3_15 : fres 3 15 = some (3, 0) := by decide +kernel
theorem f_3_19 : fres 3 19 = some (3, 1) := by decide +kernel
theorem f_3_9 : fres 3 9 = some (3, 2) := by decide +kernel
theorem f_3_191 : fres 3 191 = some (3, 3) := by decide +kernel
theorem f_3_23 : fres 3 23 = some (3, 4) := by decide +kernel
theorem f_3_38 : fres 3 38 = some (3, 5) := by decide +kernel
theorem f_3_27 : fres 3 27 = some (3, 6) := by decide +kernel
theorem f_9_126 : fres 9 126 = some (3, 6) := by decide +kernel
theorem f_9_117 : fres 9 117 = some (3, 7) := by decide +kernel
theorem f_3_65 : fres 3 65 = some (3, 7) := by decide +kernel
theorem f_9_120 : fres 9 120 = some (3, 8) := by decide +kernel
theorem f_3_68 : fres 3 68 = some (3, 8) := by decide +kernel
theorem f_9_123 : fres 9 123 = some (3, 9) := by decide +kernel
theorem f_3_71 : fres 3 71 = some (3, 9) := by decide +kernel
theorem f_1_15 : fres 1 15 = some (1, 0) := by decide +kernel
theorem f_9_159 : fres 9 159 = some (1, 0) := by decide +kernel
theorem f_3_117 : fres 3 117 = some (1, 0) := by decide +kernel
theorem f_1_19 : fres 1 19 = some (1, 1) := by decide +kernel
theorem f_9_164 : fres 9 164 = some (1, 1) := by decide +kernel
theorem f_3_151 : fres 3 151 = some (1, 1) := by decide +kernel
theorem f_1_28 : fres 1 28 = some (1, 2) := by decide +kernel
theorem f_8_47 : fres 8 47 = some (1, 2) := by decide +kernel
theorem f_9_167 : fres 9 167 = some (1, 2) := by decide +kernel
theorem f_3_108 : fres 3 108 = some (1, 2) := by decide +kernel
theorem f_1_25 : fres 1 25 = some (1, 3) := by decide +kernel
theorem f_8_44 : fres 8 44 = some (1, 3) := by decide +kernel
theorem f_9_170 : fres 9 170 = some (1, 3) := by decide +kernel
theorem f_1_31 : fres 1 31 = some (1, 4) := by decide +kernel
theorem f_9_173 : fres 9 173 = some (1, 4) := by decide +kernel
theorem f_1_22 : fres 1 22 = some (1, 5) := by decide +kernel
theorem f_8_29 : fres 8 29 = some (1, 5) := by decide +kernel
theorem f_9_179 : fres 9 179 = some (1, 5) := by decide +kernel
theorem f_3_101 : fres 3 101 = some (1, 5) := by decide +kernel
theorem f_1_41 : fres 1 41 = some (1, 6) := by decide +kernel
theorem f_9_182 : fres 9 182 = some (1, 6) := by decide +kernel
theorem f_8_60 : fres 8 60 = some (1, 6) := by decide +kernel
theorem f_1_9 : fres 1 9 = some (1, 7) := by decide +kernel
theorem f_1_34 : fres 1 34 = some (1, 8) := by decide +kernel
theorem f_4_19 : fres 4 19 = some (1, 8) := by decide +kernel
theorem f_8_35 : fres 8 35 = some (1, 8) := by decide +kernel
theorem f_3_104 : fres 3 104 = some (1, 8) := by decide +kernel
theorem f_1_47 : fres 1 47 = some (1, 9) := by decide +kernel
theorem f_4_16 : fres 4 16 = some (1, 10) := by decide +kernel
theorem f_8_38 : fres 8 38 = some (1, 10) := by decide +kernel
theorem f_1_50 : fres 1 50 = some (1, 10) := by decide +kernel
theorem f_3_111 : fres 3 111 = some (1, 10) := by decide +kernel
theorem f_4_22 : fres 4 22 = some (1, 11) := by decide +kernel
theorem f_1_44 : fres 1 44 = some (1, 11) := by decide +kernel
theorem f_3_137 : fres 3 137 = some (1, 11) := by decide +kernel
theorem f_1_38 : fres 1 38 = some (1, 12) := by decide +kernel
theorem f_3_87 : fres 3 87 = some (1, 12) := by decide +kernel
theorem f_8_32 : fres 8 32 = some (1, 13) := by decide +kernel
theorem f_9_176 : fres 9 176 = some (1, 13) := by decide +kernel
theorem f_8_41 : fres 8 41 = some (1, 14) := by decide +kernel
theorem f_9_188 : fres 9 188 = some (1, 14) := by decide +kernel
theorem f_9_9 : fres 9 9 = some (9, 0) := by decide +kernel
theorem f_9_90 : fres 9 90 = some (9, 1) := by decide +kernel
theorem f_9_13 : fres 9 13 = some (9, 2) := by decide +kernel
theorem f_9_20 : fres 9 20 = some (9, 3) := by decide +kernel
theorem f_9_27 : fres 9 27 = some (9, 4) := by decide +kernel
theorem f_9_31 : fres 9 31 = some (9, 5) := by decide +kernel
theorem f_9_37 : fres 9 37 = some (9, 6) := by decide +kernel
theorem f_9_74 : fres 9 74 = some (9, 7) := by decide +kernel
theorem f_9_78 : fres 9 78 = some (9, 8) := by decide +kernel
theorem f_9_44 : fres 9 44 = some (9, 9) := by decide +kernel
theorem f_9_51 : fres 9 51 = some (9, 10) := by decide +kernel
theorem f_9_58 : fres 9 58 = some (9, 11) := by decide +kernel
theorem f_9_62 : fres 9 62 = some (9, 12) := by decide +kernel
theorem f_10_7 : fres 10 7 = some (10, 0) := by decide +kernel
theorem f_10_105 : fres 10 105 = some (10, 1) := by decide +kernel
theorem f_10_301 : fres 10 301 = some (10, 2) := by decide +kernel
theorem f_10_283 : fres 10 283 = some (10, 3) := by decide +kernel
theorem f_10_13 : fres 10 13 = some (10, 4) := by decide +kernel
theorem f_10_16 : fres 10 16 = some (10, 5) := by decide +kernel
theorem f_10_227 : fres 10 227 = some (10, 6) := by decide +kernel
theorem f_10_19 : fres 10 19 = some (10, 7) := by decide +kernel
theorem f_10_23 : fres 10 23 = some (10, 8) := by decide +kernel
theorem f_10_26 : fres 10 26 = some (10, 9) := by decide +kernel
theorem f_10_29 : fres 10 29 = some (10, 10) := by decide +kernel
theorem f_10_247 : fres 10 247 = some (10, 11) := by decide +kernel
theorem f_10_32 : fres 10 32 = some (10, 12) := by decide +kernel
theorem f_10_35 : fres 10 35 = some (10, 13) := by decide +kernel
theorem f_10_95 : fres 10 95 = some (10, 14) := by decide +kernel
theorem f_10_38 : fres 10 38 = some (10, 15) := by decide +kernel
theorem f_10_41 : fres 10 41 = some (10, 16) := by decide +kernel
theorem f_10_44 : fres 10 44 = some (10, 17) := by decide +kernel
theorem f_10_47 : fres 10 47 = some (10, 18) := by decide +kernel
theorem f_10_50 : fres 10 50 = some (10, 19) := by decide +kernel
theorem f_10_53 : fres 10 53 = some (10, 20) := by decide +kernel
theorem f_10_56 : fres 10 56 = some (10, 21) := by decide +kernel
theorem f_10_173 : fres 10 173 = some (10, 22) := by decide +kernel
theorem f_10_59 : fres 10 59 = some (10, 23) := by decide +kernel
theorem f_10_62 : fres 10 62 = some (10, 24) := by decide +kernel
theorem f_10_65 : fres 10 65 = some (10, 25) := by decide +kernel
theorem f_10_68 : fres 10 68 = some (10, 26) := by decide +kernel
theorem f_10_71 : fres 10 71 = some (10, 27) := by decide +kernel
theorem f_10_74 : fres 10 74 = some (10, 28) := by decide +kernel
theorem f_10_118 : fres 10 118 = some (10, 29) := by decide +kernel
theorem f_10_77 : fres 10 77 = some (10, 30) := by decide +kernel
theorem f_10_80 : fres 10 80 = some (10, 31) := by decide +kernel
theorem f_10_83 : fres 10 83 = some (10, 32) := by decide +kernel
theorem f_10_186 : fres 10 186 = some (10, 33) := by decide +kernel
theorem f_10_180 : fres 10 180 = some (10, 34) := by decide +kernel
theorem f_10_183 : fres 10 183 = some (10, 35) := by decide +kernel
theorem f_10_195 : fres 10 195 = some (10, 36) := by decide +kernel
theorem f_10_86 : fres 10 86 = some (10, 37) := by decide +kernel
theorem f_10_89 : fres 10 89 = some (10, 38) := by decide +kernel
theorem f_10_92 : fres 10 92 = some (10, 39) := by decide +kernel
theorem f_10_108 : fres 10 108 = some (10, 40) := by decide +kernel
theorem f_10_111 : fres 10 111 = some (10, 41) := by decide +kernel
theorem f_10_121 : fres 10 121 = some (10, 42) := by decide +kernel
theorem f_10_218 : fres 10 218 = some (10, 43) := by decide +kernel
theorem f_10_208 : fres 10 208 = some (10, 44) := by decide +kernel
theorem f_10_224 : fres 10 224 = some (10, 45) := by decide +kernel
theorem f_10_212 : fres 10 212 = some (10, 46) := by decide +kernel
theorem f_10_215 : fres 10 215 = some (10, 47) := by decide +kernel
theorem l_11_9 : lres 11 9 = some (80, 0) := by decide +kernel
theorem l_9_3 : lres 9 3 = some (900, 0) := by decide +kernel
theorem l_9_19 : lres 9 19 = some (56, 1) := by decide +kernel
theorem l_6_3 : lres 6 3 = some (900, 0) := by decide +kernel
theorem l_9_26 : lres 9 26 = some (46, 1) := by decide +kernel
theorem l_5_3 : lres 5 3 = some (900, 0) := by decide +kernel
theorem l_9_36 : lres 9 36 = some (68, 1) := by decide +kernel
theorem l_7_3 : lres 7 3 = some (900, 0) := by decide +kernel
theorem l_9_43 : lres 9 43 = some (71, 1) := by decide +kernel
theorem l_8_3 : lres 8 3 = some (900, 0) := by decide +kernel
theorem l_9_50 : lres 9 50 = some (17, 1) := by decide +kernel
theorem l_2_3 : lres 2 3 = some (900, 0) := by decide +kernel
theorem l_9_57 : lres 9 57 = some (0, 1) := by decide +kernel
theorem l_0_3 : lres 0 3 = some (900, 0) := by decide +kernel
theorem l_9_68 : lres 9 68 = some (43, 1) := by decide +kernel
theorem l_4_1 : lres 4 1 = some (900, 0) := by decide +kernel
theorem l_9_71 : lres 9 71 = some (23, 0) := by decide +kernel
theorem l_3_3 : lres 3 3 = some (900, 0) := by decide +kernel
theorem l_9_81 : lres 9 81 = some (101, 0) := by decide +kernel
theorem l_9_85 : lres 9 85 = some (102, 0) := by decide +kernel
theorem l_9_248 : lres 9 248 = some (57, 0) := by decide +kernel
theorem l_6_25 : lres 6 25 = some (47, 0) := by decide +kernel
theorem l_6_34 : lres 6 34 = some (165, 0) := by decide +kernel
theorem l_6_43 : lres 6 43 = some (58, 0) := by decide +kernel
theorem l_6_50 : lres 6 50 = some (59, 0) := by decide +kernel
theorem l_6_62 : lres 6 62 = some (48, 0) := by decide +kernel
theorem l_6_53 : lres 6 53 = some (61, 0) := by decide +kernel
theorem l_6_72 : lres 6 72 = some (67, 0) := by decide +kernel
theorem l_6_76 : lres 6 76 = some (65, 0) := by decide +kernel
theorem l_6_87 : lres 6 87 = some (50, 0) := by decide +kernel
theorem l_6_90 : lres 6 90 = some (66, 0) := by decide +kernel
theorem l_6_94 : lres 6 94 = some (51, 0) := by decide +kernel
theorem l_6_79 : lres 6 79 = some (64, 0) := by decide +kernel
theorem l_6_83 : lres 6 83 = some (62, 0) := by decide +kernel
theorem l_6_56 : lres 6 56 = some (63, 0) := by decide +kernel
theorem l_6_59 : lres 6 59 = some (60, 0) := by decide +kernel
theorem l_6_70 : lres 6 70 = some (49, 0) := by decide +kernel
theorem l_5_28 : lres 5 28 = some (50, 0) := by decide +kernel
theorem l_9_255 : lres 9 255 = some (103, 0) := by decide +kernel
theorem l_9_245 : lres 9 245 = some (21, 0) := by decide +kernel
theorem l_9_258 : lres 9 258 = some (24, 0) := by decide +kernel
theorem l_9_262 : lres 9 262 = some (28, 0) := by decide +kernel
theorem l_3_62 : lres 3 62 = some (40, 0) := by decide +kernel
theorem l_3_140 : lres 3 140 = some (39, 0) := by decide +kernel
theorem l_3_188 : lres 3 188 = some (45, 0) := by decide +kernel
theorem l_9_265 : lres 9 265 = some (25, 0) := by decide +kernel
theorem l_3_31 : lres 3 31 = some (30, 0) := by decide +kernel
theorem l_3_74 : lres 3 74 = some (44, 0) := by decide +kernel
theorem l_4_15 : lres 4 15 = some (6, 1) := by decide +kernel
theorem l_1_3 : lres 1 3 = some (900, 0) := by decide +kernel
theorem l_3_80 : lres 3 80 = some (7, 0) := by decide +kernel
theorem l_3_84 : lres 3 84 = some (33, 0) := by decide +kernel
theorem l_3_114 : lres 3 114 = some (8, 0) := by decide +kernel
theorem l_3_120 : lres 3 120 = some (53, 0) := by decide +kernel
theorem l_5_32 : lres 5 32 = some (52, 0) := by decide +kernel
theorem l_3_126 : lres 3 126 = some (54, 0) := by decide +kernel
theorem l_3_129 : lres 3 129 = some (34, 0) := by decide +kernel
theorem l_3_144 : lres 3 144 = some (55, 0) := by decide +kernel
theorem l_3_147 : lres 3 147 = some (41, 0) := by decide +kernel
theorem l_3_133 : lres 3 133 = some (42, 0) := by decide +kernel
theorem l_3_154 : lres 3 154 = some (36, 0) := by decide +kernel
theorem l_3_164 : lres 3 164 = some (163, 0) := by decide +kernel
theorem l_3_170 : lres 3 170 = some (11, 0) := by decide +kernel
theorem l_3_158 : lres 3 158 = some (37, 0) := by decide +kernel
theorem l_3_174 : lres 3 174 = some (52, 0) := by decide +kernel
theorem l_3_178 : lres 3 178 = some (10, 0) := by decide +kernel
theorem l_1_53 : lres 1 53 = some (12, 0) := by decide +kernel
theorem l_3_182 : lres 3 182 = some (38, 0) := by decide +kernel
theorem l_3_55 : lres 3 55 = some (31, 0) := by decide +kernel
theorem l_3_93 : lres 3 93 = some (13, 0) := by decide +kernel
theorem l_1_57 : lres 1 57 = some (165, 0) := by decide +kernel
theorem l_3_97 : lres 3 97 = some (32, 0) := by decide +kernel
theorem l_3_185 : lres 3 185 = some (9, 0) := by decide +kernel
theorem l_3_161 : lres 3 161 = some (35, 0) := by decide +kernel
theorem l_3_35 : lres 3 35 = some (29, 0) := by decide +kernel
theorem l_9_220 : lres 9 220 = some (72, 0) := by decide +kernel
theorem l_8_25 : lres 8 25 = some (73, 0) := by decide +kernel
theorem l_11_13 : lres 11 13 = some (81, 0) := by decide +kernel
theorem l_11_18 : lres 11 18 = some (82, 0) := by decide +kernel
theorem l_11_23 : lres 11 23 = some (83, 0) := by decide +kernel
theorem l_11_27 : lres 11 27 = some (84, 0) := by decide +kernel
theorem l_9_97 : lres 9 97 = some (76, 0) := by decide +kernel
theorem l_9_109 : lres 9 109 = some (105, 0) := by decide +kernel
theorem l_9_272 : lres 9 272 = some (26, 0) := by decide +kernel
theorem l_9_113 : lres 9 113 = some (106, 0) := by decide +kernel
theorem l_9_276 : lres 9 276 = some (15, 0) := by decide +kernel
theorem l_1_63 : lres 1 63 = some (16, 0) := by decide +kernel
theorem l_9_129 : lres 9 129 = some (77, 0) := by decide +kernel
theorem l_8_50 : lres 8 50 = some (164, 0) := by decide +kernel
theorem l_9_135 : lres 9 135 = some (78, 0) := by decide +kernel
theorem l_8_56 : lres 8 56 = some (13, 0) := by decide +kernel
theorem l_9_139 : lres 9 139 = some (79, 0) := by decide +kernel
theorem l_9_145 : lres 9 145 = some (107, 0) := by decide +kernel
theorem l_9_279 : lres 9 279 = some (3, 0) := by decide +kernel
theorem l_0_25 : lres 0 25 = some (2, 0) := by decide +kernel
theorem l_9_205 : lres 9 205 = some (52, 0) := by decide +kernel
theorem l_9_282 : lres 9 282 = some (4, 0) := by decide +kernel
theorem l_9_285 : lres 9 285 = some (5, 0) := by decide +kernel
theorem l_11_31 : lres 11 31 = some (85, 0) := by decide +kernel
theorem l_9_151 : lres 9 151 = some (98, 0) := by decide +kernel
theorem l_11_35 : lres 11 35 = some (86, 0) := by decide +kernel
theorem l_9_155 : lres 9 155 = some (74, 0) := by decide +kernel
theorem l_9_185 : lres 9 185 = some (14, 0) := by decide +kernel
theorem l_9_191 : lres 9 191 = some (13, 0) := by decide +kernel
theorem l_11_40 : lres 11 40 = some (87, 0) := by decide +kernel
theorem l_9_195 : lres 9 195 = some (75, 0) := by decide +kernel
theorem l_11_44 : lres 11 44 = some (88, 0) := by decide +kernel
theorem l_9_199 : lres 9 199 = some (99, 0) := by decide +kernel
theorem l_9_202 : lres 9 202 = some (104, 0) := by decide +kernel
theorem l_9_269 : lres 9 269 = some (18, 0) := by decide +kernel
theorem l_2_21 : lres 2 21 = some (20, 0) := by decide +kernel
theorem l_2_32 : lres 2 32 = some (165, 0) := by decide +kernel
theorem l_11_48 : lres 11 48 = some (89, 0) := by decide +kernel
theorem l_9_208 : lres 9 208 = some (19, 0) := by decide +kernel
theorem l_11_52 : lres 11 52 = some (90, 0) := by decide +kernel
theorem l_9_216 : lres 9 216 = some (27, 0) := by decide +kernel
theorem l_3_49 : lres 3 49 = some (12, 0) := by decide +kernel
theorem l_3_59 : lres 3 59 = some (28, 0) := by decide +kernel
theorem l_11_56 : lres 11 56 = some (91, 0) := by decide +kernel
theorem l_9_224 : lres 9 224 = some (70, 0) := by decide +kernel
theorem l_11_60 : lres 11 60 = some (92, 0) := by decide +kernel
theorem l_9_231 : lres 9 231 = some (22, 0) := by decide +kernel
theorem l_2_46 : lres 2 46 = some (98, 1) := by decide +kernel
theorem l_11_64 : lres 11 64 = some (93, 0) := by decide +kernel
theorem l_9_235 : lres 9 235 = some (1, 0) := by decide +kernel
theorem l_11_69 : lres 11 69 = some (94, 0) := by decide +kernel
theorem l_11_73 : lres 11 73 = some (95, 0) := by decide +kernel
theorem l_11_77 : lres 11 77 = some (96, 0) := by decide +kernel
theorem l_9_239 : lres 9 239 = some (100, 0) := by decide +kernel
theorem l_9_242 : lres 9 242 = some (69, 0) := by decide +kernel
theorem l_7_15 : lres 7 15 = some (901, 0) := by decide +kernel
theorem l_11_81 : lres 11 81 = some (97, 0) := by decide +kernel
theorem l_11_12 : lres 11 12 = some (108, 0) := by decide +kernel
theorem l_10_1 : lres 10 1 = some (900, 0) := by decide +kernel
theorem l_10_98 : lres 10 98 = some (131, 0) := by decide +kernel
theorem l_10_198 : lres 10 198 = some (124, 0) := by decide +kernel
theorem l_10_162 : lres 10 162 = some (123, 0) := by decide +kernel
theorem l_10_135 : lres 10 135 = some (116, 0) := by decide +kernel
theorem l_10_124 : lres 10 124 = some (113, 0) := by decide +kernel
theorem l_10_155 : lres 10 155 = some (118, 0) := by decide +kernel
theorem l_10_131 : lres 10 131 = some (109, 0) := by decide +kernel
theorem l_10_159 : lres 10 159 = some (120, 0) := by decide +kernel
theorem l_10_138 : lres 10 138 = some (119, 0) := by decide +kernel
theorem l_10_142 : lres 10 142 = some (122, 0) := by decide +kernel
theorem l_10_152 : lres 10 152 = some (115, 0) := by decide +kernel
theorem l_10_114 : lres 10 114 = some (114, 0) := by decide +kernel
theorem l_10_145 : lres 10 145 = some (121, 0) := by decide +kernel
theorem l_10_148 : lres 10 148 = some (117, 0) := by decide +kernel
theorem l_10_201 : lres 10 201 = some (129, 0) := by decide +kernel
theorem l_10_189 : lres 10 189 = some (127, 0) := by decide +kernel
theorem l_10_169 : lres 10 169 = some (126, 0) := by decide +kernel
theorem l_10_165 : lres 10 165 = some (110, 0) := by decide +kernel
theorem l_10_176 : lres 10 176 = some (125, 0) := by decide +kernel
theorem l_10_192 : lres 10 192 = some (128, 0) := by decide +kernel
theorem l_10_205 : lres 10 205 = some (130, 0) := by decide +kernel
theorem l_11_17 : lres 11 17 = some (138, 0) := by decide +kernel
theorem l_11_22 : lres 11 22 = some (139, 0) := by decide +kernel
theorem l_10_241 : lres 10 241 = some (136, 0) := by decide +kernel
theorem l_10_230 : lres 10 230 = some (134, 0) := by decide +kernel
theorem l_10_221 : lres 10 221 = some (133, 0) := by decide +kernel
theorem l_10_233 : lres 10 233 = some (135, 0) := by decide +kernel
theorem l_10_244 : lres 10 244 = some (137, 0) := by decide +kernel
theorem l_11_26 : lres 11 26 = some (140, 0) := by decide +kernel
theorem l_11_30 : lres 11 30 = some (146, 0) := by decide +kernel
theorem l_10_262 : lres 10 262 = some (132, 0) := by decide +kernel
theorem l_10_266 : lres 10 266 = some (145, 0) := by decide +kernel
theorem l_10_250 : lres 10 250 = some (141, 0) := by decide +kernel
theorem l_10_253 : lres 10 253 = some (142, 0) := by decide +kernel
theorem l_10_256 : lres 10 256 = some (143, 0) := by decide +kernel
theorem l_10_259 : lres 10 259 = some (144, 0) := by decide +kernel
theorem l_11_34 : lres 11 34 = some (147, 0) := by decide +kernel
theorem l_11_39 : lres 11 39 = some (150, 0) := by decide +kernel
theorem l_10_272 : lres 10 272 = some (148, 0) := by decide +kernel
theorem l_10_275 : lres 10 275 = some (149, 0) := by decide +kernel
theorem l_11_43 : lres 11 43 = some (151, 0) := by decide +kernel
theorem l_11_47 : lres 11 47 = some (152, 0) := by decide +kernel
theorem l_10_280 : lres 10 280 = some (112, 0) := by decide +kernel
theorem l_10_101 : lres 10 101 = some (111, 0) := by decide +kernel
theorem l_11_51 : lres 11 51 = some (153, 0) := by decide +kernel
theorem l_11_55 : lres 11 55 = some (154, 0) := by decide +kernel
theorem l_11_59 : lres 11 59 = some (156, 0) := by decide +kernel
theorem l_10_295 : lres 10 295 = some (155, 0) := by decide +kernel
theorem l_11_63 : lres 11 63 = some (157, 0) := by decide +kernel
theorem l_11_68 : lres 11 68 = some (158, 0) := by decide +kernel
theorem l_11_72 : lres 11 72 = some (159, 0) := by decide +kernel
theorem l_11_76 : lres 11 76 = some (160, 0) := by decide +kernel
theorem l_11_80 : lres 11 80 = some (161, 0) := by decide +kernel
theorem l_11_84 : lres 11 84 = some (162, 0) := by decide +kernel
theorem n_11_7 : nres 11 7 = some 9 := by decide +kernel
theorem n_9_17 : nres 9 17 = some 6 := by decide +kernel
theorem n_9_24 : nres 9 24 = some 5 := by decide +kernel
theorem n_9_34 : nres 9 34 = some 7 := by decide +kernel
theorem n_9_41 : nres 9 41 = some 8 := by decide +kernel
theorem n_8_9 : nres 8 9 = some 1 := by decide +kernel
theorem n_9_48 : nres 9 48 = some 2 := by decide +kernel
theorem n_9_55 : nres 9 55 = some 0 := by decide +kernel
theorem n_9_66 : nres 9 66 = some 4 := by decide +kernel
theorem n_9_69 : nres 9 69 = some 3 := by decide +kernel
theorem n_4_13 : nres 4 13 = some 1 := by decide +kernel
theorem n_11_10 : nres 11 10 = some 10 := by decide +kernel
theorem k_9_89 : kres 9 89 = some (-1000000002) := by decide +kernel
theorem k_9_93 : kres 9 93 = some (-1000000004) := by decide +kernel
theorem k_9_154 : kres 9 154 = some (-1000000001) := by decide +kernel
theorem k_7_31 : kres 7 31 = some (1103515245) := by decide +kernel
theorem k_7_32 : kres 7 32 = some (2147483647) := by decide +kernel
theorem k_7_33 : kres 7 33 = some (65536) := by decide +kernel
theorem k_9_230 : kres 9 230 = some (-1000000003) := by decide +kernel
theorem k_10_239 : kres 10 239 = some (-1000000002) := by decide +kernel
theorem k_10_240 : kres 10 240 = some (-1000000004) := by decide +kernel
theorem k_10_271 : kres 10 271 = some (-1000000001) := by decide +kernel
theorem k_10_292 : kres 10 292 = some (65536) := by decide +kernel
theorem k_10_300 : kres 10 300 = some (-1000000003) := by decide +kernel
theorem j_10_127 : jres 10 127 = some (48) := by decide +kernel
theorem j_10_129 : jres 10 129 = some (57) := by decide +kernel
theorem j_10_237 : jres 10 237 = some (255) := by decide +kernel
theorem j_10_269 : jres 10 269 = some (7) := by decide +kernel
theorem j_10_278 : jres 10 278 = some (996) := by decide +kernel
theorem j_10_293 : jres 10 293 = some (12) := by decide +kernel
theorem j_10_286 : jres 10 286 = some (1103515245) := by decide +kernel
theorem j_10_288 : jres 10 288 = some (12345) := by decide +kernel
theorem j_10_290 : jres 10 290 = some (2147483648) := by decide +kernel
theorem j_10_298 : jres 10 298 = some (16) := by decide +kernel
