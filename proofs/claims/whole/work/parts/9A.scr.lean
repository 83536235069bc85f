/-! THE SCRIPT is left as it is by every run -/
def Scr (G G' : Hp) : Prop := tg G' 0 = tg G 0 ∧ ln G' 0 = ln G 0 ∧ ∀ k, iv G' 0 k = iv G 0 k
theorem Scr.rf (G : Hp) : Scr G G := ⟨rfl, rfl, fun _ => rfl⟩
theorem Scr.trans {G G1 G2 : Hp} (h1 : Scr G G1) (h2 : Scr G1 G2) : Scr G G2 := ⟨h2.1.trans h1.1, h2.2.1.trans h1.2.1, fun k => (h2.2.2 k).trans (h1.2.2 k)⟩
theorem Scr_nw {G : Hp} {t w : Nat} {n : Int} : Scr G (nw G t n w) := ⟨by rw [tg_nw, if_neg (by omega)], by rw [ln_nw, if_neg (by omega)], fun k => by rw [iv_nw, if_neg (by omega)]⟩
theorem Scr_si {G : Hp} {a : Nat} {k v : Int} (ha : a ≠ 0) : Scr G (si G a k v) := ⟨rfl, rfl, fun j => by rw [iv_si, if_neg (fun z => ha z.1.symm)]⟩
theorem stp_scr {ret : Option FieldType} {own : Nat} {ini : Bool} {i : Instr} {pc q0 q : Nat} {ls ls' : Ls} {st st' : List V} {G G1 : Hp} (h30 : tg G 0 = 30) (h : stp ret own ini i pc q0 ls st G = some (.inl (q, ls', st', G1))) : Scr G G1 := by
  have same : ∀ {q2 : Nat} {l2 : Ls} {s2 : List V} {G2 : Hp}, G2 = G → (Sum.inl (q, ls', st', G1) : Ot) = .inl (q2, l2, s2, G2) → Scr G G1 := by
    intro q2 l2 s2 G2 e h
    cases h
    rw [e]
    exact Scr.rf G
  have ne : ∀ {a c : Nat}, tg G a = c → c ≠ 30 → a ≠ 0 := fun h1 h2 e => by rw [e, h30] at h1; exact h2 h1.symm
  cases i with
  | aload_n k | aload k | iload_n k | iload k | lload_n k | lload k =>
    obtain ⟨v, -, ho, -⟩ := ldv_spec h
    exact same rfl ho
  | istore_n k | istore k | astore_n k | astore k =>
    obtain ⟨v, st2, -, -, -, ho, -⟩ := stv_spec h
    exact same rfl ho
  | iadd | isub | imul | idiv | irem | iand | ior | ixor | ishl | ishr =>
    simp only [stp] at h
    obtain ⟨x, y, v, st2, -, -, ho⟩ := bi2_spec h
    exact same rfl ho
  | ladd | lmul | lrem | lcmp =>
    simp only [stp] at h
    obtain ⟨x, y, v, st2, -, -, ho⟩ := bl2_spec h
    exact same rfl ho
  | goto off =>
    obtain ⟨t, -, ho⟩ := gto_spec h
    exact same rfl ho
  | newarray ty =>
    cases ty with
    | int =>
      obtain ⟨n, st2, -, -, ho⟩ := newA_spec h
      cases ho
      exact Scr_nw
    | _ => simp [stp] at h
  | anewarray k =>
    simp only [stp] at h
    split at h
    · obtain ⟨n, st2, -, -, ho⟩ := newA_spec h
      cases ho
      exact Scr_nw
    · obtain ⟨n, st2, -, -, ho⟩ := newA_spec h
      cases ho
      exact Scr_nw
    · cases h
  | new k =>
    simp only [stp, newO] at h
    split at h
    · cases h; exact Scr_nw
    · cases h
  | putfield k =>
    simp only [stp, putF] at h
    split at h
    · rename_i c0 k0 v a st2 hf
      obtain ⟨-, hc0, hk0, hk1⟩ := g_field hf
      split at h
      · rename_i ht
        have ha := ne ht.1 (by omega)
        split at h
        · split at h
          · cases h; exact Scr_si ha
          · cases h
        · split at h
          · cases h; exact Scr.rf G
          · cases h
        · cases h
      · cases h
    · cases h
  | iastore =>
    simp only [stp, iast] at h
    split at h
    · split at h
      · rename_i hc
        have ha := ne hc.1 (by decide)
        cases h; exact Scr_si ha
      · cases h
    · cases h
  | invokestatic k =>
    simp only [stp, invS] at h
    split at h
    · split at h
      · split at h
        · rename_i hc
          have ha := ne hc.2.1 (by decide)
          cases h
          exact ⟨rfl, rfl, fun j => by rw [iv_cp, if_neg (fun z => ha z.1.symm)]⟩
        · cases h
      · cases h
    · (repeat' split at h) <;> cases h
    · cases h
  | if_acmp cd off =>
    cases cd <;> (simp only [stp, gto, nxt] at h; repeat' split at h) <;> first | (cases h; done) | (cases h; exact Scr.rf G)
  | iinc _ _ | iconst _ | bipush _ | sipush _ | lconst _ | ldc _ | ldc_w _ | ldc2_w _ | aconst_null | i2l | l2i | dup | dup2 | pop | ifCond _ _ | if_icmp _ _ | ifnull _ | ifnonnull _ | tableswitch _ _ _ _ | lookupswitch _ _ | getfield _ | iaload | aaload | aastore | arraylength | invokevirtual _ | invokespecial _ | ireturn | areturn | return_ =>
    simp only [stp, un1, pushI, getF, iald, aald, aast, alen, invV, invI, gto, nxt] at h
    (repeat' split at h) <;> first | (cases h; done) | (cases h; exact Scr.rf G)
  | _ => simp [stp] at h
theorem runR_scr {C : Nat → List V → Hp → Option V → Hp → Prop} (hC : ∀ mid as G r G', tg G 0 = 30 → C mid as G r G' → Scr G G') {ret : Option FieldType} {own : Nat} {ini : Bool} {cc : ByteArray} : ∀ (n pc : Nat) (ls : Ls) (st : List V) (G : Hp) (r : Option V) (G' : Hp), tg G 0 = 30 → runR C ret own ini cc n pc ls st G r G' → Scr G G' := by
  intro n
  induction n with
  | zero => intro pc ls st G r G' _ h; exact h.elim
  | succ n ih =>
    intro pc ls st G r G' h30 h
    simp only [runR] at h
    cases hd : decode cc pc with
    | error e => rw [hd] at h; exact h.elim
    | ok x =>
      obtain ⟨i, len⟩ := x
      rw [hd] at h
      dsimp only at h
      replace h := h.2
      cases hs : stp ret own ini i pc (pc + len) ls st G with
      | none => rw [hs] at h; exact h.elim
      | some o =>
        rw [hs] at h
        rcases o with ⟨q, ls', st', G1⟩ | ⟨mid, as, q, rest⟩ | v
        · have h1 := stp_scr h30 hs
          exact h1.trans (ih _ _ _ _ _ _ (h1.1.trans h30) h)
        · obtain ⟨r1, G1, h1, h2⟩ := h
          have h3 := hC _ _ _ _ _ h30 h1
          exact h3.trans (ih _ _ _ _ _ _ (h3.1.trans h30) h2)
        · obtain ⟨rfl, rfl⟩ := h
          exact Scr.rf _
theorem Cal_scr : ∀ (d mid : Nat) (as : List V) (G : Hp) (r : Option V) (G' : Hp), tg G 0 = 30 → Cal d mid as G r G' → Scr G G' := by
  intro d
  induction d with
  | zero => intro mid as G r G' _ h; exact h.elim
  | succ d ih =>
    intro mid as G r G' h30 h
    simp only [Cal] at h
    cases hm : mtab[mid]? with
    | none => rw [hm] at h; exact h.elim
    | some x =>
      obtain ⟨y, cc, nL, ret, own, kind, na⟩ := x
      rw [hm] at h
      obtain ⟨-, n, h1⟩ := h
      exact runR_scr ih _ _ _ _ _ _ _ h30 h1
theorem CX.scr {d mid : Nat} {as : List V} {G : Hp} {Q : Option V → Hp → Prop} (h30 : tg G 0 = 30) (h : CX d mid as G Q) : CX d mid as G (fun r G' => Q r G' ∧ Scr G G') := by
  obtain ⟨r, G', h1, h2⟩ := h
  exact ⟨r, G', h1, h2, Cal_scr _ _ _ _ _ _ h30 h1⟩
/-- the class's words read only its own cells -/
theorem RC_Mo {n : Int} {s : Sg} {G G' : Hp} (h : RC n s G) (hm : Mo G G') : RC n s G' := by
  obtain ⟨hF, h2, ⟨pa, p1, p2, p3, p4, p5, p6⟩, ⟨k1, k2, k3, k4, k5, k6⟩, h5, ⟨t, fs, κ, c1, c2, c3, c4, c5, c6, c7, c8, c9, c10, c11, c12, c13, c14, c15, c16, c17, c18⟩⟩ := h
  have er : ∀ (a : Nat) (k : Int), rv G' a k = rv G a k := hm.1.2.2.1
  have ei : ∀ (a : Nat) (k : Int), (a < 35 ∨ 62 < a) → iv G' a k = iv G a k := hm.2
  have hsz : sz G' = sz G := hm.1.2.2.2.1
  have hsl : sl G' = sl G := hm.1.2.2.2.2
  have hCO : ∀ b, CO G b → CO G' b := fun b hb => ⟨(hm.1.1 b).trans hb.1, (er b 7).trans hb.2.1, (hm.1.1 _).trans hb.2.2.1, (hm.1.2.1 _).trans hb.2.2.2⟩
  have e29 : ∀ k, iv G' 29 k = iv G 29 k := fun k => ei 29 k (by omega)
  have e31 : ∀ k, iv G' 31 k = iv G 31 k := fun k => ei 31 k (by omega)
  refine ⟨FX_Io hF hm.1, RCt_k h2 (fun k => ei 2 k (by omega)) (ei 1 1 (by omega)) (ei 1 2 (by omega)), ⟨pa, p1, by rw [er]; exact p2, by rw [er]; exact p3, by rw [er]; exact p4, by rw [er]; exact p5, RdOk_k p6 (fun a k a0 a1 => ei a k (by omega))⟩, ⟨fun k k0 k9 => (ei 16 k (by omega)).trans (k1 k k0 k9), (ei _ _ (by omega)).trans k2, (ei _ _ (by omega)).trans k3, (ei _ _ (by omega)).trans k4, RCd_k k5 (fun a k a0 a1 => ei a k (by omega)), ⟨fun j j0 j1 => ?_, fun a => by rw [er, er]; exact k6.2 a⟩⟩, RCb_k h5 (ei _ _ (by omega)) (fun k => ei _ k (by omega)) (fun k => ei _ k (by omega)) (fun k => ei _ k (by omega)), t, fs, κ, c1, ?_, by rw [er]; exact c3, by rw [ei 17 2 (by omega)]; exact c4, IA_kept _ _ c5 (fun j _ _ => er 18 j) (fun e he => ?_), ?_, fun b hb => ⟨hCO b (c7 b hb).1, (c7 b hb).2.1, by rw [hsz]; exact (c7 b hb).2.2⟩, c8, ⟨by rw [e29]; exact c9.1, by rw [e29]; exact c9.2.1, by rw [e29]; exact c9.2.2.1, by rw [e29]; exact c9.2.2.2⟩, ⟨by rw [e31]; exact c10.1, by rw [e31]; exact c10.2.1, by rw [e31]; exact c10.2.2.1, by rw [e31]; exact c10.2.2.2⟩, by rw [e29]; exact c11, by rw [e31]; exact c12, by rw [e29]; exact c13, by rw [e31]; exact c14, by rw [hsz]; exact c15, c16, by rw [hsz]; exact c17, by rw [hsl]; exact c18⟩
  · have hk := k6.1 j j0 j1
    cases hq' : s.2.2.1.2.2.1 j with
    | none => rw [hq'] at hk; dsimp only at hk ⊢; rw [er]; exact hk
    | some q =>
      rw [hq'] at hk
      obtain ⟨a, a1, g1, g2, g3, g4, g5, g6, g7, g8, g9, g10⟩ := hk
      exact ⟨a, by rw [er]; exact a1, g1, by rw [hsz]; exact g2, (hm.1.1 a).trans g3, (er a 0).trans g4, (hm.1.1 _).trans g5, (hm.1.2.1 _).trans g6, (ei _ 1 (by omega)).trans g7, (ei _ 2 (by omega)).trans g8, (ei _ 3 (by omega)).trans g9, fun k k0 k1 => (ei _ k (by omega)).trans (g10 k k0 k1)⟩
  · rw [e29]
    exact TA_same _ _ t c2 (fun b hb => by
      have ob := c7 b (List.mem_append_left _ hb)
      have hne : b ≠ 34 := fun e => by have := ob.2.1; omega
      exact ⟨hCO b ob.1, fun k => ei b k (by omega), fun k => er b k, fun k => ei _ k (by omega)⟩)
  · have hm' : nAd e.1 ∈ adL 6 t := by rw [← inf_adr 6 1 0 (-1) t]; exact List.mem_map.mpr ⟨e, he, rfl⟩
    have := (c7 _ (List.mem_append_left _ hm')).2.1
    exact ⟨ei _ 13 (by omega), ei _ 14 (by omega)⟩
  · rw [er]; exact Chn_kept _ _ c6 (fun b _ => er b 10)
