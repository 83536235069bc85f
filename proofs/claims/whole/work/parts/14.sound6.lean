/-! SOUNDNESS, sixth part: a run of the abstract machine is a run of the machine; methods; the law -/
section RS
variable {p : Program} {l : Launch} {e : Env} {R : Room} {s : State} {m : MethodId} {args : Array Value} {below : List Frame} {meth : Method} {c : Code} {Q : State → Prop}
variable {E : Ev} {L : Nat} {xs : Nat → Int32} {cc : ByteArray} {own nL : Nat} {ini : Bool} {d : Nat} {ret : Option FieldType}
theorem snd_run (hx : Ctx E L xs p s m args meth c cc own nL ini) (hC : ∀ mid as G r G', Cal d mid as G r G' → gwf L xs G → (∀ v ∈ as, vok v) → MetA l E L xs d mid as G r G') (hRf : d + 1 ≤ R.frames) (hRl : 64 * (d + 1) ≤ R.locals) {rF : Option V} {GF : Hp} {k0 n0 : Nat} (hRc : sz GF - k0 ≤ R.cells) (hRs : sl GF - n0 ≤ R.slots)
    (hI : ∀ (x : Int) (pc : Nat) (arr : Array Slot) (H : Heap) (locs : List Loc), rF = some (.inl x) → i32 x → decode cc pc = .ok (.ireturn, 1) → (ret = some .int ∨ (ret = some .boolean ∧ (x = 0 ∨ x = 1))) → gwf L xs GF → rep E GF H → va_S (Av E) s.heap H locs → W p l e R s m args below meth c H locs (sz GF - k0) (sl GF - n0) Q (F0 m pc arr [.int (Int32.ofInt x)]))
    (hA : ∀ (r : Option Nat) (C : String) (pc : Nat) (arr : Array Slot) (H : Heap) (locs : List Loc), rF = some (.inr (.inr r)) → decode cc pc = .ok (.areturn, 1) → ret = some (.object C) → gwf L xs GF → rep E GF H → va_S (Av E) s.heap H locs → W p l e R s m args below meth c H locs (sz GF - k0) (sl GF - n0) Q (F0 m pc arr [va_rf (r.map (adr E))]))
    (hV : ∀ (pc : Nat) (arr : Array Slot) (H : Heap) (locs : List Loc), rF = none → decode cc pc = .ok (.return_, 1) → ret = none → gwf L xs GF → rep E GF H → va_S (Av E) s.heap H locs → W p l e R s m args below meth c H locs (sz GF - k0) (sl GF - n0) Q (F0 m pc arr [])) :
    ∀ (n pc : Nat) (ls : Ls) (st : List V) (G : Hp), runR (Cal d) ret own ini cc n pc ls st G rF GF → gwf L xs G → (∀ v ∈ st, vok v) → (∀ (k : Nat) (v : V), ls[k]? = some (some v) → vok v) → k0 ≤ sz G → n0 ≤ sl G → ∀ (arr : Array Slot) (H : Heap) (locs : List Loc), lsOk E arr nL ls → rep E G H → va_S (Av E) s.heap H locs → W p l e R s m args below meth c H locs (sz G - k0) (sl G - n0) Q (F0 m pc arr (st.map (vv E))) := by
  intro n
  induction n with
  | zero => intro pc ls st G h; exact h.elim
  | succ n ih =>
    intro pc ls st G h hg hv hl hk hn arr H locs ha hr hS
    simp only [runR] at h
    cases hd : decode cc pc with
    | error e => rw [hd] at h; exact h.elim
    | ok x =>
      obtain ⟨i, len⟩ := x
      rw [hd] at h
      dsimp only at h
      obtain ⟨hlen, h⟩ := h
      cases hs : stp ret own ini i pc (pc + len) ls st G with
      | none => rw [hs] at h; exact h.elim
      | some o =>
        rw [hs] at h
        rcases o with ⟨q, ls', st', G1⟩ | ⟨mid, as, q, rest⟩ | v
        · have h1 := stp_mono hs
          have h2 := runR_szmono (Cal_szmono d) _ _ _ _ _ _ _ h
          refine snd_step hx hd hlen hs hg hv hl ha hr hS (by omega) (by omega) (by omega) (by omega) ?_
          intro g1 g2 g3 g4 g5 arr' H' locs' g6 g7 g8
          have := ih q ls' st' G1 h g1 g2 g3 (by omega) (by omega) arr' H' locs' g6 g7 g8
          rw [show sz G - k0 + (sz G1 - sz G) = sz G1 - k0 from by omega, show sl G - n0 + (sl G1 - sl G) = sl G1 - n0 from by omega]
          exact this
        · obtain ⟨r1, G1, h1, h2⟩ := h
          have m1 := Cal_szmono _ _ _ _ _ _ h1
          have m2 := runR_szmono (Cal_szmono d) _ _ _ _ _ _ _ h2
          have has : ∀ v ∈ as, vok v := call_args hs hv
          refine snd_call hx hRf hRl hd hlen hs hg hv ha hr hS (hC _ _ _ _ _ h1 hg has) ?_ (by omega) (by omega) ?_
          · intro y cc' nL' ret' own' kind na hm h11
            exact call_law hs hm h11
          · intro g1 g2 H' locs' g7 g8
            have := ih q ls (r1.toList ++ rest) G1 h2 g1 g2 hl (by omega) (by omega) arr H' locs' ha g7 g8
            rw [show sz G - k0 + (sz G1 - sz G) = sz G1 - k0 from by omega, show sl G - n0 + (sl G1 - sl G) = sl G1 - n0 from by omega]
            exact this
        · obtain ⟨rfl, rfl⟩ := h
          rcases stp_ret hs with ⟨x, rfl, rfl, hv1, hrt⟩ | ⟨r, C, rfl, rfl, hv1, hrt⟩ | ⟨rfl, rfl, hv1, hrt⟩
          · obtain rfl : len = 1 := by simpa [lenOk] using hlen
            exact hI x pc arr H locs hv1 (hv _ List.mem_cons_self) hd hrt hg hr hS
          · obtain rfl : len = 1 := by simpa [lenOk] using hlen
            exact hA r C pc arr H locs hv1 hd hrt hg hr hS
          · obtain rfl : len = 1 := by simpa [lenOk] using hlen
            exact hV pc arr H locs hv1 hd hrt hg hr hS
end RS
theorem snd_met (l : Launch) (E : Ev) (L : Nat) (xs : Nat → Int32) : ∀ (d mid : Nat) (as : List V) (G : Hp) (r : Option V) (G' : Hp), Cal d mid as G r G' → gwf L xs G → (∀ v ∈ as, vok v) → MetA l E L xs d mid as G r G' := by
  intro d
  induction d with
  | zero => intro mid as G r G' h; exact h.elim
  | succ d ih =>
    intro mid as G r G' h hg has y cc nL ret own kind na hm h11
    simp only [Cal, hm] at h
    obtain ⟨hal, n, hrun⟩ := h
    obtain ⟨m1, m2, m3, m4, m5, m6, m7, m8, m9, m10, m11⟩ := (m_ok hm).resolve_left h11
    refine Met.ofWF (cc := cc) (maxL := nL) (ret := ret) m6 rfl ?_
    intro p e s m args below meth c s₁ B hml hv
    obtain ⟨rfl, hr, hK, ⟨hX, hb⟩, hN⟩ := hv
    have hts0 := atoms_spec (ws := wsM y cc nL ret) B.pre
    have hts : ∀ w ∈ gtbl, w.before (as.map (vv E)).toArray s = true := fun w hw => hts0 w (List.mem_cons_of_mem _ hw)
    have hown : s.vm.findClass (cn own) = some m.cls := by rw [← m5]; exact findClass_of_methodNamed B.named
    have hlocks := B.notSynchronized
    have hB : E.1.1 ≤ s.heap.size := by rw [hr.1]; exact Nat.le_add_right _ _
    have hini : (kind == 2) = true → meth.name = "<init>" := by
      intro hk
      have hk : kind = 2 := by simpa using hk
      rw [(name_of_methodNamed B.named B.method).1]
      exact (m11 hk).1
    have hx : Ctx E L xs p s m (as.map (vv E)).toArray meth c cc own nL (kind == 2) := ⟨B.exec, B.bytes, hml, hown, hts, hK, ⟨hX, hb, hB⟩, hN, hini⟩
    have hmono := runR_szmono (Cal_szmono d) _ _ _ _ _ _ _ hrun
    rw [lg_entry_eq]
    have hS : va_S (Av E) s.heap s.heap [] := va_S.rf
    have hlen : (lg_sl (as.map (vv E))).length ≤ nL := by rw [← sl1_len]; exact hal
    have W0 := snd_run (l := l) (e := e) (below := below) (R := (headSpec (wsM y cc nL ret) (rmm (d + 1) (sz G' - sz G) (sl G' - sl G))).room) (Q := MQ below (QA E L xs r G') (as.map (vv E)).toArray s (sz G' - sz G) (sl G' - sl G) (Av E)) hx ih (Nat.le_refl _) (Nat.le_refl _) (rF := r) (GF := G') (k0 := sz G) (n0 := sl G) (Nat.le_refl _) (Nat.le_refl _)
      (by
        intro x pc arr H locs hrx hix hd hrt hg' hr' hS'
        subst hrx
        rcases hrt with hrt | ⟨hrt, hx01⟩
        · exact W.iret B.exec B.bytes (by rw [B.returns]; exact hrt) (fun t ht hW => ⟨⟨Int32.ofInt x, (), rfl, ⟨rfl, hix⟩, by rw [ht]; exact hr', hg'⟩, hS'.F ht⟩) hS'.2.2 hd
        · exact W.zret (ty := .boolean) B.exec B.bytes (by rw [B.returns]; exact hrt) (by rcases hx01 with rfl | rfl <;> decide) (fun t ht hW => ⟨⟨Int32.ofInt x, (), rfl, ⟨rfl, hix⟩, by rw [ht]; exact hr', hg'⟩, hS'.F ht⟩) hS'.2.2 hd)
      (by
        intro o C pc arr H locs hrx hd hrt hg' hr' hS'
        subst hrx
        exact W.aret (rt := .object C) B.exec B.bytes (by rw [B.returns]; exact hrt) (Or.inl ⟨_, rfl⟩) (by cases o with
          | none => exact Or.inl rfl
          | some a => exact Or.inr ⟨_, rfl⟩) (fun t ht hW => ⟨⟨o.map (adr E), (), rfl, rfl, by rw [ht]; exact hr', hg'⟩, hS'.F ht⟩) hS'.2.2 hd)
      (by
        intro pc arr H locs hrx hd hrt hg' hr' hS'
        subst hrx
        exact W.vret B.exec B.bytes (by rw [B.returns]; exact hrt) (fun t ht hW => ⟨⟨(), rfl, trivial, by rw [ht]; exact hr', hg'⟩, hS'.F ht⟩) hS'.2.2 hd)
      n 0 (entr as nL) [] G hrun hg (fun v h => by cases h) (vok_entr has) (Nat.le_refl _) (Nat.le_refl _) _ s.heap [] (lsOk_entr hlen) hr hS
    rw [Nat.sub_self, Nat.sub_self] at W0
    exact W0
