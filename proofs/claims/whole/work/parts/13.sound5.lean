/-! SOUNDNESS, fifth part: a call of the abstract machine is a call of the machine -/
section CS
variable {p : Program} {l : Launch} {e : Env} {R : Room} {s : State} {m : MethodId} {args : Array Value} {below : List Frame} {meth : Method} {c : Code} {H : Heap} {locs : List Loc} {cells slots : Nat} {Q : State → Prop}
variable {E : Ev} {L : Nat} {xs : Nat → Int32} {cc : ByteArray} {own nL : Nat} {ini : Bool} {pc : Nat} {arr : Array Slot} {G G1 : Hp} {d : Nat}
/-- behind a call, by what it answers -/
theorem snd_after {r1 : Option V} {rest : List V} {av : Array Value} {mc ms : Nat} {st0 : List Value} (hS : va_S (Av E) s.heap H locs)
    (hr : va_Run p l e R s m args below meth c H locs cells slots mc ms (F0 m pc arr st0) (rest.map (vv E)) (QA E L xs r1 G1 av) (Av E))
    (kk : gwf L xs G1 → (∀ v ∈ r1.toList, vok v) → ∀ H' locs', rep E G1 H' → va_S (Av E) s.heap H' locs' → W p l e R s m args below meth c H' locs' (cells + mc) (slots + ms) Q (F0 m (pc + 3) arr ((r1.toList ++ rest).map (vv E)))) : W p l e R s m args below meth c H locs cells slots Q (F0 m pc arr st0) := by
  rcases r1 with _ | x | x | o
  · refine va_callv (a := av) hr hS (fun _ _ h => h) (fun _ h => h) (fun u t H1 locs1 ht hvm hw hB hz1 hk1 hS1 => ?_)
    rw [ht] at hB
    exact kk hB.2 (fun v h => by cases h) H1 locs1 hB.1 hS1
  · refine va_calli (a := av) hr hS (fun _ _ h => h) (fun _ h => h) (fun z u t H1 locs1 ht hvm hw hB hz1 hk1 hS1 => ?_)
    rw [ht] at hB
    rw [hw.1]
    exact kk hB.2 (fun v h => by rw [List.mem_singleton.mp h]; exact hw.2) H1 locs1 hB.1 hS1
  · intro T hT X
    obtain ⟨v, st₀, t, T', L', h0, X', hL, e1, e2, hq, st⟩ := hr T hT X
    exact hq.elim
  · refine va_callq (a := av) hr hS (fun _ _ h => h) (fun _ h => h) (fun z u t H1 locs1 ht hvm hw hB hz1 hk1 hS1 => ?_)
    rw [ht] at hB
    rw [hw]
    exact kk hB.2 (fun v h => by rw [List.mem_singleton.mp h]; exact trivial) H1 locs1 hB.1 hS1
theorem pre_warm (hx : Ctx E L xs p s m args meth c cc own nL ini) (hr : rep E G H) (hS : va_S (Av E) s.heap H locs) (av : List Value) : ∀ U : State, U.heap = H → s.WarmedH U.vm → va_Pc av (Pw E L xs G) av.toArray U := by
  obtain ⟨-, -, -, -, -, hK, ⟨hX, hb, hB⟩, ⟨hN, hA1, hA7⟩, -⟩ := hx
  intro U hU hW
  refine ⟨rfl, by rw [hU]; exact hr, va_K.moved hW.alike hK, ⟨va_X.moved hW.alike (by rw [hU]; exact hX.kept (hS.2.1 _ (by omega) (by unfold Av; omega))), hb⟩, fun q hq hz => va_Nw.warmM hW (hN q hq hz), va_AO.moved hW.alike hA1, va_AO.moved hW.alike hA7⟩
theorem snd_call (hx : Ctx E L xs p s m args meth c cc own nL ini) (hRf : d + 1 ≤ R.frames) (hRl : 64 * (d + 1) ≤ R.locals) {i : Instr} {len : Nat} {ret : Option FieldType} (hd : decode cc pc = .ok (i, len)) (hlen : lenOk i len = true) {ls : Ls} {st as rest : List V} {q mid : Nat} (hs : stp ret own ini i pc (pc + len) ls st G = some (.inr (.inl (mid, as, q, rest))))
    (hg : gwf L xs G) (hv : ∀ v ∈ st, vok v) (ha : lsOk E arr nL ls) (hr : rep E G H) (hS : va_S (Av E) s.heap H locs) {r1 : Option V} (hM : MetA l E L xs d mid as G r1 G1) (hnl : ∀ (y : MethodName) (cc' : ByteArray) (nL' : Nat) (ret' : Option FieldType) (own' kind na : Nat), mtab[mid]? = some (y, cc', nL', ret', own', kind, na) → own' ≠ 11) (hc1 : cells + (sz G1 - sz G) ≤ R.cells) (hc2 : slots + (sl G1 - sl G) ≤ R.slots)
    (kk : gwf L xs G1 → (∀ v ∈ r1.toList ++ rest, vok v) → ∀ H' locs', rep E G1 H' → va_S (Av E) s.heap H' locs' → W p l e R s m args below meth c H' locs' (cells + (sz G1 - sz G)) (slots + (sl G1 - sl G)) Q (F0 m q arr ((r1.toList ++ rest).map (vv E)))) : W p l e R s m args below meth c H locs cells slots Q (F0 m pc arr (st.map (vv E))) := by
  have hx' := hx
  obtain ⟨hexec, hb, hml, hown, hts, hK, -, ⟨hN, -⟩, -⟩ := hx'
  have S : CallFix p m c cc nL s args gtbl (cn own) := ⟨hexec, hb, hml, hown, hts⟩
  have app : (∀ v ∈ r1.toList, vok v) → (∀ v ∈ rest, vok v) → ∀ v ∈ r1.toList ++ rest, vok v := by
    intro h1 h2 v hv
    rcases List.mem_append.mp hv with h | h
    · exact h1 v h
    · exact h2 v h
  have drp : ∀ {n : Nat} {t : List V}, st.drop n = t → ∀ v ∈ t, vok v := by
    intro n t h v hv2
    exact hv v (List.mem_of_mem_drop (by rw [h]; exact hv2))
  have hroom : ∀ {nL' : Nat}, nL' ≤ 16 → (rmm d (sz G1 - sz G) (sl G1 - sl G)).frames + 1 ≤ R.frames ∧ 8 + (nL' + 11) + (rmm d (sz G1 - sz G) (sl G1 - sl G)).locals ≤ R.locals := by
    intro nL' h
    show d + 1 ≤ R.frames ∧ 8 + (nL' + 11) + 64 * d ≤ R.locals
    omega
  have split : ∀ (n : Nat), (st.map (vv E)) = (((st.take n).reverse).map (vv E)).reverse ++ (st.drop n).map (vv E) := by
    intro n
    rw [← List.map_reverse, List.reverse_reverse, ← List.map_append, List.take_append_drop]
  rcases stp_call hs with ⟨k, rfl, h⟩ | ⟨k, rfl, h⟩ | ⟨k, rfl, h⟩
  · obtain rfl : len = 3 := by simpa [lenOk] using hlen
    unfold invV at h
    split at h
    · rename_i mid0 hl
      split at h
      · rename_i y cc' nL' ret' own' na hm
        split at h
        · rename_i a rest0 hdr
          split at h
          · rename_i hc
            cases h
            have hn11 := hnl _ _ _ _ _ _ _ hm
            obtain ⟨m1, m2, m3, m4, m5, m6, m7, m8, m9, m10, m11⟩ := (m_ok hm).resolve_left hn11
            have hMet := hM _ _ _ _ _ _ _ hm hn11
            have hlink := (g_link hl).1
            rw [if_neg (by decide), myn_of hm] at hlink
            have hlen2 : na ≤ st.length := by
              rcases Nat.lt_or_ge st.length na with h | h
              · rw [List.drop_eq_nil_of_le (by omega)] at hdr; cases hdr
              · exact h
            have hc11 : own' < 11 := own_lt hm rfl
            obtain ⟨g1, g2⟩ := gwf_lt hg hc.1 (by omega)
            have hP := rep_at hr g1 g2
            rw [ent_obj hc.1 hc11] at hP
            have hrecv := va_recv hK hP (cl_at hc11) (q0 := 0) rfl
            have run := va_runV (l := l) (e := e) (below := below) (meth := meth) (H := H) (locs := locs) (cells := cells) (slots := slots) (b := adr E a) (As := ((st.take na).reverse).map (vv E)) (rest := rest.map (vv E)) (g := F0 m pc arr (st.map (vv E))) S hMet ⟨callB_of na hts (wsM_good m1) rfl rfl rfl (hts _ m4) (hts _ (in_g hlink rfl)) ⟨m7, m8, m9⟩ (hroom m10), by rw [if_neg (by decide)] at m2; exact hts _ m2, hts _ (m3 rfl)⟩
              ⟨Pw_blind E L xs G _, by rw [m5]; exact hrecv, pre_warm hx hr hS _⟩ rfl (by simp; omega) ha.1.1 (by show st.map (vv E) = _; rw [split na, hdr]; rfl) (lv_room (by rw [cats_map]; exact hc.2)) hd ⟨hc1, hc2⟩
            exact snd_after hS run (fun h1 h2 => kk h1 (app h2 (fun v hv2 => drp hdr v (List.mem_cons_of_mem _ hv2))))
          · cases h
        · cases h
      · cases h
    · cases h
  · obtain rfl : len = 3 := by simpa [lenOk] using hlen
    unfold invS at h
    split at h
    · split at h
      · split at h <;> cases h
      · cases h
    · rename_i mid0 z _ hl
      split at h
      · rename_i y cc' nL' ret' own' na hm
        split at h
        · rename_i hc
          cases h
          have hn11 := hnl _ _ _ _ _ _ _ hm
          obtain ⟨m1, m2, m3, m4, m5, m6, m7, m8, m9, m10, m11⟩ := (m_ok hm).resolve_left hn11
          have hMet := hM _ _ _ _ _ _ _ hm hn11
          obtain ⟨hlink, p0, hp0⟩ := g_link hl
          rw [myn_of hm] at hlink
          rw [if_pos rfl] at m2
          by_cases hz : z = 1
          · have hnw := hN _ hp0 hz
            have run := va_runSN (l := l) (e := e) (below := below) (meth := meth) (H := H) (locs := locs) (cells := cells) (slots := slots) (As := ((st.take na).reverse).map (vv E)) (rest := (st.drop na).map (vv E)) (g := F0 m pc arr (st.map (vv E))) S hMet ⟨va_cnB (host := "TakenUpCalls") na hts (wsM_good m1) rfl rfl rfl (by have := hnw; dsimp only at this; rw [myn_of hm] at this; exact this) (hts _ m4) ⟨m7, m8, m9⟩ (hroom m10), hts _ m2, trivial⟩
              ⟨Pw_blind E L xs G _, pre_warm hx hr hS _⟩ rfl (by simp; omega) ha.1.1 (split na) (lv_room (by rw [cats_map]; exact hc.2)) hd ⟨hc1, hc2⟩
            exact snd_after hS run (fun h1 h2 => kk h1 (app h2 (drp rfl)))
          · rw [if_neg hz] at hlink
            have run := va_runS (l := l) (e := e) (below := below) (meth := meth) (H := H) (locs := locs) (cells := cells) (slots := slots) (As := ((st.take na).reverse).map (vv E)) (rest := (st.drop na).map (vv E)) (g := F0 m pc arr (st.map (vv E))) S hMet ⟨callB_of na hts (wsM_good m1) rfl rfl rfl (hts _ m4) (hts _ (in_g hlink rfl)) ⟨m7, m8, m9⟩ (hroom m10), hts _ m2⟩
              ⟨Pw_blind E L xs G _, pre_warm hx hr hS _⟩ rfl (by simp; omega) ha.1.1 (split na) (lv_room (by rw [cats_map]; exact hc.2)) hd ⟨hc1, hc2⟩
            exact snd_after hS run (fun h1 h2 => kk h1 (app h2 (drp rfl)))
        · cases h
      · cases h
    · cases h
  · obtain rfl : len = 3 := by simpa [lenOk] using hlen
    unfold invI at h
    split at h
    · split at h
      · split at h <;> cases h
      · cases h
    · rename_i mid0 z _ hl
      split at h
      · rename_i y cc' nL' ret' own' na hm
        split at h
        · rename_i a rest0 hdr
          split at h
          · rename_i hc
            cases h
            have hn11 := hnl _ _ _ _ _ _ _ hm
            obtain ⟨m1, m2, m3, m4, m5, m6, m7, m8, m9, m10, m11⟩ := (m_ok hm).resolve_left hn11
            have hMet := hM _ _ _ _ _ _ _ hm hn11
            obtain ⟨hin, hret⟩ := m11 rfl
            subst hret
            obtain ⟨hlink, p0, hp0⟩ := g_link hl
            rw [myn_of hm] at hlink
            rw [if_neg (by decide)] at m2
            have hlen2 : na ≤ st.length := by
              rcases Nat.lt_or_ge st.length na with h | h
              · rw [List.drop_eq_nil_of_le (by omega)] at hdr; cases hdr
              · exact h
            by_cases hz : z = 1
            · have hnw := hN _ hp0 hz
              have run := va_runIN (l := l) (e := e) (below := below) (meth := meth) (H := H) (locs := locs) (cells := cells) (slots := slots) (b := adr E a) (As := ((st.take na).reverse).map (vv E)) (rest := rest.map (vv E)) (g := F0 m pc arr (st.map (vv E))) S hMet ⟨va_cnB (host := "TakenUpCalls") na hts (wsM_good m1) rfl rfl rfl (by have := hnw; dsimp only at this; rw [myn_of hm] at this; exact this) (hts _ m4) ⟨m7, m8, m9⟩ (hroom m10), hin, hts _ m2⟩
                ⟨Pw_blind E L xs G _, pre_warm hx hr hS _⟩ rfl (by simp; omega) ha.1.1 (by show st.map (vv E) = _; rw [split na, hdr]; rfl) (lv_room (by rw [cats_map]; exact hc)) hd ⟨hc1, hc2⟩
              exact snd_after hS run (fun h1 h2 => kk h1 (app h2 (fun v hv2 => drp hdr v (List.mem_cons_of_mem _ hv2))))
            · rw [if_neg hz] at hlink
              have run := va_runI (l := l) (e := e) (below := below) (meth := meth) (H := H) (locs := locs) (cells := cells) (slots := slots) (b := adr E a) (As := ((st.take na).reverse).map (vv E)) (rest := rest.map (vv E)) (g := F0 m pc arr (st.map (vv E))) S hMet ⟨callB_of na hts (wsM_good m1) rfl rfl rfl (hts _ m4) (hts _ (in_g hlink rfl)) ⟨m7, m8, m9⟩ (hroom m10), hin, hts _ m2⟩
                ⟨Pw_blind E L xs G _, pre_warm hx hr hS _⟩ rfl (by simp; omega) ha.1.1 (by show st.map (vv E) = _; rw [split na, hdr]; rfl) (lv_room (by rw [cats_map]; exact hc)) hd ⟨hc1, hc2⟩
              exact snd_after hS run (fun h1 h2 => kk h1 (app h2 (fun v hv2 => drp hdr v (List.mem_cons_of_mem _ hv2))))
          · cases h
        · cases h
      · cases h
    · cases h
end CS
