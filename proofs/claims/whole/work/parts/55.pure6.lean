/-! Pure: bringing is matching -/
def k2 {d : Nat} (t : Tr d) : Int × Int := (nF (rt d t), nX (rt d t))
theorem gon_nil {d : Nat} (κ : Kt) : gon ([] : List (Bool × Tr d)) κ = κ := by
  obtain ⟨a1, a2, a3, a4⟩ := κ
  show (a1, a2, a3, a4 + ((0 : Nat) : Int)) = _
  rw [show a4 + ((0 : Nat) : Int) = a4 from by omega]
theorem up_nV (h c : Int → Int) (d : Nat) (o : Option (Tr (d + 1))) (t : Tr (d + 1)) (l : K3) : nV (rt (d + 1) (upT h c (d + 1) o t l).1) = nV (rt (d + 1) t) ∧ nF (rt (d + 1) (upT h c (d + 1) o t l).1) = nF (rt (d + 1) t) ∧ nX (rt (d + 1) (upT h c (d + 1) o t l).1) = nX (rt (d + 1) t) := by
  have hz := zap_upT h c (d + 1) o t l
  have a1 := congrArg (fun t : Tr (d + 1) => nV t.1) hz
  have a2 := congrArg (fun t : Tr (d + 1) => nF t.1) hz
  have a3 := congrArg (fun t : Tr (d + 1) => nX t.1) hz
  exact ⟨a1, a2, a3⟩
/-- parts that tell the same are brought as they are matched -/
theorem pre_up {P : Pg} (hP : Pok P) {h c : Int → Int} (hc : Cok c) {d : Nat} (hB : PB P h c d) : ∀ (pre pre' : List (Tr (d + 1))) (κ : Kt) (l : K3), pre.map k3 = pre'.map k3 → (∀ o ∈ pre, Kp P h d o ∧ nad (d + 1) o = o) → (∀ t ∈ pre', ∃ k y, 0 ≤ k ∧ k < P.2.2 ∧ 0 ≤ y ∧ y ≤ 996 ∧ t = fr P c d k y) → κ.1 = l.1 → ∃ B κ1 l1, (∀ r, brL (brT P h c d) (pre ++ r) κ = (B ++ (brL (brT P h c d) r κ1).1, (brL (brT P h c d) r κ1).2)) ∧ (∀ R Q, upL (upT h c (d + 1)) (pre ++ R) (pre' ++ Q) l = (B ++ (upL (upT h c (d + 1)) R Q l1).1, (upL (upT h c (d + 1)) R Q l1).2)) ∧ Rel κ κ1 l l1 ∧ B.map k2 = pre'.map k2 ∧ (∀ b ∈ B, Kp P c d b) ∧ κ1.2.2.2 = κ.2.2.2 + (tszL (d + 1) pre : Int) - (tszL (d + 1) pre' : Int) + (κ1.2.1 - κ.2.1) := by
  intro pre
  induction pre with
  | nil =>
    intro pre' κ l hk _ _ hl
    cases pre' with
    | cons q qs => cases hk
    | nil => exact ⟨[], κ, l, fun r => rfl, fun R Q => rfl, ⟨hl, by omega, by omega⟩, rfl, (fun b hb => by cases hb), by show κ.2.2.2 = κ.2.2.2 + ((0 : Nat) : Int) - ((0 : Nat) : Int) + (κ.2.1 - κ.2.1); omega⟩
  | cons o pre ih =>
    intro pre' κ l hk ho hq hl
    cases pre' with
    | nil => cases hk
    | cons q pre' =>
      rw [List.map_cons, List.map_cons] at hk
      obtain ⟨hk1, hk2⟩ := List.cons.inj hk
      obtain ⟨k, y, k0, k1, y0, y1, rfl⟩ := hq q (List.mem_cons_self ..)
      have e := fr_rt P c d k y
      have g1 := congrArg (fun p : Int × Int × Int => p.1) hk1
      have g2 := congrArg (fun p : Int × Int × Int => p.2.1) hk1
      have g3 := congrArg (fun p : Int × Int × Int => p.2.2) hk1
      have h1 : nF (rt (d + 1) o) = k := Eq.trans g1 e.1
      have h2 : nX (rt (d + 1) o) = y := Eq.trans g2 e.2
      have h3 : nV (rt (d + 1) o) = nV (rt (d + 1) (fr P c d k y)) := g3
      obtain ⟨m1, m2, m3⟩ := hB o κ l (ho o (List.mem_cons_self ..)).2 (ho o (List.mem_cons_self ..)).1 hl
      have h1' : nF o.1 = k := h1
      have h2' : nX o.1 = y := h2
      rw [h1', h2'] at m1 m2 m3
      obtain ⟨B, κ1, l1, i1, i2, i3, i4, i5, i6⟩ := ih pre' (brT P h c d o κ).2 (upT h c (d + 1) (some o) (fr P c d k y) l).2 hk2 (fun p hp => ho p (List.mem_cons_of_mem _ hp)) (fun t ht => hq t (List.mem_cons_of_mem _ ht)) m2.1
      have hv : nV (rt (d + 1) (brT P h c d o κ).1) = nV (rt (d + 1) o) := by rw [m1, (up_nV h c d _ _ l).1, h3]
      refine ⟨(brT P h c d o κ).1 :: B, κ1, l1, fun r => ?_, fun R Q => ?_, m2.trans i3, ?_, fun b hb => ?_, ?_⟩
      · rw [List.cons_append]
        simp only [brL]
        rw [if_pos hv, i1 r]; rfl
      · rw [List.cons_append, List.cons_append]
        simp only [upL]
        rw [e.1, e.2]
        simp only [fn1]
        rw [if_pos ⟨h1, h2⟩]
        dsimp only
        rw [i2 R Q, m1]; rfl
      · rw [List.map_cons, List.map_cons, i4]
        congr 1
        unfold k2
        rw [m1, (up_nV h c d _ _ l).2.1, (up_nV h c d _ _ l).2.2]
      · rcases List.mem_cons.mp hb with rfl | hb
        · rw [m1]; exact Kp_of_up hP hc k0 k1 y0 y1 _ _
        · exact i5 b hb
      · rw [tszL_cons, tszL_cons]; omega
theorem fold_true {P : Pg} {h c : Int → Int} {d : Nat} : ∀ (B qs : List (Tr (d + 1))) (rest : List (Bool × Tr (d + 1))) (ps0 : List (Tr (d + 1))) (κ : Kt), B.map k2 = qs.map k2 → (∀ t ∈ qs, nF (rt (d + 1) t) < P.2.2) → qs.foldl (stS P h c (d + 1)) (ps0, B.map (fun p => (true, p)) ++ rest, κ) = (ps0 ++ B, rest, κ) := by
  intro B
  induction B with
  | nil =>
    intro qs rest ps0 κ hk _
    cases qs with
    | cons q qs => cases hk
    | nil => show (ps0, [] ++ rest, κ) = _; simp
  | cons b B ih =>
    intro qs rest ps0 κ hk hq
    cases qs with
    | nil => cases hk
    | cons q qs =>
      rw [List.map_cons, List.map_cons] at hk
      obtain ⟨hk1, hk2⟩ := List.cons.inj hk
      have h1 := congrArg (fun p : Int × Int => p.1) hk1
      have h2 := congrArg (fun p : Int × Int => p.2) hk1
      have h1 : nF (rt (d + 1) b) = nF (rt (d + 1) q) := h1
      have h2 : nX (rt (d + 1) b) = nX (rt (d + 1) q) := h2
      have hst : stS P h c (d + 1) (ps0, (b :: B).map (fun p => (true, p)) ++ rest, κ) q = (ps0 ++ [b], B.map (fun p => (true, p)) ++ rest, κ) := by
        unfold stS
        simp only [clS, anC, List.map_cons, List.cons_append, fnd]
        rw [if_pos (hq q (List.mem_cons_self ..)), if_pos ⟨h1, h2⟩]
        dsimp only
        rw [gon_nil]
      rw [List.foldl_cons, hst, ih qs rest (ps0 ++ [b]) κ hk2 (fun t ht => hq t (List.mem_cons_of_mem _ ht))]
      simp
theorem difL_same {d : Nat} : ∀ (l l' : List (Tr d)), l.map k3 = l'.map k3 → difL d l l' = false := by
  intro l
  induction l with
  | nil => intro l' _; rfl
  | cons a l ih =>
    intro l' h
    cases l' with
    | nil => rfl
    | cons b l' =>
      rw [List.map_cons, List.map_cons] at h
      obtain ⟨h1, h2⟩ := List.cons.inj h
      have hv := congrArg (fun p : Int × Int × Int => p.2.2) h1
      have hv : nV (rt d a) = nV (rt d b) := hv
      simp only [difL]
      rw [ih l' h2, decide_eq_false (by rw [hv]; simp)]; rfl
theorem difL_dif {d : Nat} : ∀ (p p' : List (Tr d)) (o q : Tr d) (r r' : List (Tr d)), p.map k3 = p'.map k3 → nV (rt d o) ≠ nV (rt d q) → difL d (p ++ o :: r) (p' ++ q :: r') = true := by
  intro p
  induction p with
  | nil =>
    intro p' o q r r' h hv
    cases p' with
    | cons _ _ => cases h
    | nil => simp only [List.nil_append, difL]; rw [decide_eq_true hv]; rfl
  | cons a p ih =>
    intro p' o q r r' h hv
    cases p' with
    | nil => cases h
    | cons b p' =>
      rw [List.map_cons, List.map_cons] at h
      obtain ⟨h1, h2⟩ := List.cons.inj h
      simp only [List.cons_append, difL]
      rw [ih p' o q r r' h2 hv, Bool.or_true]
theorem k3_zap {d : Nat} (l : List (Tr d)) : (l.map (zap d)).map k3 = l.map k3 := by
  rw [List.map_map]
  refine List.map_congr_left (fun t _ => ?_)
  show (nF (rt d (zap d t)), nX (rt d (zap d t)), nV (rt d (zap d t))) = _
  rw [zap_rt]; rfl
/-- the level of calls that call nothing -/
theorem doS_zero {P : Pg} (hP : Pok P) {h c : Int → Int} (hc : Cok c) {f x : Int} (f0 : 0 ≤ f) (f1 : f < P.2.2) (x0 : 0 ≤ x) (x1 : x ≤ 996) (rem : List (Bool × Tr 0)) (κ : Kt) : doS P h c 0 f x rem κ = (nV (fr P c 0 f x).1, nM (fr P c 0 f x).1, [], rem, κ) := by
  obtain ⟨-, b, hT, -⟩ := hP.2.2 f f0 f1
  have := ev_sim (σ := Int × List (Tr 0) × List (Bool × Tr 0) × Kt) (τ := Int × List (Tr 0)) (cd := P.1) (rd := rdc c) (rd' := rdc c) (cl := clS P h c 0) (cl' := apH (hnd P c 0)) (x := x) (R := fun s t => s.1 = t.1 ∧ s.2 = ([], rem, κ)) ⟨x0, x1⟩ (fun v s t v0 hR => ⟨rfl, rdc_rng hc v s, by show bor s.1 _ = bor t.1 _; rw [hR.1], hR.2⟩) (fun k y s t k0 k1 y0 y1 hR => ⟨rfl, z996, hR⟩) 160 (P.2.1 f) b ((0, [], rem, κ) : Int × List (Tr 0) × List (Bool × Tr 0) × Kt) ((0, []) : Int × List (Tr 0)) hT ⟨rfl, rfl⟩
  obtain ⟨e1, -, e2, e3⟩ := this
  have e0 : doS P h c 0 f x rem κ = ((doS P h c 0 f x rem κ).1, (doS P h c 0 f x rem κ).2.1, (doS P h c 0 f x rem κ).2.2) := rfl
  rw [e0, fr_eq P c 0 f x]
  exact Prod.ext e1 (Prod.ext e2 e3)
theorem map_fix {α : Type} {g : α → α} : ∀ (l : List α), l.map g = l → ∀ p ∈ l, g p = p := by
  intro l
  induction l with
  | nil => intro _ p hp; cases hp
  | cons a l ih =>
    intro h p hp
    rw [List.map_cons] at h
    obtain ⟨h1, h2⟩ := List.cons.inj h
    rcases List.mem_cons.mp hp with rfl | hp
    · exact h1
    · exact ih h2 p hp
theorem nad_0 {d : Nat} {t : Tr (d + 1)} (h : nad (d + 1) t = t) : nAd t.1 = 0 ∧ ∀ p ∈ t.2, nad d p = p := by
  have h1 : nad (d + 1) t = ((0, t.1.2), t.2.map (nad d)) := rfl
  have e1 : nAd t.1 = 0 := by
    have := congrArg (fun z : Nd × List (Tr d) => nAd z.1) (h1.symm.trans h)
    exact this.symm
  have e2 : t.2.map (nad d) = t.2 := congrArg (fun z : Nd × List (Tr d) => z.2) (h1.symm.trans h)
  refine ⟨e1, fun p hp => ?_⟩
  exact map_fix t.2 e2 p hp
theorem Kp_node {P : Pg} {h : Int → Int} {d : Nat} {t : Tr (d + 1)} {c : Int → Int} (hk : Kp P h d t) (ha : nAd t.1 = 0) (hv : nV t.1 = nV (fr P c d (nF t.1) (nX t.1)).1) (hm : nM t.1 = nM (fr P c d (nF t.1) (nX t.1)).1) : t.1 = (0, nF (fr P c d (nF t.1) (nX t.1)).1, nX (fr P c d (nF t.1) (nX t.1)).1, nV (fr P c d (nF t.1) (nX t.1)).1, nM (fr P c d (nF t.1) (nX t.1)).1, nN t.1, nD t.1 + 0) := by
  have e := fr_rt P c d (nF t.1) (nX t.1)
  rw [show nF (fr P c d (nF t.1) (nX t.1)).1 = nF t.1 from e.1, show nX (fr P c d (nF t.1) (nX t.1)).1 = nX t.1 from e.2, ← hv, ← hm, ← ha, Int.add_zero]
  rfl
theorem PM_zero {P : Pg} (hP : Pok P) {h c : Int → Int} (hc : Cok c) : PM P h c 0 := by
  intro f x κ l f0 f1 x0 x1 hk
  rw [(mkT_doS hP h hc 0 f x κ f0 f1 x0 x1).1.1, doS_zero hP hc f0 f1 x0 x1]
  have e := fr_rt P c 0 f x
  have hp : (fr P c 0 f x).2 = [] := adLs0 _
  have hu : upT h c (0 + 1) none (fr P c 0 f x) l = (mkN 0 (0, f, x, nV (fr P c 0 f x).1, nM (fr P c 0 f x).1, l.1, 1) [], (l.1 + 1, l.2.1 + 1, l.2.2)) := by
    simp only [upT]
    rw [hp, show nF (fr P c 0 f x).1 = f from e.1, show nX (fr P c 0 f x).1 = x from e.2]; rfl
  have hs : tsz (0 + 1) (fr P c 0 f x) = 1 := by rw [tsz_eq, hp]; rfl
  rw [hu, hs]
  refine ⟨by rw [hk], ⟨?_, ?_, ?_⟩, rfl, ?_⟩
  · show κ.1 + 1 = l.1 + 1; omega
  · show κ.2.1 + 1 - κ.2.1 = l.2.1 + 1 - l.2.1; omega
  · show κ.2.2.1 - κ.2.2.1 = l.2.2 - l.2.2; omega
  · show κ.2.1 + 1 - κ.2.1 = ((1 : Nat) : Int); omega
theorem PB_zero {P : Pg} (hP : Pok P) {h c : Int → Int} (hh : Cok h) (hc : Cok c) : PB P h c 0 := by
  intro t κ l hn hk hl
  obtain ⟨hz, f0, f1, x0, x1⟩ := hk
  have hk : Kp P h 0 t := ⟨hz, f0, f1, x0, x1⟩
  obtain ⟨ha, -⟩ := nad_0 hn
  have ht : t.2 = [] := adLs0 _
  have hp : (fr P c 0 (nF t.1) (nX t.1)).2 = [] := adLs0 _
  have e := fr_rt P c 0 (nF t.1) (nX t.1)
  have hs : tsz (0 + 1) (fr P c 0 (nF t.1) (nX t.1)) = 1 := by rw [tsz_eq, hp]; rfl
  have hs2 : tsz (0 + 1) t = 1 := by rw [tsz_eq, ht]; rfl
  rw [hs, hs2]
  by_cases ho : isOldN h c (nM t.1) = true
  · have han : anewB h c 0 t (fr P c 0 (nF t.1) (nX t.1)) = true := by unfold anewB; rw [ho]; rfl
    have hu : upT h c (0 + 1) (some t) (fr P c 0 (nF t.1) (nX t.1)) l = (mkN 0 (0, nF t.1, nX t.1, nV (fr P c 0 (nF t.1) (nX t.1)).1, nM (fr P c 0 (nF t.1) (nX t.1)).1, nN t.1, nD t.1 + 1) [], (l.1, l.2.1, l.2.2 + 1)) := by
      simp only [upT]
      rw [han, hp, show nF (fr P c 0 (nF t.1) (nX t.1)).1 = nF t.1 from e.1, show nX (fr P c 0 (nF t.1) (nX t.1)).1 = nX t.1 from e.2]; rfl
    rw [brT_eq P h c 0 t κ ho, doS_zero hP hc f0 f1 x0 x1, hu, ht, ha]
    dsimp only
    rw [show gon (List.map (fun p : Tr 0 => (false, p)) []) (κ.1, κ.2.1, κ.2.2.1 + 1, κ.2.2.2) = (κ.1, κ.2.1, κ.2.2.1 + 1, κ.2.2.2) from gon_nil _]
    refine ⟨rfl, ⟨hl, ?_, ?_⟩, ?_⟩
    · show κ.2.1 - κ.2.1 = l.2.1 - l.2.1; omega
    · show κ.2.2.1 + 1 - κ.2.2.1 = l.2.2 + 1 - l.2.2; omega
    · show κ.2.2.2 = κ.2.2.2 + ((1 : Nat) : Int) - ((1 : Nat) : Int) + (κ.2.1 - κ.2.1); omega
  · have han : anewB h c 0 t (fr P c 0 (nF t.1) (nX t.1)) = false := by
      unfold anewB
      rw [ht]
      simp only [difL, Bool.or_false]
      simpa using ho
    have hv := Kp_nV hk
    have hsm := fr_fd hP hh hc 0 f0 f1 x0 x1 (by rw [← hv.2.1]; exact ho)
    have hsm : nV (fr P h 0 (nF t.1) (nX t.1)).1 = nV (fr P c 0 (nF t.1) (nX t.1)).1 ∧ nM (fr P h 0 (nF t.1) (nX t.1)).1 = nM (fr P c 0 (nF t.1) (nX t.1)).1 := by
      rcases hsm with g | ⟨_, o, _⟩
      · exact ⟨g.1, g.2.1⟩
      · exact o.elim
    have hu : upT h c (0 + 1) (some t) (fr P c 0 (nF t.1) (nX t.1)) l = (t, l) := by
      simp only [upT]
      rw [han, hp]
      have hnd := Kp_node (c := c) hk ha (hv.1.trans hsm.1) (hv.2.1.trans hsm.2)
      obtain ⟨tn, tp⟩ := t
      have ht : tp = [] := ht
      subst ht
      obtain ⟨l1, l2, l3⟩ := l
      show (mkN 0 _ [], (l1, l2, l3 + 0)) = (_, _)
      rw [Int.add_zero]
      exact Prod.ext (Prod.ext hnd.symm rfl) rfl
    simp only [brT]
    rw [if_neg ho, hu]
    refine ⟨rfl, ⟨hl, ?_, ?_⟩, ?_⟩
    · show κ.2.1 - κ.2.1 = l.2.1 - l.2.1; omega
    · show κ.2.2.1 - κ.2.2.1 = l.2.2 - l.2.2; omega
    · show κ.2.2.2 = κ.2.2.2 + ((1 : Nat) : Int) - ((1 : Nat) : Int) + (κ.2.1 - κ.2.1); omega
