/-! Pure: bringing gives what making anew and matching gives, continued -/
/-- counts go along -/
def Rel (κ κ' : Kt) (l l' : K3) : Prop := κ'.1 = l'.1 ∧ κ'.2.1 - κ.2.1 = l'.2.1 - l.2.1 ∧ κ'.2.2.1 - κ.2.2.1 = l'.2.2 - l.2.2
theorem Rel.trans {κ κ1 κ2 : Kt} {l l1 l2 : K3} (h1 : Rel κ κ1 l l1) (h2 : Rel κ1 κ2 l1 l2) : Rel κ κ2 l l2 := by
  unfold Rel at *; omega
theorem zap_rt : ∀ (d : Nat) (t : Tr d), rt d (zap d t) = zapN (rt d t)
  | 0, t => t.elim
  | _ + 1, _ => rfl
theorem zap_fr {P : Pg} (hP : Pok P) {c : Int → Int} (hc : Cok c) : ∀ (d : Nat) (f x : Int), 0 ≤ f → f < P.2.2 → 0 ≤ x → x ≤ 996 → zap (d + 1) (fr P c d f x) = fr P c d f x := by
  intro d
  induction d with
  | zero =>
    intro f x f0 f1 x0 x1
    rw [fr_eq]
    show mkN 0 _ _ = mkN 0 _ _
    congr 1
    exact (adLs0 _).trans (adLs0 _).symm
  | succ d ih =>
    intro f x f0 f1 x0 x1
    obtain ⟨-, b, hT, -⟩ := hP.2.2 f f0 f1
    have hp := ev_parts (R := fun t : Tr (d + 1) => zap (d + 1) t = t) ⟨x0, x1⟩ hc (fun k y k0 _ y0 y1 => hnd_rng hP hc (d + 1) k y k0 y0 y1) (fun k y k0 _ y0 y1 t ht => by
      simp only [hnd] at ht
      split at ht
      · rename_i hk
        rw [List.mem_singleton.mp ht]; exact ih k y k0 hk y0 y1
      · cases ht) 160 (P.2.1 f) b 0 hT
    rw [fr_eq]
    show mkN (d + 1) _ _ = mkN (d + 1) _ _
    congr 1
    show List.map (zap (d + 1)) _ = _
    exact (List.map_congr_left (fun t ht => hp t ht)).trans (List.map_id _)
/-- the parts that would be made, each by itself -/
theorem fr_parts {P : Pg} (hP : Pok P) {c : Int → Int} (hc : Cok c) (d : Nat) {f x : Int} (f0 : 0 ≤ f) (f1 : f < P.2.2) (x0 : 0 ≤ x) (x1 : x ≤ 996) : ∀ t ∈ (fr P c (d + 1) f x).2, ∃ k y, 0 ≤ k ∧ k < P.2.2 ∧ 0 ≤ y ∧ y ≤ 996 ∧ t = fr P c d k y := by
  obtain ⟨-, b, hT, -⟩ := hP.2.2 f f0 f1
  have hp := ev_parts (R := fun t : Tr (d + 1) => ∃ k y, 0 ≤ k ∧ k < P.2.2 ∧ 0 ≤ y ∧ y ≤ 996 ∧ t = fr P c d k y) ⟨x0, x1⟩ hc (fun k y k0 _ y0 y1 => hnd_rng hP hc (d + 1) k y k0 y0 y1) (fun k y k0 _ y0 y1 t ht => by
    simp only [hnd] at ht
    split at ht
    · rename_i hk
      rw [List.mem_singleton.mp ht]; exact ⟨k, y, k0, hk, y0, y1, rfl⟩
    · cases ht) 160 (P.2.1 f) b 0 hT
  rw [fr_eq]; exact hp
/-- a kept tree is as it would be made, with cells h -/
def Kp (P : Pg) (h : Int → Int) (d : Nat) (t : Tr (d + 1)) : Prop := zap (d + 1) t = fr P h d (nF t.1) (nX t.1) ∧ 0 ≤ nF t.1 ∧ nF t.1 < P.2.2 ∧ 0 ≤ nX t.1 ∧ nX t.1 ≤ 996
theorem Kp_nV {P : Pg} {h : Int → Int} {d : Nat} {t : Tr (d + 1)} (hk : Kp P h d t) : nV t.1 = nV (fr P h d (nF t.1) (nX t.1)).1 ∧ nM t.1 = nM (fr P h d (nF t.1) (nX t.1)).1 ∧ t.2.map (zap d) = (fr P h d (nF t.1) (nX t.1)).2 := by
  rw [← hk.1]; exact ⟨rfl, rfl, rfl⟩
theorem Kp_parts {P : Pg} (hP : Pok P) {h : Int → Int} (hh : Cok h) {d : Nat} {t : Tr (d + 1 + 1)} (hk : Kp P h (d + 1) t) : ∀ p ∈ t.2, Kp P h d p := by
  intro p hp
  have hz : zap (d + 1) p ∈ (fr P h (d + 1) (nF t.1) (nX t.1)).2 := by
    rw [← (Kp_nV hk).2.2]; exact List.mem_map.mpr ⟨p, hp, rfl⟩
  obtain ⟨k, y, k0, k1, y0, y1, he⟩ := fr_parts hP hh d hk.2.1 hk.2.2.1 hk.2.2.2.1 hk.2.2.2.2 _ hz
  have e1 : nF p.1 = k := by
    have := (fr_rt P h d k y).1
    rw [← he] at this; exact this
  have e2 : nX p.1 = y := by
    have := (fr_rt P h d k y).2
    rw [← he] at this; exact this
  exact ⟨by rw [he, e1, e2], by omega, by omega, by omega, by omega⟩
/-- one more part, where a call is done -/
def stS (P : Pg) (h c : Int → Int) (d : Nat) (s : List (Tr d) × List (Bool × Tr d) × Kt) (q : Tr d) : List (Tr d) × List (Bool × Tr d) × Kt := (clS P h c d (nF (rt d q)) (nX (rt d q)) (0, s)).2.2
theorem clS_st (P : Pg) (h c : Int → Int) (d : Nat) (k y m : Int) (s : List (Tr d) × List (Bool × Tr d) × Kt) : clS P h c d k y (m, s) = ((clS P h c d k y (0, s)).1, m, (clS P h c d k y (0, s)).2.2) := by
  cases d with
  | zero => rfl
  | succ d =>
    simp only [clS, anC]
    split
    · cases fnd k y s.2.1 with
      | none => rfl
      | some q => dsimp only; cases q.2.1.1 <;> rfl
    · rfl
/-- what is shown of bringing and making, one level -/
def PB (P : Pg) (h c : Int → Int) (d : Nat) : Prop := ∀ (t : Tr (d + 1)) (κ : Kt) (l : K3), nad (d + 1) t = t → Kp P h d t → κ.1 = l.1 → (brT P h c d t κ).1 = (upT h c (d + 1) (some t) (fr P c d (nF t.1) (nX t.1)) l).1 ∧ Rel κ (brT P h c d t κ).2 l (upT h c (d + 1) (some t) (fr P c d (nF t.1) (nX t.1)) l).2 ∧ (brT P h c d t κ).2.2.2.2 = κ.2.2.2 + (tsz (d + 1) t : Int) - (tsz (d + 1) (fr P c d (nF t.1) (nX t.1)) : Int) + ((brT P h c d t κ).2.2.1 - κ.2.1)
def PM (P : Pg) (h c : Int → Int) (d : Nat) : Prop := ∀ (f x : Int) (κ : Kt) (l : K3), 0 ≤ f → f < P.2.2 → 0 ≤ x → x ≤ 996 → κ.1 = l.1 → (mkT P c d f x κ).1 = (upT h c (d + 1) none (fr P c d f x) l).1 ∧ Rel κ (mkT P c d f x κ).2 l (upT h c (d + 1) none (fr P c d f x) l).2 ∧ (mkT P c d f x κ).2.2.2.2 = κ.2.2.2 ∧ (mkT P c d f x κ).2.2.1 - κ.2.1 = (tsz (d + 1) (fr P c d f x) : Int)
/-- a part that is left is as it would be made: brought with c, else with h -/
def Gq (P : Pg) (h c : Int → Int) (d : Nat) (q : Bool × Tr (d + 1)) : Prop := (q.1 = true → Kp P c d q.2) ∧ (q.1 = false → Kp P h d q.2 ∧ nad (d + 1) q.2 = q.2)
theorem Kp_of_up {P : Pg} (hP : Pok P) {h c : Int → Int} (hc : Cok c) {d : Nat} {f x : Int} (f0 : 0 ≤ f) (f1 : f < P.2.2) (x0 : 0 ≤ x) (x1 : x ≤ 996) (o : Option (Tr (d + 1))) (l : K3) : Kp P c d (upT h c (d + 1) o (fr P c d f x) l).1 := by
  have hz := zap_upT h c (d + 1) o (fr P c d f x) l
  rw [zap_fr hP hc d f x f0 f1 x0 x1] at hz
  have e1 : nF (upT h c (d + 1) o (fr P c d f x) l).1.1 = f := by
    have h1 := congrArg (fun t : Tr (d + 1) => nF t.1) hz
    exact h1.trans (fr_rt P c d f x).1
  have e2 : nX (upT h c (d + 1) o (fr P c d f x) l).1.1 = x := by
    have h1 := congrArg (fun t : Tr (d + 1) => nX t.1) hz
    exact h1.trans (fr_rt P c d f x).2
  exact ⟨by rw [hz, e1, e2], by omega, by omega, by omega, by omega⟩
/-- what a called part tells, whatever way it is got -/
theorem clS_val {P : Pg} (hP : Pok P) {h c : Int → Int} (hc : Cok c) {d : Nat} (hB : PB P h c d) (hM : PM P h c d) {k y : Int} (k0 : 0 ≤ k) (y0 : 0 ≤ y) (y1 : y ≤ 996) {s : List (Tr (d + 1)) × List (Bool × Tr (d + 1)) × Kt} (hg : ∀ q ∈ s.2.1, Gq P h c d q) : (clS P h c (d + 1) k y (0, s)).1 = (hnd P c (d + 1) k y).1 ∧ ∀ q ∈ (clS P h c (d + 1) k y (0, s)).2.2.2.1, Gq P h c d q := by
  simp only [clS, anC, hnd]
  by_cases hk : k < P.2.2
  · rw [if_pos hk, if_pos hk]
    cases hf : fnd k y s.2.1 with
    | none =>
      dsimp only
      rw [(hM k y s.2.2 (s.2.2.1, 0, 0) k0 hk y0 y1 rfl).1]
      have hzv : nV (rt (d + 1) (upT h c (d + 1) none (fr P c d k y) (s.2.2.1, 0, 0)).1) = nV (rt (d + 1) (fr P c d k y)) := by
        have h1 := congrArg (fun t : Tr (d + 1) => nV t.1) (zap_upT h c (d + 1) none (fr P c d k y) (s.2.2.1, 0, 0))
        exact h1
      exact ⟨hzv, hg⟩
    | some q =>
      obtain ⟨e1, e2, e3⟩ := fnd_mem _ _ hf
      have hq := hg q.2.1 (by rw [e1]; exact List.mem_append_right _ (List.mem_cons_self ..))
      have hr : ∀ r ∈ q.2.2, Gq P h c d r := fun r hr => hg r (by rw [e1]; exact List.mem_append_right _ (List.mem_cons_of_mem _ hr))
      have e2 : nF q.2.1.2.1 = k := e2
      have e3 : nX q.2.1.2.1 = y := e3
      dsimp only
      cases hb : q.2.1.1 with
      | true =>
        refine ⟨?_, hr⟩
        have := (Kp_nV (hq.1 hb)).1
        rw [e2, e3] at this; exact this
      | false =>
        refine ⟨?_, hr⟩
        have hb2 := (hB q.2.1.2 (gon q.1 s.2.2) ((gon q.1 s.2.2).1, 0, 0) (hq.2 hb).2 (hq.2 hb).1 rfl).1
        rw [e2, e3] at hb2
        show nV (rt (d + 1) (brT P h c d q.2.1.2 (gon q.1 s.2.2)).1) = _
        rw [hb2]
        have h1 := congrArg (fun t : Tr (d + 1) => nV t.1) (zap_upT h c (d + 1) (some q.2.1.2) (fr P c d k y) ((gon q.1 s.2.2).1, 0, 0))
        exact h1
  · rw [if_neg hk, if_neg hk]; exact ⟨rfl, hg⟩
/-- a doing tells what would be told, its parts are got one by one -/
theorem doS_fold {P : Pg} (hP : Pok P) {h c : Int → Int} (hc : Cok c) {d : Nat} (hB : PB P h c d) (hM : PM P h c d) {f x : Int} (f0 : 0 ≤ f) (f1 : f < P.2.2) (x0 : 0 ≤ x) (x1 : x ≤ 996) {rem : List (Bool × Tr (d + 1))} (hg : ∀ q ∈ rem, Gq P h c d q) (κ : Kt) : doS P h c (d + 1) f x rem κ = (nV (fr P c (d + 1) f x).1, nM (fr P c (d + 1) f x).1, (fr P c (d + 1) f x).2.foldl (stS P h c (d + 1)) (([], rem, κ) : List (Tr (d + 1)) × List (Bool × Tr (d + 1)) × Kt)) := by
  obtain ⟨-, b, hT, -⟩ := hP.2.2 f f0 f1
  have := ev_sim (σ := Int × List (Tr (d + 1)) × List (Bool × Tr (d + 1)) × Kt) (τ := Int × List (Tr (d + 1))) (cd := P.1) (rd := rdc c) (rd' := rdc c) (cl := clS P h c (d + 1)) (cl' := apH (hnd P c (d + 1))) (x := x) (R := fun s t => s.1 = t.1 ∧ s.2 = t.2.foldl (stS P h c (d + 1)) ([], rem, κ) ∧ ∀ q ∈ s.2.2.1, Gq P h c d q) ⟨x0, x1⟩ (fun v s t v0 hR => ⟨rfl, rdc_rng hc v s, by show bor s.1 _ = bor t.1 _; rw [hR.1], hR.2⟩) (fun k y s t k0 k1 y0 y1 hR => by
    obtain ⟨q1, q2, q3⟩ := hR
    obtain ⟨v1, v2⟩ := clS_val hP hc hB hM (k := k) (y := y) k0 y0 y1 (s := s.2) q3
    rw [show clS P h c (d + 1) k y s = clS P h c (d + 1) k y (s.1, s.2) from rfl, clS_st]
    refine ⟨v1, by rw [v1]; exact hnd_rng hP hc (d + 1) k y k0 y0 y1, q1, ?_, v2⟩
    show (clS P h c (d + 1) k y (0, s.2)).2.2 = (t.2 ++ (hnd P c (d + 1) k y).2).foldl (stS P h c (d + 1)) ([], rem, κ)
    rw [List.foldl_append, ← q2]
    simp only [hnd]
    by_cases hk : k < P.2.2
    · rw [if_pos hk]
      show _ = stS P h c (d + 1) s.2 (fr P c d k y)
      unfold stS
      rw [(fr_rt P c d k y).1, (fr_rt P c d k y).2]
    · rw [if_neg hk]
      simp only [clS, anC, if_neg hk]; rfl) 160 (P.2.1 f) b ((0, [], rem, κ) : Int × List (Tr (d + 1)) × List (Bool × Tr (d + 1)) × Kt) ((0, []) : Int × List (Tr (d + 1))) hT ⟨rfl, rfl, hg⟩
  obtain ⟨e1, -, e2, e3, -⟩ := this
  have e0 : doS P h c (d + 1) f x rem κ = ((doS P h c (d + 1) f x rem κ).1, (doS P h c (d + 1) f x rem κ).2.1, (doS P h c (d + 1) f x rem κ).2.2) := rfl
  rw [e0, fr_eq P c (d + 1) f x]
  show (_, _, _) = (_, _, List.foldl _ _ _)
  exact Prod.ext e1 (Prod.ext e2 e3)
def tszR {d : Nat} (l : List (Bool × Tr d)) : Int := ((l.map (fun t => tsz d t.2)).sum : Nat)
theorem gon_c {d : Nat} (l : List (Bool × Tr d)) (κ : Kt) : (gon l κ).1 = κ.1 ∧ (gon l κ).2.1 = κ.2.1 ∧ (gon l κ).2.2.1 = κ.2.2.1 ∧ (gon l κ).2.2.2 = κ.2.2.2 + tszR l := ⟨rfl, rfl, rfl, rfl⟩
theorem tszR_app {d : Nat} (l1 l2 : List (Bool × Tr d)) : tszR (l1 ++ l2) = tszR l1 + tszR l2 := by unfold tszR; rw [List.map_append, List.sum_append]; omega
theorem tszR_cons {d : Nat} (q : Bool × Tr d) (l : List (Bool × Tr d)) : tszR (q :: l) = (tsz d q.2 : Int) + tszR l := by unfold tszR; rw [List.map_cons, List.sum_cons]; omega
theorem tszR_map {d : Nat} (b : Bool) (l : List (Tr d)) : tszR (l.map (fun p => (b, p))) = (tszL d l : Int) := by unfold tszR tszL; rw [List.map_map]; rfl
theorem fnd_fn1 {d : Nat} (k y : Int) : ∀ (os : List (Tr d)), (fnd k y (os.map (fun p => (false, p))) = none ∧ fn1 k y os = none) ∨ ∃ pre o post, fnd k y (os.map (fun p => (false, p))) = some (pre, (false, o), post.map (fun p => (false, p))) ∧ fn1 k y os = some (o, post) ∧ os.map (fun p => (false, p)) = pre ++ (false, o) :: post.map (fun p => (false, p)) ∧ o ∈ os ∧ ∀ p ∈ post, p ∈ os := by
  intro os
  induction os with
  | nil => exact Or.inl ⟨rfl, rfl⟩
  | cons t os ih =>
    simp only [List.map_cons, fnd, fn1]
    by_cases hc : nF (rt d t) = k ∧ nX (rt d t) = y
    · rw [if_pos hc, if_pos hc]
      exact Or.inr ⟨[], t, os, rfl, rfl, rfl, List.mem_cons_self .., fun p hp => List.mem_cons_of_mem _ hp⟩
    · rw [if_neg hc, if_neg hc]
      rcases ih with ⟨i1, i2⟩ | ⟨pre, o, post, i1, i2, i3, i4, i5⟩
      · left; rw [i1, i2]; exact ⟨rfl, rfl⟩
      · right; exact ⟨(false, t) :: pre, o, post, by rw [i1]; rfl, i2, by rw [i3]; rfl, List.mem_cons_of_mem _ i4, fun p hp => List.mem_cons_of_mem _ (i5 p hp)⟩
/-- parts got one by one, none brought yet: as matched -/
theorem fold_up {P : Pg} {h c : Int → Int} {d : Nat} (hB : PB P h c d) (hM : PM P h c d) : ∀ (qs os ps0 : List (Tr (d + 1))) (κ : Kt) (l : K3), (∀ t ∈ qs, ∃ k y, 0 ≤ k ∧ k < P.2.2 ∧ 0 ≤ y ∧ y ≤ 996 ∧ t = fr P c d k y) → (∀ o ∈ os, Kp P h d o ∧ nad (d + 1) o = o) → κ.1 = l.1 → (qs.foldl (stS P h c (d + 1)) (ps0, os.map (fun p => (false, p)), κ)).1 = ps0 ++ (upL (upT h c (d + 1)) os qs l).1 ∧ Rel κ (qs.foldl (stS P h c (d + 1)) (ps0, os.map (fun p => (false, p)), κ)).2.2 l (upL (upT h c (d + 1)) os qs l).2 ∧ (qs.foldl (stS P h c (d + 1)) (ps0, os.map (fun p => (false, p)), κ)).2.2.2.2.2 + tszR (qs.foldl (stS P h c (d + 1)) (ps0, os.map (fun p => (false, p)), κ)).2.1 = κ.2.2.2 + (tszL (d + 1) os : Int) - (tszL (d + 1) qs : Int) + ((qs.foldl (stS P h c (d + 1)) (ps0, os.map (fun p => (false, p)), κ)).2.2.2.1 - κ.2.1) ∧ (os = [] → (qs.foldl (stS P h c (d + 1)) (ps0, os.map (fun p => (false, p)), κ)).2.1 = [] ∧ (qs.foldl (stS P h c (d + 1)) (ps0, os.map (fun p => (false, p)), κ)).2.2.2.2.2 = κ.2.2.2) := by
  intro qs
  induction qs with
  | nil =>
    intro os ps0 κ l _ _ hk
    refine ⟨by simp [upL], ⟨hk, by show κ.2.1 - κ.2.1 = l.2.1 - l.2.1; omega, by show κ.2.2.1 - κ.2.2.1 = l.2.2 - l.2.2; omega⟩, ?_, fun ho => ⟨by rw [ho]; rfl, rfl⟩⟩
    show κ.2.2.2 + tszR (os.map (fun p => (false, p))) = κ.2.2.2 + (tszL (d + 1) os : Int) - ((0 : Nat) : Int) + (κ.2.1 - κ.2.1)
    rw [tszR_map]; omega
  | cons q qs ih =>
    intro os ps0 κ l hq ho hk
    obtain ⟨k, y, k0, k1, y0, y1, rfl⟩ := hq q (List.mem_cons_self ..)
    have hq' : ∀ t ∈ qs, ∃ k y, 0 ≤ k ∧ k < P.2.2 ∧ 0 ≤ y ∧ y ≤ 996 ∧ t = fr P c d k y := fun t ht => hq t (List.mem_cons_of_mem _ ht)
    rw [List.foldl_cons]
    simp only [upL]
    rw [(fr_rt P c d k y).1, (fr_rt P c d k y).2, tszL_cons]
    rcases fnd_fn1 k y os with ⟨i1, i2⟩ | ⟨pre, o, post, i1, i2, i3, i4, i5⟩
    · have hst : stS P h c (d + 1) (ps0, os.map (fun p => (false, p)), κ) (fr P c d k y) = (ps0 ++ [(mkT P c d k y κ).1], os.map (fun p => (false, p)), (mkT P c d k y κ).2) := by
        unfold stS
        rw [(fr_rt P c d k y).1, (fr_rt P c d k y).2]
        simp only [clS, anC, if_pos k1, i1]
      obtain ⟨m1, m2, m3, m4⟩ := hM k y κ l k0 k1 y0 y1 hk
      rw [hst, i2]
      dsimp only
      obtain ⟨g1, g2, g3, g4⟩ := ih os (ps0 ++ [(mkT P c d k y κ).1]) (mkT P c d k y κ).2 (upT h c (d + 1) none (fr P c d k y) l).2 hq' ho m2.1
      refine ⟨by rw [g1, m1]; simp, m2.trans g2, ?_, fun he => ⟨(g4 he).1, (g4 he).2.trans m3⟩⟩
      omega
    · have hst : stS P h c (d + 1) (ps0, os.map (fun p => (false, p)), κ) (fr P c d k y) = (ps0 ++ [(brT P h c d o (gon pre κ)).1], post.map (fun p => (false, p)), (brT P h c d o (gon pre κ)).2) := by
        unfold stS
        rw [(fr_rt P c d k y).1, (fr_rt P c d k y).2]
        simp only [clS, anC, if_pos k1, i1]
      obtain ⟨-, e2, e3⟩ := fnd_mem _ _ i1
      have e2 : nF o.1 = k := e2
      have e3 : nX o.1 = y := e3
      obtain ⟨c1, c2, c3, c4⟩ := gon_c pre κ
      obtain ⟨m1, m2, m3⟩ := hB o (gon pre κ) l (ho o i4).2 (ho o i4).1 (c1.trans hk)
      rw [e2, e3] at m1 m2 m3
      rw [hst, i2]
      dsimp only
      obtain ⟨g1, g2, g3, g4⟩ := ih post (ps0 ++ [(brT P h c d o (gon pre κ)).1]) (brT P h c d o (gon pre κ)).2 (upT h c (d + 1) (some o) (fr P c d k y) l).2 hq' (fun p hp => ho p (i5 p hp)) m2.1
      have hsz : (tszL (d + 1) os : Int) = tszR pre + (tsz (d + 1) o : Int) + (tszL (d + 1) post : Int) := by
        rw [← tszR_map false os, i3, tszR_app, tszR_cons, tszR_map]; dsimp only; omega
      have hr : Rel κ (brT P h c d o (gon pre κ)).2 l (upT h c (d + 1) (some o) (fr P c d k y) l).2 := by
        obtain ⟨r1, r2, r3⟩ := m2
        exact ⟨r1, by rw [← c2]; exact r2, by rw [← c3]; exact r3⟩
      refine ⟨by rw [g1, m1]; simp, hr.trans g2, by omega, fun he => ?_⟩
      rw [he] at i3
      exact absurd i3 (by cases pre <;> simp)
