/-! Pure: what a call that is done carries along -/
/-- a tree without its addresses -/
def nad : (d : Nat) → Tr d → Tr d
  | 0, t => t
  | d + 1, t => ((0, t.1.2), t.2.map (nad d))
theorem nad_rt : ∀ (d : Nat) (t : Tr d), nF (rt d (nad d t)) = nF (rt d t) ∧ nX (rt d (nad d t)) = nX (rt d t) ∧ nV (rt d (nad d t)) = nV (rt d t) ∧ nM (rt d (nad d t)) = nM (rt d t) ∧ nN (rt d (nad d t)) = nN (rt d t) ∧ nD (rt d (nad d t)) = nD (rt d t)
  | 0, t => t.elim
  | _ + 1, _ => ⟨rfl, rfl, rfl, rfl, rfl, rfl⟩
theorem nad_tsz : ∀ (d : Nat) (t : Tr d), tsz d (nad d t) = tsz d t := by
  intro d
  induction d with
  | zero => intro t; exact t.elim
  | succ d ih =>
    intro t
    show 1 + ((t.2.map (nad d)).map (tsz d)).sum = 1 + (t.2.map (tsz d)).sum
    rw [List.map_map, show tsz d ∘ nad d = tsz d from funext ih]
theorem nad_tszL (d : Nat) (l : List (Tr d)) : tszL d (l.map (nad d)) = tszL d l := by
  unfold tszL; rw [List.map_map, show tsz d ∘ nad d = tsz d from funext (nad_tsz d)]
/-- all its calls are of functions that are told, with numbers -/
def Gd (P : Pg) : (d : Nat) → Tr d → Prop
  | 0, t => t.elim
  | d + 1, t => (0 ≤ nF t.1 ∧ nF t.1 < P.2.2 ∧ 0 ≤ nX t.1 ∧ nX t.1 ≤ 996 ∧ 0 ≤ nV t.1 ∧ nV t.1 ≤ 996) ∧ ∀ p ∈ t.2, Gd P d p
theorem Gd_rt {P : Pg} : ∀ (d : Nat) (t : Tr d), Gd P d t → 0 ≤ nF (rt d t) ∧ nF (rt d t) < P.2.2 ∧ 0 ≤ nX (rt d t) ∧ nX (rt d t) ≤ 996 ∧ 0 ≤ nV (rt d t) ∧ nV (rt d t) ≤ 996
  | 0, t, _ => t.elim
  | _ + 1, _, h => h.1
theorem Gd_nad {P : Pg} : ∀ (d : Nat) (t : Tr d), Gd P d (nad d t) ↔ Gd P d t := by
  intro d
  induction d with
  | zero => intro t; exact t.elim
  | succ d ih =>
    intro t
    constructor
    · rintro ⟨h1, h2⟩; exact ⟨h1, fun p hp => (ih p).mp (h2 _ (List.mem_map.mpr ⟨p, hp, rfl⟩))⟩
    · rintro ⟨h1, h2⟩; refine ⟨h1, fun p hp => ?_⟩
      obtain ⟨q, hq, rfl⟩ := List.mem_map.mp hp
      exact (ih q).mpr (h2 q hq)
theorem z996 : (0 : Int) ≤ 0 ∧ (0 : Int) ≤ 996 := ⟨by decide, by decide⟩
/-- what is so of the state stays so, and numbers come out -/
theorem ev_inv {σ : Type} {cd : Int → Int} {rd : Int → σ → Int × σ} {cl : Int → Int → σ → Int × σ} {x : Int} {I : σ → Prop} (hx : 0 ≤ x ∧ x ≤ 996) (hr : ∀ v s, 0 ≤ v → I s → (0 ≤ (rd v s).1 ∧ (rd v s).1 ≤ 996) ∧ I (rd v s).2) (hc : ∀ k y s, 0 ≤ k → k ≤ 4 → 0 ≤ y → y ≤ 996 → I s → (0 ≤ (cl k y s).1 ∧ (cl k y s).1 ≤ 996) ∧ I (cl k y s).2) : ∀ (n : Nat) (a b : Int) (s : σ), Tm cd n a b → I s → (0 ≤ (ev cd rd cl x n a s).1 ∧ (ev cd rd cl x n a s).1 ≤ 996) ∧ I (ev cd rd cl x n a s).2 := by
  intro n
  induction n with
  | zero => intro a b s h; exact h.elim
  | succ n ih =>
    intro a b s h hs
    rcases Tm_succ h with ⟨c1, -⟩ | ⟨c1, h1⟩ | ⟨c1, c2, c3, h1⟩ | ⟨c1, m, h1, h2⟩ | ⟨c1, m1, m2, h1, h2, h3⟩
    · rcases c1 with c1 | c1
      · rw [ev_fig c1]; exact ⟨⟨by dsimp only; omega, by dsimp only; omega⟩, hs⟩
      · rw [ev_n c1]; exact ⟨hx, hs⟩
    · rw [ev_x c1]
      obtain ⟨g1, g2⟩ := ih _ _ s h1 hs
      exact hr _ _ g1.1 g2
    · rw [ev_f c1]
      obtain ⟨g1, g2⟩ := ih _ _ s h1 hs
      exact hc _ _ _ (by omega) (by omega) g1.1 g1.2 g2
    · rw [ev_b c1, Tm_tend h1]
      obtain ⟨g1, g2⟩ := ih _ _ s h1 hs
      obtain ⟨g3, g4⟩ := ih _ _ _ h2 g2
      exact ⟨opv_rng g1 g3, g4⟩
    · rw [ev_q c1, Tm_tend h1, Tm_tend h2]
      obtain ⟨g1, g2⟩ := ih _ _ s h1 hs
      split
      · exact ih _ _ _ h3 g2
      · exact ih _ _ _ h2 g2
/-- two states that go along -/
theorem ev_sim {σ τ : Type} {cd : Int → Int} {rd : Int → σ → Int × σ} {cl : Int → Int → σ → Int × σ} {rd' : Int → τ → Int × τ} {cl' : Int → Int → τ → Int × τ} {x : Int} {R : σ → τ → Prop} (hx : 0 ≤ x ∧ x ≤ 996) (hr : ∀ v s t, 0 ≤ v → R s t → (rd v s).1 = (rd' v t).1 ∧ (0 ≤ (rd v s).1 ∧ (rd v s).1 ≤ 996) ∧ R (rd v s).2 (rd' v t).2) (hc : ∀ k y s t, 0 ≤ k → k ≤ 4 → 0 ≤ y → y ≤ 996 → R s t → (cl k y s).1 = (cl' k y t).1 ∧ (0 ≤ (cl k y s).1 ∧ (cl k y s).1 ≤ 996) ∧ R (cl k y s).2 (cl' k y t).2) : ∀ (n : Nat) (a b : Int) (s : σ) (t : τ), Tm cd n a b → R s t → (ev cd rd cl x n a s).1 = (ev cd rd' cl' x n a t).1 ∧ (0 ≤ (ev cd rd cl x n a s).1 ∧ (ev cd rd cl x n a s).1 ≤ 996) ∧ R (ev cd rd cl x n a s).2 (ev cd rd' cl' x n a t).2 := by
  intro n
  induction n with
  | zero => intro a b s t h; exact h.elim
  | succ n ih =>
    intro a b s t h hs
    rcases Tm_succ h with ⟨c1, -⟩ | ⟨c1, h1⟩ | ⟨c1, c2, c3, h1⟩ | ⟨c1, m, h1, h2⟩ | ⟨c1, m1, m2, h1, h2, h3⟩
    · rcases c1 with c1 | c1
      · rw [ev_fig c1, ev_fig c1]; exact ⟨rfl, ⟨by dsimp only; omega, by dsimp only; omega⟩, hs⟩
      · rw [ev_n c1, ev_n c1]; exact ⟨rfl, hx, hs⟩
    · rw [ev_x c1, ev_x c1]
      obtain ⟨g0, g1, g2⟩ := ih _ _ s t h1 hs
      rw [← g0]
      exact hr _ _ _ g1.1 g2
    · rw [ev_f c1, ev_f c1]
      obtain ⟨g0, g1, g2⟩ := ih _ _ s t h1 hs
      rw [← g0]
      exact hc _ _ _ _ (by omega) (by omega) g1.1 g1.2 g2
    · rw [ev_b c1, ev_b c1, Tm_tend h1]
      obtain ⟨g0, g1, g2⟩ := ih _ _ s t h1 hs
      obtain ⟨g3, g4, g5⟩ := ih _ _ _ _ h2 g2
      rw [← g0, ← g3]
      exact ⟨rfl, opv_rng g1 g4, g5⟩
    · rw [ev_q c1, ev_q c1, Tm_tend h1, Tm_tend h2]
      obtain ⟨g0, g1, g2⟩ := ih _ _ s t h1 hs
      rw [← g0]
      split
      · exact ih _ _ _ _ h3 g2
      · exact ih _ _ _ _ h2 g2
/-- what a call that is done does where it calls; d levels below -/
def clS (P : Pg) (h c : Int → Int) : (d : Nat) → Int → Int → Int × List (Tr d) × List (Bool × Tr d) × Kt → Int × Int × List (Tr d) × List (Bool × Tr d) × Kt
  | 0, _, _, s => (0, s)
  | d + 1, k, y, s => anC P (brT P h c d) (mkT P c d) k y s
def doS (P : Pg) (h c : Int → Int) (d : Nat) (f x : Int) (rem : List (Bool × Tr d)) (κ : Kt) : Int × Int × List (Tr d) × List (Bool × Tr d) × Kt := ev P.1 (rdc c) (clS P h c d) x 160 (P.2.1 f) ((0, [], rem, κ) : Int × List (Tr d) × List (Bool × Tr d) × Kt)
theorem brT_eq (P : Pg) (h c : Int → Int) (d : Nat) (t : Tr (d + 1)) (κ : Kt) (ho : isOldN h c (nM t.1) = true) : brT P h c d t κ = (mkN d (nAd t.1, nF t.1, nX t.1, (doS P h c d (nF t.1) (nX t.1) (t.2.map (fun p => (false, p))) (κ.1, κ.2.1, κ.2.2.1 + 1, κ.2.2.2)).1, (doS P h c d (nF t.1) (nX t.1) (t.2.map (fun p => (false, p))) (κ.1, κ.2.1, κ.2.2.1 + 1, κ.2.2.2)).2.1, nN t.1, nD t.1 + 1) (doS P h c d (nF t.1) (nX t.1) (t.2.map (fun p => (false, p))) (κ.1, κ.2.1, κ.2.2.1 + 1, κ.2.2.2)).2.2.1, gon (doS P h c d (nF t.1) (nX t.1) (t.2.map (fun p => (false, p))) (κ.1, κ.2.1, κ.2.2.1 + 1, κ.2.2.2)).2.2.2.1 (doS P h c d (nF t.1) (nX t.1) (t.2.map (fun p => (false, p))) (κ.1, κ.2.1, κ.2.2.1 + 1, κ.2.2.2)).2.2.2.2) := by
  cases d with
  | zero => simp only [brT]; rw [if_pos ho]; rfl
  | succ d => simp only [brT]; rw [if_pos ho]; rfl
/-- a made call: nothing is left to be taken up -/
theorem mkT_doS {P : Pg} (hP : Pok P) (h : Int → Int) {c : Int → Int} (hc : Cok c) : ∀ (d : Nat) (f x : Int) (κ : Kt), 0 ≤ f → f < P.2.2 → 0 ≤ x → x ≤ 996 → (mkT P c d f x κ = (mkN d (0, f, x, (doS P h c d f x [] (κ.1 + 1, κ.2.1 + 1, κ.2.2)).1, (doS P h c d f x [] (κ.1 + 1, κ.2.1 + 1, κ.2.2)).2.1, κ.1, 1) (doS P h c d f x [] (κ.1 + 1, κ.2.1 + 1, κ.2.2)).2.2.1, (doS P h c d f x [] (κ.1 + 1, κ.2.1 + 1, κ.2.2)).2.2.2.2) ∧ (doS P h c d f x [] (κ.1 + 1, κ.2.1 + 1, κ.2.2)).2.2.2.1 = []) ∧ 0 ≤ nV (mkT P c d f x κ).1.1 ∧ nV (mkT P c d f x κ).1.1 ≤ 996 := by
  intro d
  induction d with
  | zero =>
    intro f x κ f0 f1 x0 x1
    obtain ⟨-, b, hT, -⟩ := hP.2.2 f f0 f1
    have := ev_sim (σ := Int × List (Tr 0) × Kt) (τ := Int × List (Tr 0) × List (Bool × Tr 0) × Kt) (cd := P.1) (rd := rdc c) (rd' := rdc c) (cl := fun _ _ s => (0, s)) (cl' := clS P h c 0) (x := x) (R := fun s t => s.1 = t.1 ∧ s.2.1 = t.2.1 ∧ t.2.2.1 = [] ∧ s.2.2 = t.2.2.2) ⟨x0, x1⟩ (fun v s t v0 hR => ⟨rfl, rdc_rng hc v s, by show bor s.1 _ = bor t.1 _; rw [hR.1], hR.2⟩) (fun k y s t k0 k1 y0 y1 hR => ⟨rfl, z996, hR⟩) 160 (P.2.1 f) b ((0, [], κ.1 + 1, κ.2.1 + 1, κ.2.2) : Int × List (Tr 0) × Kt) ((0, [], [], κ.1 + 1, κ.2.1 + 1, κ.2.2) : Int × List (Tr 0) × List (Bool × Tr 0) × Kt) hT ⟨rfl, rfl, rfl, rfl⟩
    obtain ⟨e1, e2, e3, e4, e5, e6⟩ := this
    refine ⟨⟨?_, e5⟩, e2⟩
    simp only [mkT, doS]
    rw [e1, e3, e4, e6]
  | succ d ih =>
    intro f x κ f0 f1 x0 x1
    obtain ⟨-, b, hT, -⟩ := hP.2.2 f f0 f1
    have := ev_sim (σ := Int × List (Tr (d + 1)) × Kt) (τ := Int × List (Tr (d + 1)) × List (Bool × Tr (d + 1)) × Kt) (cd := P.1) (rd := rdc c) (rd' := rdc c) (cl := fun k y s => if k < P.2.2 then (nV (rt (d + 1) (mkT P c d k y s.2.2).1), s.1, s.2.1 ++ [(mkT P c d k y s.2.2).1], (mkT P c d k y s.2.2).2) else (0, s)) (cl' := clS P h c (d + 1)) (x := x) (R := fun s t => s.1 = t.1 ∧ s.2.1 = t.2.1 ∧ t.2.2.1 = [] ∧ s.2.2 = t.2.2.2) ⟨x0, x1⟩ (fun v s t v0 hR => ⟨rfl, rdc_rng hc v s, by show bor s.1 _ = bor t.1 _; rw [hR.1], hR.2⟩) (fun k y s t k0 k1 y0 y1 hR => by
      obtain ⟨r1, r2, r3, r4⟩ := hR
      by_cases hk : k < P.2.2
      · have := (ih k y s.2.2 k0 hk y0 y1).2
        simp only [clS, anC, if_pos hk, r3, fnd, ← r4]
        exact ⟨by trivial, this, r1, by rw [r2], by first | trivial | exact r3, by trivial⟩
      · simp only [clS, anC, if_neg hk]
        exact ⟨by trivial, z996, r1, r2, r3, r4⟩) 160 (P.2.1 f) b ((0, [], κ.1 + 1, κ.2.1 + 1, κ.2.2) : Int × List (Tr (d + 1)) × Kt) ((0, [], [], κ.1 + 1, κ.2.1 + 1, κ.2.2) : Int × List (Tr (d + 1)) × List (Bool × Tr (d + 1)) × Kt) hT ⟨rfl, rfl, rfl, rfl⟩
    obtain ⟨e1, e2, e3, e4, e5, e6⟩ := this
    refine ⟨⟨?_, e5⟩, e2⟩
    simp only [mkT, doS]
    rw [e1, e3, e4, e6]
/-- all stays good -/
theorem fnd_mem {d : Nat} {f x : Int} : ∀ (l : List (Bool × Tr d)) (q : List (Bool × Tr d) × (Bool × Tr d) × List (Bool × Tr d)), fnd f x l = some q → l = q.1 ++ q.2.1 :: q.2.2 ∧ nF (rt d q.2.1.2) = f ∧ nX (rt d q.2.1.2) = x := by
  intro l
  induction l with
  | nil => intro q h; cases h
  | cons t l ih =>
    intro q h
    simp only [fnd] at h
    split at h
    · rename_i hc; cases h; exact ⟨rfl, hc⟩
    · cases hf : fnd f x l with
      | none => rw [hf] at h; cases h
      | some q' =>
        rw [hf] at h
        have : q = (t :: q'.1, q'.2) := (Option.some.inj h).symm
        subst this
        obtain ⟨h1, h2⟩ := ih q' hf
        exact ⟨by rw [h1]; rfl, h2⟩
def GdS (P : Pg) (d : Nat) (s : Int × List (Tr d) × List (Bool × Tr d) × Kt) : Prop := (∀ p ∈ s.2.1, Gd P d p) ∧ ∀ q ∈ s.2.2.1, Gd P d q.2
theorem doS_Gd {P : Pg} (hP : Pok P) {h c : Int → Int} (hc : Cok c) (d : Nat) (hcl : ∀ k y s, 0 ≤ k → k ≤ 4 → 0 ≤ y → y ≤ 996 → GdS P d s → (0 ≤ (clS P h c d k y s).1 ∧ (clS P h c d k y s).1 ≤ 996) ∧ GdS P d (clS P h c d k y s).2) {f x : Int} (f0 : 0 ≤ f) (f1 : f < P.2.2) (x0 : 0 ≤ x) (x1 : x ≤ 996) {rem : List (Bool × Tr d)} (hr : ∀ q ∈ rem, Gd P d q.2) (κ : Kt) : (0 ≤ (doS P h c d f x rem κ).1 ∧ (doS P h c d f x rem κ).1 ≤ 996) ∧ GdS P d (doS P h c d f x rem κ).2 := by
  obtain ⟨-, b, hT, -⟩ := hP.2.2 f f0 f1
  exact ev_inv (I := GdS P d) ⟨x0, x1⟩ (fun v s v0 hs => ⟨rdc_rng hc v s, hs⟩) hcl 160 (P.2.1 f) b _ hT ⟨(fun p hp => by cases hp), hr⟩
theorem brL_Gd {P : Pg} {d : Nat} {br : Tr d → Kt → Tr d × Kt} (hb : ∀ t κ, Gd P d t → Gd P d (br t κ).1) : ∀ (l : List (Tr d)) (κ : Kt), (∀ p ∈ l, Gd P d p) → (∀ p ∈ (brL br l κ).1, Gd P d p) ∧ ∀ p ∈ (brL br l κ).2.1, Gd P d p := by
  intro l
  induction l with
  | nil => intro κ _; exact ⟨(fun p hp => by cases hp), (fun p hp => by cases hp)⟩
  | cons t l ih =>
    intro κ hl
    have ht := hb t κ (hl t (List.mem_cons_self ..))
    have hl' : ∀ p ∈ l, Gd P d p := fun p hp => hl p (List.mem_cons_of_mem _ hp)
    simp only [brL]
    split
    · obtain ⟨g1, g2⟩ := ih (br t κ).2 hl'
      exact ⟨fun p hp => by rcases List.mem_cons.mp hp with rfl | hp; exact ht; exact g1 p hp, g2⟩
    · exact ⟨fun p hp => by rw [List.mem_singleton.mp hp]; exact ht, hl'⟩
theorem Gd_all {P : Pg} (hP : Pok P) {h c : Int → Int} (hc : Cok c) : ∀ (d : Nat), (∀ k y s, 0 ≤ k → k ≤ 4 → 0 ≤ y → y ≤ 996 → GdS P d s → (0 ≤ (clS P h c d k y s).1 ∧ (clS P h c d k y s).1 ≤ 996) ∧ GdS P d (clS P h c d k y s).2) ∧ (∀ f x κ, 0 ≤ f → f < P.2.2 → 0 ≤ x → x ≤ 996 → Gd P (d + 1) (mkT P c d f x κ).1) ∧ ∀ t κ, Gd P (d + 1) t → Gd P (d + 1) (brT P h c d t κ).1 := by
  have mk : ∀ d, (∀ k y s, 0 ≤ k → k ≤ 4 → 0 ≤ y → y ≤ 996 → GdS P d s → (0 ≤ (clS P h c d k y s).1 ∧ (clS P h c d k y s).1 ≤ 996) ∧ GdS P d (clS P h c d k y s).2) → ∀ f x κ, 0 ≤ f → f < P.2.2 → 0 ≤ x → x ≤ 996 → Gd P (d + 1) (mkT P c d f x κ).1 := by
    intro d hcl f x κ f0 f1 x0 x1
    rw [(mkT_doS hP h hc d f x κ f0 f1 x0 x1).1.1]
    obtain ⟨g1, g2⟩ := doS_Gd hP hc d hcl f0 f1 x0 x1 (rem := []) (fun q hq => by cases hq) (κ.1 + 1, κ.2.1 + 1, κ.2.2)
    exact ⟨⟨f0, f1, x0, x1, g1⟩, g2.1⟩
  intro d
  induction d with
  | zero =>
    have hcl : ∀ k y s, 0 ≤ k → k ≤ 4 → 0 ≤ y → y ≤ 996 → GdS P 0 s → (0 ≤ (clS P h c 0 k y s).1 ∧ (clS P h c 0 k y s).1 ≤ 996) ∧ GdS P 0 (clS P h c 0 k y s).2 := fun k y s _ _ _ _ hs => ⟨z996, hs⟩
    refine ⟨hcl, mk 0 hcl, fun t κ ht => ?_⟩
    by_cases ho : isOldN h c (nM t.1) = true
    · rw [brT_eq P h c 0 t κ ho]
      obtain ⟨⟨a1, a2, a3, a4, -⟩, hp⟩ := ht
      obtain ⟨g1, g2⟩ := doS_Gd hP hc 0 hcl a1 a2 a3 a4 (rem := t.2.map (fun p => (false, p))) (fun q hq => by obtain ⟨p, hpm, rfl⟩ := List.mem_map.mp hq; exact hp p hpm) (κ.1, κ.2.1, κ.2.2.1 + 1, κ.2.2.2)
      exact ⟨⟨a1, a2, a3, a4, g1⟩, g2.1⟩
    · simp only [brT]; rw [if_neg ho]; exact ht
  | succ d ih =>
    obtain ⟨-, ihm, ihb⟩ := ih
    have hcl : ∀ k y s, 0 ≤ k → k ≤ 4 → 0 ≤ y → y ≤ 996 → GdS P (d + 1) s → (0 ≤ (clS P h c (d + 1) k y s).1 ∧ (clS P h c (d + 1) k y s).1 ≤ 996) ∧ GdS P (d + 1) (clS P h c (d + 1) k y s).2 := by
      intro k y s k0 k1 y0 y1 ⟨hs1, hs2⟩
      simp only [clS, anC]
      by_cases hk : k < P.2.2
      · rw [if_pos hk]
        cases hf : fnd k y s.2.2.1 with
        | none =>
          have hg := ihm k y s.2.2.2 k0 hk y0 y1
          exact ⟨(Gd_rt _ _ hg).2.2.2.2, fun p hp => by rcases List.mem_append.mp hp with hp | hp; exact hs1 p hp; rw [List.mem_singleton.mp hp]; exact hg, hs2⟩
        | some q =>
          obtain ⟨e1, -⟩ := fnd_mem _ _ hf
          have hq : Gd P (d + 1) q.2.1.2 := hs2 q.2.1 (by rw [e1]; exact List.mem_append_right _ (List.mem_cons_self ..))
          have hq2 : ∀ r ∈ q.2.2, Gd P (d + 1) r.2 := fun r hr => hs2 r (by rw [e1]; exact List.mem_append_right _ (List.mem_cons_of_mem _ hr))
          dsimp only
          cases hb : q.2.1.1 with
          | true => exact ⟨(Gd_rt _ _ hq).2.2.2.2, fun p hp => by rcases List.mem_append.mp hp with hp | hp; exact hs1 p hp; rw [List.mem_singleton.mp hp]; exact hq, hq2⟩
          | false =>
            have hg := ihb q.2.1.2 (gon q.1 s.2.2.2) hq
            exact ⟨(Gd_rt _ _ hg).2.2.2.2, fun p hp => by rcases List.mem_append.mp hp with hp | hp; exact hs1 p hp; rw [List.mem_singleton.mp hp]; exact hg, hq2⟩
      · rw [if_neg hk]; exact ⟨z996, hs1, hs2⟩
    refine ⟨hcl, mk (d + 1) hcl, fun t κ ht => ?_⟩
    obtain ⟨⟨a1, a2, a3, a4, a5⟩, hp⟩ := ht
    by_cases ho : isOldN h c (nM t.1) = true
    · rw [brT_eq P h c (d + 1) t κ ho]
      obtain ⟨g1, g2⟩ := doS_Gd hP hc (d + 1) hcl a1 a2 a3 a4 (rem := t.2.map (fun p => (false, p))) (fun q hq => by obtain ⟨p, hpm, rfl⟩ := List.mem_map.mp hq; exact hp p hpm) (κ.1, κ.2.1, κ.2.2.1 + 1, κ.2.2.2)
      exact ⟨⟨a1, a2, a3, a4, g1⟩, g2.1⟩
    · simp only [brT]
      rw [if_neg ho]
      have hB := brL_Gd ihb t.2 κ hp
      rcases hbr : brL (brT P h c d) t.2 κ with ⟨bs, rs, fl, κ'⟩
      rw [hbr] at hB
      cases fl with
      | true =>
        obtain ⟨g1, g2⟩ := doS_Gd hP hc (d + 1) hcl a1 a2 a3 a4 (rem := bs.map (fun p => (true, p)) ++ rs.map (fun p => (false, p))) (fun q hq => by
          rcases List.mem_append.mp hq with hq | hq
          · obtain ⟨p, hpm, rfl⟩ := List.mem_map.mp hq; exact hB.1 p hpm
          · obtain ⟨p, hpm, rfl⟩ := List.mem_map.mp hq; exact hB.2 p hpm) (κ'.1, κ'.2.1, κ'.2.2.1 + 1, κ'.2.2.2)
        exact ⟨⟨a1, a2, a3, a4, g1⟩, g2.1⟩
      | false => exact ⟨⟨a1, a2, a3, a4, a5⟩, hB.1⟩
