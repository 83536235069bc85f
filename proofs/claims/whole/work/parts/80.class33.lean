/-! THE CLASS: a maker's world -/
theorem WE_RC {n : Int} {s : Sg} {G : Hp} (h : RC n s G) {mk sk : Nat} (hm : (mk = 29 ∧ sk = 30) ∨ (mk = 31 ∧ sk = 32)) : ∃ pa, (pa = 7 ∨ pa = 11) ∧ rv G 1 4 = some pa ∧ WE mk sk pa s.2.1 (iv G (pa + 1)) (iv G (pa + 2)) (iv G (pa + 3)) (iv G pa 3) s.2.2.1.1 (iv G mk 5) G ∧ PgC s.2.1 (iv G (pa + 1)) (iv G (pa + 2)) (iv G (pa + 3)) (iv G pa 3) ∧ Pok s.2.1 := by
  obtain ⟨hF, h2, ⟨pa, p1, p2, p3, p4, p5, p6⟩, h4, h5, ⟨T, fs, κ, c1, c2, c3, c4, c5, c6, c7, c8, c9, c10, c11, c12, c13, c14, c15, c16⟩⟩ := h
  have hE : ENs mk sk pa G := by
    rcases hm with ⟨rfl, rfl⟩ | ⟨rfl, rfl⟩
    · exact ⟨ft29 hF, fr29_0 hF, fr29_1 hF, fr29_2 hF, p4, ft30 hF, fl30 hF, ft15 hF, fr15_0 hF, ft16 hF, fl16 hF, ft28 hF, PGs_FC hF p1, Or.inl ⟨rfl, rfl⟩, p1⟩
    · exact ⟨ft31 hF, fr31_0 hF, fr31_1 hF, fr31_2 hF, p5, ft32 hF, fl32 hF, ft15 hF, fr15_0 hF, ft16 hF, fl16 hF, ft28 hF, PGs_FC hF p1, Or.inr ⟨rfl, rfl⟩, p1⟩
  exact ⟨pa, p1, p2, ⟨hE, rfl, p6.1, fun _ => rfl, fun _ => rfl, fun _ => rfl, h4.1, rfl, c15⟩, (RdOk_PgC p6).1, (RdOk_PgC p6).2⟩
/-- the class's memory under what a maker changes -/
theorem RCt_Fq {mk sk : Nat} {tp : Int} {A : List Nat} {t : Tx} {G G' : Hp} (hm : (mk = 29 ∧ sk = 30) ∨ (mk = 31 ∧ sk = 32)) (hq : Fq mk sk tp A G G') (hA : ∀ b ∈ A, b = 33 ∨ 63 ≤ b) (h62 : 62 ≤ sz G) (h : RCt t G) : RCt t G' := by
  have e : ∀ a k, a ≤ 28 → iv G' a k = iv G a k := by
    intro a k ha
    rcases hq.2.2.2 a k (by omega) with g | g | g | g | ⟨b, g1, g2⟩
    · exact g
    · omega
    · omega
    · have := hA a g; omega
    · have := hA b g1; omega
  exact RCt_k h (fun k => e _ k (by omega)) (e _ _ (by omega)) (e _ _ (by omega))
theorem Fq_iv {mk sk : Nat} {tp : Int} {A : List Nat} {G G' : Hp} (hm : (mk = 29 ∧ sk = 30) ∨ (mk = 31 ∧ sk = 32)) (hq : Fq mk sk tp A G G') (hO : OkA G A) (h62 : 62 ≤ sz G) {a : Nat} (k : Int) (ha : a ≤ 28 ∨ (35 ≤ a ∧ a ≤ 62)) : iv G' a k = iv G a k := by
  rcases hq.2.2.2 a k (by omega) with g | g | g | g | ⟨b, g1, g2⟩
  · exact g
  · omega
  · omega
  · have := (hO a g).2.1; omega
  · have := (hO b g1).2.1; omega
theorem Fq_rv {mk sk : Nat} {tp : Int} {A : List Nat} {G G' : Hp} (hq : Fq mk sk tp A G G') (hO : OkA G A) (h62 : 62 ≤ sz G) {a : Nat} {k : Int} (ha : a ≤ 62) (h28 : a ≠ 28 ∨ k ≠ 0) (h33 : a ≠ 33 ∨ k = 7) : rv G' a k = rv G a k := by
  rcases hq.2.2.1 a k (by omega) with g | g | g
  · exact g
  · omega
  · have := (hO a g.1).2.1; omega
theorem FC_Fq {mk sk : Nat} {tp : Int} {A : List Nat} {G G' : Hp} (hq : Fq mk sk tp A G G') (hO : OkA G A) (h62 : 62 ≤ sz G) (hF : FC G) : FC G' := by
  have q1 : ∀ e ∈ fcT, e.1 ≤ 34 := by decide
  have q2 : ∀ e ∈ fcR, e.1 ≤ 34 ∧ e.1 ≠ 28 ∧ (e.1 ≠ 33 ∨ e.2.1 = 7) := by decide
  refine ⟨fun e he => ?_, fun e he => ?_⟩
  · have := q1 e he
    rw [(hq.2.1 e.1 (by omega)).1, (hq.2.1 e.1 (by omega)).2]; exact hF.1 e he
  · have := q2 e he
    rw [Fq_rv hq hO h62 (by omega) (Or.inl this.2.1) this.2.2]; exact hF.2 e he
theorem Im_Fq {mk sk : Nat} {tp : Int} {A : List Nat} {G G' : Hp} (hm : (mk = 29 ∧ sk = 30) ∨ (mk = 31 ∧ sk = 32)) (hq : Fq mk sk tp A G G') (hO : OkA G A) {a : Nat} {q : (Int → Int) × Int} (h : ImAt G a q) : ImAt G' a q := by
  obtain ⟨h1, h2, h3, h4, h5, h6, h7, h8, h9, h10⟩ := h
  have n1 : a ∉ A := fun m => by have := (hO a m).1.1; omega
  have n2 : a + 1 ∉ A := fun m => by have := (hO _ m).1.1; omega
  have n3 : ∀ b ∈ A, a ≠ b + 1 := fun b m e => by subst e; have := (hO b m).1.2.2.1; omega
  have n4 : ∀ b ∈ A, a + 1 ≠ b + 1 := fun b m e => by
    have e : b = a := by omega
    subst e; exact n1 m
  have ei : ∀ k, iv G' a k = iv G a k := by
    intro k
    rcases hq.2.2.2 a k (by omega) with g | g | g | g | ⟨b, g1, g2⟩
    · exact g
    · omega
    · omega
    · exact absurd g n1
    · exact absurd g2 (n3 b g1)
  have ei1 : ∀ k, iv G' (a + 1) k = iv G (a + 1) k := by
    intro k
    rcases hq.2.2.2 (a + 1) k h2 with g | g | g | g | ⟨b, g1, g2⟩
    · exact g
    · omega
    · omega
    · exact absurd g n2
    · exact absurd g2 (n4 b g1)
  have er : rv G' a 0 = rv G a 0 := by
    rcases hq.2.2.1 a 0 (by omega) with g | g | g
    · exact g
    · omega
    · exact absurd g.1 n1
  exact ⟨h1, Nat.le_trans h2 hq.1, (hq.2.1 a (by omega)).1.trans h3, er.trans h4, (hq.2.1 _ h2).1.trans h5, (hq.2.1 _ h2).2.trans h6, (ei 1).trans h7, (ei 2).trans h8, (ei 3).trans h9, fun k k0 k1 => (ei1 k).trans (h10 k k0 k1)⟩
/-- all but the trace is as it was, whatever a maker did -/
theorem RC_Fq {mk sk : Nat} {tp n : Int} {A : List Nat} {t : Tx} {P : Pg} {r : Rw} {b : Bk} {c : Tc} {G G' : Hp} (hm : (mk = 29 ∧ sk = 30) ∨ (mk = 31 ∧ sk = 32)) (hq : Fq mk sk tp A G G') (hO : OkA G A) (h62 : 62 ≤ sz G) (h : RC n (t, P, r, b, c) G) : FC G' ∧ RCt t G' ∧ RCp P G' ∧ RCr r G' ∧ RCb b G' ∧ Sm isM G G' := by
  obtain ⟨hF, h2, ⟨pa, p1, p2, p3, p4, p5, p6⟩, ⟨k1, k2, k3, k4, k5, k6⟩, h5, -⟩ := h
  dsimp only at k1 k2 k3 k4 k5 k6 h2 p6 h5
  have fi : ∀ (x : Nat) (k : Int), x ≤ 28 ∨ (35 ≤ x ∧ x ≤ 62) → iv G' x k = iv G x k := fun x k hx => Fq_iv hm hq hO h62 k hx
  have fr : ∀ (x : Nat) (k : Int), x ≤ 62 → x ≠ 28 → x ≠ 33 → rv G' x k = rv G x k := fun x k hx h1 h3 => Fq_rv hq hO h62 hx (Or.inl h1) (Or.inl h3)
  refine ⟨FC_Fq hq hO h62 hF, RCt_k h2 (fun k => fi _ k (by omega)) (fi _ _ (by omega)) (fi _ _ (by omega)), ⟨pa, p1, by rw [fr _ _ (by omega) (by omega) (by omega)]; exact p2, by rw [fr _ _ (by omega) (by omega) (by omega)]; exact p3, by rw [fr _ _ (by omega) (by omega) (by omega)]; exact p4, by rw [fr _ _ (by omega) (by omega) (by omega)]; exact p5, RdOk_k p6 (fun x k x0 x1 => fi x k (by omega))⟩, ⟨fun k k0 k9 => (fi 16 k (by omega)).trans (k1 k k0 k9), (fi _ _ (by omega)).trans k2, (fi _ _ (by omega)).trans k3, (fi _ _ (by omega)).trans k4, RCd_k k5 (fun a k a0 a1 => fi a k (by omega)), ⟨fun j j0 j1 => ?_, fun a => by rw [fr 27 0 (by omega) (by omega) (by omega), fr 27 1 (by omega) (by omega) (by omega)]; exact k6.2 a⟩⟩, RCb_k h5 (fi _ _ (by omega)) (fun k => fi _ k (by omega)) (fun k => fi _ k (by omega)) (fun k => fi _ k (by omega)), fun x hx => ?_⟩
  · have hk := k6.1 j j0 j1
    cases hq' : r.2.2.1 j with
    | none => rw [hq'] at hk; dsimp only at hk ⊢; rw [fr 27 j (by omega) (by omega) (by omega)]; exact hk
    | some q =>
      rw [hq'] at hk
      obtain ⟨a, a1, a2⟩ := hk
      exact ⟨a, by rw [fr 27 j (by omega) (by omega) (by omega)]; exact a1, Im_Fq hm hq hO a2⟩
  · unfold isM at hx
    exact ⟨(hq.2.1 x (by omega)).1, (hq.2.1 x (by omega)).2, fun k => fi x k (by omega), fun k => fr x k (by omega) (by omega) (by omega)⟩
