/-! THE CLASS: a maker's world -/
theorem WE_RC {n : Int} {s : Sg} {G : Hp} (h : RC n s G) {mk sk : Nat} (hm : (mk = 29 ∧ sk = 30) ∨ (mk = 31 ∧ sk = 32)) : ∃ pa, (pa = 7 ∨ pa = 11) ∧ rv G 1 4 = some pa ∧ WE mk sk pa s.2.1 (iv G (pa + 1)) (iv G (pa + 2)) (iv G (pa + 3)) (iv G pa 3) s.2.2.1.1 (iv G mk 5) G ∧ PgC s.2.1 (iv G (pa + 1)) (iv G (pa + 2)) (iv G (pa + 3)) (iv G pa 3) ∧ Pok s.2.1 := by
  obtain ⟨hF, h2, ⟨pa, p1, p2, p3, p4, p5, p6⟩, h4, h5, ⟨T, fs, κ, c1, c2, c3, c4, c5, c6, c7, c8, c9, c10, c11, c12, c13, c14, c15, c16⟩⟩ := h
  have hE : ENs mk sk pa G := by
    rcases hm with ⟨rfl, rfl⟩ | ⟨rfl, rfl⟩
    · exact ⟨ft29 hF, fr29_0 hF, fr29_1 hF, fr29_2 hF, p4, ft30 hF, fl30 hF, ft15 hF, fr15_0 hF, ft16 hF, fl16 hF, ft28 hF, PGs_FC hF p1, Or.inl ⟨rfl, rfl⟩, p1⟩
    · exact ⟨ft31 hF, fr31_0 hF, fr31_1 hF, fr31_2 hF, p5, ft32 hF, fl32 hF, ft15 hF, fr15_0 hF, ft16 hF, fl16 hF, ft28 hF, PGs_FC hF p1, Or.inr ⟨rfl, rfl⟩, p1⟩
  exact ⟨pa, p1, p2, ⟨hE, rfl, p6.1, fun _ => rfl, fun _ => rfl, fun _ => rfl, h4.1, rfl, c15⟩, (RdOk_PgC p6).1, (RdOk_PgC p6).2⟩
/-- the class's memory under what a maker changes -/
theorem RCt_Fq {mk sk : Nat} {tp : Int} {A : List Nat} {t : Tx} {G G' : Hp} (hm : (mk = 29 ∧ sk = 30) ∨ (mk = 31 ∧ sk = 32)) (hq : Fq mk sk tp A G G') (hA : ∀ b ∈ A, b = 33 ∨ 63 ≤ b) (h62 : 62 ≤ sz G) (h : RCt t G) : RCt t G' := by
  have e : ∀ a k, a ≤ 28 → iv G' a k = iv G a k := by
    intro a k ha
    rcases hq.2.2.2 a k (by omega) with g | g | g | g | ⟨b, g1, g2⟩
    · exact g
    · omega
    · omega
    · have := hA a g; omega
    · have := hA b g1; omega
  exact RCt_k h (fun k => e _ k (by omega)) (e _ _ (by omega)) (e _ _ (by omega))
