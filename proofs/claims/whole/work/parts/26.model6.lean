/-! THE MODEL: layNew, layNow -/
theorem Zf_of0 (f x : Int) (G2 : Hp) : Zf 0 0 0 0 0 f x G2 (si (si (si (si (si (si (si (si (si (si (si (si G2 35 42 0) 52 0 f) 53 0 x) 55 0 (0 + 1)) 56 0 0) 35 29 (0 + 1)) 60 0 67) 61 0 0) 62 0 0) 35 40 (0 + 1)) 61 0 0) 35 41 (iv G2 43 f)) := by
  refine ⟨Io.rf G2, fun a j g1 g2 g3 => ?_, fun j g1 g2 g3 g4 => ?_, by simp [iv_si], by simp [iv_si], by simp [iv_si], by simp [iv_si], fun a j g1 g2 g3 => ?_, by simp [iv_si], by simp [iv_si], by simp [iv_si], by simp [iv_si], fun a j g1 g2 g3 => ?_, by simp [iv_si], by simp [iv_si], by simp [iv_si]⟩
  · simp only [iv_si]
    iterate 12 rw [if_neg (by omega)]
  · simp only [iv_si]
    iterate 12 rw [if_neg (by omega)]
  · simp only [iv_si]
    iterate 12 rw [if_neg (by omega)]
  · simp only [iv_si]
    iterate 12 rw [if_neg (by omega)]
/-- the model's program and cells, as memory has them -/
def MP (P : Pg) (c : Int → Int) (G : Hp) : Prop := FM G ∧ iv G 42 = P.1 ∧ iv G 43 = P.2.1 ∧ iv G 35 14 = P.2.2 ∧ ∀ k, 0 ≤ k → k < 8 → iv G 36 k = c k
/-- what laying leaves as it was -/
def LayI (G G' : Hp) : Prop := Io G G' ∧ (∀ (a : Nat) (k : Int), a ≠ 35 → (a < 52 ∨ 56 < a) → (a < 60 ∨ 62 < a) → iv G' a k = iv G a k) ∧ ∀ k, k ≠ 29 → k ≠ 40 → k ≠ 41 → k ≠ 42 → iv G' 35 k = iv G 35 k
theorem LayI.trans {G G1 G2 : Hp} (h1 : LayI G G1) (h2 : LayI G1 G2) : LayI G G2 := ⟨h1.1.trans h2.1, fun a k g1 g2 g3 => (h2.2.1 a k g1 g2 g3).trans (h1.2.1 a k g1 g2 g3), fun k g1 g2 g3 g4 => (h2.2.2 k g1 g2 g3 g4).trans (h1.2.2 k g1 g2 g3 g4)⟩
theorem MP_LayI {P : Pg} {c : Int → Int} {G G' : Hp} (h : MP P c G) (hi : LayI G G') : MP P c G' := by
  obtain ⟨h1, h2, h3, h4, h5⟩ := h
  obtain ⟨e1, e2, e3⟩ := hi
  refine ⟨FX_Io h1 e1, ?_, ?_, by rw [e3 14 (by decide) (by decide) (by decide) (by decide)]; exact h4, fun k k0 k1 => by rw [e2 36 k (by decide) (by decide) (by decide)]; exact h5 k k0 k1⟩
  · rw [← h2]; funext k; exact e2 42 k (by decide) (by decide) (by decide)
  · rw [← h3]; funext k; exact e2 43 k (by decide) (by decide) (by decide)
theorem lay_begin {dd : Nat} {P : Pg} {G : Hp} {Q : Option V → Hp → Prop} (hF : FM G) (hP14 : iv G 35 14 = P.2.2) {f x : Int} (f0 : 0 ≤ f) (f1 : f < P.2.2) (m5 : P.2.2 ≤ 5) (kk : ∀ Gz, Zf 0 0 0 0 0 f x (si (si (si (si G 35 29 0) 35 40 0) 35 42 0) 35 41 0) Gz → Ex (dd + 4) (some .int) 10 false cX10_layNew 36 [some (.inr (.inr (some 35))), some (.inl f), some (.inl x), none] [] Gz Q) : Ex (dd + 4) (some .int) 10 false cX10_layNew 0 [some (.inr (.inr (some 35))), some (.inl f), some (.inl x), none] [] G Q := by
  refine x_aload_n (q := 1) dX10_layNew_0 rfl rfl ?_
  refine x_iconst (q := 2) dX10_layNew_1 rfl (by decide) ?_
  refine x_putI (q := 5) dX10_layNew_2 rfl f_10_118 rfl (fun h => by cases h) (fun h => by cases h) (ft35 hF) ?_
  have hF := FX_si hF 35 29 0
  refine x_iload_n (q := 6) dX10_layNew_5 rfl rfl ?_
  refine x_aload_n (q := 7) dX10_layNew_6 rfl rfl ?_
  refine x_getI (q := 10) dX10_layNew_7 rfl f_10_95 rfl (ft35 hF) ?_
  refine Ex.stk (st' := [.inl P.2.2, .inl f]) (by rw [show iv (si G 35 29 0) 35 14 = P.2.2 from (by simp [iv_si, hP14])]) ?_
  refine x_icmp_lt (q := 13) (t := 15) dX10_layNew_10 rfl (by decide) (fun h10 => ?_) (fun h10 => by exfalso; omega)
  refine x_aload_n (q := 16) dX10_layNew_15 rfl rfl ?_
  refine x_iconst (q := 17) dX10_layNew_16 rfl (by decide) ?_
  refine x_putI (q := 20) dX10_layNew_17 rfl f_10_108 rfl (fun h => by cases h) (fun h => by cases h) (ft35 hF) ?_
  have hF := FX_si hF 35 40 0
  refine x_aload_n (q := 21) dX10_layNew_20 rfl rfl ?_
  refine x_iconst (q := 22) dX10_layNew_21 rfl (by decide) ?_
  refine x_putI (q := 25) dX10_layNew_22 rfl f_10_121 rfl (fun h => by cases h) (fun h => by cases h) (ft35 hF) ?_
  have hF := FX_si hF 35 42 0
  refine x_aload_n (q := 26) dX10_layNew_25 rfl rfl ?_
  refine x_iconst (q := 27) dX10_layNew_26 rfl (by decide) ?_
  refine x_putI (q := 30) dX10_layNew_27 rfl f_10_111 rfl (fun h => by cases h) (fun h => by cases h) (ft35 hF) ?_
  have hF := FX_si hF 35 41 0
  refine x_aload_n (q := 31) dX10_layNew_30 rfl rfl ?_
  refine x_iload_n (q := 32) dX10_layNew_31 rfl rfl ?_
  refine x_iload_n (q := 33) dX10_layNew_32 rfl rfl ?_
  refine x_invV (q := 36) (as := [.inr (.inr (some 35)), .inl f, .inl x]) (rest := []) dX10_layNew_33 rfl l_10_135 m_X10_begin rfl rfl (ft35 hF) (Nat.le_of_ble_eq_true rfl) (c_begin _ (G := si (si (si (si G 35 29 0) 35 40 0) 35 42 0) 35 41 0) hF (w := 0) (a := 0) (cur := 0) (nc := 0) (ab := 0) (by simp [iv_si]) (by simp [iv_si]) (by simp [iv_si]) (by simp [iv_si]) (Or.inl ⟨rfl, rfl⟩) (by decide) (by decide) (by decide) (by decide) (by decide) (by decide) f0 (by omega) (by decide) (by decide)) (fun r1 G1 hR => ?_)
  obtain ⟨rfl, rfl⟩ := hR
  refine Ex.stk (st' := []) rfl ?_
  exact kk _ (Zf_of0 f x _)
set_option maxHeartbeats 1000000 in
theorem c_layNew {P : Pg} {c : Int → Int} (hP : Pok P) (hc : Cok c) (dd : Nat) {G : Hp} (hM : MP P c G) {f x : Int} (f0 : 0 ≤ f) (f1 : f < P.2.2) (x0 : 0 ≤ x) (x1 : x ≤ 996) : CX (dd + 5) 123 [.inr (.inr (some 35)), .inl f, .inl x] G (fun r G' => r = some (.inl (nV (rt 6 (fr P c 5 f x)))) ∧ LayI G G' ∧ iv G' 35 29 = (tsz 6 (fr P c 5 f x) : Int) ∧ fAt G' 0 (flat 6 1 (fr P c 5 f x))) := by
  obtain ⟨hF, hcd, hbg, hmn, hcc⟩ := hM
  refine CX.of (d := dd + 4) m_X10_layNew (Nat.le_of_ble_eq_true rfl) ?_
  refine Ex.lcl (ls' := [some (.inr (.inr (some 35))), some (.inl f), some (.inl x), none]) rfl ?_
  refine lay_begin (P := P) hF hmn f0 f1 hP.2.1 (fun Gz hz => ?_)
  obtain ⟨e1, e2, e3, e4, e5, e6, e7, e8, e9, e10, e11, e12, e13, e14, e15, e16⟩ := hz
  obtain ⟨q0, e, hTb, e159, hnf⟩ := hP.2.2 f f0 f1
  have hSS : SS 5 = 121 := rfl
  have hnf3 := Nat.mul_le_mul_right (SS 5) hnf
  have hsb := Tm_lt hTb
  have k1 : ∀ (a : Nat) (j : Int), a ≠ 35 → iv (si (si (si (si G 35 29 0) 35 40 0) 35 42 0) 35 41 0) a j = iv G a j := fun a j g => by simp only [iv_si]; rw [if_neg (by omega), if_neg (by omega), if_neg (by omega), if_neg (by omega)]
  have k2 : ∀ (j : Int), j ≠ 29 → j ≠ 40 → j ≠ 41 → j ≠ 42 → iv (si (si (si (si G 35 29 0) 35 40 0) 35 42 0) 35 41 0) 35 j = iv G 35 j := fun j g1 g2 g3 g4 => by simp only [iv_si]; rw [if_neg (by omega), if_neg (by omega), if_neg (by omega), if_neg (by omega)]
  have hLz : LayI G Gz := ⟨e1, fun a k g1 g2 g3 => by rw [e2 a k g1 g2 g3]; exact k1 a k g1, fun k g1 g2 g3 g4 => by rw [e3 k g1 g2 g3 g4]; exact k2 k g1 g2 g3 g4⟩
  obtain ⟨s1, s2, s3, s4, s5⟩ := MP_LayI ⟨hF, hcd, hbg, hmn, hcc⟩ hLz
  have hMz : MS P c Gz (P.2.1 f) 1 0 1 1 0 x := ⟨s1, s2, s3, s4, s5, by rw [e5, k1 43 f (by decide), hbg], e4, e6, e7, e11, e12, e10, by omega⟩
  refine evS hP hc 5 160 _ e hTb q0 (by omega) Gz 1 0 1 1 0 x _ _ f x hMz x0 x1 (by decide) (by decide) (by omega) (by omega) rfl (fun Gy hey hfy => ?_)
  have hfr := fr_eq P c 5 f x
  have hsz2 := ev_size hP hc 5 ⟨x0, x1⟩ (m := 0) hTb
  have rv2 := fr_rng hP hc 5 f x f0 f1 x0 x1
  generalize ev P.1 (rdc c) (apH (hnd P c 5)) x 160 (P.2.1 f) (0, []) = r2 at *
  obtain ⟨v, m2, q2⟩ := r2
  dsimp only at *
  rw [hfr] at rv2 ⊢
  have hV : nV (rt 6 (mkN 5 (0, f, x, v, m2, 0, 0) q2)) = v := rfl
  rw [hV] at rv2 ⊢
  have hFy : FM Gy := FX_Io s1 hey.1
  have y40 : iv Gy 35 40 = 1 := by rw [hey.2.2.1 40 (by decide) (by decide)]; exact e4
  have y42 : iv Gy 35 42 = 0 := by rw [hey.2.2.1 42 (by decide) (by decide)]; exact e6
  have y60 : iv Gy 60 0 = 67 := by rw [hey.2.2.2.2.2.2.2.2 60 0 (by decide) (by decide) (by omega)]; exact e14
  refine lay_give hFy y40 (by decide) rv2.1 (c_give_C (dd + 2) hFy y40 (by decide) (by decide) (sg := 67) y60 y42 (by decide) (by decide) rfl) ?_
  have hFq := FX_si (FX_si (FX_si (FX_si hFy 54 0 v) 35 42 (iv Gy 62 (1 - 1))) 35 41 (iv Gy 61 (1 - 1))) 35 40 (1 - 1)
  refine lay_end hFq (by simp [iv_si]) rv2.1 ?_
  have z1 : ∀ (a : Nat) (j : Int), a ≠ 35 → a ≠ 54 → iv (si (si (si (si Gy 54 0 v) 35 42 (iv Gy 62 (1 - 1))) 35 41 (iv Gy 61 (1 - 1))) 35 40 (1 - 1)) a j = iv Gy a j := fun a j g1 g2 => by simp only [iv_si]; rw [if_neg (by omega), if_neg (by omega), if_neg (by omega), if_neg (by omega)]
  have z2 : ∀ (j : Int), j ≠ 40 → j ≠ 41 → j ≠ 42 → iv (si (si (si (si Gy 54 0 v) 35 42 (iv Gy 62 (1 - 1))) 35 41 (iv Gy 61 (1 - 1))) 35 40 (1 - 1)) 35 j = iv Gy 35 j := fun j g1 g2 g3 => by simp only [iv_si]; rw [if_neg (by omega), if_neg (by omega), if_neg (by omega), if_neg (by omega)]
  have z3 : iv (si (si (si (si Gy 54 0 v) 35 42 (iv Gy 62 (1 - 1))) 35 41 (iv Gy 61 (1 - 1))) 35 40 (1 - 1)) 54 0 = v := by simp [iv_si]
  have z4 : ∀ (j : Int), j ≠ 0 → iv (si (si (si (si Gy 54 0 v) 35 42 (iv Gy 62 (1 - 1))) 35 41 (iv Gy 61 (1 - 1))) 35 40 (1 - 1)) 54 j = iv Gy 54 j := fun j g1 => by simp only [iv_si]; rw [if_neg (by omega), if_neg (by omega), if_neg (by omega), if_neg (by omega)]
  refine ⟨by rw [z3], hLz.trans ⟨hey.1, fun a k g1 g2 g3 => by rw [z1 a k g1 (by omega)]; exact hey.2.1 a k g1 g2 g3, fun k g1 g2 g3 g4 => by rw [z2 k g2 g3 g4]; exact hey.2.2.1 k g1 g3⟩, ?_, ?_⟩
  · rw [z2 29 (by decide) (by decide) (by decide), hey.2.2.2.2.1]
    show 1 + ((tszL 5 q2 : Nat) : Int) = ((1 + (List.map (tsz 5) q2).sum : Nat) : Int)
    unfold tszL
    omega
  · show fAt _ 0 (((0, f, x, v, m2, 0, 0), 1) :: q2.flatMap (flat 5 (1 + 1)))
    refine ⟨⟨?_, ?_, ?_, ?_, ?_⟩, ?_⟩
    · rw [z1 52 0 (by decide) (by decide), hey.2.2.2.2.2.1 52 0 (by decide) (by decide) (by omega)]; exact e9
    · rw [z1 53 0 (by decide) (by decide), hey.2.2.2.2.2.1 53 0 (by decide) (by decide) (by omega)]; exact e10
    · exact z3
    · rw [z1 55 0 (by decide) (by decide), hey.2.2.2.2.2.1 55 0 (by decide) (by decide) (by omega)]; exact e11
    · rw [z1 56 0 (by decide) (by decide)]; exact hey.2.2.2.2.2.2.2.1
    · refine fAt_kept _ _ hfy (fun a j g1 g2 g3 g4 => ?_)
      by_cases h54 : a = 54
      · subst h54; exact z4 j (by omega)
      · exact z1 a j (by omega) h54
theorem c_layNew0 (d : Nat) {G : Hp} (hF : FM G) {f x mn : Int} (hmn : iv G 35 14 = mn) (f1 : mn ≤ f) : CX (d + 1) 123 [.inr (.inr (some 35)), .inl f, .inl x] G (fun r G1 => r = some (.inl 0) ∧ G1 = si G 35 29 0) := by
  refine CX.of (d := d + 0) m_X10_layNew (Nat.le_of_ble_eq_true rfl) ?_
  refine Ex.lcl (ls' := [some (.inr (.inr (some 35))), some (.inl f), some (.inl x), none]) rfl ?_
  refine x_aload_n (q := 1) dX10_layNew_0 rfl rfl ?_
  refine x_iconst (q := 2) dX10_layNew_1 rfl (by decide) ?_
  refine x_putI (q := 5) dX10_layNew_2 rfl f_10_118 rfl (fun h => by cases h) (fun h => by cases h) (ft35 hF) ?_
  have hF := FX_si hF 35 29 0
  refine x_iload_n (q := 6) dX10_layNew_5 rfl rfl ?_
  refine x_aload_n (q := 7) dX10_layNew_6 rfl rfl ?_
  refine x_getI (q := 10) dX10_layNew_7 rfl f_10_95 rfl (ft35 hF) ?_
  refine Ex.stk (st' := [.inl mn, .inl f]) (by rw [show iv (si G 35 29 0) 35 14 = mn from (by simp [iv_si, hmn])]) ?_
  refine x_icmp_lt (q := 13) (t := 15) dX10_layNew_10 rfl (by decide) (fun h10 => by exfalso; omega) (fun h10 => ?_)
  refine x_iconst (q := 14) dX10_layNew_13 rfl (by decide) ?_
  refine x_iret dX10_layNew_14 rfl ?_
  exact ⟨rfl, rfl⟩
theorem c_layNow {P : Pg} {c : Int → Int} (hP : Pok P) (hc : Cok c) (d : Nat) {G : Hp} (hM : MP P c G) {f x : Int} (hf : iv G 36 8 = f) (hx : iv G 36 9 = x) (f0 : 0 ≤ f) (f1 : f < P.2.2) (x0 : 0 ≤ x) (x1 : x ≤ 996) : CX (d + 6) 124 [.inr (.inr (some 35))] G (fun r G' => r = some (.inl (nV (rt 6 (fr P c 5 f x)))) ∧ LayI G G' ∧ iv G' 35 29 = (tsz 6 (fr P c 5 f x) : Int) ∧ fAt G' 0 (flat 6 1 (fr P c 5 f x))) := by
  have hF := hM.1
  refine CX.of (d := d + 5) m_X10_layNow (Nat.le_of_ble_eq_true rfl) ?_
  refine Ex.lcl (ls' := [some (.inr (.inr (some 35)))]) rfl ?_
  refine x_aload_n (q := 1) dX10_layNow_0 rfl rfl ?_
  refine x_aload_n (q := 2) dX10_layNow_1 rfl rfl ?_
  refine x_getR (q := 5) dX10_layNow_2 rfl f_10_7 rfl (ft35 hF) ?_
  refine Ex.stk (st' := [.inr (.inr (some 36)), .inr (.inr (some 35))]) (by rw [fr35_0 hF]) ?_
  refine x_bipush (q := 7) dX10_layNow_5 rfl (by decide) ?_
  refine x_iaload (q := 8) dX10_layNow_7 rfl (Or.inl (ft36 hF)) (by omega) (by rw [fl36 hF]; omega) ?_
  refine Ex.stk (st' := [.inl f, .inr (.inr (some 35))]) (by rw [show iv G 36 8 = f from hf]) ?_
  refine x_aload_n (q := 9) dX10_layNow_8 rfl rfl ?_
  refine x_getR (q := 12) dX10_layNow_9 rfl f_10_7 rfl (ft35 hF) ?_
  refine Ex.stk (st' := [.inr (.inr (some 36)), .inl f, .inr (.inr (some 35))]) (by rw [fr35_0 hF]) ?_
  refine x_bipush (q := 14) dX10_layNow_12 rfl (by decide) ?_
  refine x_iaload (q := 15) dX10_layNow_14 rfl (Or.inl (ft36 hF)) (by omega) (by rw [fl36 hF]; omega) ?_
  refine Ex.stk (st' := [.inl x, .inl f, .inr (.inr (some 35))]) (by rw [show iv G 36 9 = x from hx]) ?_
  refine x_invV (q := 18) (as := [.inr (.inr (some 35)), .inl f, .inl x]) (rest := []) dX10_layNow_15 rfl l_10_162 m_X10_layNew rfl rfl (ft35 hF) (Nat.le_of_ble_eq_true rfl) (c_layNew hP hc _ hM f0 f1 x0 x1) (fun r1 G1 hR => ?_)
  obtain ⟨rfl, hR⟩ := hR
  refine Ex.stk (st' := [.inl (nV (rt 6 (fr P c 5 f x)))]) rfl ?_
  refine x_iret dX10_layNow_18 rfl ?_
  exact ⟨rfl, hR⟩
