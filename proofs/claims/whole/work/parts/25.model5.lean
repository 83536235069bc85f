/-! THE MODEL: a term, gone through by layNew, tells and lays what it should -/
/-- the theorem at level d -/
def EvS (P : Pg) (c : Int → Int) (dd d : Nat) : Prop := ∀ (n : Nat) (a b : Int), Tm P.1 n a b → 0 ≤ a → b ≤ 160 → ∀ (G : Hp) (w cur nc ns m x : Int) (Q : Option V → Hp → Prop) (l3 : Option V) (f0 x0 : Int), MS P c G a w cur nc ns m x → 0 ≤ x → x ≤ 996 → ns + (d : Int) = 6 → 1 ≤ ns → w + (b - a) + (d : Int) * 160 ≤ 1199 → nc + ((nfc P.1 n a * SS d : Nat) : Int) ≤ 364 → isL l3 = false →
  (∀ G', EvP w cur nc (nc + (tszL d (ev P.1 (rdc c) (apH (hnd P c d)) x n a (m, [])).2.2 : Int)) b (ev P.1 (rdc c) (apH (hnd P c d)) x n a (m, [])).2.1 G G' → fAt G' nc ((ev P.1 (rdc c) (apH (hnd P c d)) x n a (m, [])).2.2.flatMap (flat d (ns + 1))) → Ex (dd + 4) (some .int) 10 false cX10_layNew 48 [some (.inr (.inr (some 35))), some (.inl f0), some (.inl x0), some (.inl ((ev P.1 (rdc c) (apH (hnd P c d)) x n a (m, [])).1))] [] G' Q) → Ex (dd + 4) (some .int) 10 false cX10_layNew 36 [some (.inr (.inr (some 35))), some (.inl f0), some (.inl x0), l3] [] G Q
/-- the state behind a call's begin: G2 when its argument is told, Gz when its body begins -/
def Zf (w cur n1 ns b k y : Int) (G2 Gz : Hp) : Prop := Io G2 Gz ∧ (∀ (a : Nat) (j : Int), a ≠ 35 → (a < 52 ∨ 56 < a) → (a < 60 ∨ 62 < a) → iv Gz a j = iv G2 a j) ∧ (∀ j, j ≠ 29 → j ≠ 40 → j ≠ 41 → j ≠ 42 → iv Gz 35 j = iv G2 35 j) ∧ iv Gz 35 40 = w + 1 ∧ iv Gz 35 41 = iv G2 43 k ∧ iv Gz 35 42 = n1 ∧ iv Gz 35 29 = n1 + 1 ∧
  (∀ (a : Nat) (j : Int), 52 ≤ a → a ≤ 56 → j ≠ n1 → iv Gz a j = iv G2 a j) ∧ iv Gz 52 n1 = k ∧ iv Gz 53 n1 = y ∧ iv Gz 55 n1 = ns + 1 ∧ iv Gz 56 n1 = 0 ∧ (∀ (a : Nat) (j : Int), 60 ≤ a → a ≤ 62 → j < w → iv Gz a j = iv G2 a j) ∧ iv Gz 60 w = 67 ∧ iv Gz 61 w = b ∧ iv Gz 62 w = cur
theorem Zf_of {w cur n1 ns b k y : Int} (G2 : Hp) : Zf w cur n1 ns b k y G2 (si (si (si (si (si (si (si (si (si (si (si (si (si G2 35 40 (w + 1 - 1)) 35 42 n1) 52 n1 k) 53 n1 y) 55 n1 (ns + 1)) 56 n1 0) 35 29 (n1 + 1)) 60 (w + 1 - 1) 67) 61 (w + 1 - 1) 0) 62 (w + 1 - 1) cur) 35 40 (w + 1 - 1 + 1)) 61 (w + 1 - 1) b) 35 41 (iv (si G2 35 40 (w + 1 - 1)) 43 k)) := by
  rw [show w + 1 - 1 = w from by omega]
  refine ⟨Io.rf G2, fun a j g1 g2 g3 => ?_, fun j g1 g2 g3 g4 => ?_, by simp [iv_si], by simp [iv_si], by simp [iv_si], by simp [iv_si], fun a j g1 g2 g3 => ?_, by simp [iv_si], by simp [iv_si], by simp [iv_si], by simp [iv_si], fun a j g1 g2 g3 => ?_, by simp [iv_si], by simp [iv_si], by simp [iv_si]⟩
  · simp only [iv_si]
    iterate 13 rw [if_neg (by omega)]
  · simp only [iv_si]
    iterate 13 rw [if_neg (by omega)]
  · simp only [iv_si]
    iterate 13 rw [if_neg (by omega)]
  · simp only [iv_si]
    iterate 13 rw [if_neg (by omega)]
theorem MS_Zf {P : Pg} {c : Int → Int} {G2 Gz : Hp} {w cur n1 ns m x b k y : Int} (h : MS P c G2 b (w + 1) cur n1 ns m x) (hz : Zf w cur n1 ns b k y G2 Gz) (hn : n1 < 364) (hw : 0 ≤ w) : MS P c Gz (P.2.1 k) (w + 1) n1 (n1 + 1) (ns + 1) 0 y := by
  obtain ⟨h1, h2, h3, h4, h5, h6, h7, h8, h9, h10, h11, h12, h13⟩ := h
  obtain ⟨e1, e2, e3, e4, e5, e6, e7, e8, e9, e10, e11, e12, e13, e14, e15, e16⟩ := hz
  refine ⟨FX_Io h1 e1, ?_, ?_, by rw [e3 14 (by decide) (by decide) (by decide) (by decide)]; exact h4, fun k k0 k1 => by rw [e2 36 k (by decide) (by decide) (by decide)]; exact h5 k k0 k1, by rw [e5, h3], e4, e6, e7, e11, e12, e10, by omega⟩
  · rw [← h2]; funext k; exact e2 42 k (by decide) (by decide) (by decide)
  · rw [← h3]; funext k; exact e2 43 k (by decide) (by decide) (by decide)
/-- behind a call: what was and what is -/
theorem call_EvP {w cur nc n1 n2 ns b e m1 m2 s1 s2 s3 k y v : Int} {G G2 Gz Gy : Hp} (hw : iv G 35 40 = w) (hcur : iv G 35 42 = cur) (hp : PE w cur nc n1 b m1 s1 s2 s3 G G2) (hz : Zf w cur n1 ns b k y G2 Gz) (he : EvP (w + 1) n1 (n1 + 1) n2 e m2 Gz Gy) (hn : nc ≤ n1) (hc : cur < nc) :
    EvP w cur nc n2 b m1 G (si (si (si (si Gy 54 n1 v) 35 42 (iv Gy 62 w)) 35 41 (iv Gy 61 w)) 35 40 w) ∧ ∀ (a : Nat) (j : Int), 52 ≤ a → a ≤ 56 → j < n1 → iv (si (si (si (si Gy 54 n1 v) 35 42 (iv Gy 62 w)) 35 41 (iv Gy 61 w)) 35 40 w) a j = iv G2 a j := by
  obtain ⟨a1, a2, a3, a3', a4, a5, a6, a7, a8, a9, a10, a11, a12⟩ := hp
  obtain ⟨e1, e2, e3, e4, e5, e6, e7, e8, e9, e10, e11, e12, e13, e14, e15, e16⟩ := hz
  obtain ⟨f1, f2, f3, f4, f5, f6, f7, f8, f9⟩ := he
  have y62 : iv Gy 62 w = cur := by rw [f9 62 w (by decide) (by decide) (by omega)]; exact e16
  have y61 : iv Gy 61 w = b := by rw [f9 61 w (by decide) (by decide) (by omega)]; exact e15
  rw [y62, y61]
  have lay : ∀ (a : Nat) (j : Int), 52 ≤ a → a ≤ 56 → j < n1 → iv (si (si (si (si Gy 54 n1 v) 35 42 cur) 35 41 b) 35 40 w) a j = iv G2 a j := by
    intro a j g1 g2 g3
    simp only [iv_si]
    rw [if_neg (by omega), if_neg (by omega), if_neg (by omega), if_neg (by omega)]
    by_cases h56 : a = 56
    · subst h56; rw [f7 j (by omega) (by omega)]; exact e8 56 j (by decide) (by decide) (by omega)
    · rw [f6 a j g1 (by omega) (by omega)]; exact e8 a j g1 g2 (by omega)
  refine ⟨⟨a1.trans (e1.trans f1), fun a j g1 g2 g3 => ?_, fun j g1 g2 => ?_, by simp [iv_si], by simp only [iv_si]; rw [if_neg (by omega), if_neg (by omega), if_neg (by omega), if_neg (by omega)]; exact f5, fun a j g1 g2 g3 => ?_, fun j g1 g2 => ?_, ?_, fun a j g1 g2 g3 => ?_⟩, lay⟩
  · simp only [iv_si]
    rw [if_neg (by omega), if_neg (by omega), if_neg (by omega), if_neg (by omega), f2 a j g1 g2 g3, e2 a j g1 g2 g3]; exact a2 a j g1 g2 g3
  · simp only [iv_si]
    by_cases h40 : j = 40
    · rw [if_pos ⟨trivial, h40⟩, h40]; exact hw.symm
    · rw [if_neg (fun q => h40 q.2), if_neg (by omega)]
      by_cases h42 : j = 42
      · rw [if_pos ⟨trivial, h42⟩, h42]; exact hcur.symm
      · rw [if_neg (fun q => h42 q.2), if_neg (by omega), f3 j g1 g2, e3 j g1 h40 g2 h42]; exact a3 j g1 h40 g2
  · rw [lay a j g1 (by omega) (by omega)]; exact a6 a j g1 g2 g3
  · rw [lay 56 j (by decide) (by decide) (by omega)]; exact a7 j g1 g2
  · rw [lay 56 cur (by decide) (by decide) (by omega)]; exact a8
  · simp only [iv_si]
    rw [if_neg (by omega), if_neg (by omega), if_neg (by omega), if_neg (by omega), f9 a j g1 g2 (by omega), e13 a j g1 g2 g3]; exact a9 a j g1 g2 g3
theorem PE_noop {w cur nc n1 b1 m1 s1 s2 s3 : Int} {G G1 : Hp} (h : PE w cur nc n1 b1 m1 s1 s2 s3 G G1) : iv G1 35 40 = w + 1 ∧ iv G1 60 w = s1 ∧ iv G1 61 w = s2 ∧ iv G1 62 w = s3 := ⟨h.2.2.2.1, h.2.2.2.2.2.2.2.2.2.2.1, h.2.2.2.2.2.2.2.2.2.2.2.1, h.2.2.2.2.2.2.2.2.2.2.2.2⟩
theorem tszL_app (d : Nat) (l1 l2 : List (Tr d)) : tszL d (l1 ++ l2) = tszL d l1 + tszL d l2 := by simp [tszL]
set_option maxHeartbeats 1000000 in
theorem evS_step {P : Pg} {c : Int → Int} (hP : Pok P) (hc : Cok c) {dd d : Nat} (ihd : ∀ d', d = d' + 1 → EvS P c dd d') : EvS P c dd d := by
  intro n
  induction n with
  | zero => intro a b h; exact h.elim
  | succ n ih =>
    intro a b hT a0 b1 G w cur nc ns m x Q l3 f0 x0 hM x00 x1 hd hns hwb hsz hl kk
    have hlt := Tm_lt hT
    have hM' := hM
    obtain ⟨hF, hcd, hbg, hmn, hcc, hat, hw, hcur, hnc, hnst, hmk, hxx, hcu⟩ := hM'
    have d0 : (0 : Int) ≤ (d : Int) * 160 := by omega
    have ew : w + 1 - 1 = w := by omega
    have hca : iv G 42 a = P.1 a := congrFun hcd a
    have rg := fun k1 (a1 : Int) (e1 : Int) (s1 : Int × List (Tr d)) (ht : Tm P.1 k1 a1 e1) => ev_rng (cd := P.1) (rd := rdc c (α := List (Tr d))) (cl := apH (hnd P c d)) ⟨x00, x1⟩ (fun v s _ => rdc_rng hc v s) (fun k y s k0 k1 y0 y1 => hnd_rng hP hc d k y k0 y0 y1) k1 a1 e1 s1 ht
    rcases Tm_succ hT with ⟨h0 | h0, hb⟩ | ⟨h0, h1⟩ | ⟨h0, k0, k1, h1⟩ | ⟨h0, p1, h1, h2⟩ | ⟨h0, p1, p2, h1, h2, h3⟩
    · -- a figure
      rw [ev_fig h0] at kk
      refine lay_open hF hl hw (by omega) (c_open_fig (dd + 2) hF hat a0 (by omega) hca h0) (kk _ ?_ trivial)
      rw [hb]
      show EvP w cur nc (nc + ((tszL d ([] : List (Tr d)) : Nat) : Int)) (a + 1) m G _
      rw [show nc + ((tszL d ([] : List (Tr d)) : Nat) : Int) = nc from by simp [tszL]]
      exact EvP_at (a + 1) hnc hmk
    · -- the argument
      rw [ev_n h0] at kk
      refine lay_open hF hl hw (by omega) (c_open_n (dd + 2) hF hat a0 (by omega) hca hcur (by omega) (by omega) h0) ?_
      rw [hxx]
      refine kk _ ?_ trivial
      rw [hb]
      show EvP w cur nc (nc + ((tszL d ([] : List (Tr d)) : Nat) : Int)) (a + 1) m G _
      rw [show nc + ((tszL d ([] : List (Tr d)) : Nat) : Int) = nc from by simp [tszL]]
      exact EvP_at (a + 1) hnc hmk
    · -- a cell is read
      have esz : nfc P.1 (n + 1) a = nfc P.1 n (a + 1) := by simp only [nfc]; rw [if_pos h0]
      rw [esz] at hsz
      rw [ev_x h0] at kk
      refine lay_open hF hl hw (by omega) (c_open_op (dd + 2) hF hat a0 (by omega) hca hw (by omega) (by omega) (Or.inl h0)) (lay_neg (by decide) ?_)
      have hp := PE_open (w := w) (cur := cur) (a' := a + 1) (sg := P.1 a) (vl := 0) hnc hmk
      have esize := ev_size hP hc d ⟨x00, x1⟩ (m := m) h1
      have rv1 := rg n (a + 1) b (m, []) h1
      refine ih (a + 1) b h1 (by omega) b1 _ (w + 1) cur nc ns m x Q _ f0 x0 (MS_PE hM hp (by omega) (by omega)) x00 x1 hd hns (by omega) hsz rfl (fun G2 he hf => ?_)
      generalize ev P.1 (rdc c) (apH (hnd P c d)) x n (a + 1) (m, []) = r at *
      obtain ⟨v1, m1, q1⟩ := r
      dsimp only at *
      have hp2 := PE_EvP hp he (by omega)
      have hM2 := MS_PE hM hp2 (by omega) (by omega)
      obtain ⟨g1, g2, g3, g4⟩ := PE_noop hp2
      have hcell := hM2.2.2.2.2.1 (v1 % 8) (by omega) (by omega)
      refine lay_give hM2.1 g1 (by omega) rv1.1 (c_give_x (dd + 2) hM2.1 g1 (by omega) (by omega) (sg := P.1 a) (by rw [ew]; exact g2) hM2.2.2.2.2.2.2.2.1 (by omega) (by omega) hM2.2.2.2.2.2.2.2.2.2.2.1 hcell rv1.1 h0) ?_
      rw [ew]
      exact kk _ (EvP_mask (PE_pop hw hp2) _) (fAt_kept _ _ hf (fun a j g1 g2 g3 g4 => by simp only [iv_si]; rw [if_neg (by omega), if_neg (by omega)]))
    · -- a function is called
      have esz : nfc P.1 (n + 1) a = 1 + nfc P.1 n (a + 2) := by simp only [nfc]; rw [if_neg (by omega), if_pos h0]
      rw [esz, Nat.add_mul, Nat.one_mul] at hsz
      rw [ev_f h0] at kk
      have hlt1 := Tm_lt h1
      refine lay_open hF hl hw (by omega) (c_open_f (dd + 2) hF hat a0 (by omega) hca hw (by omega) (by omega) (by omega) (congrFun hcd (a + 1)) ⟨k0, by omega⟩ h0) (lay_neg (by decide) ?_)
      have hp := PE_at (PE_open (w := w) (cur := cur) (a' := a + 1) (sg := P.1 a) (vl := P.1 (a + 1) - 48) hnc hmk) (a + 2)
      have esize := ev_size hP hc d ⟨x00, x1⟩ (m := m) h1
      have rv1 := rg n (a + 2) b (m, []) h1
      refine ih (a + 2) b h1 (by omega) b1 _ (w + 1) cur nc ns m x Q _ f0 x0 (MS_PE hM hp (by omega) (by omega)) x00 x1 hd hns (by omega) (by omega) rfl (fun G2 he hf => ?_)
      generalize ev P.1 (rdc c) (apH (hnd P c d)) x n (a + 2) (m, []) = r at *
      obtain ⟨y, m1, q1⟩ := r
      dsimp only at *
      have hp2 := PE_EvP hp he (by omega)
      have hM2 := MS_PE hM hp2 (by omega) (by omega)
      obtain ⟨g1, g2, g3, g4⟩ := PE_noop hp2
      have hM2' := hM2
      obtain ⟨s1, s2, s3, s4, s5, s6, s7, s8, s9, s10, s11, s12, s13⟩ := hM2'
      have notmade : (P.2.2 ≤ P.1 (a + 1) - 48 ∨ ns = 6) → hnd P c d (P.1 (a + 1) - 48) y = (0, []) → Ex (dd + 4) (some .int) 10 false cX10_layNew 48 [some (.inr (.inr (some 35))), some (.inl f0), some (.inl x0), some (.inl y)] [] G2 Q := by
        intro hn heq
        refine lay_give s1 g1 (by omega) rv1.1 (c_give_f0 dd s1 g1 (by omega) (by omega) (sg := P.1 a) (by rw [ew]; exact g2) s4 s8 (by omega) (by omega) s10 (by rw [ew]; exact g4) h0 hn) ?_
        rw [ew]
        simp only [apH, heq, List.append_nil] at kk
        exact kk _ (PE_pop hw hp2) (fAt_kept _ _ hf (fun a j g1 g2 g3 g4 => by simp only [iv_si]; rw [if_neg (by omega)]))
      cases d with
      | zero => exact notmade (Or.inr (by omega)) rfl
      | succ d' =>
        by_cases hk : P.1 (a + 1) - 48 < P.2.2
        · obtain ⟨q0, e, hTb, e159, hnf⟩ := hP.2.2 (P.1 (a + 1) - 48) (by omega) hk
          have hm5 := hP.2.1
          have hSS : SS (d' + 1) = 1 + 3 * SS d' := rfl
          have hnf3 := Nat.mul_le_mul_right (SS d') hnf
          have hsb := Tm_lt hTb
          refine lay_give s1 g1 (by omega) rv1.1 (c_give_f1 dd s1 g1 (by omega) (by omega) (sg := P.1 a) (by rw [ew]; exact g2) s4 s8 (by omega) (by omega) s10 (by rw [ew]; exact g4) h0 s6 s9 (by omega) (by omega) (by omega) (by omega) hk hm5 (by omega) (by omega)) (lay_neg (by decide) ?_)
          have hz := Zf_of (w := w) (cur := cur) (n1 := nc + ((tszL (d' + 1) q1 : Nat) : Int)) (ns := ns) (b := b) (k := P.1 (a + 1) - 48) (y := y) G2
          refine ihd d' rfl 160 _ e hTb q0 (by omega) _ (w + 1) _ _ (ns + 1) 0 y Q _ f0 x0 (MS_Zf hM2 hz (by omega) (by omega)) rv1.1 rv1.2 (by omega) (by omega) (by omega) (by omega) rfl (fun Gy hey hfy => ?_)
          have hfr := fr_eq P c d' (P.1 (a + 1) - 48) y
          have hsz2 := ev_size hP hc d' ⟨rv1.1, rv1.2⟩ (m := 0) hTb
          have rv2 := fr_rng hP hc d' (P.1 (a + 1) - 48) y (by omega) hk rv1.1 rv1.2
          have hhn : hnd P c (d' + 1) (P.1 (a + 1) - 48) y = (nV (rt (d' + 1) (fr P c d' (P.1 (a + 1) - 48) y)), [fr P c d' (P.1 (a + 1) - 48) y]) := by simp only [hnd]; rw [if_pos hk]
          simp only [apH, hhn] at kk
          generalize ev P.1 (rdc c) (apH (hnd P c d')) y 160 (P.2.1 (P.1 (a + 1) - 48)) (0, []) = r2 at *
          obtain ⟨v, m2, q2⟩ := r2
          dsimp only at *
          rw [hfr] at kk rv2
          have hV : nV (rt (d' + 1) (mkN d' (0, P.1 (a + 1) - 48, y, v, m2, 0, 0) q2)) = v := rfl
          rw [hV] at kk rv2
          have y40 : iv Gy 35 40 = w + 1 := by rw [hey.2.2.1 40 (by decide) (by decide)]; exact hz.2.2.2.1
          have y42 : iv Gy 35 42 = nc + ((tszL (d' + 1) q1 : Nat) : Int) := by rw [hey.2.2.1 42 (by decide) (by decide)]; exact hz.2.2.2.2.2.1
          have y60 : iv Gy 60 w = 67 := by rw [hey.2.2.2.2.2.2.2.2 60 w (by decide) (by decide) (by omega)]; exact hz.2.2.2.2.2.2.2.2.2.2.2.2.2.1
          obtain ⟨hE, hlay⟩ := call_EvP (v := v) hw hcur hp2 hz hey (by omega) (by omega)
          refine lay_give (FX_Io s1 (hz.1.trans hey.1)) y40 (by omega) rv2.1 (c_give_C (dd + 2) (FX_Io s1 (hz.1.trans hey.1)) y40 (by omega) (by omega) (sg := 67) (by rw [ew]; exact y60) y42 (by omega) (by omega) rfl) ?_
          rw [ew]
          have hts : ((tszL (d' + 1) (q1 ++ [mkN d' (0, P.1 (a + 1) - 48, y, v, m2, 0, 0) q2]) : Nat) : Int) = ((tszL (d' + 1) q1 : Nat) : Int) + 1 + ((tszL d' q2 : Nat) : Int) := by
            rw [tszL_app]
            have : tszL (d' + 1) [mkN d' (0, P.1 (a + 1) - 48, y, v, m2, 0, 0) q2] = 1 + tszL d' q2 := by unfold tszL; rw [List.map_cons, List.map_nil, List.sum_cons, List.sum_nil]; rfl
            omega
          refine kk _ ?_ ?_
          · rw [hts, show nc + (((tszL (d' + 1) q1 : Nat) : Int) + 1 + ((tszL d' q2 : Nat) : Int)) = nc + ((tszL (d' + 1) q1 : Nat) : Int) + 1 + ((tszL d' q2 : Nat) : Int) from by omega]
            exact hE
          · rw [List.flatMap_append, fAt_app]
            have hl1 := flatL_len (d' + 1) (ns + 1) q1
            refine ⟨fAt_kept _ _ hf (fun a j g1 g2 g3 g4 => hlay a j g1 g2 (by omega)), ?_⟩
            rw [hl1]
            have hflat : List.flatMap (flat (d' + 1) (ns + 1)) [mkN d' (0, P.1 (a + 1) - 48, y, v, m2, 0, 0) q2] = ((0, P.1 (a + 1) - 48, y, v, m2, 0, 0), ns + 1) :: q2.flatMap (flat d' (ns + 1 + 1)) := by rw [List.flatMap_cons, List.flatMap_nil, List.append_nil]; rfl
            rw [hflat]
            refine ⟨⟨?_, ?_, ?_, ?_, ?_⟩, ?_⟩
            · simp only [iv_si]; rw [if_neg (by omega), if_neg (by omega), if_neg (by omega), if_neg (by omega), hey.2.2.2.2.2.1 52 _ (by decide) (by decide) (by omega)]; exact hz.2.2.2.2.2.2.2.2.1
            · simp only [iv_si]; rw [if_neg (by omega), if_neg (by omega), if_neg (by omega), if_neg (by omega), hey.2.2.2.2.2.1 53 _ (by decide) (by decide) (by omega)]; exact hz.2.2.2.2.2.2.2.2.2.1
            · simp only [iv_si]; simp only [Nat.reduceEqDiff, false_and, if_false, true_and, and_self, if_true]; rfl
            · simp only [iv_si]; rw [if_neg (by omega), if_neg (by omega), if_neg (by omega), if_neg (by omega), hey.2.2.2.2.2.1 55 _ (by decide) (by decide) (by omega)]; exact hz.2.2.2.2.2.2.2.2.2.2.1
            · simp only [iv_si]; rw [if_neg (by omega), if_neg (by omega), if_neg (by omega), if_neg (by omega)]; exact hey.2.2.2.2.2.2.2.1
            · exact fAt_kept _ _ hfy (fun a j g1 g2 g3 g4 => by simp only [iv_si]; rw [if_neg (by omega), if_neg (by omega), if_neg (by omega), if_neg (by omega)])
        · exact notmade (Or.inl (by omega)) (by simp only [hnd]; rw [if_neg hk])
    · -- two terms
      have esz : nfc P.1 (n + 1) a = nfc P.1 n (a + 1) + nfc P.1 n p1 := by simp only [nfc]; rw [if_neg (by omega), if_neg (by omega), if_pos h0, Tm_tend h1]
      rw [esz, Nat.add_mul] at hsz
      rw [ev_b h0, Tm_tend h1] at kk
      have hl1 := Tm_lt h1
      have hl2 := Tm_lt h2
      refine lay_open hF hl hw (by omega) (c_open_op (dd + 2) hF hat a0 (by omega) hca hw (by omega) (by omega) (by omega)) (lay_neg (by decide) ?_)
      have hp := PE_open (w := w) (cur := cur) (a' := a + 1) (sg := P.1 a) (vl := 0) hnc hmk
      have esize := ev_size hP hc d ⟨x00, x1⟩ (m := m) h1
      have rv1 := rg n (a + 1) p1 (m, []) h1
      refine ih (a + 1) p1 h1 (by omega) (by omega) _ (w + 1) cur nc ns m x Q _ f0 x0 (MS_PE hM hp (by omega) (by omega)) x00 x1 hd hns (by omega) (by omega) rfl (fun G2 he hf => ?_)
      generalize ev P.1 (rdc c) (apH (hnd P c d)) x n (a + 1) (m, []) = r at *
      obtain ⟨v1, m1, q1⟩ := r
      dsimp only at *
      rw [ev_app] at kk
      have hp2 := PE_EvP hp he (by omega)
      have hM2 := MS_PE hM hp2 (by omega) (by omega)
      obtain ⟨g1, g2, g3, g4⟩ := PE_noop hp2
      refine lay_give hM2.1 g1 (by omega) rv1.1 (c_give_t1 dd hM2.1 g1 (by omega) (by omega) (sg := P.1 a) (by rw [ew]; exact g2) h0 (by rw [ew]; exact g3)) (lay_neg (by decide) ?_)
      rw [ew]
      have hp3 := PE_value (PE_stage hp2 1) v1
      have esize2 := ev_size hP hc d ⟨x00, x1⟩ (m := m1) h2
      have rv2 := rg n p1 b (m1, []) h2
      refine ih p1 b h2 (by omega) b1 _ (w + 1) cur _ ns m1 x Q _ f0 x0 (MS_PE hM hp3 (by omega) (by omega)) x00 x1 hd hns (by omega) (by omega) rfl (fun G4 he4 hf4 => ?_)
      generalize ev P.1 (rdc c) (apH (hnd P c d)) x n p1 (m1, []) = r2 at *
      obtain ⟨v2, m2, q2⟩ := r2
      dsimp only at *
      have hp4 := PE_EvP hp3 he4 (by omega)
      have hM4 := MS_PE hM hp4 (by omega) (by omega)
      obtain ⟨k1, k2, k3, k4⟩ := PE_noop hp4
      refine lay_give hM4.1 k1 (by omega) rv2.1 (c_give_t2 dd hM4.1 k1 (by omega) (by omega) (sg := P.1 a) (by rw [ew]; exact k2) h0 (by rw [ew]; exact k3) (by rw [ew]; exact k4) rv1 rv2) ?_
      rw [ew]
      have hl1 := flatL_len d (ns + 1) q1
      refine kk _ ?_ ?_
      · rw [tszL_app, show nc + ((tszL d q1 + tszL d q2 : Nat) : Int) = nc + ((tszL d q1 : Nat) : Int) + ((tszL d q2 : Nat) : Int) from by omega]
        exact PE_pop hw (PE_stage hp4 2)
      · rw [List.flatMap_append, fAt_app, hl1]
        have keepS : ∀ (a : Nat) (j : Int), 52 ≤ a → a ≤ 56 → iv (si (si G4 61 w 2) 35 40 w) a j = iv G4 a j := fun a j g1 g2 => by simp only [iv_si]; rw [if_neg (by omega), if_neg (by omega)]
        refine ⟨fAt_kept _ _ (fAt_EvP he4 (fAt_kept _ _ hf (fun a j g1 g2 g3 g4 => by simp only [iv_si]; rw [if_neg (by omega), if_neg (by omega)])) (by omega) (by omega)) (fun a j g1 g2 _ _ => keepS a j g1 g2), fAt_kept _ _ hf4 (fun a j g1 g2 _ _ => keepS a j g1 g2)⟩
    · -- a choice
      have esz : nfc P.1 (n + 1) a = nfc P.1 n (a + 1) + (nfc P.1 n p1 + nfc P.1 n p2) := by simp only [nfc]; rw [if_neg (by omega), if_neg (by omega), if_neg (by omega), if_pos h0, Tm_tend h1, Tm_tend h2]
      rw [esz, Nat.add_mul, Nat.add_mul] at hsz
      rw [ev_q h0, Tm_tend h1, Tm_tend h2] at kk
      have hl1 := Tm_lt h1
      have hl2 := Tm_lt h2
      have hl3 := Tm_lt h3
      refine lay_open hF hl hw (by omega) (c_open_op (dd + 2) hF hat a0 (by omega) hca hw (by omega) (by omega) (by omega)) (lay_neg (by decide) ?_)
      have hp := PE_open (w := w) (cur := cur) (a' := a + 1) (sg := P.1 a) (vl := 0) hnc hmk
      have esize := ev_size hP hc d ⟨x00, x1⟩ (m := m) h1
      have rv1 := rg n (a + 1) p1 (m, []) h1
      refine ih (a + 1) p1 h1 (by omega) (by omega) _ (w + 1) cur nc ns m x Q _ f0 x0 (MS_PE hM hp (by omega) (by omega)) x00 x1 hd hns (by omega) (by omega) rfl (fun G2 he hf => ?_)
      generalize ev P.1 (rdc c) (apH (hnd P c d)) x n (a + 1) (m, []) = r at *
      obtain ⟨v1, m1, q1⟩ := r
      dsimp only at *
      have hp2 := PE_EvP hp he (by omega)
      have hM2 := MS_PE hM hp2 (by omega) (by omega)
      obtain ⟨g1, g2, g3, g4⟩ := PE_noop hp2
      have hl1 := flatL_len d (ns + 1) q1
      by_cases hv : v1 = 0
      · rw [if_pos hv, ev_app] at kk
        refine lay_give hM2.1 g1 (by omega) rv1.1 (c_give_q0 dd hM2.1 g1 (by omega) (by omega) (sg := P.1 a) (by rw [ew]; exact g2) h0 hM2.2.2.2.2.2.1 (by rw [hM2.2.1]; exact h2) (by omega) (by omega) (by rw [ew]; exact g3) hv) (lay_neg (by decide) ?_)
        rw [ew]
        have hp3 := PE_stage (PE_at hp2 p2) 2
        have esize2 := ev_size hP hc d ⟨x00, x1⟩ (m := m1) h3
        have rv2 := rg n p2 b (m1, []) h3
        refine ih p2 b h3 (by omega) b1 _ (w + 1) cur _ ns m1 x Q _ f0 x0 (MS_PE hM hp3 (by omega) (by omega)) x00 x1 hd hns (by omega) (by omega) rfl (fun G4 he4 hf4 => ?_)
        generalize ev P.1 (rdc c) (apH (hnd P c d)) x n p2 (m1, []) = r2 at *
        obtain ⟨v2, m2, q2⟩ := r2
        dsimp only at *
        have hp4 := PE_EvP hp3 he4 (by omega)
        have hM4 := MS_PE hM hp4 (by omega) (by omega)
        obtain ⟨k1, k2, k3, k4⟩ := PE_noop hp4
        refine lay_give hM4.1 k1 (by omega) rv2.1 (c_give_q3 dd hM4.1 k1 (by omega) (by omega) (sg := P.1 a) (by rw [ew]; exact k2) h0 (by rw [ew]; exact k3)) ?_
        rw [ew]
        refine kk _ ?_ ?_
        · rw [tszL_app, show nc + ((tszL d q1 + tszL d q2 : Nat) : Int) = nc + ((tszL d q1 : Nat) : Int) + ((tszL d q2 : Nat) : Int) from by omega]
          exact PE_pop hw hp4
        · rw [List.flatMap_append, fAt_app, hl1]
          have keepS : ∀ (a : Nat) (j : Int), 52 ≤ a → a ≤ 56 → iv (si G4 35 40 w) a j = iv G4 a j := fun a j g1 g2 => by simp only [iv_si]; rw [if_neg (by omega)]
          refine ⟨fAt_kept _ _ (fAt_EvP he4 (fAt_kept _ _ hf (fun a j g1 g2 g3 g4 => by simp only [iv_si]; rw [if_neg (by omega), if_neg (by omega)])) (by omega) (by omega)) (fun a j g1 g2 _ _ => keepS a j g1 g2), fAt_kept _ _ hf4 (fun a j g1 g2 _ _ => keepS a j g1 g2)⟩
      · rw [if_neg hv, ev_app] at kk
        refine lay_give hM2.1 g1 (by omega) rv1.1 (c_give_q1 dd hM2.1 g1 (by omega) (by omega) (sg := P.1 a) (by rw [ew]; exact g2) h0 (by rw [ew]; exact g3) hv) (lay_neg (by decide) ?_)
        rw [ew]
        have hp3 := PE_stage hp2 1
        have esize2 := ev_size hP hc d ⟨x00, x1⟩ (m := m1) h2
        have rv2 := rg n p1 p2 (m1, []) h2
        refine ih p1 p2 h2 (by omega) (by omega) _ (w + 1) cur _ ns m1 x Q _ f0 x0 (MS_PE hM hp3 (by omega) (by omega)) x00 x1 hd hns (by omega) (by omega) rfl (fun G4 he4 hf4 => ?_)
        generalize ev P.1 (rdc c) (apH (hnd P c d)) x n p1 (m1, []) = r2 at *
        obtain ⟨v2, m2, q2⟩ := r2
        dsimp only at *
        have hp4 := PE_EvP hp3 he4 (by omega)
        have hM4 := MS_PE hM hp4 (by omega) (by omega)
        obtain ⟨k1, k2, k3, k4⟩ := PE_noop hp4
        refine lay_give hM4.1 k1 (by omega) rv2.1 (c_give_q2 dd hM4.1 k1 (by omega) (by omega) (sg := P.1 a) (by rw [ew]; exact k2) h0 hM4.2.2.2.2.2.1 (by rw [hM4.2.1]; exact h3) (by omega) (by omega) (by rw [ew]; exact k3)) ?_
        rw [ew]
        refine kk _ ?_ ?_
        · rw [tszL_app, show nc + ((tszL d q1 + tszL d q2 : Nat) : Int) = nc + ((tszL d q1 : Nat) : Int) + ((tszL d q2 : Nat) : Int) from by omega]
          exact PE_pop hw (PE_at hp4 b)
        · rw [List.flatMap_append, fAt_app, hl1]
          have keepS : ∀ (a : Nat) (j : Int), 52 ≤ a → a ≤ 56 → iv (si (si G4 35 41 b) 35 40 w) a j = iv G4 a j := fun a j g1 g2 => by simp only [iv_si]; rw [if_neg (by omega), if_neg (by omega)]
          refine ⟨fAt_kept _ _ (fAt_EvP he4 (fAt_kept _ _ hf (fun a j g1 g2 g3 g4 => by simp only [iv_si]; rw [if_neg (by omega)])) (by omega) (by omega)) (fun a j g1 g2 _ _ => keepS a j g1 g2), fAt_kept _ _ hf4 (fun a j g1 g2 _ _ => keepS a j g1 g2)⟩
theorem evS {P : Pg} {c : Int → Int} (hP : Pok P) (hc : Cok c) {dd : Nat} : ∀ d, EvS P c dd d := by
  intro d
  induction d with
  | zero => exact evS_step hP hc (fun d' h => by cases h)
  | succ d ih => exact evS_step hP hc (fun d' h => by cases h; exact ih)
