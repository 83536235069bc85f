/-! THE CLASS: bodies gone through -/
/-- steps p .. q are what the term a .. b becomes -/
def Cp (st vl cd : Int → Int) : Nat → Int → Int → Int → Int → Prop
  | 0, _, _, _, _ => False
  | n + 1, a, b, p, q => ((48 ≤ cd a ∧ cd a ≤ 57) ∧ b = a + 1 ∧ st p = 0 ∧ vl p = cd a - 48 ∧ q = p + 1) ∨ (cd a = 110 ∧ b = a + 1 ∧ st p = 1 ∧ q = p + 1) ∨ (cd a = 120 ∧ ∃ q1, Cp st vl cd n (a + 1) b p q1 ∧ st q1 = 2 ∧ q = q1 + 1) ∨ (cd a = 102 ∧ 48 ≤ cd (a + 1) ∧ cd (a + 1) ≤ 52 ∧ ∃ q1, Cp st vl cd n (a + 2) b p q1 ∧ st q1 = 3 ∧ vl q1 = cd (a + 1) - 48 ∧ q = q1 + 1) ∨ ((cd a = 43 ∨ cd a = 45 ∨ cd a = 42 ∨ cd a = 60) ∧ ∃ m q1 q2, Cp st vl cd n (a + 1) m p q1 ∧ Cp st vl cd n m b q1 q2 ∧ st q2 = opc (cd a) ∧ q = q2 + 1) ∨ (cd a = 63 ∧ ∃ m1 m2 q1 q2, Cp st vl cd n (a + 1) m1 p q1 ∧ st q1 = 9 ∧ vl q1 = q2 + 1 ∧ Cp st vl cd n m1 m2 (q1 + 1) q2 ∧ st q2 = 10 ∧ vl q2 = q ∧ Cp st vl cd n m2 b (q2 + 1) q)
theorem Cp_lt {st vl cd : Int → Int} : ∀ {n : Nat} {a b p q : Int}, Cp st vl cd n a b p q → p < q ∧ a < b := by
  intro n
  induction n with
  | zero => intro a b p q h; exact h.elim
  | succ n ih =>
    intro a b p q h
    rcases h with ⟨-, h1, -, -, h2⟩ | ⟨-, h1, -, h2⟩ | ⟨-, q1, h1, -, h2⟩ | ⟨-, -, -, q1, h1, -, -, h2⟩ | ⟨-, m, q1, q2, h1, h2, -, h3⟩ | ⟨-, m1, m2, q1, q2, h1, -, -, h2, -, -, h3⟩
    · omega
    · omega
    · have := ih h1; omega
    · have := ih h1; omega
    · have := ih h1; have := ih h2; omega
    · have := ih h1; have := ih h2; have := ih h3; omega
theorem Cp_Tm {st vl cd : Int → Int} : ∀ {n : Nat} {a b p q : Int}, Cp st vl cd n a b p q → Tm cd n a b := by
  intro n
  induction n with
  | zero => intro a b p q h; exact h
  | succ n ih =>
    intro a b p q h
    rcases h with ⟨c1, h1, -⟩ | ⟨c1, h1, -⟩ | ⟨c1, q1, h1, -⟩ | ⟨c1, c2, c3, q1, h1, -⟩ | ⟨c1, m, q1, q2, h1, h2, -⟩ | ⟨c1, m1, m2, q1, q2, h1, -, -, h2, -, -, h3⟩
    · exact Or.inl ⟨Or.inl c1, h1⟩
    · exact Or.inl ⟨Or.inr c1, h1⟩
    · exact Or.inr (Or.inl ⟨c1, ih h1⟩)
    · exact Or.inr (Or.inr (Or.inl ⟨c1, c2, c3, ih h1⟩))
    · exact Or.inr (Or.inr (Or.inr (Or.inl ⟨c1, m, ih h1, ih h2⟩)))
    · exact Or.inr (Or.inr (Or.inr (Or.inr ⟨c1, m1, m2, ih h1, ih h2, ih h3⟩)))
section EVC
variable {α : Type} (J : Hp → Int × α → Int → Prop) (mk sk pa a : Nat) (c st vl : Int → Int) (N t0 T x : Int) (D : Nat) (cl : Int → Int → Int × α → Int × Int × α)
/-- what is asked of a picture J of a call that is done -/
def JOk : Prop :=
  (∀ G S tp, J G S tp → ENs mk sk pa G ∧ CO G a ∧ 33 ≤ a ∧ iv G mk 3 = tp ∧ iv G pa 3 = N ∧ (∀ j, iv G (pa + 1) j = st j) ∧ (∀ j, iv G (pa + 2) j = vl j) ∧ iv G a 1 = x ∧ iv G a 6 = S.1 ∧ ∀ i, 0 ≤ i → i < 8 → iv G 16 i = c i) ∧
  (∀ G S tp v, J G S tp → t0 ≤ tp → tp < T → J (si (si G sk tp v) mk 3 (tp + 1)) S (tp + 1)) ∧
  (∀ G S tp, J G S tp → t0 < tp → J (si G mk 3 (tp - 1)) S (tp - 1)) ∧
  (∀ G S tp i, J G S tp → 0 ≤ i → i < 8 → J (si (si G a 6 (bor S.1 (bit i))) (a + 1) i (c i)) (bor S.1 (bit i), S.2) tp) ∧
  (∀ k y G S tp, J G S tp → 0 ≤ k → k ≤ 4 → 0 ≤ y → y ≤ 996 → t0 ≤ tp → tp < T → CX (D + 2) 37 [.inr (.inr (some mk)), .inr (.inr (some a)), .inl k, .inl y] G (fun r G1 => r = some (.inl (cl k y S).1) ∧ J G1 (cl k y S).2 tp ∧ ∀ j, j < tp → iv G1 sk j = iv G sk j) ∧ 0 ≤ (cl k y S).1 ∧ (cl k y S).1 ≤ 996)
end EVC
theorem evC {α : Type} {J : Hp → Int × α → Int → Prop} {mk sk pa a : Nat} {c st vl cd : Int → Int} {N t0 T x : Int} {D : Nat} {cl : Int → Int → Int × α → Int × Int × α} (hJ : JOk J mk sk pa a c st vl N t0 T x D cl) (hc : Cok c) (hx : 0 ≤ x ∧ x ≤ 996) (N1 : N ≤ 320) (t00 : 0 ≤ t0) (T1 : T ≤ 960) : ∀ (n : Nat) (a0 b p q : Int), Cp st vl cd n a0 b p q → ∀ (G : Hp) (S : Int × α) (tp k : Int) (l4 : Option V) (Q : Option V → Hp → Prop), J G S tp → isL l4 = false → 0 ≤ p → q < N → 0 ≤ k → k ≤ p → t0 ≤ tp → tp + (b - a0) ≤ T → (∀ G' k' l4', isL l4' = false → 0 ≤ k' → k' ≤ q → J G' (ev cd (rdc c) cl x n a0 S).2 (tp + 1) → iv G' sk tp = (ev cd (rdc c) cl x n a0 S).1 → 0 ≤ (ev cd (rdc c) cl x n a0 S).1 → (ev cd (rdc c) cl x n a0 S).1 ≤ 996 → (∀ j, j < tp → iv G' sk j = iv G sk j) → Ex (D + 3) none 3 false cX3_goThrough 18 [some (.inr (.inr (some mk))), some (.inr (.inr (some a))), some (.inl q), some (.inl k'), l4'] [] G' Q) → Ex (D + 3) none 3 false cX3_goThrough 18 [some (.inr (.inr (some mk))), some (.inr (.inr (some a))), some (.inl p), some (.inl k), l4] [] G Q := by
  obtain ⟨J1, J2, J3, J4, J5⟩ := hJ
  intro n
  induction n with
  | zero => intro a0 b p q h; exact h.elim
  | succ n ih =>
    intro a0 b p q h G S tp k l4 Q hj hl4 p0 qN k0 kp tt tb kk
    have hlt := Cp_lt h
    rcases h with ⟨c1, h1, s1, v1, h2⟩ | ⟨c1, h1, s1, h2⟩ | ⟨c1, q1, h1, s1, h2⟩ | ⟨c1, c2, c3, q1, h1, s1, v1, h2⟩ | ⟨c1, m, q1, q2, h1, h2, s1, h3⟩ | ⟨c1, m1, m2, q1, q2, h1, s1, v1, h2, s2, v2, h3⟩
    · -- a figure
      rw [ev_fig c1] at kk
      obtain ⟨e1, e2, e3, e4, e5, e6, e7, e8, e9, e10⟩ := J1 G S tp hj
      have hne := ENs_ne e1
      refine gt_turn e1 hl4 e5 N1 p0 (by omega) ((e6 p).trans s1) (by decide) k0 (by omega) (c_ts0 _ e1 e4 e2 e5 N1 p0 (by omega) ((e7 p).trans v1) (by omega) (by omega)) (fun G1 hR => ?_)
      subst hR
      rw [← h2]
      refine kk _ _ _ rfl (by omega) (by omega) (J2 G S tp _ hj tt (by omega)) ?_ (by dsimp only; omega) (by dsimp only; omega) (fun j hj2 => ?_)
      · rw [iv_si, if_neg (fun z => hne z.1), iv_si, if_pos ⟨rfl, rfl⟩]
      · rw [iv_si, if_neg (fun z => hne z.1), iv_si, if_neg (by omega)]
    · -- the argument
      rw [ev_n c1] at kk
      obtain ⟨e1, e2, e3, e4, e5, e6, e7, e8, e9, e10⟩ := J1 G S tp hj
      have hne := ENs_ne e1
      refine gt_turn e1 hl4 e5 N1 p0 (by omega) ((e6 p).trans s1) (by decide) k0 (by omega) (c_ts1 _ e1 e4 e2 e5 N1 p0 (by omega) (e7 p) (by omega) (by omega) e8) (fun G1 hR => ?_)
      subst hR
      rw [← h2]
      refine kk _ _ _ rfl (by omega) (by omega) (J2 G S tp _ hj tt (by omega)) ?_ hx.1 hx.2 (fun j hj2 => ?_)
      · rw [iv_si, if_neg (fun z => hne z.1), iv_si, if_pos ⟨rfl, rfl⟩]
      · rw [iv_si, if_neg (fun z => hne z.1), iv_si, if_neg (by omega)]
    · -- a cell
      have hlt1 := Cp_lt h1
      rw [ev_x c1] at kk
      refine ih _ _ _ _ h1 G S tp k l4 Q hj hl4 p0 (by omega) k0 kp tt (by omega) (fun G1 k1 l1 hl1 k10 k11 hj1 hv hv0 hv1 hst => ?_)
      obtain ⟨e1, e2, e3, e4, e5, e6, e7, e8, e9, e10⟩ := J1 _ _ _ hj1
      have hne := ENs_ne e1
      generalize ev cd (rdc c) cl x n (a0 + 1) S = r at *
      have hcr := hc (r.1 % 8) (by omega) (by omega)
      refine gt_turn e1 hl1 e5 N1 (by omega) (by omega) ((e6 q1).trans s1) (by decide) k10 (by omega) (c_ts2 _ e1 e4 e2 e5 N1 (by omega) (by omega) (e7 q1) (by omega) (by omega) e3 e9 (by rw [show tp + 1 - 1 = tp from by omega]; exact hv) hv0 hv1 (e10 _ (by omega) (by omega))) (fun G2 hR => ?_)
      subst hR
      rw [← h2]
      have j2 := J3 _ _ _ hj1 (by omega)
      have j3 := J4 _ _ _ (r.1 % 8) j2 (by omega) (by omega)
      have j4 := J2 _ _ _ (c (r.1 % 8)) j3 (by omega) (by omega)
      rw [show tp + 1 - 1 = tp from by omega] at j4 ⊢
      have hq := e1.2.2.2.2.2.2.2.2.2.2.2.2.2.1
      refine kk _ _ _ rfl (by omega) (by omega) j4 ?_ hcr.1 hcr.2 (fun j hj2 => ?_)
      · rw [iv_si, if_neg (fun z => hne z.1), iv_si, if_pos ⟨rfl, rfl⟩]; rfl
      · rw [iv_si, if_neg (fun z => hne z.1), iv_si, if_neg (by omega), iv_si, if_neg (by omega), iv_si, if_neg (by omega), iv_si, if_neg (fun z => hne z.1)]; exact hst j hj2
    · -- a call
      have hlt1 := Cp_lt h1
      rw [ev_f c1] at kk
      refine ih _ _ _ _ h1 G S tp k l4 Q hj hl4 p0 (by omega) k0 kp tt (by omega) (fun G1 k1 l1 hl1 k10 k11 hj1 hv hv0 hv1 hst => ?_)
      obtain ⟨e1, e2, e3, e4, e5, e6, e7, e8, e9, e10⟩ := J1 _ _ _ hj1
      have hne := ENs_ne e1
      generalize ev cd (rdc c) cl x n (a0 + 2) S = r at *
      have j2 := J3 _ _ _ hj1 (by omega)
      rw [show tp + 1 - 1 = tp from by omega] at j2
      obtain ⟨w1, w2, w3⟩ := J5 (cd (a0 + 1) - 48) r.1 _ _ _ j2 (by omega) (by omega) hv0 hv1 tt (by omega)
      refine gt_turn e1 hl1 e5 N1 (by omega) (by omega) ((e6 q1).trans s1) (by decide) k10 (by omega) (c_ts3 (D + 1) e1 e4 e2 e5 N1 (by omega) (by omega) ((e7 q1).trans v1) (by omega) (by omega) (v := r.1) (by rw [show tp + 1 - 1 = tp from by omega]; exact hv) (R := fun G2 => J G2 (cl (cd (a0 + 1) - 48) r.1 r.2).2 tp ∧ ∀ j, j < tp → iv G2 sk j = iv G1 sk j) (fun G2 z => (J1 _ _ _ z.1).1) (fun G2 z => by rw [show tp + 1 - 1 = tp from by omega]; exact (J1 _ _ _ z.1).2.2.2.1) (by
        rw [show tp + 1 - 1 = tp from by omega]
        refine w1.mono (fun r1 G2 z => ⟨z.1, z.2.1, fun j hj2 => ?_⟩)
        rw [z.2.2 j hj2, iv_si, if_neg (fun z => hne z.1)])) (fun G3 hR => ?_)
      obtain ⟨G2, ⟨z1, z2⟩, rfl⟩ := hR
      rw [← h2]
      rw [show tp + 1 - 1 = tp from by omega]
      refine kk _ _ _ rfl (by omega) (by omega) (J2 _ _ _ _ z1 tt (by omega)) ?_ w2 w3 (fun j hj2 => ?_)
      · rw [iv_si, if_neg (fun z => hne z.1), iv_si, if_pos ⟨rfl, rfl⟩]
      · rw [iv_si, if_neg (fun z => hne z.1), iv_si, if_neg (by omega), z2 j hj2]; exact hst j hj2
    · -- two terms
      have hlt1 := Cp_lt h1
      have hlt2 := Cp_lt h2
      have ht1 := Tm_tend (Cp_Tm h1)
      rw [ev_b c1, ht1] at kk
      refine ih _ _ _ _ h1 G S tp k l4 Q hj hl4 p0 (by omega) k0 kp tt (by omega) (fun G1 k1 l1 hl1 k10 k11 hj1 hv hv0 hv1 hst => ?_)
      generalize ev cd (rdc c) cl x n (a0 + 1) S = r at *
      refine ih _ _ _ _ h2 G1 r.2 (tp + 1) k1 l1 Q hj1 hl1 (by omega) (by omega) k10 (by omega) (by omega) (by omega) (fun G2 k2 l2 hl2 k20 k21 hj2 hu hu0 hu1 hst2 => ?_)
      obtain ⟨e1, e2, e3, e4, e5, e6, e7, e8, e9, e10⟩ := J1 _ _ _ hj2
      have hne := ENs_ne e1
      generalize ev cd (rdc c) cl x n m r.2 = r2 at *
      have hvx : iv G2 sk (tp + 1 + 1 - 1 - 1) = r.1 := by rw [show tp + 1 + 1 - 1 - 1 = tp from by omega, hst2 tp (by omega)]; exact hv
      have hvy : iv G2 sk (tp + 1 + 1 - 1) = r2.1 := by rw [show tp + 1 + 1 - 1 = tp + 1 from by omega]; exact hu
      have hrng := opv_rng (c := cd a0) ⟨hv0, hv1⟩ ⟨hu0, hu1⟩
      have j2 := J3 _ _ _ hj2 (by omega)
      have j3 := J3 _ _ _ j2 (by omega)
      have j4 := J2 _ _ _ (opv (cd a0) r.1 r2.1) j3 (by omega) (by omega)
      have K : ∀ G3, G3 = si (si (si (si G2 mk 3 (tp + 1 + 1 - 1)) mk 3 (tp + 1 + 1 - 1 - 1)) sk (tp + 1 + 1 - 1 - 1) (opv (cd a0) r.1 r2.1)) mk 3 (tp + 1 + 1 - 1 - 1 + 1) → ∀ l5, isL l5 = false → Ex (D + 3) none 3 false cX3_goThrough 18 [some (.inr (.inr (some mk))), some (.inr (.inr (some a))), some (.inl (q2 + 1)), some (.inl (k2 + 1)), l5] [] G3 Q := by
        intro G3 hG3 l5 hl5
        subst hG3
        rw [← h3]
        rw [show tp + 1 + 1 - 1 - 1 = tp from by omega] at j4 ⊢
        refine kk _ _ _ hl5 (by omega) (by omega) j4 ?_ hrng.1 hrng.2 (fun j hj3 => ?_)
        · rw [iv_si, if_neg (fun z => hne z.1), iv_si, if_pos ⟨rfl, rfl⟩]
        · rw [iv_si, if_neg (fun z => hne z.1), iv_si, if_neg (by omega), iv_si, if_neg (fun z => hne z.1), iv_si, if_neg (fun z => hne z.1), hst2 j (by omega)]; exact hst j hj3
      rcases c1 with c1 | c1 | c1 | c1
      · have s2 : st q2 = 4 := by rw [s1, c1]; rfl
        rw [c1] at K
        exact gt_turn e1 hl2 e5 N1 (by omega) (by omega) ((e6 q2).trans s2) (by decide) k20 (by omega) (c_ts4 _ e1 e4 e2 e5 N1 (by omega) (by omega) (e7 q2) (by omega) (by omega) ⟨hv0, hv1⟩ ⟨hu0, hu1⟩ hvx hvy) (fun G3 hR => K G3 hR _ rfl)
      · have s2 : st q2 = 5 := by rw [s1, c1]; rfl
        rw [c1] at K
        exact gt_turn e1 hl2 e5 N1 (by omega) (by omega) ((e6 q2).trans s2) (by decide) k20 (by omega) (c_ts5 _ e1 e4 e2 e5 N1 (by omega) (by omega) (e7 q2) (by omega) (by omega) ⟨hv0, hv1⟩ ⟨hu0, hu1⟩ hvx hvy) (fun G3 hR => K G3 hR _ rfl)
      · have s2 : st q2 = 6 := by rw [s1, c1]; rfl
        rw [c1] at K
        exact gt_turn e1 hl2 e5 N1 (by omega) (by omega) ((e6 q2).trans s2) (by decide) k20 (by omega) (c_ts6 _ e1 e4 e2 e5 N1 (by omega) (by omega) (e7 q2) (by omega) (by omega) ⟨hv0, hv1⟩ ⟨hu0, hu1⟩ hvx hvy) (fun G3 hR => K G3 hR _ rfl)
      · have s2 : st q2 = 7 := by rw [s1, c1]; rfl
        rw [c1] at K
        exact gt_turn e1 hl2 e5 N1 (by omega) (by omega) ((e6 q2).trans s2) (by decide) k20 (by omega) (c_ts7 _ e1 e4 e2 e5 N1 (by omega) (by omega) (e7 q2) (by omega) (by omega) ⟨hv0, hv1⟩ ⟨hu0, hu1⟩ hvx hvy) (fun G3 hR => K G3 hR _ rfl)
    · -- a choice
      have hlt1 := Cp_lt h1
      have hlt2 := Cp_lt h2
      have hlt3 := Cp_lt h3
      have ht1 := Tm_tend (Cp_Tm h1)
      have ht2 := Tm_tend (Cp_Tm h2)
      rw [ev_q c1, ht1, ht2] at kk
      refine ih _ _ _ _ h1 G S tp k l4 Q hj hl4 p0 (by omega) k0 kp tt (by omega) (fun G1 k1 l1 hl1 k10 k11 hj1 hv hv0 hv1 hst => ?_)
      obtain ⟨e1, e2, e3, e4, e5, e6, e7, e8, e9, e10⟩ := J1 _ _ _ hj1
      have hne := ENs_ne e1
      generalize ev cd (rdc c) cl x n (a0 + 1) S = r at *
      have j2 := J3 _ _ _ hj1 (by omega)
      rw [show tp + 1 - 1 = tp from by omega] at j2
      refine gt_turn e1 hl1 e5 N1 (by omega) (by omega) ((e6 q1).trans s1) (by decide) k10 (by omega) (c_ts9 _ e1 e4 e2 e5 N1 (by omega) (by omega) ((e7 q1).trans v1) (by omega) (by omega) (v := r.1) (by rw [show tp + 1 - 1 = tp from by omega]; exact hv)) (fun G2 hR => ?_)
      rw [show tp + 1 - 1 = tp from by omega] at hR
      have hst2 : ∀ j, j < tp → iv G2 sk j = iv G sk j := fun j hj3 => by rw [hR, iv_si, if_neg (fun z => hne z.1)]; exact hst j hj3
      rw [← hR] at j2
      by_cases hr : r.1 = 0
      · rw [if_pos hr] at kk ⊢
        refine ih _ _ _ _ h3 G2 r.2 tp (k1 + 1) _ Q j2 rfl (by omega) (by omega) (by omega) (by omega) tt (by omega) (fun G3 k3 l3 hl3 k30 k31 hj3 hu hu0 hu1 hst3 => ?_)
        exact kk _ _ _ hl3 k30 k31 hj3 hu hu0 hu1 (fun j hj4 => (hst3 j hj4).trans (hst2 j hj4))
      · rw [if_neg hr] at kk ⊢
        refine ih _ _ _ _ h2 G2 r.2 tp (k1 + 1) _ Q j2 rfl (by omega) (by omega) (by omega) (by omega) tt (by omega) (fun G3 k3 l3 hl3 k30 k31 hj3 hu hu0 hu1 hst3 => ?_)
        obtain ⟨f1, f2, f3, f4, f5, f6, f7, f8, f9, f10⟩ := J1 _ _ _ hj3
        refine gt_turn f1 hl3 f5 N1 (by omega) (by omega) ((f6 q2).trans s2) (by decide) k30 (by omega) (c_ts10 _ f1 f4 f2 f5 N1 (by omega) (by omega) ((f7 q2).trans v2)) (fun G4 hR4 => ?_)
        subst hR4
        exact kk _ _ _ rfl (by omega) (by omega) hj3 hu hu0 hu1 (fun j hj4 => (hst3 j hj4).trans (hst2 j hj4))
