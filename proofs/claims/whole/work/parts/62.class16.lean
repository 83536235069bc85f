/-! THE CLASS: what is so while a text is read -/
def FnOk (st vl ss cd bg : Int → Int) (ub n f : Int) : Prop := 0 ≤ bg f ∧ 0 ≤ ss f ∧ ∃ b q, Cq st vl cd (bg f) b (ss f) q ∧ st q = 11 ∧ q < ub ∧ b < n ∧ cnI cd 102 (b - bg f).toNat (bg f) ≤ 3
theorem FnOk_congr {st vl ss cd bg st' vl' ss' cd' bg' : Int → Int} {ub n ub' n' f : Int} (h : FnOk st vl ss cd bg ub n f) (h1 : ∀ i, i < ub → st' i = st i ∧ vl' i = vl i) (h2 : ss' f = ss f) (h3 : ∀ i, i < n → cd' i = cd i) (h4 : bg' f = bg f) (h5 : ub ≤ ub') (h6 : n ≤ n') : FnOk st' vl' ss' cd' bg' ub' n' f := by
  obtain ⟨a1, a2, b, q, a3, a4, a5, a6, a7⟩ := h
  have hl := Cq_lt a3
  refine ⟨by rw [h4]; exact a1, by rw [h2]; exact a2, b, q, ?_, by rw [(h1 q a5).1]; exact a4, by omega, by omega, ?_⟩
  · rw [h4, h2]; exact Cq_congr a3 (fun i i0 i1 => h1 i (by omega)) (fun i i0 i1 => h3 i (by omega))
  · rw [h4, cnI_congr _ _ (fun i i0 i1 => h3 i (by omega))]; exact a7
/-- within a body -/
def Bdy (pb : Nat) (cd bg : Int → Int) (rs : Rs) (n : Int) (G : Hp) (F : Frs) : Prop := iv G 3 5 = rs.2.2.1 ∧ rs.2.2.1 = cnI cd 102 (n - bg rs.2.2.2.2).toNat (bg rs.2.2.2.2) ∧ rs.2.2.1 ≤ 3 ∧ 0 ≤ bg rs.2.2.2.2 ∧ bg rs.2.2.2.2 ≤ n ∧ 0 ≤ iv G (pb + 3) rs.2.2.2.2 ∧ iv G (pb + 3) rs.2.2.2.2 ≤ iv G pb 3 ∧ ((rs.1 = 0 ∧ rs.2.1 = 0 ∧ Cq (iv G (pb + 1)) (iv G (pb + 2)) cd (bg rs.2.2.2.2) n (iv G (pb + 3) rs.2.2.2.2) (iv G pb 3) ∧ iv G pb 3 ≤ 2 * n) ∨ (1 ≤ rs.1 ∧ rs.1 = 1 + sumw F ∧ FrAt G (F.length : Int) F ∧ iv G 3 3 = (F.length : Int) ∧ (F.length : Int) ≤ n ∧ iv G pb 3 + pend F ≤ 2 * n ∧ ((rs.2.1 = 0 ∧ Opn (iv G (pb + 1)) (iv G (pb + 2)) cd (bg rs.2.2.2.2) (iv G (pb + 3) rs.2.2.2.2) F n (iv G pb 3)) ∨ (rs.2.1 = 1 ∧ cd (n - 1) = 102 ∧ bg rs.2.2.2.2 ≤ n - 1 ∧ Opn (iv G (pb + 1)) (iv G (pb + 2)) cd (bg rs.2.2.2.2) (iv G (pb + 3) rs.2.2.2.2) F (n - 1) (iv G pb 3)))))
def RIn (pb : Nat) (cd bg : Int → Int) (rs : Rs) (n : Int) (G : Hp) : Prop := (rs.2.1 = 0 ∨ rs.2.1 = 1) ∧ (rs.2.2.2.1 = 0 ∨ rs.2.2.2.1 = 1) ∧ (rs.2.2.2.1 = 0 → rs.2.1 = 0) ∧ (iv G pb 4 = rs.2.2.2.2 ∧ 0 ≤ rs.2.2.2.2 ∧ rs.2.2.2.2 + rs.2.2.2.1 ≤ 5 ∧ 0 ≤ iv G pb 3 ∧ 0 ≤ n) ∧ iv G 3 4 = (if rs.2.2.2.1 = 0 then 0 else if rs.2.1 = 1 then 2 else if rs.1 = 0 then 3 else 1) ∧ (∀ f, 0 ≤ f → f < rs.2.2.2.2 → FnOk (iv G (pb + 1)) (iv G (pb + 2)) (iv G (pb + 3)) cd bg (if rs.2.2.2.1 = 1 then iv G (pb + 3) rs.2.2.2.2 else iv G pb 3) n f) ∧ (rs.2.2.2.1 = 0 → iv G pb 3 ≤ 2 * n) ∧ (rs.2.2.2.1 = 1 → ∃ F, Bdy pb cd bg rs n G F)
/-- what reading changes -/
def RcJ (pb : Nat) (G G' : Hp) : Prop := Io G G' ∧ ∀ (a : Nat) (k : Int), a ≠ 4 → a ≠ 5 → a ≠ 6 → a ≠ pb → a ≠ pb + 1 → a ≠ pb + 2 → a ≠ pb + 3 → ¬ (a = 3 ∧ (k = 3 ∨ k = 4 ∨ k = 5)) → iv G' a k = iv G a k
theorem RcJ.rf (pb : Nat) (G : Hp) : RcJ pb G G := ⟨Io.rf G, fun _ _ _ _ _ _ _ _ _ _ => rfl⟩
theorem RcJ.trans {pb : Nat} {G G1 G2 : Hp} (h1 : RcJ pb G G1) (h2 : RcJ pb G1 G2) : RcJ pb G G2 := ⟨h1.1.trans h2.1, fun a k g1 g2 g3 g4 g5 g6 g7 g8 => (h2.2 a k g1 g2 g3 g4 g5 g6 g7 g8).trans (h1.2 a k g1 g2 g3 g4 g5 g6 g7 g8)⟩
theorem RcJ.si {pb : Nat} {G G1 : Hp} (h : RcJ pb G G1) {b : Nat} {k : Int} (v : Int) (hb : b = 4 ∨ b = 5 ∨ b = 6 ∨ b = pb ∨ b = pb + 1 ∨ b = pb + 2 ∨ b = pb + 3 ∨ (b = 3 ∧ (k = 3 ∨ k = 4 ∨ k = 5))) : RcJ pb G (si G1 b k v) := ⟨h.1, fun a j g1 g2 g3 g4 g5 g6 g7 g8 => by rw [iv_si, if_neg (fun z => by obtain ⟨z1, z2⟩ := z; subst z1 z2; omega)]; exact h.2 a j g1 g2 g3 g4 g5 g6 g7 g8⟩
theorem RcI.J {pb : Nat} {G G' : Hp} (h : RcI pb G G') : RcJ pb G G' := ⟨h.1, fun a k g1 g2 g3 g4 g5 g6 g7 g8 => by
  by_cases ha : a = 3
  · subst ha; exact h.2.2.1 k (by omega) (by omega)
  · exact h.2.1 a k ha g1 g2 g3 g4 g5 g6⟩
theorem upi_lo {f : Int → Int} {n v i : Int} (h : i < n) : upi f n v i = f i := by unfold upi; rw [if_neg (by omega)]
theorem upi_at (f : Int → Int) (n v : Int) : upi f n v n = v := by unfold upi; rw [if_pos rfl]
theorem cnI_snoc {cd : Int → Int} {a n c : Int} (h : a ≤ n) : cnI (upi cd n c) 102 (n + 1 - a).toNat a = cnI cd 102 (n - a).toNat a + (if c = 102 then 1 else 0) := by
  rw [show (n + 1 - a).toNat = (n - a).toNat + 1 from by omega, cnI_add, cnI_congr (g := cd) (g' := upi cd n c) _ _ (fun i i0 i1 => upi_lo (by omega)), show a + (((n - a).toNat : Nat) : Int) = n from by omega]
  simp only [cnI]
  rw [upi_at]; omega
/-- the body goes on with a term opened -/
theorem Bdy_open {pb : Nat} (hpb : pb = 7 ∨ pb = 11) {cd bg : Int → Int} {rs : Rs} {n : Int} {G : Hp} {F : Frs} {c s v w : Int} (hb : iv G 3 5 = rs.2.2.1 ∧ rs.2.2.1 = cnI cd 102 (n - bg rs.2.2.2.2).toNat (bg rs.2.2.2.2) ∧ rs.2.2.1 ≤ 3 ∧ 0 ≤ bg rs.2.2.2.2 ∧ bg rs.2.2.2.2 ≤ n ∧ 0 ≤ iv G (pb + 3) rs.2.2.2.2 ∧ iv G (pb + 3) rs.2.2.2.2 ≤ iv G pb 3) (hfr : FrAt G (F.length : Int) F) (hl : (F.length : Int) ≤ n) (hc : c ≠ 102) {t : Int} (ht : t = 1 + sumw F + (w - 1)) (t1 : 1 ≤ t) (hp : iv G pb 3 + (if s = 8 then w - 1 else 1) + pend F ≤ 2 * (n + 1)) (hO : Opn (iv G (pb + 1)) (iv G (pb + 2)) (upi cd n c) (bg rs.2.2.2.2) (iv G (pb + 3) rs.2.2.2.2) ((s, v, w) :: F) (n + 1) (iv G pb 3)) {G1 : Hp} (hI : ∀ (a : Nat) (k : Int), ¬ (a = 3 ∧ (k = 3 ∨ k = 4)) → (a ≠ 4 ∧ a ≠ 5 ∧ a ≠ 6 ∨ k ≠ (F.length : Int)) → iv G1 a k = iv G a k) (i4 : iv G1 4 (F.length : Int) = s) (i5 : iv G1 5 (F.length : Int) = v) (i6 : iv G1 6 (F.length : Int) = w) (i3 : iv G1 3 3 = (F.length : Int) + 1) : Bdy pb (upi cd n c) bg (t, 0, rs.2.2.1, 1, rs.2.2.2.2) (n + 1) G1 ((s, v, w) :: F) := by
  obtain ⟨b1, b2, b3, b4, b5, b6, b7⟩ := hb
  have e1 : iv G1 (pb + 1) = iv G (pb + 1) := funext (fun i => hI _ i (by omega) (by omega))
  have e2 : iv G1 (pb + 2) = iv G (pb + 2) := funext (fun i => hI _ i (by omega) (by omega))
  have e3 : ∀ i, iv G1 (pb + 3) i = iv G (pb + 3) i := fun i => hI _ i (by omega) (by omega)
  have e4 : iv G1 pb 3 = iv G pb 3 := hI _ 3 (by omega) (by omega)
  refine ⟨(hI 3 5 (by omega) (by omega)).trans b1, ?_, b3, b4, by dsimp only; omega, by rw [e3]; exact b6, by rw [e3, e4]; exact b7, Or.inr ⟨t1, ?_, ?_, ?_, ?_, ?_, Or.inl ⟨rfl, ?_⟩⟩⟩
  · dsimp only; rw [cnI_snoc b5, if_neg hc, ← b2]; omega
  · rw [sumw_cons]; dsimp only; omega
  · rw [List.length_cons, show (((F.length + 1 : Nat)) : Int) = (F.length : Int) + 1 from by omega]
    refine ⟨by rw [show (F.length : Int) + 1 - 1 = (F.length : Int) from by omega]; exact i4, by rw [show (F.length : Int) + 1 - 1 = (F.length : Int) from by omega]; exact i5, by rw [show (F.length : Int) + 1 - 1 = (F.length : Int) from by omega]; exact i6, ?_⟩
    rw [show (F.length : Int) + 1 - 1 = (F.length : Int) from by omega]
    exact FrAt_kept F _ hfr (fun x i x0 x1 hi => hI x i (by omega) (by omega))
  · rw [i3, List.length_cons]; omega
  · rw [List.length_cons]; omega
  · rw [pend_cons, e4]; dsimp only; omega
  · rw [e1, e2, e3, e4]; exact hO
theorem cnI_nn (ne : Int → Int) (v : Int) : ∀ (n : Nat) (a : Int), 0 ≤ cnI ne v n a := by
  intro n
  induction n with
  | zero => intro a; exact Int.le_refl _
  | succ n ih => intro a; simp only [cnI]; have := ih (a + 1); split <;> omega
