/-! THE CLASS: a leaf is read: the whole loop -/
theorem leaf_loop {d pb : Nat} {cd : Int → Int} {A0 P0 s0 v0 : Int} {Q : Option V → Hp → Prop} (hpb : pb = 7 ∨ pb = 11) (P00 : 0 ≤ P0) : ∀ (F : Frs) (G : Hp) (k sp a b p : Int), FC G → rv G 3 6 = some pb → iv G pb 3 = sp → FrAt G k F → iv G 3 3 = k → k ≤ 160 → Opn (iv G (pb + 1)) (iv G (pb + 2)) cd A0 P0 F a p → Cq (iv G (pb + 1)) (iv G (pb + 2)) cd a b p sp → sp + pend F ≤ 320 → (∀ G', RcI pb G G' → (∀ i, i < P0 → iv G' (pb + 1) i = iv G (pb + 1) i ∧ iv G' (pb + 2) i = iv G (pb + 2) i) → ((∃ F' : Frs, iv G' 3 4 = iv G 3 4 ∧ FrAt G' (F'.length : Int) F' ∧ iv G' 3 3 = (F'.length : Int) ∧ F'.length ≤ F.length ∧ Opn (iv G' (pb + 1)) (iv G' (pb + 2)) cd A0 P0 F' b (iv G' pb 3) ∧ sumw F' + 1 = sumw F ∧ iv G' pb 3 + pend F' ≤ sp + pend F) ∨ (iv G' 3 4 = 3 ∧ sumw F = 0 ∧ Cq (iv G' (pb + 1)) (iv G' (pb + 2)) cd A0 b P0 (iv G' pb 3) ∧ iv G' pb 3 ≤ sp + pend F)) → Q (some (.inl 0)) G') → Ex (d + 2) (some .int) 6 false cX6_readLeaf 17 [some (.inr (.inr (some 3))), some (.inl s0), some (.inl v0), some (.inl (k - 1))] [] G Q := by
  intro F
  induction F with
  | nil =>
    intro G k sp a b p hF hpr hs hfr hop k1 hO hC hp kk
    have hk : k = 0 := hfr
    obtain ⟨rfl, rfl⟩ := hO
    refine lt_end hF (by omega) (kk _ ((RcI.rf pb G).si hpb _ (by omega)) (fun i _ => ⟨by rw [iv_si, if_neg (by omega)], by rw [iv_si, if_neg (by omega)]⟩) (Or.inr ⟨by simp [iv_si], rfl, ?_, ?_⟩))
    · have e1 : iv (si G 3 4 3) (pb + 1) = iv G (pb + 1) := funext (fun i => by rw [iv_si, if_neg (by omega)])
      have e2 : iv (si G 3 4 3) (pb + 2) = iv G (pb + 2) := funext (fun i => by rw [iv_si, if_neg (by omega)])
      rw [e1, e2, iv_si, if_neg (by omega), hs]; exact hC
    · rw [iv_si, if_neg (by omega), hs]; show sp ≤ sp + 0; omega
  | cons f F ih =>
    obtain ⟨s, v, w⟩ := f
    intro G k sp a b p hF hpr hs hfr hop k1 hO hC hp kk
    obtain ⟨f1, f2, f3, f4⟩ := hfr
    have hlen := FrAt_len F _ f4
    obtain ⟨a0, p0, hO', ha, hpp, hcs⟩ := hO
    have hge := Opn_ge F a0 p0 hO'
    have hlt := Cq_lt hC
    have hw := Opn_w F a0 p0 hO'
    rw [pend_cons] at hp kk
    rw [sumw_cons] at kk
    dsimp only at hp kk
    -- a term that is no choice ends
    have K1 : s ≠ 8 → w = 1 → (∀ st' vl' : Int → Int, (∀ i, i < sp → st' i = iv G (pb + 1) i ∧ vl' i = iv G (pb + 2) i) → st' sp = s → vl' sp = v → Cq st' vl' cd a0 b p0 (sp + 1)) → Ex (d + 2) (some .int) 6 false cX6_readLeaf 17 [some (.inr (.inr (some 3))), some (.inl s0), some (.inl v0), some (.inl (k - 1))] [] G Q := by
      clear hcs
      intro h8 hw1 hcl
      rw [if_neg h8] at hp kk
      subst hw1
      refine lt_1 hF hpb hpr (by omega) (by omega) hs (by omega) (by omega) f1 f2 f3 h8 ?_
      have e1 : ∀ i, i ≠ sp → iv (si (si (si (si (si G 6 (k - 1) 0) (pb + 1) sp s) (pb + 2) sp v) pb 3 (sp + 1)) 3 3 (k - 1)) (pb + 1) i = iv G (pb + 1) i := fun i hi => by simp only [iv_si]; rw [if_neg (by omega), if_neg (by omega), if_neg (by omega), if_neg (by omega), if_neg (by omega)]
      have e2 : ∀ i, i ≠ sp → iv (si (si (si (si (si G 6 (k - 1) 0) (pb + 1) sp s) (pb + 2) sp v) pb 3 (sp + 1)) 3 3 (k - 1)) (pb + 2) i = iv G (pb + 2) i := fun i hi => by simp only [iv_si]; rw [if_neg (by omega), if_neg (by omega), if_neg (by omega), if_neg (by omega), if_neg (by omega)]
      have e3 : iv (si (si (si (si (si G 6 (k - 1) 0) (pb + 1) sp s) (pb + 2) sp v) pb 3 (sp + 1)) 3 3 (k - 1)) (pb + 1) sp = s := by simp only [iv_si]; rw [if_neg (by omega), if_neg (by omega), if_neg (by omega), if_pos (by simp)]
      have e4 : iv (si (si (si (si (si G 6 (k - 1) 0) (pb + 1) sp s) (pb + 2) sp v) pb 3 (sp + 1)) 3 3 (k - 1)) (pb + 2) sp = v := by simp only [iv_si]; rw [if_neg (by omega), if_neg (by omega), if_pos (by simp)]
      have e5 : iv (si (si (si (si (si G 6 (k - 1) 0) (pb + 1) sp s) (pb + 2) sp v) pb 3 (sp + 1)) 3 3 (k - 1)) pb 3 = sp + 1 := by simp only [iv_si]; rw [if_neg (by omega), if_pos (by simp)]
      have e6 : iv (si (si (si (si (si G 6 (k - 1) 0) (pb + 1) sp s) (pb + 2) sp v) pb 3 (sp + 1)) 3 3 (k - 1)) 3 3 = k - 1 := by simp only [iv_si]; rw [if_pos (by simp)]
      have e7 : iv (si (si (si (si (si G 6 (k - 1) 0) (pb + 1) sp s) (pb + 2) sp v) pb 3 (sp + 1)) 3 3 (k - 1)) 3 4 = iv G 3 4 := by simp only [iv_si]; rw [if_neg (by omega), if_neg (by omega), if_neg (by omega), if_neg (by omega), if_neg (by omega)]
      have e8 : FrAt (si (si (si (si (si G 6 (k - 1) 0) (pb + 1) sp s) (pb + 2) sp v) pb 3 (sp + 1)) 3 3 (k - 1)) (k - 1) F := FrAt_kept F _ f4 (fun x i x0 x1 hi => by simp only [iv_si]; rw [if_neg (by omega), if_neg (by omega), if_neg (by omega), if_neg (by omega), if_neg (by omega)])
      have e9 : RcI pb G (si (si (si (si (si G 6 (k - 1) 0) (pb + 1) sp s) (pb + 2) sp v) pb 3 (sp + 1)) 3 3 (k - 1)) := (((((RcI.rf pb G).si hpb _ (by omega)).si hpb _ (by omega)).si hpb _ (by omega)).si hpb _ (by omega)).si hpb _ (by omega)
      have hF1 : FC (si (si (si (si (si G 6 (k - 1) 0) (pb + 1) sp s) (pb + 2) sp v) pb 3 (sp + 1)) 3 3 (k - 1)) := hF
      have hpr1 : rv (si (si (si (si (si G 6 (k - 1) 0) (pb + 1) sp s) (pb + 2) sp v) pb 3 (sp + 1)) 3 3 (k - 1)) 3 6 = some pb := hpr
      generalize si (si (si (si (si G 6 (k - 1) 0) (pb + 1) sp s) (pb + 2) sp v) pb 3 (sp + 1)) 3 3 (k - 1) = G1 at *
      rw [show k - 1 + (-1) = k - 1 - 1 from by omega]
      refine ih G1 (k - 1) (sp + 1) a0 b p0 hF1 hpr1 e5 e8 e6 (by omega) (Opn_congr F a0 p0 hO' (fun i hi => ⟨e1 i (by omega), e2 i (by omega)⟩) (fun i hi => rfl)) (hcl _ _ (fun i hi => ⟨e1 i (by omega), e2 i (by omega)⟩) e3 e4) (by omega) (fun G' r1 r2 r3 => ?_)
      refine kk G' (e9.trans r1) (fun i hi => ⟨(r2 i hi).1.trans (e1 i (by omega)), (r2 i hi).2.trans (e2 i (by omega))⟩) ?_
      rcases r3 with ⟨F', y1, y2, y3, y4, y5, y6, y7⟩ | ⟨y1, y2, y3, y4⟩
      · exact Or.inl ⟨F', y1.trans e7, y2, y3, by rw [List.length_cons]; omega, y5, by omega, by omega⟩
      · exact Or.inr ⟨y1, by omega, y3, by omega⟩
    rcases hcs with ⟨c1, c2, c3, c4, c5⟩ | ⟨c1, c2, c3, c4, c5, c6, c7, c8⟩ | ⟨c1, c2, c3⟩ | ⟨c1, c2, c3⟩
    · refine K1 (by omega) c2 (fun st' vl' h1 h2 h3 => Cq_x c3 ?_ (by rw [h2, c1]))
      rw [← c4, ← c5]
      exact Cq_congr hC (fun i i0 i1 => h1 i i1) (fun i _ _ => rfl)
    · refine K1 (by omega) c2 (fun st' vl' h1 h2 h3 => Cq_f c3 c4 c5 ?_ (by rw [h2, c1]) (by rw [h3, c6]))
      rw [← c7, ← c8]
      exact Cq_congr hC (fun i i0 i1 => h1 i i1) (fun i _ _ => rfl)
    · have h8 : s ≠ 8 := by rw [c2]; unfold opc; (repeat' split) <;> decide
      rcases c3 with ⟨c3, c4, c5⟩ | ⟨c3, c4⟩
      · subst c3
        rw [if_neg h8] at hp kk
        refine lt_b2 hF hpb hpr (by omega) (by omega) hs (by omega) (by omega) f1 f2 f3 h8 ?_
        have e1 : iv (si G 6 (k - 1) 1) (pb + 1) = iv G (pb + 1) := funext (fun i => by rw [iv_si, if_neg (by omega)])
        have e2 : iv (si G 6 (k - 1) 1) (pb + 2) = iv G (pb + 2) := funext (fun i => by rw [iv_si, if_neg (by omega)])
        have e3 : iv (si G 6 (k - 1) 1) pb 3 = sp := by rw [iv_si, if_neg (by omega)]; exact hs
        refine kk _ ((RcI.rf pb G).si hpb _ (by omega)) (fun i _ => ⟨by rw [e1], by rw [e2]⟩) (Or.inl ⟨(s, v, 1) :: F, by rw [iv_si, if_neg (by omega)], ?_, ?_, by rw [List.length_cons, List.length_cons]; omega, ?_, ?_, ?_⟩)
        · rw [List.length_cons, show ((F.length + 1 : Nat) : Int) = k from by omega]
          exact ⟨by rw [iv_si, if_neg (by omega)]; exact f1, by rw [iv_si, if_neg (by omega)]; exact f2, by rw [iv_si, if_pos ⟨rfl, rfl⟩], FrAt_kept F _ f4 (fun x i x0 x1 hi => by rw [iv_si, if_neg (by omega)])⟩
        · rw [iv_si, if_neg (by omega), hop, List.length_cons]; omega
        · rw [e1, e2, e3]
          exact ⟨a0, p0, hO', by omega, by omega, Or.inr (Or.inr (Or.inl ⟨c1, c2, Or.inr ⟨rfl, by rw [← c4, ← c5]; exact hC⟩⟩))⟩
        · rw [sumw_cons]; dsimp only; omega
        · rw [pend_cons, e3]; dsimp only; rw [if_neg h8]; omega
      · refine K1 h8 c3 (fun st' vl' h1 h2 h3 => Cq_b c1 (Cq_congr c4 (fun i i0 i1 => h1 i (by omega)) (fun i _ _ => rfl)) (Cq_congr hC (fun i i0 i1 => h1 i i1) (fun i _ _ => rfl)) (by rw [h2, c2]))
    · subst c1
      rw [if_pos rfl] at hp kk
      rcases c3 with ⟨c3, c4, c5⟩ | ⟨c3, q1, c4, c5, c6, c7⟩ | ⟨c3, m1, q1, q2, c4, c5, c6, c7, c8, c9, c10⟩
      · subst c3
        refine lt_q3 hF hpb hpr (by omega) (by omega) hs (by omega) (by omega) f1 f2 f3 ?_
        generalize hG1 : si (si (si (si (si G 6 (k - 1) 2) (pb + 1) sp 9) (pb + 2) sp 0) pb 3 (sp + 1)) 5 (k - 1) sp = G1
        have e1 : ∀ i, i ≠ sp → iv G1 (pb + 1) i = iv G (pb + 1) i := fun i hi => by rw [← hG1]; simp only [iv_si]; rw [if_neg (by omega), if_neg (by omega), if_neg (by omega), if_neg (by omega), if_neg (by omega)]
        have e2 : ∀ i, i ≠ sp → iv G1 (pb + 2) i = iv G (pb + 2) i := fun i hi => by rw [← hG1]; simp only [iv_si]; rw [if_neg (by omega), if_neg (by omega), if_neg (by omega), if_neg (by omega), if_neg (by omega)]
        have e3 : iv G1 (pb + 1) sp = 9 := by rw [← hG1]; simp only [iv_si]; rw [if_neg (by omega), if_neg (by omega), if_neg (by omega), if_pos (by simp)]
        have e5 : iv G1 pb 3 = sp + 1 := by rw [← hG1]; simp only [iv_si]; rw [if_neg (by omega), if_pos (by simp)]
        have e6 : iv G1 3 3 = k := by rw [← hG1]; simp only [iv_si]; rw [if_neg (by omega), if_neg (by omega), if_neg (by omega), if_neg (by omega), if_neg (by omega)]; exact hop
        have e7 : iv G1 3 4 = iv G 3 4 := by rw [← hG1]; simp only [iv_si]; rw [if_neg (by omega), if_neg (by omega), if_neg (by omega), if_neg (by omega), if_neg (by omega)]
        have e9 : RcI pb G G1 := by rw [← hG1]; exact (((((RcI.rf pb G).si hpb _ (by omega)).si hpb _ (by omega)).si hpb _ (by omega)).si hpb _ (by omega)).si hpb _ (by omega)
        refine kk G1 e9 (fun i hi => ⟨e1 i (by omega), e2 i (by omega)⟩) (Or.inl ⟨(8, sp, 2) :: F, e7, ?_, ?_, by rw [List.length_cons, List.length_cons]; omega, ?_, ?_, ?_⟩)
        · rw [List.length_cons, show ((F.length + 1 : Nat) : Int) = k from by omega]
          refine ⟨?_, ?_, ?_, FrAt_kept F _ f4 (fun x i x0 x1 hi => ?_)⟩
          · rw [← hG1]; simp only [iv_si]; rw [if_neg (by omega), if_neg (by omega), if_neg (by omega), if_neg (by omega), if_neg (by omega)]; exact f1
          · rw [← hG1]; simp only [iv_si]; rw [if_pos (by simp)]
          · rw [← hG1]; simp only [iv_si]; rw [if_neg (by omega), if_neg (by omega), if_neg (by omega), if_neg (by omega), if_pos (by simp)]
          · rw [← hG1]; simp only [iv_si]; rw [if_neg (by omega), if_neg (by omega), if_neg (by omega), if_neg (by omega), if_neg (by omega)]
        · rw [e6, List.length_cons]; omega
        · rw [e5]
          refine ⟨a0, p0, Opn_congr F a0 p0 hO' (fun i hi => ⟨e1 i (by omega), e2 i (by omega)⟩) (fun i hi => rfl), by omega, by omega, Or.inr (Or.inr (Or.inr ⟨rfl, c2, Or.inr (Or.inl ⟨rfl, sp, ?_, e3, rfl, rfl⟩)⟩))⟩
          rw [← c4, ← c5]
          exact Cq_congr hC (fun i i0 i1 => ⟨e1 i (by omega), e2 i (by omega)⟩) (fun i _ _ => rfl)
        · rw [sumw_cons]; dsimp only; omega
        · rw [pend_cons, e5]; dsimp only; rw [if_pos rfl]; omega
      · subst c3
        have l1 := Cq_lt c4
        refine lt_q2 hF hpb hpr (by omega) (by omega) hs (by omega) (by omega) f1 f2 f3 (by omega) (by omega) ?_
        generalize hG1 : si (si (si (si (si (si G 6 (k - 1) 1) (pb + 1) sp 10) (pb + 2) sp 0) pb 3 (sp + 1)) (pb + 2) v (sp + 1)) 5 (k - 1) sp = G1
        have e1 : ∀ i, i ≠ sp → iv G1 (pb + 1) i = iv G (pb + 1) i := fun i hi => by rw [← hG1]; simp only [iv_si]; rw [if_neg (by omega), if_neg (by omega), if_neg (by omega), if_neg (by omega), if_neg (by omega), if_neg (by omega)]
        have e2 : ∀ i, i ≠ sp → i ≠ v → iv G1 (pb + 2) i = iv G (pb + 2) i := fun i hi hv => by rw [← hG1]; simp only [iv_si]; rw [if_neg (by omega), if_neg (by omega), if_neg (by omega), if_neg (by omega), if_neg (by omega), if_neg (by omega)]
        have e3 : iv G1 (pb + 1) sp = 10 := by rw [← hG1]; simp only [iv_si]; rw [if_neg (by omega), if_neg (by omega), if_neg (by omega), if_neg (by omega), if_pos (by simp)]
        have e4 : iv G1 (pb + 2) v = sp + 1 := by rw [← hG1]; simp only [iv_si]; rw [if_neg (by omega), if_pos (by simp)]
        have e5 : iv G1 pb 3 = sp + 1 := by rw [← hG1]; simp only [iv_si]; rw [if_neg (by omega), if_neg (by omega), if_pos (by simp)]
        have e6 : iv G1 3 3 = k := by rw [← hG1]; simp only [iv_si]; rw [if_neg (by omega), if_neg (by omega), if_neg (by omega), if_neg (by omega), if_neg (by omega), if_neg (by omega)]; exact hop
        have e7 : iv G1 3 4 = iv G 3 4 := by rw [← hG1]; simp only [iv_si]; rw [if_neg (by omega), if_neg (by omega), if_neg (by omega), if_neg (by omega), if_neg (by omega), if_neg (by omega)]
        have e9 : RcI pb G G1 := by rw [← hG1]; exact ((((((RcI.rf pb G).si hpb _ (by omega)).si hpb _ (by omega)).si hpb _ (by omega)).si hpb _ (by omega)).si hpb _ (by omega)).si hpb _ (by omega)
        refine kk G1 e9 (fun i hi => ⟨e1 i (by omega), e2 i (by omega) (by omega)⟩) (Or.inl ⟨(8, sp, 1) :: F, e7, ?_, ?_, by rw [List.length_cons, List.length_cons]; omega, ?_, ?_, ?_⟩)
        · rw [List.length_cons, show ((F.length + 1 : Nat) : Int) = k from by omega]
          refine ⟨?_, ?_, ?_, FrAt_kept F _ f4 (fun x i x0 x1 hi => ?_)⟩
          · rw [← hG1]; simp only [iv_si]; rw [if_neg (by omega), if_neg (by omega), if_neg (by omega), if_neg (by omega), if_neg (by omega), if_neg (by omega)]; exact f1
          · rw [← hG1]; simp only [iv_si]; rw [if_pos (by simp)]
          · rw [← hG1]; simp only [iv_si]; rw [if_neg (by omega), if_neg (by omega), if_neg (by omega), if_neg (by omega), if_neg (by omega), if_pos (by simp)]
          · rw [← hG1]; simp only [iv_si]; rw [if_neg (by omega), if_neg (by omega), if_neg (by omega), if_neg (by omega), if_neg (by omega), if_neg (by omega)]
        · rw [e6, List.length_cons]; omega
        · rw [e5]
          refine ⟨a0, p0, Opn_congr F a0 p0 hO' (fun i hi => ⟨e1 i (by omega), e2 i (by omega) (by omega)⟩) (fun i hi => rfl), by omega, by omega, Or.inr (Or.inr (Or.inr ⟨rfl, c2, Or.inr (Or.inr ⟨rfl, a, q1, sp, Cq_congr c4 (fun i i0 i1 => ⟨e1 i (by omega), e2 i (by omega) (by omega)⟩) (fun i _ _ => rfl), by rw [e1 q1 (by omega)]; exact c5, by rw [← c6]; exact e4, ?_, e3, rfl, rfl⟩)⟩))⟩
          rw [← c7]
          exact Cq_congr hC (fun i i0 i1 => ⟨e1 i (by omega), e2 i (by omega) (by omega)⟩) (fun i _ _ => rfl)
        · rw [sumw_cons]; dsimp only; omega
        · rw [pend_cons, e5]; dsimp only; rw [if_pos rfl]; omega
      · subst c3
        have l1 := Cq_lt c4
        have l2 := Cq_lt c7
        refine lt_q1 hF hpb hpr (by omega) (by omega) hs (by omega) (by omega) f1 f2 f3 (by omega) (by omega) ?_
        generalize hG1 : si (si (si G 6 (k - 1) 0) (pb + 2) v sp) 3 3 (k - 1) = G1
        have e1 : ∀ i, iv G1 (pb + 1) i = iv G (pb + 1) i := fun i => by rw [← hG1]; simp only [iv_si]; rw [if_neg (by omega), if_neg (by omega), if_neg (by omega)]
        have e2 : ∀ i, i ≠ v → iv G1 (pb + 2) i = iv G (pb + 2) i := fun i hi => by rw [← hG1]; simp only [iv_si]; rw [if_neg (by omega), if_neg (by omega), if_neg (by omega)]
        have e4 : iv G1 (pb + 2) v = sp := by rw [← hG1]; simp only [iv_si]; rw [if_neg (by omega), if_pos (by simp)]
        have e5 : iv G1 pb 3 = sp := by rw [← hG1]; simp only [iv_si]; rw [if_neg (by omega), if_neg (by omega), if_neg (by omega)]; exact hs
        have e6 : iv G1 3 3 = k - 1 := by rw [← hG1]; simp only [iv_si]; rw [if_pos (by simp)]
        have e7 : iv G1 3 4 = iv G 3 4 := by rw [← hG1]; simp only [iv_si]; rw [if_neg (by omega), if_neg (by omega), if_neg (by omega)]
        have e8 : FrAt G1 (k - 1) F := FrAt_kept F _ f4 (fun x i x0 x1 hi => by rw [← hG1]; simp only [iv_si]; rw [if_neg (by omega), if_neg (by omega), if_neg (by omega)])
        have e9 : RcI pb G G1 := by rw [← hG1]; exact (((RcI.rf pb G).si hpb _ (by omega)).si hpb _ (by omega)).si hpb _ (by omega)
        have hF1 : FC G1 := by rw [← hG1]; exact hF
        have hpr1 : rv G1 3 6 = some pb := by rw [← hG1]; exact hpr
        rw [show k - 1 + (-1) = k - 1 - 1 from by omega]
        refine ih G1 (k - 1) sp a0 b p0 hF1 hpr1 e5 e8 e6 (by omega) (Opn_congr F a0 p0 hO' (fun i hi => ⟨e1 i, e2 i (by omega)⟩) (fun i hi => rfl)) ?_ (by omega) (fun G' r1 r2 r3 => ?_)
        · refine Cq_q c2 (Cq_congr c4 (fun i i0 i1 => ⟨e1 i, e2 i (by omega)⟩) (fun i _ _ => rfl)) (by rw [e1]; exact c5) (by rw [e2 q1 (by omega)]; exact c6) (Cq_congr c7 (fun i i0 i1 => ⟨e1 i, e2 i (by omega)⟩) (fun i _ _ => rfl)) (by rw [e1]; exact c8) (by rw [← c9]; exact e4) ?_
          rw [← c10]
          exact Cq_congr hC (fun i i0 i1 => ⟨e1 i, e2 i (by omega)⟩) (fun i _ _ => rfl)
        · refine kk G' (e9.trans r1) (fun i hi => ⟨(r2 i hi).1.trans (e1 i), (r2 i hi).2.trans (e2 i (by omega))⟩) ?_
          rcases r3 with ⟨F', y1, y2, y3, y4, y5, y6, y7⟩ | ⟨y1, y2, y3, y4⟩
          · exact Or.inl ⟨F', y1.trans e7, y2, y3, by rw [List.length_cons]; omega, y5, by omega, by omega⟩
          · exact Or.inr ⟨y1, by omega, y3, by omega⟩
