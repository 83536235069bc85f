/-! THE CLASS: one letter read -/
/-- what one letter leaves -/
def LtP (pb : Nat) (cd bg : Int → Int) (rs : Rs) (n c : Int) (G G' : Hp) : Prop := RcJ pb G G' ∧ (rsF rs c = 0 → RIn pb (upi cd n c) (if c = 100 then upi bg rs.2.2.2.2 (n + 1) else bg) (rsOn rs c) (n + 1) G')
theorem letter_ok (d : Nat) {G : Hp} (hF : FC G) {pb : Nat} (hpb : pb = 7 ∨ pb = 11) (hpr : rv G 3 6 = some pb) {cd bg : Int → Int} {rs : Rs} {n : Int} (hR : RIn pb cd bg rs n G) (n1 : n < 160) (c : Int) : CX (d + 5) 58 [.inr (.inr (some 3)), .inl c] G (fun r G' => r = some (.inl (rsF rs c)) ∧ LtP pb cd bg rs n c G G') := by
  obtain ⟨terms, fig, fs, inB, told⟩ := rs
  obtain ⟨r1, r2, r3, ⟨r4, r5, r6, r7, r8⟩, r9, r10, r11, r12⟩ := hR
  dsimp only at r1 r2 r3 r4 r5 r6 r9 r10 r11 r12
  have same : ∀ z : Int, z ≠ 0 → rsF (terms, fig, fs, inB, told) c = z → ∀ G1, G1 = G → LtP pb cd bg (terms, fig, fs, inB, told) n c G G1 := fun z hz hf G1 hG => by
    subst hG
    exact ⟨RcJ.rf pb G1, fun h0 => absurd (hf.symm.trans h0) hz⟩
  rcases r2 with hB | hB
  · -- ahead of a function
    subst hB
    have hfig := r3 rfl
    subst hfig
    rw [if_pos rfl] at r9
    have hff : rsF (terms, 0, fs, 0, told) c = (if c = 100 then (if told = 5 then 3 else 0) else 1) := by unfold rsF; dsimp only; rw [if_neg (by decide), if_pos rfl]
    by_cases hc : c = 100
    · rw [if_pos hc] at hff
      by_cases h5 : told = 5
      · rw [if_pos h5] at hff
        rw [hff]
        exact rl_0 d hF hpb hpr r9 ((CX.up (d := 0 + 2) (by omega) (c_bf3 0 hF hpb hpr hc r4 (by omega))).mono (fun r G1 hr => ⟨hr.1, same 3 (by decide) hff G1 hr.2⟩))
      · rw [if_neg h5] at hff
        rw [hff]
        refine rl_0 d hF hpb hpr r9 ((CX.up (d := 0 + 2) (by omega) (c_bf0 0 hF hpb hpr hc r4 r5 (by omega) rfl)).mono (fun r G1 hr => ⟨hr.1, ?_⟩))
        have hG1 := hr.2
        refine ⟨by rw [hG1]; exact ((((RcJ.rf pb G).si _ (by omega)).si _ (by omega)).si _ (by omega)).si _ (by omega), fun _ => ?_⟩
        have hI : ∀ (a : Nat) (k : Int), ¬ (a = 3 ∧ (k = 3 ∨ k = 4 ∨ k = 5)) → ¬ (a = pb + 3 ∧ k = told) → iv G1 a k = iv G a k := fun a k h1 h2 => by
          rw [hG1]; simp only [iv_si]; rw [if_neg (by omega), if_neg (by omega), if_neg (by omega), if_neg (by omega)]
        have i3 : iv G1 3 3 = 0 := by rw [hG1]; simp only [iv_si]; rw [if_neg (by omega), if_neg (by omega), if_pos (by simp)]
        have i5 : iv G1 3 5 = 0 := by rw [hG1]; simp only [iv_si]; rw [if_neg (by omega), if_pos (by simp)]
        have i4 : iv G1 3 4 = 1 := by rw [hG1]; simp only [iv_si]; rw [if_pos (by simp)]
        have it : iv G1 (pb + 3) told = iv G pb 3 := by rw [hG1]; simp only [iv_si]; rw [if_neg (by omega), if_neg (by omega), if_neg (by omega), if_pos (by simp)]
        have hon : rsOn (terms, 0, fs, 0, told) c = (1, 0, 0, 1, told) := by unfold rsOn; dsimp only; rw [if_neg (by decide), if_pos rfl]
        rw [hon, if_pos hc]
        dsimp only
        have hsp := r11 rfl
        refine ⟨Or.inl rfl, Or.inr rfl, (fun z => by cases z), ⟨(hI pb 4 (by omega) (by omega)).trans r4, r5, by dsimp only; omega, by rw [hI pb 3 (by omega) (by omega)]; exact r7, by omega⟩, by rw [i4]; rfl, fun f f0 f1 => ?_, (fun z => by cases z), fun _ => ⟨[], i5, ?_, show (0 : Int) ≤ 3 by decide, ?_, ?_, ?_, ?_, Or.inr ⟨Int.le_refl _, rfl, rfl, i3, ?_, ?_, Or.inl ⟨rfl, ?_, ?_⟩⟩⟩⟩
        · dsimp only at f1 ⊢
          have h0 := r10 f f0 f1
          rw [if_neg (by decide)] at h0
          rw [if_pos rfl, it]
          refine FnOk_congr h0 (fun i _ => ⟨hI _ i (by omega) (by omega), hI _ i (by omega) (by omega)⟩) (hI _ f (by omega) (by omega)) (fun i hi => upi_lo hi) ?_ (by omega) (by omega)
          unfold upi; rw [if_neg (by omega)]
        · dsimp only; rw [upi_at, show n + 1 - (n + 1) = 0 from by omega]; rfl
        · dsimp only; rw [upi_at]; omega
        · dsimp only; rw [upi_at]; omega
        · dsimp only; rw [it]; exact r7
        · dsimp only; rw [it, hI pb 3 (by omega) (by omega)]; exact Int.le_refl _
        · show ((0 : Nat) : Int) ≤ n + 1; omega
        · rw [hI pb 3 (by omega) (by omega)]; show iv G pb 3 + 0 ≤ 2 * (n + 1); omega
        · dsimp only; rw [upi_at]
        · dsimp only; rw [it]; exact hI pb 3 (by omega) (by omega)
    · rw [if_neg hc] at hff
      rw [hff]
      exact rl_0 d hF hpb hpr r9 ((CX.up (d := 0 + 2) (by omega) (c_bf1 0 hF hpb hpr hc)).mono (fun r G1 hr => ⟨hr.1, same 1 (by decide) hff G1 hr.2⟩))
  · subst hB
    obtain ⟨F, b1, b2, b3, b4, b5, b6, b7, hcs⟩ := r12 rfl
    dsimp only at b1 b2 b3 b4 b5 b6 b7 hcs
    rw [if_neg (by decide)] at r9
    have hbb : iv G 3 5 = fs ∧ fs = cnI cd 102 (n - bg told).toNat (bg told) ∧ fs ≤ 3 ∧ 0 ≤ bg told ∧ bg told ≤ n ∧ 0 ≤ iv G (pb + 3) told ∧ iv G (pb + 3) told ≤ iv G pb 3 := ⟨b1, b2, b3, b4, b5, b6, b7⟩
    -- functions that are told stay so while a body goes on
    have fnk : ∀ (G1 : Hp), c ≠ 100 → (∀ i, i < iv G (pb + 3) told → iv G1 (pb + 1) i = iv G (pb + 1) i ∧ iv G1 (pb + 2) i = iv G (pb + 2) i) → (∀ i, iv G1 (pb + 3) i = iv G (pb + 3) i) → ∀ f, 0 ≤ f → f < told → FnOk (iv G1 (pb + 1)) (iv G1 (pb + 2)) (iv G1 (pb + 3)) (upi cd n c) bg (iv G1 (pb + 3) told) (n + 1) f := fun G1 _ h1 h2 f f0 f1 => by
      have h0 := r10 f f0 f1
      rw [if_pos rfl] at h0
      exact FnOk_congr h0 h1 (h2 f) (fun i hi => upi_lo hi) rfl (by rw [h2]; exact Int.le_refl _) (by omega)
    rcases hcs with ⟨q1, q2, q3, q4⟩ | ⟨q1, q2, q3, q4, q5, q6, q7⟩
    · -- behind a body
      subst q1 q2
      rw [if_neg (by decide), if_pos rfl] at r9
      have hff : rsF (0, 0, fs, 1, told) c = (if c = 59 then 0 else 1) := by unfold rsF; dsimp only; rw [if_neg (by decide), if_neg (by decide), if_pos rfl]
      by_cases hc : c = 59
      · rw [if_pos hc] at hff
        rw [hff]
        refine rl_3 d hF hpb hpr r9 ((CX.up (d := 0 + 3) (by omega) (c_ef0 0 hF hpb hpr hc r4 r5 (by omega) rfl r7 (by omega))).mono (fun r G1 hr => ⟨hr.1, ?_⟩))
        have hG1 := hr.2
        refine ⟨by rw [hG1]; exact (((((RcJ.rf pb G).si _ (by omega)).si _ (by omega)).si _ (by omega)).si _ (by omega)).si _ (by omega), fun _ => ?_⟩
        have e1 : ∀ i, i ≠ iv G pb 3 → iv G1 (pb + 1) i = iv G (pb + 1) i := fun i hi => by rw [hG1]; simp only [iv_si]; rw [if_neg (by omega), if_neg (by omega), if_neg (by omega), if_neg (by omega), if_neg (by omega)]
        have e2 : ∀ i, i ≠ iv G pb 3 → iv G1 (pb + 2) i = iv G (pb + 2) i := fun i hi => by rw [hG1]; simp only [iv_si]; rw [if_neg (by omega), if_neg (by omega), if_neg (by omega), if_neg (by omega), if_neg (by omega)]
        have e3 : iv G1 (pb + 1) (iv G pb 3) = 11 := by rw [hG1]; simp only [iv_si]; rw [if_neg (by omega), if_neg (by omega), if_neg (by omega), if_neg (by omega), if_pos (by simp)]
        have e4 : iv G1 pb 3 = iv G pb 3 + 1 := by rw [hG1]; simp only [iv_si]; rw [if_neg (by omega), if_neg (by omega), if_pos (by simp)]
        have e5 : iv G1 pb 4 = told + 1 := by rw [hG1]; simp only [iv_si]; rw [if_neg (by omega), if_pos (by simp)]
        have e6 : ∀ i, iv G1 (pb + 3) i = iv G (pb + 3) i := fun i => by rw [hG1]; simp only [iv_si]; rw [if_neg (by omega), if_neg (by omega), if_neg (by omega), if_neg (by omega), if_neg (by omega)]
        have e7 : iv G1 3 4 = 0 := by rw [hG1]; simp only [iv_si]; rw [if_pos (by simp)]
        have hon : rsOn (0, 0, fs, 1, told) c = (0, 0, fs, 0, told + 1) := by unfold rsOn; dsimp only; rw [if_neg (by decide), if_neg (by decide), if_pos rfl]
        rw [hon, if_neg (by omega)]
        refine ⟨Or.inl rfl, Or.inl rfl, fun _ => rfl, ⟨e5, by dsimp only; omega, by dsimp only; omega, by rw [e4]; omega, by omega⟩, by rw [e7]; rfl, fun f f0 f1 => ?_, fun _ => by rw [e4]; omega, (fun z => by cases z)⟩
        dsimp only at f1 ⊢
        rw [if_neg (by decide), e4]
        by_cases hf : f = told
        · subst hf
          refine ⟨b4, by rw [e6]; exact b6, n, iv G pb 3, ?_, e3, by omega, by omega, ?_⟩
          · rw [e6]
            exact Cq_congr q3 (fun i i0 i1 => ⟨e1 i (by omega), e2 i (by omega)⟩) (fun i i0 i1 => upi_lo i1)
          · rw [cnI_congr (g := cd) _ _ (fun i i0 i1 => upi_lo (by omega)), ← b2]; exact b3
        · have h0 := r10 f f0 (by omega)
          rw [if_pos rfl] at h0
          exact FnOk_congr h0 (fun i hi => ⟨e1 i (by omega), e2 i (by omega)⟩) (e6 f) (fun i hi => upi_lo hi) rfl (by omega) (by omega)
      · rw [if_neg hc] at hff
        rw [hff]
        exact rl_3 d hF hpb hpr r9 ((CX.up (d := 0 + 3) (by omega) (c_ef1 0 hF hpb hpr hc)).mono (fun r G1 hr => ⟨hr.1, same 1 (by decide) hff G1 hr.2⟩))
    · have hk0 : (0 : Int) ≤ (F.length : Int) := Int.natCast_nonneg _
      rcases q7 with ⟨q8, q9⟩ | ⟨q8, q9, q10, q11⟩
      · -- a term is next
        subst q8
        rw [if_neg (by decide), if_neg (by omega)] at r9
        have hge := Opn_ge _ _ _ q9
        have hwn := Opn_w _ _ _ q9
        have hff : rsF (terms, 0, fs, 1, told) c = (if (48 ≤ c ∧ c ≤ 57) ∨ c = 110 ∨ 0 < wnt c then (if c = 102 ∧ fs = 3 then 4 else 0) else 1) := by unfold rsF; dsimp only; rw [if_neg (by decide), if_neg (by decide), if_neg (by omega)]
        have hon : rsOn (terms, 0, fs, 1, told) c = (terms + (wnt c - 1), (if c = 102 then 1 else 0), fs + (if c = 102 then 1 else 0), 1, told) := by unfold rsOn; dsimp only; rw [if_neg (by decide), if_neg (by decide), if_neg (by omega)]
        -- a leaf
        have leaf : ∀ (s v : Int), (∀ st' vl' : Int → Int, st' (iv G pb 3) = s → vl' (iv G pb 3) = v → Cq st' vl' (upi cd n c) n (n + 1) (iv G pb 3) (iv G pb 3 + 1)) → wnt c = 0 → c ≠ 102 → c ≠ 100 → CX (d + 3) 65 [.inr (.inr (some 3)), .inl s, .inl v] G (fun r G' => r = some (.inl 0) ∧ LtP pb cd bg (terms, 0, fs, 1, told) n c G G') := by
          intro s v hC hw0 h102 h100
          refine (c_readLeafC d hF hpb hpr (cd := upi cd n c) (A0 := bg told) (P0 := iv G (pb + 3) told) (b := n + 1) b6 rfl r7 (by omega) q3 q4 hk0 (by omega) (Opn_congr _ _ _ q9 (fun i hi => ⟨rfl, rfl⟩) (fun i hi => upi_lo hi)) hC (by omega)).mono (fun r G1 hr => ⟨hr.1, ?_⟩)
          obtain ⟨g1, g2, g3⟩ := hr.2
          refine ⟨g1.J, fun _ => ?_⟩
          have e6 : ∀ i, iv G1 (pb + 3) i = iv G (pb + 3) i := fun i => g1.2.1 _ i (by omega) (by omega) (by omega) (by omega) (by omega) (by omega) (by omega)
          have e5 : iv G1 3 5 = iv G 3 5 := g1.2.2.1 5 (by decide) (by decide)
          have e4 : iv G1 pb 4 = iv G pb 4 := g1.2.2.2 4 (by decide)
          have hsp : iv G (pb + 3) told ≤ iv G1 pb 3 ∧ 0 ≤ iv G1 pb 3 := by
            rcases g3 with ⟨F', y1, y2, y3, y4, y5, y6, y7⟩ | ⟨y1, y2, y3, y4⟩
            · have := Opn_ge _ _ _ y5; omega
            · have := Cq_lt y3; omega
          rw [hon, if_neg h102, if_neg h100, hw0]
          have hcn : fs + 0 = cnI (upi cd n c) 102 (n + 1 - bg told).toNat (bg told) := by rw [cnI_snoc b5, if_neg h102, ← b2]
          rcases g3 with ⟨F', y1, y2, y3, y4, y5, y6, y7⟩ | ⟨y1, y2, y3, y4⟩
          · have hw' := Opn_w _ _ _ y5
            refine ⟨Or.inl rfl, Or.inr rfl, (fun z => by cases z), ⟨e4.trans r4, r5, r6, hsp.2, by omega⟩, ?_, fun f f0 f1 => by dsimp only at f1 ⊢; rw [if_pos rfl]; exact fnk G1 h100 g2 e6 f f0 f1, (fun z => by cases z), fun _ => ⟨F', e5.trans (by dsimp only; rw [b1]; omega), hcn, by dsimp only; omega, b4, by dsimp only; omega, by dsimp only; rw [e6]; exact b6, by dsimp only; rw [e6]; exact hsp.1, Or.inr ⟨by dsimp only; omega, by dsimp only; omega, y2, y3, by omega, by omega, Or.inl ⟨rfl, by dsimp only; rw [e6]; exact y5⟩⟩⟩⟩
            rw [y1, r9]; dsimp only; rw [if_neg (by decide), if_neg (by decide), if_neg (by omega)]
          · refine ⟨Or.inl rfl, Or.inr rfl, (fun z => by cases z), ⟨e4.trans r4, r5, r6, hsp.2, by omega⟩, ?_, fun f f0 f1 => by dsimp only at f1 ⊢; rw [if_pos rfl]; exact fnk G1 h100 g2 e6 f f0 f1, (fun z => by cases z), fun _ => ⟨[], e5.trans (by dsimp only; rw [b1]; omega), hcn, by dsimp only; omega, b4, by dsimp only; omega, by dsimp only; rw [e6]; exact b6, by dsimp only; rw [e6]; exact hsp.1, Or.inl ⟨by dsimp only; omega, rfl, by dsimp only; rw [e6]; exact y3, by omega⟩⟩⟩
            rw [y1]; dsimp only; rw [if_neg (by decide), if_neg (by decide), if_pos (by omega)]
        -- a term opened
        have opn : ∀ (s v w : Int), wnt c = w → 1 ≤ w → c ≠ 102 → c ≠ 100 → (if s = 8 then w - 1 else 1) ≤ 2 → (∀ st vl : Int → Int, Opn st vl (upi cd n c) (bg told) (iv G (pb + 3) told) F n (iv G pb 3) → Opn st vl (upi cd n c) (bg told) (iv G (pb + 3) told) ((s, v, w) :: F) (n + 1) (iv G pb 3)) → CX (d + 3) 64 [.inr (.inr (some 3)), .inl s, .inl v, .inl w] G (fun r G' => r = some (.inl 0) ∧ LtP pb cd bg (terms, 0, fs, 1, told) n c G G') := by
          intro s v w hw hw1 h102 h100 hpd hO
          refine (CX.up (d := 0 + 1) (by omega) (c_openTerm 0 hF q4 hk0 (by omega))).mono (fun r G1 hr => ⟨hr.1, ?_⟩)
          have hG1 := hr.2
          refine ⟨by rw [hG1]; exact ((((RcJ.rf pb G).si _ (by omega)).si _ (by omega)).si _ (by omega)).si _ (by omega), fun _ => ?_⟩
          have hI : ∀ (a : Nat) (k : Int), ¬ (a = 3 ∧ (k = 3 ∨ k = 4)) → (a ≠ 4 ∧ a ≠ 5 ∧ a ≠ 6 ∨ k ≠ (F.length : Int)) → iv G1 a k = iv G a k := fun a k h1 h2 => by
            rw [hG1]; simp only [iv_si]; rw [if_neg (by omega), if_neg (by omega), if_neg (by omega), if_neg (by omega)]
          have i4 : iv G1 4 (F.length : Int) = s := by rw [hG1]; simp [iv_si]
          have i5 : iv G1 5 (F.length : Int) = v := by rw [hG1]; simp [iv_si]
          have i6 : iv G1 6 (F.length : Int) = w := by rw [hG1]; simp [iv_si]
          have i3 : iv G1 3 3 = (F.length : Int) + 1 := by rw [hG1]; simp [iv_si]
          have ia : iv G1 3 4 = iv G 3 4 := by rw [hG1]; simp [iv_si]
          rw [hon, if_neg h102, if_neg h100, hw]
          have hbd := Bdy_open (rs := (terms, 0, fs, 1, told)) (t := terms + (w - 1)) (v := v) hpb hbb q3 q5 h102 (by omega) (by omega) (by omega) (hO _ _ (Opn_congr _ _ _ q9 (fun i hi => ⟨rfl, rfl⟩) (fun i hi => upi_lo hi))) hI i4 i5 i6 i3
          rw [show fs + 0 = fs from by omega]
          refine ⟨Or.inl rfl, Or.inr rfl, (fun z => by cases z), ⟨(hI pb 4 (by omega) (by omega)).trans r4, r5, r6, by rw [hI pb 3 (by omega) (by omega)]; exact r7, by omega⟩, ?_, fun f f0 f1 => by dsimp only at f1 ⊢; rw [if_pos rfl]; exact fnk G1 h100 (fun i _ => ⟨hI _ i (by omega) (by omega), hI _ i (by omega) (by omega)⟩) (fun i => hI _ i (by omega) (by omega)) f f0 f1, (fun z => by cases z), fun _ => ⟨_, hbd⟩⟩
          rw [ia, r9]; dsimp only; rw [if_neg (by decide), if_neg (by decide), if_neg (by omega)]
        by_cases cf : 48 ≤ c ∧ c ≤ 57
        · have h0 : rsF (terms, 0, fs, 1, told) c = 0 := by rw [hff, if_pos (Or.inl cf), if_neg (by omega)]
          rw [h0]
          refine rl_1 d hF hpb hpr r9 (bt_fig d hF hpb hpr cf (leaf 0 (c - 48) (fun st' vl' h1 h2 => Cq_fig (by rw [upi_at]; exact cf) h1 (by rw [h2, upi_at])) (by unfold wnt; (repeat' split) <;> omega) (by omega) (by omega)))
        by_cases cn : c = 110
        · have h0 : rsF (terms, 0, fs, 1, told) c = 0 := by rw [hff, if_pos (Or.inr (Or.inl cn)), if_neg (by omega)]
          rw [h0]
          exact rl_1 d hF hpb hpr r9 (bt_n d hF hpb hpr cn (leaf 1 0 (fun st' vl' h1 h2 => Cq_n (by rw [upi_at]; exact cn) h1) (by rw [cn]; decide) (by omega) (by omega)))
        by_cases cx : c = 120
        · have h0 : rsF (terms, 0, fs, 1, told) c = 0 := by rw [hff, if_pos (Or.inr (Or.inr (by rw [cx]; decide))), if_neg (by omega)]
          rw [h0]
          exact rl_1 d hF hpb hpr r9 (bt_x d hF hpb hpr cx (opn 2 0 1 (by rw [cx]; decide) (by decide) (by omega) (by omega) (by decide) (fun st vl h1 => ⟨n, _, h1, by omega, Int.le_refl _, Or.inl ⟨rfl, rfl, by rw [upi_at]; exact cx, rfl, rfl⟩⟩)))
        by_cases c1 : c = 43
        · have h0 : rsF (terms, 0, fs, 1, told) c = 0 := by rw [hff, if_pos (Or.inr (Or.inr (by rw [c1]; decide))), if_neg (by omega)]
          rw [h0]
          exact rl_1 d hF hpb hpr r9 (bt_add d hF hpb hpr c1 (opn 4 0 2 (by rw [c1]; decide) (by decide) (by omega) (by omega) (by decide) (fun st vl h1 => ⟨n, _, h1, by omega, Int.le_refl _, Or.inr (Or.inr (Or.inl ⟨by rw [upi_at]; omega, by rw [upi_at, c1]; rfl, Or.inl ⟨rfl, rfl, rfl⟩⟩))⟩)))
        by_cases c2 : c = 45
        · have h0 : rsF (terms, 0, fs, 1, told) c = 0 := by rw [hff, if_pos (Or.inr (Or.inr (by rw [c2]; decide))), if_neg (by omega)]
          rw [h0]
          exact rl_1 d hF hpb hpr r9 (bt_sub d hF hpb hpr c2 (opn 5 0 2 (by rw [c2]; decide) (by decide) (by omega) (by omega) (by decide) (fun st vl h1 => ⟨n, _, h1, by omega, Int.le_refl _, Or.inr (Or.inr (Or.inl ⟨by rw [upi_at]; omega, by rw [upi_at, c2]; rfl, Or.inl ⟨rfl, rfl, rfl⟩⟩))⟩)))
        by_cases c3 : c = 42
        · have h0 : rsF (terms, 0, fs, 1, told) c = 0 := by rw [hff, if_pos (Or.inr (Or.inr (by rw [c3]; decide))), if_neg (by omega)]
          rw [h0]
          exact rl_1 d hF hpb hpr r9 (bt_mul d hF hpb hpr c3 (opn 6 0 2 (by rw [c3]; decide) (by decide) (by omega) (by omega) (by decide) (fun st vl h1 => ⟨n, _, h1, by omega, Int.le_refl _, Or.inr (Or.inr (Or.inl ⟨by rw [upi_at]; omega, by rw [upi_at, c3]; rfl, Or.inl ⟨rfl, rfl, rfl⟩⟩))⟩)))
        by_cases c4 : c = 60
        · have h0 : rsF (terms, 0, fs, 1, told) c = 0 := by rw [hff, if_pos (Or.inr (Or.inr (by rw [c4]; decide))), if_neg (by omega)]
          rw [h0]
          exact rl_1 d hF hpb hpr r9 (bt_lt d hF hpb hpr c4 (opn 7 0 2 (by rw [c4]; decide) (by decide) (by omega) (by omega) (by decide) (fun st vl h1 => ⟨n, _, h1, by omega, Int.le_refl _, Or.inr (Or.inr (Or.inl ⟨by rw [upi_at]; omega, by rw [upi_at, c4]; rfl, Or.inl ⟨rfl, rfl, rfl⟩⟩))⟩)))
        by_cases c5 : c = 63
        · have h0 : rsF (terms, 0, fs, 1, told) c = 0 := by rw [hff, if_pos (Or.inr (Or.inr (by rw [c5]; decide))), if_neg (by omega)]
          rw [h0]
          exact rl_1 d hF hpb hpr r9 (bt_q d hF hpb hpr c5 (opn 8 (-1) 3 (by rw [c5]; decide) (by decide) (by omega) (by omega) (by decide) (fun st vl h1 => ⟨n, _, h1, by omega, Int.le_refl _, Or.inr (Or.inr (Or.inr ⟨rfl, by rw [upi_at]; exact c5, Or.inl ⟨rfl, rfl, rfl⟩⟩))⟩)))
        by_cases c6 : c = 102
        · have hw1 : wnt c = 1 := by rw [c6]; decide
          by_cases h3 : fs = 3
          · have h0 : rsF (terms, 0, fs, 1, told) c = 4 := by rw [hff, if_pos (Or.inr (Or.inr (by omega))), if_pos ⟨c6, h3⟩]
            rw [h0]
            exact rl_1 d hF hpb hpr r9 (bt_f d hF hpb hpr c6 ((CX.up (d := 0 + 1) (by omega) (c_bc4 0 hF hpb hpr b1 (by omega))).mono (fun r G1 hr => ⟨hr.1, same 4 (by decide) h0 G1 hr.2⟩)))
          · have h0 : rsF (terms, 0, fs, 1, told) c = 0 := by rw [hff, if_pos (Or.inr (Or.inr (by omega))), if_neg (fun z => h3 z.2)]
            rw [h0]
            have fs0 : 0 ≤ fs := by rw [b2]; exact cnI_nn _ _ _ _
            refine rl_1 d hF hpb hpr r9 (bt_f d hF hpb hpr c6 ((CX.up (d := 0 + 1) (by omega) (c_bc0 0 hF hpb hpr b1 fs0 (by omega))).mono (fun r G1 hr => ⟨hr.1, ?_⟩)))
            have hG1 := hr.2
            refine ⟨by rw [hG1]; exact ((RcJ.rf pb G).si _ (by omega)).si _ (by omega), fun _ => ?_⟩
            have hI : ∀ (a : Nat) (k : Int), ¬ (a = 3 ∧ (k = 4 ∨ k = 5)) → iv G1 a k = iv G a k := fun a k h1 => by
              rw [hG1]; simp only [iv_si]; rw [if_neg (by omega), if_neg (by omega)]
            have e1 : iv G1 (pb + 1) = iv G (pb + 1) := funext (fun i => hI _ i (by omega))
            have e2 : iv G1 (pb + 2) = iv G (pb + 2) := funext (fun i => hI _ i (by omega))
            have e3 : ∀ i, iv G1 (pb + 3) i = iv G (pb + 3) i := fun i => hI _ i (by omega)
            have e4 : iv G1 pb 3 = iv G pb 3 := hI _ 3 (by omega)
            have i5 : iv G1 3 5 = fs + 1 := by rw [hG1]; simp [iv_si]
            have ia : iv G1 3 4 = 2 := by rw [hG1]; simp [iv_si]
            rw [hon, if_pos c6, if_neg (by omega), hw1]
            refine ⟨Or.inr rfl, Or.inr rfl, (fun z => by cases z), ⟨(hI pb 4 (by omega)).trans r4, r5, r6, by rw [e4]; exact r7, by omega⟩, by rw [ia]; rfl, fun f f0 f1 => by dsimp only at f1 ⊢; rw [if_pos rfl]; exact fnk G1 (by omega) (fun i _ => ⟨by rw [e1], by rw [e2]⟩) e3 f f0 f1, (fun z => by cases z), fun _ => ⟨F, i5, ?_, by dsimp only; omega, b4, by dsimp only; omega, by dsimp only; rw [e3]; exact b6, by dsimp only; rw [e3, e4]; exact b7, Or.inr ⟨by dsimp only; omega, by dsimp only; omega, FrAt_kept F _ q3 (fun x i x0 x1 hi => hI x i (by omega)), (hI 3 3 (by omega)).trans q4, by omega, by rw [e4]; omega, Or.inr ⟨rfl, ?_, ?_, ?_⟩⟩⟩⟩
            · dsimp only; rw [cnI_snoc b5, if_pos c6, ← b2]
            · rw [show n + 1 - 1 = n from by omega, upi_at]; exact c6
            · dsimp only; omega
            · dsimp only; rw [e1, e2, e3, e4, show n + 1 - 1 = n from by omega]
              exact Opn_congr _ _ _ q9 (fun i hi => ⟨rfl, rfl⟩) (fun i hi => upi_lo hi)
        · have h0 : rsF (terms, 0, fs, 1, told) c = 1 := by
            rw [hff, if_neg]
            intro z
            have : wnt c = 0 := by unfold wnt; rw [if_neg (by omega), if_neg (by omega), if_neg (by omega)]
            omega
          rw [h0]
          exact rl_1 d hF hpb hpr r9 ((CX.up (d := d + 4) (by omega) (bt_bad d hF hpb hpr ⟨cf, cn, cx, c1, c2, c3, c4, c5, c6⟩)).mono (fun r G1 hr => ⟨hr.1, same 1 (by decide) h0 G1 hr.2⟩))
      · -- behind f
        subst q8
        rw [if_pos rfl] at r9
        have hff : rsF (terms, 1, fs, 1, told) c = (if 48 ≤ c ∧ c ≤ 57 then (if 52 < c then 2 else 0) else 1) := by unfold rsF; dsimp only; rw [if_pos rfl]
        by_cases cf : 48 ≤ c ∧ c ≤ 57
        · rw [if_pos cf] at hff
          by_cases c5 : 52 < c
          · rw [if_pos c5] at hff
            rw [hff]
            exact rl_2 d hF hpb hpr r9 ((CX.up (d := 0 + 2) (by omega) (c_rc2 0 hF hpb hpr (by omega))).mono (fun r G1 hr => ⟨hr.1, same 2 (by decide) hff G1 hr.2⟩))
          · rw [if_neg c5] at hff
            rw [hff]
            refine rl_2 d hF hpb hpr r9 ((CX.up (d := 0 + 2) (by omega) (c_rc0 0 hF hpb hpr (by omega) q4 hk0 (by omega))).mono (fun r G1 hr => ⟨hr.1, ?_⟩))
            have hG1 := hr.2
            refine ⟨by rw [hG1]; exact (((((RcJ.rf pb G).si _ (by omega)).si _ (by omega)).si _ (by omega)).si _ (by omega)).si _ (by omega), fun _ => ?_⟩
            have hI : ∀ (a : Nat) (k : Int), ¬ (a = 3 ∧ (k = 3 ∨ k = 4)) → (a ≠ 4 ∧ a ≠ 5 ∧ a ≠ 6 ∨ k ≠ (F.length : Int)) → iv G1 a k = iv G a k := fun a k h1 h2 => by
              rw [hG1]; simp only [iv_si]; rw [if_neg (by omega), if_neg (by omega), if_neg (by omega), if_neg (by omega), if_neg (by omega)]
            have i4 : iv G1 4 (F.length : Int) = 3 := by rw [hG1]; simp [iv_si]
            have i5 : iv G1 5 (F.length : Int) = c - 48 := by rw [hG1]; simp [iv_si]
            have i6 : iv G1 6 (F.length : Int) = 1 := by rw [hG1]; simp [iv_si]
            have i3 : iv G1 3 3 = (F.length : Int) + 1 := by rw [hG1]; simp [iv_si]
            have ia : iv G1 3 4 = 1 := by rw [hG1]; simp [iv_si]
            have hon : rsOn (terms, 1, fs, 1, told) c = (terms, 0, fs, 1, told) := by unfold rsOn; dsimp only; rw [if_pos rfl]
            rw [hon, if_neg (by omega)]
            have hbd := Bdy_open (rs := (terms, 1, fs, 1, told)) (t := terms) (s := 3) (v := c - 48) (w := 1) hpb hbb q3 q5 (show c ≠ 102 by omega) (by omega) q1 (by rw [if_neg (by decide)]; omega) ⟨n - 1, iv G pb 3, Opn_congr _ _ _ q11 (fun i hi => ⟨rfl, rfl⟩) (fun i hi => upi_lo (by omega)), by omega, Int.le_refl _, Or.inr (Or.inl ⟨rfl, rfl, by rw [upi_lo (by omega)]; exact q9, by rw [show n - 1 + 1 = n from by omega, upi_at]; omega, by rw [show n - 1 + 1 = n from by omega, upi_at]; omega, by rw [show n - 1 + 1 = n from by omega, upi_at], by omega, rfl⟩)⟩ hI i4 i5 i6 i3
            refine ⟨Or.inl rfl, Or.inr rfl, (fun z => by cases z), ⟨(hI pb 4 (by omega) (by omega)).trans r4, r5, r6, by rw [hI pb 3 (by omega) (by omega)]; exact r7, by omega⟩, ?_, fun f f0 f1 => by dsimp only at f1 ⊢; rw [if_pos rfl]; exact fnk G1 (by omega) (fun i _ => ⟨hI _ i (by omega) (by omega), hI _ i (by omega) (by omega)⟩) (fun i => hI _ i (by omega) (by omega)) f f0 f1, (fun z => by cases z), fun _ => ⟨_, hbd⟩⟩
            rw [ia]; dsimp only; rw [if_neg (by decide), if_neg (by decide), if_neg (by omega)]
        · rw [if_neg cf] at hff
          rw [hff]
          exact rl_2 d hF hpb hpr r9 ((CX.up (d := 0 + 2) (by omega) (c_rc1 0 hF hpb hpr cf)).mono (fun r G1 hr => ⟨hr.1, same 1 (by decide) hff G1 hr.2⟩))
