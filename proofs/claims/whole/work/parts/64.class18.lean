/-! THE CLASS: a text read -/
/-- what reading a text changes -/
def RcT (pb : Nat) (G G' : Hp) : Prop := Io G G' ∧ ∀ (a : Nat) (k : Int), a ≠ 3 → a ≠ 4 → a ≠ 5 → a ≠ 6 → a ≠ pb → a ≠ pb + 1 → a ≠ pb + 2 → a ≠ pb + 3 → iv G' a k = iv G a k
theorem RcJ.T {pb : Nat} {G G' : Hp} (h : RcJ pb G G') : RcT pb G G' := ⟨h.1, fun a k g0 g1 g2 g3 g4 g5 g6 g7 => h.2 a k g1 g2 g3 g4 g5 g6 g7 (by omega)⟩
theorem RcT.rf (pb : Nat) (G : Hp) : RcT pb G G := ⟨Io.rf G, fun _ _ _ _ _ _ _ _ _ _ => rfl⟩
theorem RcT.trans {pb : Nat} {G G1 G2 : Hp} (h1 : RcT pb G G1) (h2 : RcT pb G1 G2) : RcT pb G G2 := ⟨h1.1.trans h2.1, fun a k g0 g1 g2 g3 g4 g5 g6 g7 => (h2.2 a k g0 g1 g2 g3 g4 g5 g6 g7).trans (h1.2 a k g0 g1 g2 g3 g4 g5 g6 g7)⟩
theorem RcT.si3 {pb : Nat} {G G1 : Hp} (h : RcT pb G G1) (k v : Int) : RcT pb G (si G1 3 k v) := ⟨h.1, fun a j g0 g1 g2 g3 g4 g5 g6 g7 => by rw [iv_si, if_neg (fun z => g0 z.1)]; exact h.2 a j g0 g1 g2 g3 g4 g5 g6 g7⟩
theorem RIn_si7 {pb : Nat} (hpb : pb = 7 ∨ pb = 11) {cd bg : Int → Int} {rs : Rs} {n : Int} {G : Hp} (v : Int) (h : RIn pb cd bg rs n G) : RIn pb cd bg rs n (si G 3 7 v) := by
  have e : ∀ (a : Nat) (k : Int), ¬ (a = 3 ∧ k = 7) → iv (si G 3 7 v) a k = iv G a k := fun a k hk => by rw [iv_si, if_neg hk]
  have e1 : ∀ a : Nat, a ≠ 3 → iv (si G 3 7 v) a = iv G a := fun a ha => funext (fun k => e a k (by omega))
  obtain ⟨h1, h2, h3, h4, h5, h6, h7, h8⟩ := h
  refine ⟨h1, h2, h3, by rw [e1 pb (by omega)]; exact h4, by rw [e 3 4 (by omega)]; exact h5, by rw [e1 (pb + 1) (by omega), e1 (pb + 2) (by omega), e1 (pb + 3) (by omega), e1 pb (by omega)]; exact h6, by rw [e1 pb (by omega)]; exact h7, fun hb => ?_⟩
  obtain ⟨F, b1, b2, b3, b4, b5, b6, b7, b8⟩ := h8 hb
  refine ⟨F, by rw [e 3 5 (by omega)]; exact b1, b2, b3, b4, b5, by rw [e1 (pb + 3) (by omega)]; exact b6, by rw [e1 (pb + 3) (by omega), e1 pb (by omega)]; exact b7, ?_⟩
  rw [e1 (pb + 1) (by omega), e1 (pb + 2) (by omega), e1 (pb + 3) (by omega), e1 pb (by omega)]
  rcases b8 with b8 | ⟨c1, c2, c3, c4, c5, c6, c7⟩
  · exact Or.inl b8
  · exact Or.inr ⟨c1, c2, FrAt_kept F _ c3 (fun x i x0 x1 _ => e x i (by omega)), by rw [e 3 3 (by omega)]; exact c4, c5, c6, c7⟩
/-- what a text without fault leaves -/
def RdOk (pb : Nat) (P : Pg) (G : Hp) : Prop := iv G pb 4 = P.2.2 ∧ 1 ≤ P.2.2 ∧ P.2.2 ≤ 5 ∧ 0 ≤ iv G pb 3 ∧ iv G pb 3 ≤ 320 ∧ ∀ f, 0 ≤ f → f < P.2.2 → FnOk (iv G (pb + 1)) (iv G (pb + 2)) (iv G (pb + 3)) P.1 P.2.1 (iv G pb 3) 160 f
theorem RdOk_PgC {pb : Nat} {P : Pg} {G : Hp} (h : RdOk pb P G) : PgC P (iv G (pb + 1)) (iv G (pb + 2)) (iv G (pb + 3)) (iv G pb 3) ∧ Pok P := by
  obtain ⟨h1, h2, h3, h4, h5, h6⟩ := h
  refine ⟨⟨h5, fun f f0 f1 => ?_⟩, h2, h3, fun f f0 f1 => ?_⟩
  · obtain ⟨a1, a2, b, q, a3, a4, a5, a6, a7⟩ := h6 f f0 f1
    exact ⟨b, q, Cq_160 a3 (by omega), a4, a2, a5, by omega⟩
  · obtain ⟨a1, a2, b, q, a3, a4, a5, a6, a7⟩ := h6 f f0 f1
    have hT := Cp_Tm (Cq_160 a3 (by omega))
    refine ⟨a1, b, hT, by omega, ?_⟩
    have := nfc_cnt hT
    omega
theorem into_loop {d pb : Nat} {Q : Option V → Hp → Prop} (hpb : pb = 7 ∨ pb = 11) {tx : Int → Int} {N : Int} (n1 : N ≤ 160) : ∀ (m : Nat) (k n f : Int) (rs : Rs) (cd bg : Int → Int) (G : Hp) (l5 : Option V), isL l5 = false → FC G → rv G 3 6 = some pb → RIn pb cd bg rs n G → RsB k rs → iv G 3 7 = k → 0 ≤ k → k + (m : Int) = N → n ≤ k → f = rs.2.2.2.2 + rs.2.2.2.1 → (∀ i, 0 ≤ i → i < N → iv G 2 i = tx i) → (∀ G', RcT pb G G' → ((rdL tx m k rs).1 ≠ 0 → iv G' 3 7 = (rdL tx m k rs).2) → ((rdL tx m k rs).1 = 0 → RdOk pb (lcL tx m k n f cd bg) G') → Q (some (.inl (rdL tx m k rs).1)) G') → Ex (d + 6) (some .int) 6 false cX6_readInto 30 [some (.inr (.inr (some 3))), some (.inr (.inr (some pb))), some (.inr (.inr (some 2))), some (.inl N), some (.inl N), l5] [] G Q := by
  intro m
  induction m with
  | zero =>
    intro k n f rs cd bg G l5 hl5 hF hpr hR hrb h7 k0 k1 hn hf htx kk
    obtain ⟨r1, r2, r3, ⟨r4, r5, r6, r7, r8⟩, r9, r10, r11, r12⟩ := hR
    simp only [rdL, lcL] at kk
    have hpt := (PGs_FC hF hpb).1
    refine x_aload_n (q := 31) dX6_readInto_30 rfl rfl ?_
    refine x_getI (q := 34) dX6_readInto_31 rfl f_6_40 rfl (ft3 hF) ?_
    refine Ex.stk (st' := [.inl k]) (by rw [show iv G 3 7 = k from h7]) ?_
    refine x_iload (q := 36) dX6_readInto_34 rfl rfl ?_
    refine x_icmp_ge (q := 39) (t := 87) dX6_readInto_36 rfl (by decide) (fun h36 => ?_) (fun h36 => by exfalso; omega)
    refine x_aload_n (q := 88) dX6_readInto_87 rfl rfl ?_
    refine x_getI (q := 91) dX6_readInto_88 rfl f_6_30 rfl (ft3 hF) ?_
    refine x_if_ne (q := 94) (t := 108) dX6_readInto_91 rfl (by decide) (fun h91 => ?_) (fun h91 => ?_)
    · refine x_iconst (q := 109) dX6_readInto_108 rfl (by decide) ?_
      refine x_iret dX6_readInto_109 rfl ?_
      rw [if_neg (fun z => by first | omega | (rw [if_pos z.1] at r9; omega))] at kk
      exact kk G (RcT.rf pb G) (fun _ => h7) (fun z => absurd z (by dsimp only; decide))
    · refine x_aload_n (q := 95) dX6_readInto_94 rfl rfl ?_
      refine x_getR (q := 98) dX6_readInto_95 rfl f_6_21 rfl (ft3 hF) ?_
      refine Ex.stk (st' := [.inr (.inr (some pb))]) (by rw [show rv G 3 6 = some pb from hpr]) ?_
      refine x_getI (q := 101) dX6_readInto_98 rfl f_6_47 rfl hpt ?_
      refine Ex.stk (st' := [.inl rs.2.2.2.2]) (by rw [show iv G pb 4 = rs.2.2.2.2 from r4]) ?_
      refine x_if_le (q := 104) (t := 108) dX6_readInto_101 rfl (by decide) (fun h101 => ?_) (fun h101 => ?_)
      · refine x_iconst (q := 109) dX6_readInto_108 rfl (by decide) ?_
        refine x_iret dX6_readInto_109 rfl ?_
        rw [if_neg (fun z => by first | omega | (rw [if_pos z.1] at r9; omega))] at kk
        exact kk G (RcT.rf pb G) (fun _ => h7) (fun z => absurd z (by dsimp only; decide))
      · refine x_iconst (q := 105) dX6_readInto_104 rfl (by decide) ?_
        refine x_goto (t := 109) dX6_readInto_105 (by decide) ?_
        refine x_iret dX6_readInto_109 rfl ?_
        have hb0 : rs.2.2.2.1 = 0 := by
          rcases r2 with z | z
          · exact z
          · rw [z, if_neg (by decide)] at r9
            rw [r9] at h91
            split at h91
            · omega
            · split at h91 <;> omega
        rw [if_pos ⟨hb0, h101⟩] at kk
        refine kk G (RcT.rf pb G) (fun z => absurd rfl z) (fun _ => ⟨by dsimp only; rw [r4, hf, hb0]; omega, by dsimp only; omega, by dsimp only; omega, r7, by have := r11 hb0; omega, fun g g0 g1 => ?_⟩)
        dsimp only at g1 ⊢
        have hg := r10 g g0 (by omega)
        rw [if_neg (by omega)] at hg
        exact FnOk_congr hg (fun i _ => ⟨rfl, rfl⟩) rfl (fun i _ => rfl) rfl (Int.le_refl _) (by omega)
  | succ m ih =>
    intro k n f rs cd bg G l5 hl5 hF hpr hR hrb h7 k0 k1 hn hf htx kk
    have hx : iv G 2 k = tx k := htx k k0 (by omega)
    have hnl : noL [some (.inr (.inr (some 3))), some (.inr (.inr (some pb))), some (.inr (.inr (some 2))), some (.inl N), some (.inl N), l5] = true := by simp [noL, isL] at hl5 ⊢; exact hl5
    have hff := rsF_nn rs (tx k)
    simp only [rdL, lcL] at kk
    refine x_aload_n (q := 31) dX6_readInto_30 rfl rfl ?_
    refine x_getI (q := 34) dX6_readInto_31 rfl f_6_40 rfl (ft3 hF) ?_
    refine Ex.stk (st' := [.inl k]) (by rw [show iv G 3 7 = k from h7]) ?_
    refine x_iload (q := 36) dX6_readInto_34 rfl rfl ?_
    refine x_icmp_ge (q := 39) (t := 87) dX6_readInto_36 rfl (by decide) (fun h36 => by exfalso; omega) (fun h36 => ?_)
    refine x_aload_n (q := 40) dX6_readInto_39 rfl rfl ?_
    refine x_aload_n (q := 41) dX6_readInto_40 rfl rfl ?_
    refine x_getI (q := 44) dX6_readInto_41 rfl f_6_40 rfl (ft3 hF) ?_
    refine Ex.stk (st' := [.inl k, .inr (.inr (some 2))]) (by rw [show iv G 3 7 = k from h7]) ?_
    refine x_iaload (q := 45) dX6_readInto_44 rfl (Or.inl (ft2 hF)) (by omega) (by rw [fl2 hF]; omega) ?_
    refine Ex.stk (st' := [.inl (tx k)]) (by rw [show iv G 2 k = tx k from hx]) ?_
    refine x_bipush (q := 47) dX6_readInto_45 rfl (by decide) ?_
    refine x_icmp_ne (q := 50) (t := 54) dX6_readInto_47 rfl (by decide) (fun h47 => ?_) (fun h47 => ?_)
    · refine x_aload_n (q := 55) dX6_readInto_54 rfl rfl ?_
      refine x_aload_n (q := 56) dX6_readInto_55 rfl rfl ?_
      refine x_aload_n (q := 57) dX6_readInto_56 rfl rfl ?_
      refine x_getI (q := 60) dX6_readInto_57 rfl f_6_40 rfl (ft3 hF) ?_
      refine Ex.stk (st' := [.inl k, .inr (.inr (some 2)), .inr (.inr (some 3))]) (by rw [show iv G 3 7 = k from h7]) ?_
      refine x_iaload (q := 61) dX6_readInto_60 rfl (Or.inl (ft2 hF)) (by omega) (by rw [fl2 hF]; omega) ?_
      refine Ex.stk (st' := [.inl (tx k), .inr (.inr (some 3))]) (by rw [show iv G 2 k = tx k from hx]) ?_
      refine x_invV (q := 64) (as := [.inr (.inr (some 3)), .inl (tx k)]) (rest := []) dX6_readInto_61 rfl l_6_43 m_X6_readLetter rfl rfl (ft3 hF) (Nat.le_of_ble_eq_true rfl) (CX.up (d := d + 5) (by omega) (letter_ok d hF hpb hpr hR (by omega) (tx k))) (fun r1 G1 hR1 => ?_)
      obtain ⟨rfl, hJ, hR2⟩ := hR1
      have hF1 : FC G1 := FX_Io hF hJ.1
      have hpr1 : rv G1 3 6 = some pb := (hJ.1.2.2.1 3 6).trans hpr
      have h71 : iv G1 3 7 = k := (hJ.2 3 7 (by omega) (by omega) (by omega) (by omega) (by omega) (by omega) (by omega) (by omega)).trans h7
      rw [if_neg h47, if_neg h47] at kk
      refine Ex.stk (st' := [.inl (rsF rs (tx k))]) rfl ?_
      refine x_istore (q := 66) (ls' := [some (.inr (.inr (some 3))), some (.inr (.inr (some pb))), some (.inr (.inr (some 2))), some (.inl N), some (.inl N), some (.inl (rsF rs (tx k)))]) dX6_readInto_64 rfl (Nat.le_of_ble_eq_true rfl) (by first | rfl | exact hnl | exact hnl2 _) rfl ?_
      refine x_iload (q := 68) dX6_readInto_66 rfl rfl ?_
      refine x_if_eq (q := 71) (t := 74) dX6_readInto_68 rfl (by decide) (fun h68 => ?_) (fun h68 => ?_)
      · refine x_aload_n (q := 75) dX6_readInto_74 rfl rfl ?_
        refine x_dup (q := 76) dX6_readInto_75 rfl rfl ?_
        refine x_getI (q := 79) dX6_readInto_76 rfl f_6_40 rfl (ft3 hF1) ?_
        refine Ex.stk (st' := [.inl k, .inr (.inr (some 3))]) (by rw [show iv G1 3 7 = k from h71]) ?_
        refine x_iconst (q := 80) dX6_readInto_79 rfl (by decide) ?_
        refine x_iadd (q := 81) (z := k + 1) dX6_readInto_80 rfl (wr_id ⟨by omega, by omega⟩) ?_
        refine x_putI (q := 84) dX6_readInto_81 rfl f_6_40 rfl (fun h => by cases h) (fun h => by cases h) (ft3 hF1) ?_
        refine x_goto (t := 30) dX6_readInto_84 (by decide) ?_
        have hf0 : rsF rs (tx k) = 0 := h68
        rw [if_neg (by omega)] at kk
        obtain ⟨dd1, dd2⟩ := rsF_d hrb hf0
        have hRn := RIn_si7 hpb (k + 1) (hR2 hf0)
        have hcode : (if tx k = 100 then lcL tx m (k + 1) (n + 1) (f + 1) (upi cd n (tx k)) (upi bg f (n + 1)) else lcL tx m (k + 1) (n + 1) f (upi cd n (tx k)) bg) = lcL tx m (k + 1) (n + 1) ((rsOn rs (tx k)).2.2.2.2 + (rsOn rs (tx k)).2.2.2.1) (upi cd n (tx k)) (if tx k = 100 then upi bg rs.2.2.2.2 (n + 1) else bg) := by
          by_cases h100 : tx k = 100
          · obtain ⟨-, z2, -, z4⟩ := dd1 h100
            rw [if_pos h100, if_pos h100, z4, hf, z2, show rs.2.2.2.2 + 0 = rs.2.2.2.2 from by omega]
          · rw [if_neg h100, if_neg h100, dd2 h100, hf]
        rw [hcode] at kk
        refine ih (k + 1) (n + 1) _ _ _ _ (si G1 3 7 (k + 1)) _ rfl hF1 hpr1 hRn (rsOn_B (tx k) k0 hrb) (by simp [iv_si]) (by omega) (by omega) (by omega) rfl (fun i i0 i1 => ?_) (fun G' y1 y2 y3 => kk G' ((hJ.T.si3 7 (k + 1)).trans y1) y2 y3)
        rw [iv_si, if_neg (by omega), hJ.2 2 i (by omega) (by omega) (by omega) (by omega) (by omega) (by omega) (by omega) (by omega)]
        exact htx i i0 i1
      · refine x_iload (q := 73) dX6_readInto_71 rfl rfl ?_
        refine x_iret dX6_readInto_73 rfl ?_
        rw [if_pos (by omega)] at kk
        exact kk G1 hJ.T (fun _ => h71) (fun z => absurd z h68)
    · refine x_iconst (q := 51) dX6_readInto_50 rfl (by decide) ?_
      refine x_goto (t := 64) dX6_readInto_51 (by decide) ?_
      refine x_istore (q := 66) (ls' := [some (.inr (.inr (some 3))), some (.inr (.inr (some pb))), some (.inr (.inr (some 2))), some (.inl N), some (.inl N), some (.inl 0)]) dX6_readInto_64 rfl (Nat.le_of_ble_eq_true rfl) (by first | rfl | exact hnl | exact hnl2 _) rfl ?_
      refine x_iload (q := 68) dX6_readInto_66 rfl rfl ?_
      refine x_if_eq (q := 71) (t := 74) dX6_readInto_68 rfl (by decide) (fun h68 => ?_) (fun h68 => by exfalso; omega)
      refine x_aload_n (q := 75) dX6_readInto_74 rfl rfl ?_
      refine x_dup (q := 76) dX6_readInto_75 rfl rfl ?_
      refine x_getI (q := 79) dX6_readInto_76 rfl f_6_40 rfl (ft3 hF) ?_
      refine Ex.stk (st' := [.inl k, .inr (.inr (some 3))]) (by rw [show iv G 3 7 = k from h7]) ?_
      refine x_iconst (q := 80) dX6_readInto_79 rfl (by decide) ?_
      refine x_iadd (q := 81) (z := k + 1) dX6_readInto_80 rfl (wr_id ⟨by omega, by omega⟩) ?_
      refine x_putI (q := 84) dX6_readInto_81 rfl f_6_40 rfl (fun h => by cases h) (fun h => by cases h) (ft3 hF) ?_
      refine x_goto (t := 30) dX6_readInto_84 (by decide) ?_
      rw [if_pos h47, if_pos h47] at kk
      refine ih (k + 1) n f rs cd bg (si G 3 7 (k + 1)) _ rfl hF hpr (RIn_si7 hpb (k + 1) hR) (RsB_up hrb) (by simp [iv_si]) (by omega) (by omega) (by omega) hf (fun i i0 i1 => ?_) (fun G' y1 y2 y3 => kk G' (((RcT.rf pb G).si3 7 (k + 1)).trans y1) y2 y3)
      rw [iv_si, if_neg (by omega)]
      exact htx i i0 i1
theorem c_readInto (d : Nat) {G : Hp} (hF : FC G) {pb : Nat} (hpb : pb = 7 ∨ pb = 11) {tx : Int → Int} {N : Int} (n0 : 0 ≤ N) (n1 : N ≤ 160) (htx : ∀ i, 0 ≤ i → i < N → iv G 2 i = tx i) (cd bg : Int → Int) : CX (d + 7) 57 [.inr (.inr (some 3)), .inr (.inr (some pb)), .inr (.inr (some 2)), .inl N] G (fun r G' => r = some (.inl (rdL tx N.toNat 0 (0, 0, 0, 0, 0)).1) ∧ RcT pb (sr G 3 6 (some pb)) G' ∧ ((rdL tx N.toNat 0 (0, 0, 0, 0, 0)).1 ≠ 0 → iv G' 3 7 = (rdL tx N.toNat 0 (0, 0, 0, 0, 0)).2) ∧ ((rdL tx N.toNat 0 (0, 0, 0, 0, 0)).1 = 0 → RdOk pb (lcL tx N.toNat 0 0 0 cd bg) G')) := by
  refine CX.of (d := d + 6) m_X6_readInto (Nat.le_of_ble_eq_true rfl) ?_
  refine Ex.lcl (ls' := [some (.inr (.inr (some 3))), some (.inr (.inr (some pb))), some (.inr (.inr (some 2))), some (.inl N), none, none]) rfl ?_
  refine x_aload_n (q := 1) dX6_readInto_0 rfl rfl ?_
  refine x_aload_n (q := 2) dX6_readInto_1 rfl rfl ?_
  refine x_putR (q := 5) dX6_readInto_2 rfl f_6_21 rfl (fun h => by cases h) (ft3 hF) ?_
  have hF := FX_sr hF (a := 3) (k := 6) (some pb) (by decide)
  refine x_aload_n (q := 6) dX6_readInto_5 rfl rfl ?_
  refine x_getR (q := 9) dX6_readInto_6 rfl f_6_21 rfl (ft3 hF) ?_
  refine Ex.stk (st' := [.inr (.inr (some pb))]) (by rw [show rv (sr G 3 6 (some pb)) 3 6 = some pb from (by simp [rv_sr, rv_si])]) ?_
  refine x_invV (q := 12) (as := [.inr (.inr (some pb))]) (rest := []) dX6_readInto_9 rfl l_6_25 m_X5_clear rfl rfl (PGs_FC hF hpb).1 (Nat.le_of_ble_eq_true rfl) (CX.up (d := 0 + 1) (by omega) (c_clearP 0 (G := sr G 3 6 (some pb)) (PGs_FC hF hpb))) (fun r1 G1 hR => ?_)
  obtain ⟨rfl, rfl⟩ := hR
  have hF : FC (si (si (sr G 3 6 (some pb)) pb 3 0) pb 4 0) := hF
  refine Ex.stk (st' := []) rfl ?_
  refine x_aload_n (q := 13) dX6_readInto_12 rfl rfl ?_
  refine x_iconst (q := 14) dX6_readInto_13 rfl (by decide) ?_
  refine x_putI (q := 17) dX6_readInto_14 rfl f_6_30 rfl (fun h => by cases h) (fun h => by cases h) (ft3 hF) ?_
  have hF := FX_si hF 3 4 0
  refine x_iload_n (q := 18) dX6_readInto_17 rfl rfl ?_
  refine x_aload_n (q := 19) dX6_readInto_18 rfl rfl ?_
  refine x_arraylength (q := 20) dX6_readInto_19 rfl (Or.inl (ft2 hF)) ?_
  refine Ex.stk (st' := [.inl 160, .inl N]) (by rw [fl2 hF]) ?_
  refine x_invS (q := 23) (as := [.inl N, .inl 160]) (rest := []) dX6_readInto_20 rfl l_6_34 m_J9_min_7cf53 rfl rfl (Nat.le_of_ble_eq_true rfl) (Nat.le_of_ble_eq_true rfl) (CX.up (d := 0 + 1) (by omega) (c_min 0)) (fun r1 G1 hR => ?_)
  obtain ⟨hG1, rfl⟩ := hR
  replace hG1 := hG1.symm
  subst hG1
  refine Ex.stk (st' := [.inl N]) (by rw [if_pos n1]; rfl) ?_
  refine x_istore (q := 25) (ls' := [some (.inr (.inr (some 3))), some (.inr (.inr (some pb))), some (.inr (.inr (some 2))), some (.inl N), some (.inl N), none]) dX6_readInto_23 rfl (Nat.le_of_ble_eq_true rfl) (by first | rfl | exact hnl | exact hnl2 _) rfl ?_
  refine x_aload_n (q := 26) dX6_readInto_25 rfl rfl ?_
  refine x_iconst (q := 27) dX6_readInto_26 rfl (by decide) ?_
  refine x_putI (q := 30) dX6_readInto_27 rfl f_6_40 rfl (fun h => by cases h) (fun h => by cases h) (ft3 hF) ?_
  have hF := FX_si hF 3 7 0
  have e4 : iv (si (si (si (si (sr G 3 6 (some pb)) pb 3 0) pb 4 0) 3 4 0) 3 7 0) pb 4 = 0 := by simp only [iv_si]; rw [if_neg (by omega), if_neg (by omega), if_pos (by simp)]
  have e3 : iv (si (si (si (si (sr G 3 6 (some pb)) pb 3 0) pb 4 0) 3 4 0) 3 7 0) pb 3 = 0 := by simp only [iv_si]; rw [if_neg (by omega), if_neg (by omega), if_neg (by omega), if_pos (by simp)]
  have ea : iv (si (si (si (si (sr G 3 6 (some pb)) pb 3 0) pb 4 0) 3 4 0) 3 7 0) 3 4 = 0 := by simp [iv_si]
  refine into_loop (d := d) hpb n1 N.toNat 0 0 0 (0, 0, 0, 0, 0) cd bg _ none rfl hF (by simp [rv_sr, rv_si]) ⟨Or.inl rfl, Or.inl rfl, fun _ => rfl, ⟨e4, Int.le_refl _, show (0 : Int) + 0 ≤ 5 by decide, by rw [e3]; exact Int.le_refl _, Int.le_refl _⟩, ea, (fun f f0 f1 => by dsimp only at f1; omega), (fun _ => by rw [e3]; decide), (fun z => by cases z)⟩ (RsB_0 0) (by simp [iv_si]) (by decide) (by omega) (by decide) rfl (fun i i0 i1 => ?_) (fun G' y1 y2 y3 => ⟨rfl, RcT.trans (G1 := si (si (si (si (sr G 3 6 (some pb)) pb 3 0) pb 4 0) 3 4 0) 3 7 0) ⟨Io.rf _, fun a k g0 g1 g2 g3 g4 g5 g6 g7 => ?_⟩ y1, y2, y3⟩)
  · simp only [iv_si, iv_sr]; rw [if_neg (by omega), if_neg (by omega), if_neg (by omega), if_neg (by omega)]; exact htx i i0 i1
  · simp only [iv_si]; rw [if_neg (by omega), if_neg (by omega), if_neg (by omega), if_neg (by omega)]
