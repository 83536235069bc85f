/-! THE MODEL: bring, layFirst, isAlike -/
theorem isOldN_congr {h h' c c' : Int → Int} (e1 : ∀ k, 0 ≤ k → k < 8 → h k = h' k) (e2 : ∀ k, 0 ≤ k → k < 8 → c k = c' k) (m : Int) : isOldN h c m = isOldN h' c' m := by
  rw [Bool.eq_iff_iff, isOldN_iff, isOldN_iff]
  constructor
  · rintro ⟨j, a1, a2, a3, a4⟩; exact ⟨j, a1, a2, a3, by rw [← e1 j a1 a2, ← e2 j a1 a2]; exact a4⟩
  · rintro ⟨j, a1, a2, a3, a4⟩; exact ⟨j, a1, a2, a3, by rw [e1 j a1 a2, e2 j a1 a2]; exact a4⟩
theorem upT_congr {h h' c c' : Int → Int} (e1 : ∀ k, 0 ≤ k → k < 8 → h k = h' k) (e2 : ∀ k, 0 ≤ k → k < 8 → c k = c' k) : ∀ (d : Nat), upT h c d = upT h' c' d := by
  intro d
  induction d with
  | zero => funext o t; exact t.elim
  | succ d ih =>
    funext o t κ
    cases o with
    | none => simp only [upT, ih]
    | some o =>
      have : anewB h c d o t = anewB h' c' d o t := by rw [anewB, anewB, isOldN_congr e1 e2]
      simp only [upT, ih, this]
/-- what bringing leaves as it was -/
def BrI (G G' : Hp) : Prop := Io G G' ∧ (∀ (a : Nat) (k : Int), (a < 35 ∨ (35 < a ∧ a < 44) ∨ 62 < a) → iv G' a k = iv G a k) ∧ ∀ k, (k < 22 ∨ 42 < k) → iv G' 35 k = iv G 35 k
theorem BrI.Mo {G G' : Hp} (h : BrI G G') : Mo G G' := ⟨h.1, fun a k ha => h.2.1 a k (by omega)⟩
theorem BrI_of {G G1 G2 G3 : Hp} (h1 : LayI G G1) (h2 : Mg G1 G2) (h3 : Io G2 G3) (h4 : ∀ (a : Nat) (k : Int), a ≠ 35 → (a < 44 ∨ 50 < a) → a ≠ 51 → iv G3 a k = iv G2 a k) (h5 : ∀ k, k ≠ 22 → iv G3 35 k = iv G2 35 k) : BrI G G3 := by
  refine ⟨(h1.1.trans h2.1).trans h3, fun a k ha => ?_, fun k hk => ?_⟩
  · rw [h4 a k (by omega) (by omega) (by omega), h2.2.1 a k (by omega) (by omega) (by omega) (by omega), h1.2.1 a k (by omega) (by omega) (by omega)]
  · rw [h5 k (by omega), h2.2.2 k (by omega) (by omega) (by omega) (by omega), h1.2.2 k (by omega) (by omega) (by omega) (by omega)]
theorem RM_BrI {t : Tx} {P : Pg} {r : Rw} {b : Bk} {c c' : Tc} {G G' : Hp} (h : RM (t, P, r, b, c) G) (hi : BrI G G') (hc : RMc c' G') : RM (t, P, r, b, c') G' := by
  obtain ⟨h1, h2, h3, h4, h5, h6⟩ := h
  obtain ⟨e1, E, D⟩ := hi
  exact ⟨FX_Io h1 e1, RMt_k h2 (fun k => E 38 k (by decide)) (D 6 (by decide)) (D 7 (by decide)), RMp_k h3 (fun k => E 42 k (by decide)) (fun k => E 43 k (by decide)) (D 14 (by decide)), RMr_k h4 (fun k => E 36 k (by decide)) (fun k => E 37 k (by decide)) (D 1 (by decide)) (D 2 (by decide)) (D 3 (by decide)), RMb_k h5 (fun k => E 39 k (by decide)) (fun k => E 40 k (by decide)) (fun k => E 41 k (by decide)) (D 11 (by decide)), hc⟩
/-- what was laid is matched and taken over -/
theorem RMc_took {G1 G2 G3 : Hp} {h c : Int → Int} {me co : Int} {N : Tr 6} {op : Option (Tr 6)} (f1 : fAt G1 0 (flat 6 1 N)) (hg : Mg G1 G2) (a1 : iv G2 35 33 = (upT h c 6 op N (me, 0, 0)).2.1) (a2 : iv G2 35 34 = (upT h c 6 op N (me, 0, 0)).2.2.1) (a3 : iv G2 35 35 = (upT h c 6 op N (me, 0, 0)).2.2.2) (a4 : iv G2 35 36 = co - ((tsz 6 N : Int) - (upT h c 6 op N (me, 0, 0)).2.2.1)) (a5 : nAt G2 0 (flat 6 1 (upT h c 6 op N (me, 0, 0)).1)) (b4 : ∀ k, k ≠ 22 → iv G3 35 k = iv G2 35 k) (b5 : iv G3 35 22 = (tsz 6 N : Int)) (b6 : ∀ j, 0 ≤ j → j < 8 → iv G3 51 j = iv G2 36 j) (b7 : ∀ (l : List (Nd × Int)), (l.length : Int) = (tsz 6 N : Int) → fAt G2 0 l → nAt G2 0 l → oAt G3 0 l) (hc : ∀ k, 0 ≤ k → k < 8 → iv G1 36 k = c k) : RMc ((upT h c 6 op N (me, 0, 0)).1, c, (upT h c 6 op N (me, 0, 0)).2.1, (upT h c 6 op N (me, 0, 0)).2.2.1, (upT h c 6 op N (me, 0, 0)).2.2.2, co - ((tsz 6 N : Int) - (upT h c 6 op N (me, 0, 0)).2.2.1)) G3 := by
  have hcnt := upT_cnt h c 6 op N (me, 0, 0)
  have hfu := fAt_upT (G := G1) h c 6 op N (me, 0, 0) 1 0 f1
  generalize upT h c 6 op N (me, 0, 0) = res at *
  refine ⟨b7 _ (by rw [flat_len, hcnt.1]) (fAt_kept _ _ hfu (fun a j g1 g2 _ _ => hg.2.1 a j (by omega) (by omega) (by omega) (by omega))) a5, by rw [b5, hcnt.1], fun k k0 k1 => ?_, (b4 33 (by decide)).trans a1, (b4 34 (by decide)).trans a2, (b4 35 (by decide)).trans a3, (b4 36 (by decide)).trans a4⟩
  rw [b6 k k0 k1, hg.2.1 36 k (by decide) (by decide) (by decide) (by decide)]; exact hc k k0 k1
/-- all that a call needs to be laid -/
def Aim (P : Pg) (r : Rw) : Prop := Pok P ∧ Cok r.1 ∧ 0 ≤ r.1 8 ∧ r.1 8 < P.2.2 ∧ 0 ≤ r.1 9 ∧ r.1 9 ≤ 996
/-- what names and doings may be -/
def Cnt (c : Tc) : Prop := tsz 6 c.1 ≤ 364 ∧ 0 ≤ c.2.2.1 ∧ c.2.2.1 ≤ 900000 ∧ ∀ e ∈ flat 6 1 c.1, 0 ≤ nD e.1 ∧ nD e.1 ≤ 900000
theorem oAt_D {G : Hp} {t : Tr 6} {B : Int} (h : oAt G 0 (flat 6 1 t)) (hD : ∀ e ∈ flat 6 1 t, 0 ≤ nD e.1 ∧ nD e.1 ≤ B) : ∀ j, 0 ≤ j → j < (tsz 6 t : Int) → 0 ≤ iv G 50 j ∧ iv G 50 j ≤ B := by
  intro j j0 j1
  obtain ⟨e, he⟩ := flat_get (ns := 1) t j.toNat (by omega)
  have := oAt_get _ _ h j.toNat e he
  rw [show (0 : Int) + (j.toNat : Int) = j from by omega] at this
  rw [this.1.2.2.2.2.2.2]
  exact hD e (List.mem_of_getElem? he)
/-- the old tree, if it is aimed at -/
def olT (c : Tc) (r : Rw) : Option (Tr 6) := if nF (rt 6 c.1) = r.1 8 ∧ nX (rt 6 c.1) = r.1 9 then some c.1 else none
def newN (s : Sg) : Tr 6 := fr s.2.1 s.2.2.1.1 5 (s.2.2.1.1 8) (s.2.2.1.1 9)
def upR (s : Sg) : Tr 6 × K3 := upT s.2.2.2.2.2.1 s.2.2.1.1 6 (olT s.2.2.2.2 s.2.2.1) (newN s) (s.2.2.2.2.2.2.1, 0, 0)
def m_bring (s : Sg) : Int × Sg := (nV (rt 6 (newN s)), s.1, s.2.1, s.2.2.1, s.2.2.2.1, (upR s).1, s.2.2.1.1, (upR s).2.1, (upR s).2.2.1, (upR s).2.2.2, (tsz 6 s.2.2.2.2.1 : Int) - ((tsz 6 (newN s) : Int) - (upR s).2.2.1))
set_option maxHeartbeats 1000000 in
theorem cm_bring (d : Nat) {s : Sg} {G : Hp} (hR0 : RM s G) (hA : Aim s.2.1 s.2.2.1) (hcn : Cnt s.2.2.2.2) : CX (d + 10) 154 [.inr (.inr (some 35))] G (fun r G' => r = some (.inl (m_bring s).1) ∧ RM (m_bring s).2 G' ∧ Mo G G') := by
  have hF := hR0.1
  refine CX.of (d := d + 9) m_X10_bring (Nat.le_of_ble_eq_true rfl) ?_
  refine Ex.lcl (ls' := [some (.inr (.inr (some 35))), none]) rfl ?_
  refine x_aload_n (q := 1) dX10_bring_0 rfl rfl ?_
  refine x_invV (q := 4) (as := [.inr (.inr (some 35))]) (rest := []) dX10_bring_1 rfl l_10_198 m_X10_layNow rfl rfl (ft35 hF) (Nat.le_of_ble_eq_true rfl) (c_layNow hA.1 hA.2.1 _ (RM_MP hR0) (hR0.2.2.2.1.1 8 (by decide) (by decide)) (hR0.2.2.2.1.1 9 (by decide) (by decide)) hA.2.2.1 hA.2.2.2.1 hA.2.2.2.2.1 hA.2.2.2.2.2) (fun r1 G1 hR => ?_)
  obtain ⟨rfl, l1, l2, l3⟩ := hR
  replace l2 : iv G1 35 29 = (tsz 6 (newN s) : Int) := l2
  replace l3 : fAt G1 0 (flat 6 1 (newN s)) := l3
  have hNR : NR G1 (tsz 6 (newN s) : Int) 6 0 1 [newN s] := NR_root l3 rfl
  have hR1 := RM_LayI hR0 l1
  obtain ⟨hF, -, -, hr1, -, o1, h22, hh, h33, -⟩ := hR1
  have h8 := hr1.1 8 (by decide) (by decide)
  have h9 := hr1.1 9 (by decide) (by decide)
  have hOR : OR G1 (tsz 6 s.2.2.2.2.1 : Int) 6 0 1 [s.2.2.2.2.1] := OR_root o1 rfl
  obtain ⟨⟨⟨hf0, hx0, -⟩, -⟩, -, -⟩ := OR_head hOR
  have hsz : tsz 6 (newN s) ≤ 364 := fr_size hA.1 hA.2.1 5 _ _ hA.2.2.1 hA.2.2.2.1 hA.2.2.2.2.1 hA.2.2.2.2.2
  have hco := hcn.1
  have hDD : ∀ j, 0 ≤ j → j < (tsz 6 s.2.2.2.2.1 : Int) → 0 ≤ iv G1 50 j ∧ iv G1 50 j ≤ 1000000 := fun j j0 j1 => ⟨(oAt_D o1 hcn.2.2.2 j j0 j1).1, by have := (oAt_D o1 hcn.2.2.2 j j0 j1).2; omega⟩
  have hh2 : ∀ k, 0 ≤ k → k < 8 → iv G1 51 k = s.2.2.2.2.2.1 k := hh
  have hc2 : ∀ k, 0 ≤ k → k < 8 → iv G1 36 k = s.2.2.1.1 k := fun k k0 k1 => hr1.1 k k0 (by omega)
  refine Ex.stk (st' := [.inl (nV (rt 6 (fr s.2.1 s.2.2.1.1 5 (s.2.2.1.1 8) (s.2.2.1.1 9))))]) rfl ?_
  refine x_istore_n (q := 5) (ls' := [some (.inr (.inr (some 35))), some (.inl (nV (rt 6 (fr s.2.1 s.2.2.1.1 5 (s.2.2.1.1 8) (s.2.2.1.1 9)))))]) dX10_bring_4 rfl (Nat.le_of_ble_eq_true rfl) (by first | rfl | exact hnl | exact hnl2 _) rfl ?_
  refine x_aload_n (q := 6) dX10_bring_5 rfl rfl ?_
  refine x_aload_n (q := 7) dX10_bring_6 rfl rfl ?_
  refine x_getR (q := 10) dX10_bring_7 rfl f_10_38 rfl (ft35 hF) ?_
  refine Ex.stk (st' := [.inr (.inr (some 44)), .inr (.inr (some 35))]) (by rw [fr35_15 hF]) ?_
  refine x_iconst (q := 11) dX10_bring_10 rfl (by decide) ?_
  refine x_iaload (q := 12) dX10_bring_11 rfl (Or.inl (ft44 hF)) (by omega) (by rw [fl44 hF]; omega) ?_
  refine Ex.stk (st' := [.inl (nF (rt 6 s.2.2.2.2.1)), .inr (.inr (some 35))]) (by rw [show iv G1 44 0 = nF (rt 6 s.2.2.2.2.1) from hf0]) ?_
  refine x_aload_n (q := 13) dX10_bring_12 rfl rfl ?_
  refine x_getR (q := 16) dX10_bring_13 rfl f_10_7 rfl (ft35 hF) ?_
  refine Ex.stk (st' := [.inr (.inr (some 36)), .inl (nF (rt 6 s.2.2.2.2.1)), .inr (.inr (some 35))]) (by rw [fr35_0 hF]) ?_
  refine x_bipush (q := 18) dX10_bring_16 rfl (by decide) ?_
  refine x_iaload (q := 19) dX10_bring_18 rfl (Or.inl (ft36 hF)) (by omega) (by rw [fl36 hF]; omega) ?_
  refine Ex.stk (st' := [.inl (s.2.2.1.1 8), .inl (nF (rt 6 s.2.2.2.2.1)), .inr (.inr (some 35))]) (by rw [show iv G1 36 8 = s.2.2.1.1 8 from h8]) ?_
  refine x_icmp_ne (q := 22) (t := 42) dX10_bring_19 rfl (by decide) (fun h19 => ?_) (fun h19 => ?_)
  · refine x_iconst (q := 43) dX10_bring_42 rfl (by decide) ?_
    have hol : olT s.2.2.2.2 s.2.2.1 = none := if_neg (by first | exact fun q => h19 q.1 | exact fun q => h35 q.2)
    refine x_invV (q := 46) (as := [.inr (.inr (some 35)), .inl 0]) (rest := []) dX10_bring_43 rfl l_10_201 m_X10_matchAll rfl rfl (ft35 hF) (Nat.le_of_ble_eq_true rfl) (c_matchAll0 _ hF h22 l2 (Int.natCast_nonneg _) (by omega) (by omega) rfl rfl hDD h33 hcn.2.1 hcn.2.2.1 hNR rfl) (fun r1 G2 hR => ?_)
    obtain ⟨rfl, m1, m2, m3, m4, m5, m6⟩ := hR
    have hF2 : FM G2 := FX_Io hF m1.1
    rw [upT_congr hh2 hc2] at m2 m3 m4 m5 m6
    refine Ex.stk (st' := []) rfl ?_
    refine x_aload_n (q := 47) dX10_bring_46 rfl rfl ?_
    have hF := hF2
    refine x_invV (q := 50) (as := [.inr (.inr (some 35))]) (rest := []) dX10_bring_47 rfl l_10_205 m_X10_takeOver rfl rfl (ft35 hF) (Nat.le_of_ble_eq_true rfl) (c_takeOver _ hF2 (cn := (tsz 6 (newN s) : Int)) ((m1.2.2 29 (by decide) (by decide) (by decide) (by decide)).trans l2) (Int.natCast_nonneg _) (by omega)) (fun r1 G3 hR => ?_)
    obtain ⟨rfl, t1, t2, t3, t4, t5, t6⟩ := hR
    refine Ex.stk (st' := []) rfl ?_
    refine x_iload_n (q := 51) dX10_bring_50 rfl rfl ?_
    refine x_iret dX10_bring_51 rfl ?_
    have hup : upR s = upT s.2.2.2.2.2.1 s.2.2.1.1 6 none (newN s) (s.2.2.2.2.2.2.1, 0, 0) := by rw [upR, hol]
    have hB := BrI_of l1 m1 t1 t2 t3
    refine ⟨rfl, RM_BrI (c := s.2.2.2.2) hR0 hB ?_, hB.Mo⟩
    rw [hup]
    exact RMc_took l3 m1 m2 m3 m4 m5 m6 t3 t4 t5 t6 hc2
  · refine x_aload_n (q := 23) dX10_bring_22 rfl rfl ?_
    refine x_getR (q := 26) dX10_bring_23 rfl f_10_41 rfl (ft35 hF) ?_
    refine Ex.stk (st' := [.inr (.inr (some 45)), .inr (.inr (some 35))]) (by rw [fr35_16 hF]) ?_
    refine x_iconst (q := 27) dX10_bring_26 rfl (by decide) ?_
    refine x_iaload (q := 28) dX10_bring_27 rfl (Or.inl (ft45 hF)) (by omega) (by rw [fl45 hF]; omega) ?_
    refine Ex.stk (st' := [.inl (nX (rt 6 s.2.2.2.2.1)), .inr (.inr (some 35))]) (by rw [show iv G1 45 0 = nX (rt 6 s.2.2.2.2.1) from hx0]) ?_
    refine x_aload_n (q := 29) dX10_bring_28 rfl rfl ?_
    refine x_getR (q := 32) dX10_bring_29 rfl f_10_7 rfl (ft35 hF) ?_
    refine Ex.stk (st' := [.inr (.inr (some 36)), .inl (nX (rt 6 s.2.2.2.2.1)), .inr (.inr (some 35))]) (by rw [fr35_0 hF]) ?_
    refine x_bipush (q := 34) dX10_bring_32 rfl (by decide) ?_
    refine x_iaload (q := 35) dX10_bring_34 rfl (Or.inl (ft36 hF)) (by omega) (by rw [fl36 hF]; omega) ?_
    refine Ex.stk (st' := [.inl (s.2.2.1.1 9), .inl (nX (rt 6 s.2.2.2.2.1)), .inr (.inr (some 35))]) (by rw [show iv G1 36 9 = s.2.2.1.1 9 from h9]) ?_
    refine x_icmp_ne (q := 38) (t := 42) dX10_bring_35 rfl (by decide) (fun h35 => ?_) (fun h35 => ?_)
    · refine x_iconst (q := 43) dX10_bring_42 rfl (by decide) ?_
      have hol : olT s.2.2.2.2 s.2.2.1 = none := if_neg (by first | exact fun q => h19 q.1 | exact fun q => h35 q.2)
      refine x_invV (q := 46) (as := [.inr (.inr (some 35)), .inl 0]) (rest := []) dX10_bring_43 rfl l_10_201 m_X10_matchAll rfl rfl (ft35 hF) (Nat.le_of_ble_eq_true rfl) (c_matchAll0 _ hF h22 l2 (Int.natCast_nonneg _) (by omega) (by omega) rfl rfl hDD h33 hcn.2.1 hcn.2.2.1 hNR rfl) (fun r1 G2 hR => ?_)
      obtain ⟨rfl, m1, m2, m3, m4, m5, m6⟩ := hR
      have hF2 : FM G2 := FX_Io hF m1.1
      rw [upT_congr hh2 hc2] at m2 m3 m4 m5 m6
      refine Ex.stk (st' := []) rfl ?_
      refine x_aload_n (q := 47) dX10_bring_46 rfl rfl ?_
      have hF := hF2
      refine x_invV (q := 50) (as := [.inr (.inr (some 35))]) (rest := []) dX10_bring_47 rfl l_10_205 m_X10_takeOver rfl rfl (ft35 hF) (Nat.le_of_ble_eq_true rfl) (c_takeOver _ hF2 (cn := (tsz 6 (newN s) : Int)) ((m1.2.2 29 (by decide) (by decide) (by decide) (by decide)).trans l2) (Int.natCast_nonneg _) (by omega)) (fun r1 G3 hR => ?_)
      obtain ⟨rfl, t1, t2, t3, t4, t5, t6⟩ := hR
      refine Ex.stk (st' := []) rfl ?_
      refine x_iload_n (q := 51) dX10_bring_50 rfl rfl ?_
      refine x_iret dX10_bring_51 rfl ?_
      have hup : upR s = upT s.2.2.2.2.2.1 s.2.2.1.1 6 none (newN s) (s.2.2.2.2.2.2.1, 0, 0) := by rw [upR, hol]
      have hB := BrI_of l1 m1 t1 t2 t3
      refine ⟨rfl, RM_BrI (c := s.2.2.2.2) hR0 hB ?_, hB.Mo⟩
      rw [hup]
      exact RMc_took l3 m1 m2 m3 m4 m5 m6 t3 t4 t5 t6 hc2
    · refine x_iconst (q := 39) dX10_bring_38 rfl (by decide) ?_
      refine x_goto (t := 43) dX10_bring_39 (by decide) ?_
      have hol : olT s.2.2.2.2 s.2.2.1 = some s.2.2.2.2.1 := if_pos ⟨h19, h35⟩
      have hO := hOR
      refine x_invV (q := 46) (as := [.inr (.inr (some 35)), .inl 1]) (rest := []) dX10_bring_43 rfl l_10_201 m_X10_matchAll rfl rfl (ft35 hF) (Nat.le_of_ble_eq_true rfl) (c_matchAll1 _ hF h22 l2 (Int.natCast_nonneg _) (by omega) (by omega) rfl rfl hDD h33 hcn.2.1 hcn.2.2.1 hNR rfl hO) (fun r1 G2 hR => ?_)
      obtain ⟨rfl, m1, m2, m3, m4, m5, m6⟩ := hR
      have hF2 : FM G2 := FX_Io hF m1.1
      rw [upT_congr hh2 hc2] at m2 m3 m4 m5 m6
      refine Ex.stk (st' := []) rfl ?_
      refine x_aload_n (q := 47) dX10_bring_46 rfl rfl ?_
      have hF := hF2
      refine x_invV (q := 50) (as := [.inr (.inr (some 35))]) (rest := []) dX10_bring_47 rfl l_10_205 m_X10_takeOver rfl rfl (ft35 hF) (Nat.le_of_ble_eq_true rfl) (c_takeOver _ hF2 (cn := (tsz 6 (newN s) : Int)) ((m1.2.2 29 (by decide) (by decide) (by decide) (by decide)).trans l2) (Int.natCast_nonneg _) (by omega)) (fun r1 G3 hR => ?_)
      obtain ⟨rfl, t1, t2, t3, t4, t5, t6⟩ := hR
      refine Ex.stk (st' := []) rfl ?_
      refine x_iload_n (q := 51) dX10_bring_50 rfl rfl ?_
      refine x_iret dX10_bring_51 rfl ?_
      have hup : upR s = upT s.2.2.2.2.2.1 s.2.2.1.1 6 (some s.2.2.2.2.1) (newN s) (s.2.2.2.2.2.2.1, 0, 0) := by rw [upR, hol]
      have hB := BrI_of l1 m1 t1 t2 t3
      refine ⟨rfl, RM_BrI (c := s.2.2.2.2) hR0 hB ?_, hB.Mo⟩
      rw [hup]
      exact RMc_took l3 m1 m2 m3 m4 m5 m6 t3 t4 t5 t6 hc2
/-- what laying first leaves as it was -/
def LfI (G G' : Hp) : Prop := Io G G' ∧ (∀ (a : Nat) (k : Int), (a < 35 ∨ (36 < a ∧ a < 44) ∨ 62 < a) → iv G' a k = iv G a k) ∧ (∀ k, k ≠ 8 → k ≠ 9 → iv G' 36 k = iv G 36 k) ∧ iv G' 36 8 = 0 ∧ iv G' 36 9 = 0 ∧ iv G' 35 1 = 0 ∧ ∀ k, k ≠ 1 → (k < 22 ∨ 42 < k) → iv G' 35 k = iv G 35 k
def fst0 (cu : Int → Int) : Int → Int := upi (upi cu 8 0) 9 0
theorem fst0_lo (cu : Int → Int) {k : Int} (h : k < 8) : fst0 cu k = cu k := by
  unfold fst0 upi; rw [if_neg (by omega), if_neg (by omega)]
theorem upT_none_h (h h' c : Int → Int) (t : Tr 6) (κ : K3) : upT h c 6 none t κ = upT h' c 6 none t κ := by
  have g : ∀ (d : Nat) (t : Tr d) (κ : K3), upT h c d none t κ = upT h' c d none t κ := by
    intro d
    induction d with
    | zero => intro t; exact t.elim
    | succ d ih =>
      intro t κ
      have gl : ∀ (l : List (Tr d)) (κ : K3), upL (upT h c d) [] l κ = upL (upT h' c d) [] l κ := by
        intro l
        induction l with
        | nil => intro κ; rfl
        | cons a l ihl => intro κ; simp only [upL, fn1]; rw [ih, ihl]
      simp only [upT, gl]
  exact g 6 t κ
set_option maxHeartbeats 1000000 in
theorem c_layFirst (d : Nat) {G : Hp} (hF : FM G) {P : Pg} {cu : Int → Int} (hP : Pok P) (hp : RMp P G) (hcu : ∀ k, 0 ≤ k → k < 8 → iv G 36 k = cu k) (hC : Cok (fst0 cu)) : CX (d + 10) 131 [.inr (.inr (some 35))] G (fun r G' => r = none ∧ LfI G G' ∧ RMc ((upT (fst0 cu) (fst0 cu) 6 none (fr P (fst0 cu) 5 0 0) (0, 0, 0)).1, fst0 cu, (upT (fst0 cu) (fst0 cu) 6 none (fr P (fst0 cu) 5 0 0) (0, 0, 0)).2.1, 0, 0, 0) G') := by
  refine CX.of (d := d + 9) m_X10_layFirst (Nat.le_of_ble_eq_true rfl) ?_
  refine Ex.lcl (ls' := [some (.inr (.inr (some 35))), none]) rfl ?_
  refine x_aload_n (q := 1) dX10_layFirst_0 rfl rfl ?_
  refine x_getR (q := 4) dX10_layFirst_1 rfl f_10_7 rfl (ft35 hF) ?_
  refine Ex.stk (st' := [.inr (.inr (some 36))]) (by rw [fr35_0 hF]) ?_
  refine x_bipush (q := 6) dX10_layFirst_4 rfl (by decide) ?_
  refine x_iconst (q := 7) dX10_layFirst_6 rfl (by decide) ?_
  refine x_iastore (q := 8) dX10_layFirst_7 rfl (ft36 hF) (by omega) (by rw [fl36 hF]; omega) ?_
  have hF := FX_si hF 36 8 0
  refine x_aload_n (q := 9) dX10_layFirst_8 rfl rfl ?_
  refine x_getR (q := 12) dX10_layFirst_9 rfl f_10_7 rfl (ft35 hF) ?_
  refine Ex.stk (st' := [.inr (.inr (some 36))]) (by rw [fr35_0 hF]) ?_
  refine x_bipush (q := 14) dX10_layFirst_12 rfl (by decide) ?_
  refine x_iconst (q := 15) dX10_layFirst_14 rfl (by decide) ?_
  refine x_iastore (q := 16) dX10_layFirst_15 rfl (ft36 hF) (by omega) (by rw [fl36 hF]; omega) ?_
  have hF := FX_si hF 36 9 0
  refine x_aload_n (q := 17) dX10_layFirst_16 rfl rfl ?_
  refine x_iconst (q := 18) dX10_layFirst_17 rfl (by decide) ?_
  refine x_putI (q := 21) dX10_layFirst_18 rfl f_10_105 rfl (fun h => by cases h) (fun h => by cases h) (ft35 hF) ?_
  have hF := FX_si hF 35 1 0
  refine x_aload_n (q := 22) dX10_layFirst_21 rfl rfl ?_
  refine x_iconst (q := 23) dX10_layFirst_22 rfl (by decide) ?_
  refine x_putI (q := 26) dX10_layFirst_23 rfl f_10_186 rfl (fun h => by cases h) (fun h => by cases h) (ft35 hF) ?_
  have hF := FX_si hF 35 33 0
  refine x_aload_n (q := 27) dX10_layFirst_26 rfl rfl ?_
  refine x_iconst (q := 28) dX10_layFirst_27 rfl (by decide) ?_
  refine x_putI (q := 31) dX10_layFirst_28 rfl f_10_173 rfl (fun h => by cases h) (fun h => by cases h) (ft35 hF) ?_
  have hF := FX_si hF 35 22 0
  refine x_aload_n (q := 32) dX10_layFirst_31 rfl rfl ?_
  have kq : ∀ (a : Nat) (j : Int), a ≠ 35 → a ≠ 36 → iv (si (si (si (si (si G 36 8 0) 36 9 0) 35 1 0) 35 33 0) 35 22 0) a j = iv G a j := fun a j g1 g2 => by simp only [iv_si]; rw [if_neg (by omega), if_neg (by omega), if_neg (by omega), if_neg (by omega), if_neg (by omega)]
  have kq3 : ∀ (j : Int), j < 8 → iv (si (si (si (si (si G 36 8 0) 36 9 0) 35 1 0) 35 33 0) 35 22 0) 36 j = iv G 36 j := fun a j => by simp only [iv_si]; rw [if_neg (by omega), if_neg (by omega), if_neg (by omega), if_neg (by omega), if_neg (by omega)]
  have hM0 : MP P (fst0 cu) (si (si (si (si (si G 36 8 0) 36 9 0) 35 1 0) 35 33 0) 35 22 0) := ⟨hF, (funext (fun j => kq 42 j (by decide) (by decide))).trans hp.1, (funext (fun j => kq 43 j (by decide) (by decide))).trans hp.2.1, by simp only [iv_si]; exact hp.2.2, fun k k0 k1 => by rw [kq3 k k1, fst0_lo cu k1]; exact hcu k k0 k1⟩
  refine x_invV (q := 35) (as := [.inr (.inr (some 35))]) (rest := []) dX10_layFirst_32 rfl l_10_198 m_X10_layNow rfl rfl (ft35 hF) (Nat.le_of_ble_eq_true rfl) (c_layNow hP hC _ hM0 (f := 0) (x := 0) (by simp [iv_si]) (by simp [iv_si]) (by decide) (by have := hP.1; omega) (by decide) (by decide)) (fun r1 G1 hR => ?_)
  obtain ⟨rfl, l1, l2, l3⟩ := hR
  have hF := FX_Io hF l1.1
  have hNR : NR G1 (tsz 6 (fr P (fst0 cu) 5 0 0) : Int) 6 0 1 [fr P (fst0 cu) 5 0 0] := NR_root l3 rfl
  have h22 : iv G1 35 22 = 0 := by rw [l1.2.2 22 (by decide) (by decide) (by decide) (by decide)]; simp [iv_si]
  have h33 : iv G1 35 33 = 0 := by rw [l1.2.2 33 (by decide) (by decide) (by decide) (by decide)]; simp [iv_si]
  have hsz : tsz 6 (fr P (fst0 cu) 5 0 0) ≤ 364 := fr_size hP hC 5 _ _ (by decide) (by have := hP.1; omega) (by decide) (by decide)
  have hc2 : ∀ k, 0 ≤ k → k < 8 → iv G1 36 k = fst0 cu k := fun k k0 k1 => by
    rw [l1.2.1 36 k (by decide) (by decide) (by decide)]; simp only [iv_si]; rw [if_neg (by omega), if_neg (by omega), if_neg (by omega), if_neg (by omega), if_neg (by omega), fst0_lo cu k1]; exact hcu k k0 k1
  have hv : 0 ≤ nV (rt 6 (fr P (fst0 cu) 5 0 0)) := (fr_rng hP hC 5 0 0 (by decide) (by have := hP.1; omega) (by decide) (by decide)).1
  refine Ex.stk (st' := [.inl (nV (rt 6 (fr P (fst0 cu) 5 0 0)))]) rfl ?_
  refine x_istore_n (q := 36) (ls' := [some (.inr (.inr (some 35))), some (.inl (nV (rt 6 (fr P (fst0 cu) 5 0 0))))]) dX10_layFirst_35 rfl (Nat.le_of_ble_eq_true rfl) (by first | rfl | exact hnl | exact hnl2 _) rfl ?_
  refine x_aload_n (q := 37) dX10_layFirst_36 rfl rfl ?_
  refine x_iconst (q := 38) dX10_layFirst_37 rfl (by decide) ?_
  refine x_invV (q := 41) (as := [.inr (.inr (some 35)), .inl 0]) (rest := []) dX10_layFirst_38 rfl l_10_201 m_X10_matchAll rfl rfl (ft35 hF) (Nat.le_of_ble_eq_true rfl) (c_matchAll0 _ hF h22 l2 (by decide) (by decide) (by omega) rfl rfl (fun j j0 j1 => by omega) h33 (by decide) (by decide) hNR rfl) (fun r1 G2 hR => ?_)
  obtain ⟨rfl, m1, m2, m3, m4, m5, m6⟩ := hR
  have hF : FM G2 := FX_Io hF m1.1
  rw [upT_congr (fun k _ _ => rfl) hc2] at m2 m3 m4 m5 m6
  refine Ex.stk (st' := []) rfl ?_
  refine x_aload_n (q := 42) dX10_layFirst_41 rfl rfl ?_
  refine x_invV (q := 45) (as := [.inr (.inr (some 35))]) (rest := []) dX10_layFirst_42 rfl l_10_205 m_X10_takeOver rfl rfl (ft35 hF) (Nat.le_of_ble_eq_true rfl) (c_takeOver _ hF (cn := (tsz 6 (fr P (fst0 cu) 5 0 0) : Int)) ((m1.2.2 29 (by decide) (by decide) (by decide) (by decide)).trans l2) (Int.natCast_nonneg _) (by omega)) (fun r1 G3 hR => ?_)
  obtain ⟨rfl, t1, t2, t3, t4, t5, t6⟩ := hR
  have hF := FX_Io hF t1
  refine Ex.stk (st' := []) rfl ?_
  refine x_aload_n (q := 46) dX10_layFirst_45 rfl rfl ?_
  refine x_iload_n (q := 47) dX10_layFirst_46 rfl rfl ?_
  refine x_if_ge (q := 50) (t := 54) dX10_layFirst_47 rfl (by decide) (fun h47 => ?_) (fun h47 => by exfalso; omega)
  refine x_iconst (q := 55) dX10_layFirst_54 rfl (by decide) ?_
  refine x_putI (q := 58) dX10_layFirst_55 rfl f_10_180 rfl (fun h => by cases h) (fun h => by cases h) (ft35 hF) ?_
  have hF := FX_si hF 35 34 0
  refine x_aload_n (q := 59) dX10_layFirst_58 rfl rfl ?_
  refine x_iconst (q := 60) dX10_layFirst_59 rfl (by decide) ?_
  refine x_putI (q := 63) dX10_layFirst_60 rfl f_10_183 rfl (fun h => by cases h) (fun h => by cases h) (ft35 hF) ?_
  have hF := FX_si hF 35 35 0
  refine x_aload_n (q := 64) dX10_layFirst_63 rfl rfl ?_
  refine x_iconst (q := 65) dX10_layFirst_64 rfl (by decide) ?_
  refine x_putI (q := 68) dX10_layFirst_65 rfl f_10_195 rfl (fun h => by cases h) (fun h => by cases h) (ft35 hF) ?_
  have hF := FX_si hF 35 36 0
  refine x_vret dX10_layFirst_68 rfl ?_
  have hB := BrI_of l1 m1 t1 t2 t3
  have hck := RMc_took l3 m1 m2 m3 m4 m5 m6 t3 t4 t5 t6 hc2
  rw [upT_none_h (iv G1 51) (fst0 cu) (fst0 cu)] at hck
  generalize (upT (fst0 cu) (fst0 cu) 6 none (fr P (fst0 cu) 5 0 0) (0, 0, 0)) = res at *
  refine ⟨rfl, ⟨hB.1, fun a k ha => ?_, fun k k8 k9 => ?_, ?_, ?_, ?_, fun k k1 k2 => ?_⟩, ?_⟩
  · simp only [iv_si]; rw [if_neg (by omega), if_neg (by omega), if_neg (by omega), hB.2.1 a k (by omega)]; simp only [iv_si]; rw [if_neg (by omega), if_neg (by omega), if_neg (by omega), if_neg (by omega), if_neg (by omega)]
  · simp only [iv_si]; rw [if_neg (by omega), if_neg (by omega), if_neg (by omega), hB.2.1 36 k (by omega)]; simp only [iv_si]; rw [if_neg (by omega), if_neg (by omega), if_neg (by omega), if_neg (by omega), if_neg (by omega)]
  · simp only [iv_si]; rw [if_neg (by omega), if_neg (by omega), if_neg (by omega), hB.2.1 36 8 (by omega)]; simp [iv_si]
  · simp only [iv_si]; rw [if_neg (by omega), if_neg (by omega), if_neg (by omega), hB.2.1 36 9 (by omega)]; simp [iv_si]
  · simp only [iv_si]; rw [if_neg (by omega), if_neg (by omega), if_neg (by omega), hB.2.2 1 (by omega)]; simp [iv_si]
  · simp only [iv_si]; rw [if_neg (by omega), if_neg (by omega), if_neg (by omega), hB.2.2 k (by omega)]; simp only [iv_si]; rw [if_neg (by omega), if_neg (by omega), if_neg (by omega), if_neg (by omega), if_neg (by omega)]
  · obtain ⟨q1, q2, q3, q4, q5, q6, q7⟩ := hck
    refine ⟨oAt_kept _ _ q1 (fun a j g1 g2 _ _ => ?_), ?_, fun k k0 k1 => ?_, ?_, ?_, ?_, ?_⟩
    · simp only [iv_si]; rw [if_neg (by omega), if_neg (by omega), if_neg (by omega)]
    · simp only [iv_si]; rw [if_neg (by omega), if_neg (by omega), if_neg (by omega)]; exact q2
    · simp only [iv_si]; rw [if_neg (by omega), if_neg (by omega), if_neg (by omega)]; exact q3 k k0 k1
    · simp only [iv_si]; rw [if_neg (by omega), if_neg (by omega), if_neg (by omega)]; exact q4
    · simp [iv_si]
    · simp [iv_si]
    · simp [iv_si]
