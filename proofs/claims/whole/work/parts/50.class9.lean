/-! THE CLASS: make, bringUp -/
/-- a call is taken from the pool -/
def TK (mk sk : Nat) (tp : Int) (fs : List Nat) (G G1 : Hp) (a : Nat) (fs1 : List Nat) (c0 : Nat) : Prop := Chn G1 (rv G1 28 0) fs1 ∧ OkA G1 (a :: fs1) ∧ (a :: fs1).Nodup ∧ (∀ b ∈ a :: fs1, b ∈ fs ∨ sz G < b) ∧ Fq mk sk tp fs G G1 ∧ sz G1 = sz G + 2 * c0 ∧ sl G1 = sl G + 23 * c0 ∧ (a :: fs1).length = fs.length + c0 ∧ c0 ≤ 1 ∧ (c0 = 0 ∨ fs1 = []) ∧ ∀ k, iv G1 mk k = iv G mk k
theorem c_takeC {mk sk : Nat} {tp : Int} (D : Nat) {G : Hp} {fs : List Nat} (h28 : tg G 28 = 4) (hmk : mk ≤ 32) (hz : 62 ≤ sz G) (hch : Chn G (rv G 28 0) fs) (hok : OkA G fs) (hnd : fs.Nodup) : CX (D + 2) 44 [.inr (.inr (some 28))] G (fun r G1 => ∃ a fs1 c0, r = some (.inr (.inr (some a))) ∧ TK mk sk tp fs G G1 a fs1 c0) := by
  cases fs with
  | nil =>
    have hn : rv G 28 0 = none := hch
    refine (c_take0 D h28 hn).mono (fun r G1 hr => ⟨sz G + 1, [], 1, hr.1, ?_⟩)
    rw [hr.2]
    have hsz : sz (sr (nw (nw G 1 0 (cN 1)) 20 8 (8 : Int).toNat) (sz G + 1) 7 (some (sz G + 1 + 1))) = sz G + 2 := rfl
    refine ⟨?_, fun b hb => ?_, by simp, fun b hb => Or.inr ?_, (((Fq.rf mk sk tp [] G).nw _ _ _).nw _ _ _).sr _ (Or.inr (Or.inr (by omega))), hsz, rfl, rfl, Nat.le_refl _, Or.inr rfl, fun k => ?_⟩
    · show rv _ 28 0 = none
      rw [rv_sr, if_neg (by omega), rv_nw, sz_nw, if_neg (by omega), rv_nw, if_neg (by omega)]; exact hn
    · rw [List.mem_singleton.mp hb]
      refine ⟨⟨?_, ?_, ?_, ?_⟩, by omega, by rw [hsz]; omega⟩
      · rw [tg_sr, tg_nw, sz_nw, if_neg (by omega), tg_nw, if_pos rfl]
      · rw [rv_sr, if_pos ⟨rfl, rfl⟩]
      · rw [tg_sr, tg_nw, sz_nw, if_pos rfl]
      · rw [ln_sr, ln_nw, sz_nw, if_pos rfl]
    · rw [List.mem_singleton.mp hb]; omega
    · rw [iv_sr, iv_nw, sz_nw, if_neg (by omega), iv_nw, if_neg (by omega)]
  | cons a fs1 =>
    obtain ⟨h1, h2⟩ := hch
    have oa := hok a (List.mem_cons_self ..)
    refine (c_take1 D h28 h1 oa.1.1).mono (fun r G1 hr => ⟨a, fs1, 0, hr.1, ?_⟩)
    rw [hr.2]
    have hF : Fq mk sk tp (a :: fs1) G (sr (sr G 28 0 (rv G a 10)) a 10 none) := ((Fq.rf mk sk tp (a :: fs1) G).sr _ (Or.inl ⟨rfl, rfl⟩)).sr _ (Or.inr (Or.inl ⟨List.mem_cons_self .., by decide⟩))
    refine ⟨?_, OkA_Fq hF hok, hnd, fun b hb => Or.inl hb, hF, rfl, rfl, rfl, by omega, Or.inl rfl, fun k => rfl⟩
    rw [rv_sr, if_neg (by omega), rv_sr, if_pos ⟨rfl, rfl⟩]
    refine Chn_kept _ _ h2 (fun b hb => ?_)
    have ob := hok b (List.mem_cons_of_mem _ hb)
    have hba : b ≠ a := fun z => (List.nodup_cons.mp hnd).1 (z ▸ hb)
    rw [rv_sr, if_neg (fun z => hba z.1), rv_sr, if_neg (by omega)]
/-- whatPartTells does, wherever it is called -/
def WpA (mk sk pa : Nat) (P : Pg) (st vl ss : Int → Int) (N : Int) (h c : Int → Int) (β : Int) (d : Nat) : Prop := ∀ (ns : Int) (a : Nat) (f x nm dn : Int) (A0 : List Nat) (n0 : Nat) (k0 t0 : Int), ns + (d : Int) = 6 → 0 ≤ t0 → t0 + 160 * ((d : Int) + 1) ≤ 960 → WpH mk sk pa P st vl ss N h c β d ns a f x nm dn A0 n0 k0 t0
theorem wpA_zero {mk sk pa : Nat} {P : Pg} {st vl ss : Int → Int} {N : Int} {h c : Int → Int} {β : Int} : WpA mk sk pa P st vl ss N h c β 0 := by
  intro ns a f x nm dn A0 n0 k0 t0 hns ht0 ht G0 nr k y G S tp hJ k0' y0 y1 h1 h2
  exact wp_zero hJ (by omega)
theorem wpA_succ {mk sk pa : Nat} {P : Pg} {st vl ss : Int → Int} {N : Int} {h c : Int → Int} {β : Int} {d : Nat} (hP : Pok P) (hc : Cok c) (hM : MkC mk sk pa P st vl ss N c β d) (hB : BrC mk sk pa P st vl ss N h c β d) : WpA mk sk pa P st vl ss N h c β (d + 1) := by
  intro ns a f x nm dn A0 n0 k0 t0 hns ht0 ht G0 nr k y G S tp hJ k0' y0 y1 h1 h2
  exact wp_succ hP hc hM hB hJ (by omega) h1 ht0 (by omega) k0' y0 y1
set_option maxHeartbeats 1000000 in
theorem mk_of {mk sk pa : Nat} {P : Pg} {st vl ss : Int → Int} {N : Int} {h c : Int → Int} {β : Int} {d : Nat} (hP : Pok P) (hc : Cok c) (hpg : PgC P st vl ss N) (hβ : 0 ≤ β) (hWp : WpA mk sk pa P st vl ss N h c β d) : MkC mk sk pa P st vl ss N c β d := by
  intro G f x ns κ fs tp hw hch hok hnd hct htp t00 ht hns f0 f1 x0 x1
  have hms := WE_ms hw
  refine CX.of (d := 30 * d + 29) m_X3_make (Nat.le_of_ble_eq_true rfl) ?_
  refine Ex.lcl (ls' := [some (.inr (.inr (some mk))), some (.inl f), some (.inl x), some (.inl ns), none]) rfl ?_
  refine x_aload_n (q := 1) dX3_make_0 rfl rfl ?_
  refine x_getR (q := 4) dX3_make_1 rfl f_3_19 rfl hw.1.1 ?_
  refine Ex.stk (st' := [.inr (.inr (some 28))]) (by rw [show rv G mk 1 = some 28 from hw.1.2.2.1]) ?_
  refine x_invV (q := 7) (as := [.inr (.inr (some 28))]) (rest := []) dX3_make_4 rfl l_3_74 m_X4_take rfl rfl hw.1.2.2.2.2.2.2.2.2.2.2.2.1 (Nat.le_of_ble_eq_true rfl) (CX.up (d := 0 + 2) (by omega) (c_takeC (mk := mk) (sk := sk) (tp := tp) 0 hw.1.2.2.2.2.2.2.2.2.2.2.2.1 hms.1 hw.2.2.2.2.2.2.2.2 hch hok hnd)) (fun r1 G1 hR => ?_)
  obtain ⟨a, fs1, c0, rfl, k1, k2, k3, k4, k5, k6, k7, k8, k9, k10, k11⟩ := hR
  have hw1 := WE_Fq hw k5 (fun b hb => by have := (hok b hb).2.1; omega)
  have oa := k2 a (List.mem_cons_self ..)
  have hm6 : iv G1 mk 6 = wr κ.1 := (k11 6).trans hct.1
  refine Ex.stk (st' := [.inr (.inr (some a))]) rfl ?_
  refine x_astore (q := 9) (ls' := [some (.inr (.inr (some mk))), some (.inl f), some (.inl x), some (.inl ns), some (.inr (.inr (some a)))]) dX3_make_7 rfl (Nat.le_of_ble_eq_true rfl) (by first | rfl | exact hnl | exact hnl2 _) rfl ?_
  refine x_aload (q := 11) dX3_make_9 rfl rfl ?_
  refine x_iload_n (q := 12) dX3_make_11 rfl rfl ?_
  refine x_iload_n (q := 13) dX3_make_12 rfl rfl ?_
  refine x_iload_n (q := 14) dX3_make_13 rfl rfl ?_
  refine x_aload_n (q := 15) dX3_make_14 rfl rfl ?_
  refine x_getI (q := 18) dX3_make_15 rfl f_3_27 rfl hw1.1.1 ?_
  refine Ex.stk (st' := [.inl (wr κ.1), .inl ns, .inl x, .inl f, .inr (.inr (some a))]) (by rw [show iv G1 mk 6 = wr κ.1 from hm6]) ?_
  refine x_invV (q := 21) (as := [.inr (.inr (some a)), .inl f, .inl x, .inl ns, .inl (wr κ.1)]) (rest := []) dX3_make_18 rfl l_3_80 m_X1_begin rfl rfl oa.1.1 (Nat.le_of_ble_eq_true rfl) (CX.up (d := 0 + 1) (by omega) (c_beginC 0 oa.1)) (fun r1 G2 hR => ?_)
  obtain ⟨rfl, hG2⟩ := hR
  have hI2 : ∀ (b : Nat) (k : Int), b ≠ a → iv G2 b k = iv G1 b k := fun b k hb => by
    rw [hG2]; simp only [iv_si, iv_sr]; rw [if_neg (fun z => hb z.1), if_neg (fun z => hb z.1), if_neg (fun z => hb z.1), if_neg (fun z => hb z.1), if_neg (fun z => hb z.1), if_neg (fun z => hb z.1), if_neg (fun z => hb z.1)]
  have hR2 : ∀ (b : Nat) (k : Int), ¬ (b = a ∧ k = 8) → rv G2 b k = rv G1 b k := fun b k hb => by
    rw [hG2]; simp only [rv_si, rv_sr]; rw [if_neg hb]
  have hma : mk ≠ a := by omega
  have hm6 : iv G2 mk 6 = wr κ.1 := (hI2 mk 6 hma).trans hm6
  have hm7 : iv G2 mk 7 = wr κ.2.1 := (hI2 mk 7 hma).trans ((k11 7).trans hct.2.1)
  have hT2 : tg G2 mk = 3 := by rw [hG2]; exact hw1.1.1
  have hF2 : Fq mk sk tp [a] G1 G2 := by
    have hm : a ∈ [a] := List.mem_singleton.mpr rfl
    rw [hG2]
    exact (((((((((Fq.rf mk sk tp [a] G1).si _ (Or.inr (Or.inr (Or.inl hm)))).si _ (Or.inr (Or.inr (Or.inl hm)))).si _ (Or.inr (Or.inr (Or.inl hm)))).si _ (Or.inr (Or.inr (Or.inl hm)))).si _ (Or.inr (Or.inr (Or.inl hm)))).si _ (Or.inr (Or.inr (Or.inl hm))))).sr _ (Or.inr (Or.inl ⟨hm, by decide⟩))).si _ (Or.inr (Or.inr (Or.inl hm)))
  have b0 : iv G2 a 0 = f := by rw [hG2]; simp [iv_si, iv_sr]
  have b1 : iv G2 a 1 = x := by rw [hG2]; simp [iv_si, iv_sr]
  have b5 : iv G2 a 5 = ns := by rw [hG2]; simp [iv_si, iv_sr]
  have b3 : iv G2 a 3 = wr κ.1 := by rw [hG2]; simp [iv_si, iv_sr]
  have b4 : iv G2 a 4 = wr 0 := by rw [hG2]; simp [iv_si, iv_sr]; rfl
  have b12 : iv G2 a 12 = 0 := by rw [hG2]; simp [iv_si, iv_sr]
  have b8 : rv G2 a 8 = none := by rw [hG2]; simp [rv_si, rv_sr]
  have hs2 : sz G2 = sz G1 ∧ sl G2 = sl G1 := by rw [hG2]; exact ⟨rfl, rfl⟩
  refine Ex.stk (st' := []) rfl ?_
  refine x_aload_n (q := 22) dX3_make_21 rfl rfl ?_
  refine x_dup (q := 23) dX3_make_22 rfl rfl ?_
  refine x_getI (q := 26) dX3_make_23 rfl f_3_27 rfl hT2 ?_
  refine Ex.stk (st' := [.inl (wr κ.1), .inr (.inr (some mk))]) (by rw [show iv G2 mk 6 = wr κ.1 from hm6]) ?_
  refine x_iconst (q := 27) dX3_make_26 rfl (by decide) ?_
  refine x_iadd (q := 28) (z := wr (κ.1 + 1)) dX3_make_27 rfl (wr_add _ 1) ?_
  refine x_putI (q := 31) dX3_make_28 rfl f_3_27 rfl (fun h => by cases h) (fun h => by cases h) hT2 ?_
  refine x_aload_n (q := 32) dX3_make_31 rfl rfl ?_
  refine x_dup (q := 33) dX3_make_32 rfl rfl ?_
  refine x_getI (q := 36) dX3_make_33 rfl f_3_65 rfl hT2 ?_
  refine Ex.stk (st' := [.inl (wr κ.2.1), .inr (.inr (some mk))]) (by rw [show iv (si G2 mk 6 (wr (κ.1 + 1))) mk 7 = wr κ.2.1 from (by rw [iv_si, if_neg (by omega)]; exact hm7)]) ?_
  refine x_iconst (q := 37) dX3_make_36 rfl (by decide) ?_
  refine x_iadd (q := 38) (z := wr (κ.2.1 + 1)) dX3_make_37 rfl (wr_add _ 1) ?_
  refine x_putI (q := 41) dX3_make_38 rfl f_3_65 rfl (fun h => by cases h) (fun h => by cases h) hT2 ?_
  refine x_aload_n (q := 42) dX3_make_41 rfl rfl ?_
  refine x_aload (q := 44) dX3_make_42 rfl rfl ?_
  have hI3 : ∀ (b : Nat) (k : Int), ¬ (b = mk ∧ (k = 6 ∨ k = 7)) → iv (si (si G2 mk 6 (wr (κ.1 + 1))) mk 7 (wr (κ.2.1 + 1))) b k = iv G2 b k := fun b k hb => by
    rw [iv_si, if_neg (fun z => hb ⟨z.1, Or.inr z.2⟩), iv_si, if_neg (fun z => hb ⟨z.1, Or.inl z.2⟩)]
  have c6 : iv (si (si G2 mk 6 (wr (κ.1 + 1))) mk 7 (wr (κ.2.1 + 1))) mk 6 = wr (κ.1 + 1) := by simp [iv_si]
  have c7 : iv (si (si G2 mk 6 (wr (κ.1 + 1))) mk 7 (wr (κ.2.1 + 1))) mk 7 = wr (κ.2.1 + 1) := by simp [iv_si]
  have hF3 : Fq mk sk tp [a] G1 (si (si G2 mk 6 (wr (κ.1 + 1))) mk 7 (wr (κ.2.1 + 1))) := (hF2.si _ (Or.inl ⟨rfl, by omega⟩)).si _ (Or.inl ⟨rfl, by omega⟩)
  have hR3 : ∀ (b : Nat) (k : Int), rv (si (si G2 mk 6 (wr (κ.1 + 1))) mk 7 (wr (κ.2.1 + 1))) b k = rv G2 b k := fun b k => rfl
  have hs3 : sz (si (si G2 mk 6 (wr (κ.1 + 1))) mk 7 (wr (κ.2.1 + 1))) = sz G1 ∧ sl (si (si G2 mk 6 (wr (κ.1 + 1))) mk 7 (wr (κ.2.1 + 1))) = sl G1 := hs2
  have hT2 : tg (si (si G2 mk 6 (wr (κ.1 + 1))) mk 7 (wr (κ.2.1 + 1))) mk = 3 := hT2
  generalize si (si G2 mk 6 (wr (κ.1 + 1))) mk 7 (wr (κ.2.1 + 1)) = G3 at *
  have hw3 := WE_Fq hw1 hF3 (fun b hb => by rw [List.mem_singleton.mp hb]; omega)
  have hok3 : OkA G3 (a :: fs1) := OkA_Fq hF3 k2
  have hch3 : Chn G3 (rv G3 28 0) fs1 := by
    rw [hR3, hR2 28 0 (by omega)]
    refine Chn_kept _ _ k1 (fun b hb => ?_)
    rw [hR3, hR2 b 10 (by omega)]
  have hct3 : Ct mk (κ.1 + 1, κ.2.1 + 1, κ.2.2) G3 := ⟨c6, c7, by rw [hI3 mk 8 (by omega), hI2 mk 8 hma, k11]; exact hct.2.2.1, by rw [hI3 mk 9 (by omega), hI2 mk 9 hma, k11]; exact hct.2.2.2⟩
  have htp3 : iv G3 mk 3 = tp := by rw [hI3 mk 3 (by omega), hI2 mk 3 hma, k11]; exact htp
  refine x_invV (q := 47) (as := [.inr (.inr (some mk)), .inr (.inr (some a))]) (rest := []) dX3_make_44 rfl l_3_84 m_X3_goThrough rfl rfl hT2 (Nat.le_of_ble_eq_true rfl) (CX.up (d := 30 * d + 14) (by omega) (c_goThrough (h := h) (rm := []) (nr := true) (nm := κ.1) (dn := 0) hP hc hpg hw3 ((hI3 a 0 (by omega)).trans b0) ((hI3 a 1 (by omega)).trans b1) ((hI3 a 3 (by omega)).trans b3) ((hI3 a 4 (by omega)).trans b4) ((hI3 a 5 (by omega)).trans b5) (by rw [hI3 a 12 (by omega), b12]; exact hβ) (by rw [hR3]; exact b8) (fun q hq => by cases hq) hch3 hok3 k3 hct3 htp3 (fun _ => rfl) t00 ht hns f0 f1 x0 x1 (hWp ns a f x κ.1 (0 + 1) _ _ _ tp hns t00 ht))) (fun r1 G4 hR => ?_)
  obtain ⟨rfl, ps, fs4, cr, hps, ⟨q1, q2, q3, q4, q5, q6, q7, q8, q9, q10, q11, q12⟩, -, -, hcr⟩ := hR
  have hmT := (mkT_doS hP h hc d f x κ f0 f1 x0 x1).1
  change ps.map (nad d) = (doS P h c d f x [] (κ.1 + 1, κ.2.1 + 1, κ.2.2)).2.2.1 at hps
  change TA G4 c β (d + 1) ns (mkN d (a, f, x, (doS P h c d f x [] (κ.1 + 1, κ.2.1 + 1, κ.2.2)).1, (doS P h c d f x [] (κ.1 + 1, κ.2.1 + 1, κ.2.2)).2.1, κ.1, 1) ps) at q1
  change Ct mk (gon (doS P h c d f x [] (κ.1 + 1, κ.2.1 + 1, κ.2.2)).2.2.2.1 (doS P h c d f x [] (κ.1 + 1, κ.2.1 + 1, κ.2.2)).2.2.2.2) G4 at q7
  change (cr : Int) ≤ (gon (doS P h c d f x [] (κ.1 + 1, κ.2.1 + 1, κ.2.2)).2.2.2.1 (doS P h c d f x [] (κ.1 + 1, κ.2.1 + 1, κ.2.2)).2.2.2.2).2.1 - (κ.2.1 + 1) at q12
  rw [hmT.2] at q7 q12
  have gn : ∀ κ' : Kt, gon ([] : List (Bool × Tr d)) κ' = κ' := fun κ' => by
    obtain ⟨a1, a2, a3, a4⟩ := κ'
    show (a1, a2, a3, a4 + ((0 : Nat) : Int)) = _
    rw [show a4 + ((0 : Nat) : Int) = a4 from by omega]
  rw [gn] at q7 q12
  refine Ex.stk (st' := []) rfl ?_
  refine x_aload (q := 49) dX3_make_47 rfl rfl ?_
  refine x_aret dX3_make_49 rfl ?_
  rw [hmT.1]
  refine ⟨mkN d (a, f, x, (doS P h c d f x [] (κ.1 + 1, κ.2.1 + 1, κ.2.2)).1, (doS P h c d f x [] (κ.1 + 1, κ.2.1 + 1, κ.2.2)).2.1, κ.1, 1) ps, fs4, c0 + cr, rfl, ?_, ⟨q1, ?_, q3, q4, q5, fun b hb => ?_, q7, q8, ?_, ?_, ?_, ?_⟩, ?_⟩
  · show ((0, f, x, _, _, κ.1, 1), ps.map (nad d)) = _
    rw [hps]; rfl
  · refine (k5.trans hF3 (fun b hb => by rw [List.mem_singleton.mp hb]; exact k4 a (List.mem_cons_self ..)) (Int.le_refl _)).trans q2 (fun b hb => ?_) (Int.le_refl _)
    exact k4 b hb
  · rcases q6 b hb with g | g
    · exact k4 b g
    · rw [hs3.1, k6] at g; exact Or.inr (by omega)
  · rw [q9, hs3.1, k6]; omega
  · rw [q10, hs3.2, k7]; omega
  · have e : ((a :: adLs d ((([] : List (Bool × Tr d)).map Prod.snd))) ++ fs1).length = (a :: fs1).length := rfl
    have q11' : (adL (d + 1) (mkN d (a, f, x, (doS P h c d f x [] (κ.1 + 1, κ.2.1 + 1, κ.2.2)).1, (doS P h c d f x [] (κ.1 + 1, κ.2.1 + 1, κ.2.2)).2.1, κ.1, 1) ps) ++ fs4).length = (a :: fs1).length + cr := q11
    rw [q11', k8]
    show fs.length + c0 + cr = ([] ++ fs).length + (c0 + cr)
    rw [List.nil_append]; omega
  · show ((c0 + cr : Nat) : Int) ≤ _ - κ.2.1
    dsimp only at q12 ⊢
    omega
  · rcases hcr rfl with g | g
    · rcases k10 with z | z
      · exact Or.inl (by omega)
      · right
        have q11' : (adL (d + 1) (mkN d (a, f, x, (doS P h c d f x [] (κ.1 + 1, κ.2.1 + 1, κ.2.2)).1, (doS P h c d f x [] (κ.1 + 1, κ.2.1 + 1, κ.2.2)).2.1, κ.1, 1) ps) ++ fs4).length = (a :: fs1).length + cr := q11
        rw [List.length_append, adL_eq, List.length_cons, z, g] at q11'
        simp only [List.length_cons, List.length_nil] at q11'
        exact List.eq_nil_of_length_eq_zero (by omega)
    · exact Or.inr g
