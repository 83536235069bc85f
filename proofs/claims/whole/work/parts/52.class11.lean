/-! THE CLASS: bringUp; all levels -/
theorem isOldN_held {he ce h c : Int → Int} {m : Int} (h1 : ∀ i, 0 ≤ i → i < 8 → rb m i = 1 → he i = h i) (h2 : ∀ i, 0 ≤ i → i < 8 → ce i = c i) : isOldN he ce m = isOldN h c m := by
  rw [Bool.eq_iff_iff, isOldN_iff, isOldN_iff]
  constructor
  · rintro ⟨j, a1, a2, a3, a4⟩; exact ⟨j, a1, a2, a3, by rw [← h1 j a1 a2 a3, ← h2 j a1 a2]; exact a4⟩
  · rintro ⟨j, a1, a2, a3, a4⟩; exact ⟨j, a1, a2, a3, by rw [h1 j a1 a2 a3, h2 j a1 a2]; exact a4⟩
set_option maxHeartbeats 1000000 in
theorem br_30 {mk sk pa : Nat} {P : Pg} {st vl ss : Int → Int} {N : Int} {h c : Int → Int} {β : Int} {d : Nat} {G : Hp} {t : Tr (d + 1)} {ns : Int} {κ : Kt} {fs : List Nat} {tp : Int} (hP : Pok P) (hc : Cok c) (hpg : PgC P st vl ss N) (hWp : WpA mk sk pa P st vl ss N h c β d) (hgd : Gd P (d + 1) t) (t00 : 0 ≤ tp) (htt : tp + 160 * ((d : Int) + 1) ≤ 960) (hns : ns + (d : Int) = 6) {G2 : Hp} {rm : List (Bool × Tr d)} {κ2 : Kt} {fs2 : List Nat} {cr2 : Nat} (hw : WE mk sk pa P st vl ss N c β G2) (h0 : iv G2 (nAd t.1) 0 = nF t.1) (h1 : iv G2 (nAd t.1) 1 = nX t.1) (h3 : iv G2 (nAd t.1) 3 = wr (nN t.1)) (h4 : iv G2 (nAd t.1) 4 = wr (nD t.1)) (h5 : iv G2 (nAd t.1) 5 = ns) (h12 : iv G2 (nAd t.1) 12 = β) (h8 : Chn G2 (rv G2 (nAd t.1) 8) (rm.map (fun q => aRt d q.2))) (hrm : ∀ q ∈ rm, Fl G2 h c β d (ns + 1) q ∧ Gd P d q.2) (hch : Chn G2 (rv G2 28 0) fs2) (hok : OkA G2 (nAd t.1 :: (adLs d (rm.map Prod.snd) ++ fs2))) (hnd : (nAd t.1 :: (adLs d (rm.map Prod.snd) ++ fs2)).Nodup) (hsub : ∀ b ∈ nAd t.1 :: (adLs d (rm.map Prod.snd) ++ fs2), b ∈ adL (d + 1) t ++ fs ∨ sz G < b) (hct : Ct mk κ2 G2) (htp : iv G2 mk 3 = tp) (hF : Fq mk sk tp (adL (d + 1) t ++ fs) G G2) (hsz : sz G2 = sz G + 2 * cr2) (hsl : sl G2 = sl G + 23 * cr2) (hlen : (nAd t.1 :: (adLs d (rm.map Prod.snd) ++ fs2)).length = (adL (d + 1) t ++ fs).length + cr2) (hcr : (cr2 : Int) ≤ κ2.2.1 - κ.2.1) (h10 : rv G2 (nAd t.1) 10 = rv G (nAd t.1) 10) (hpu : brT P h c d (nad (d + 1) t) κ = (mkN d (0, nF t.1, nX t.1, (doS P h c d (nF t.1) (nX t.1) (rm.map (nq d)) (κ2.1, κ2.2.1, κ2.2.2.1 + 1, κ2.2.2.2)).1, (doS P h c d (nF t.1) (nX t.1) (rm.map (nq d)) (κ2.1, κ2.2.1, κ2.2.2.1 + 1, κ2.2.2.2)).2.1, nN t.1, nD t.1 + 1) (doS P h c d (nF t.1) (nX t.1) (rm.map (nq d)) (κ2.1, κ2.2.1, κ2.2.2.1 + 1, κ2.2.2.2)).2.2.1, gon (doS P h c d (nF t.1) (nX t.1) (rm.map (nq d)) (κ2.1, κ2.2.1, κ2.2.2.1 + 1, κ2.2.2.2)).2.2.2.1 (doS P h c d (nF t.1) (nX t.1) (rm.map (nq d)) (κ2.1, κ2.2.1, κ2.2.2.1 + 1, κ2.2.2.2)).2.2.2.2)) : Ex (30 * d + 25) none 3 false cX3_bringUp 30 [some (.inr (.inr (some mk))), some (.inr (.inr (some (nAd t.1))))] [] G2 (fun r G' => r = none ∧ ∃ t' fs' cr, nad (d + 1) t' = (brT P h c d (nad (d + 1) t) κ).1 ∧ PO mk sk c β d ns κ (brT P h c d (nad (d + 1) t) κ).2 tp (adL (d + 1) t) fs G G' t' fs' cr ∧ aRt (d + 1) t' = aRt (d + 1) t ∧ rv G' (aRt (d + 1) t) 10 = rv G (aRt (d + 1) t) 10 ∧ iv G' (aRt (d + 1) t) 12 = β) := by
  obtain ⟨⟨f0, f1, x0, x1, -⟩, -⟩ := hgd
  have hms := WE_ms hw
  have oa := hok _ (List.mem_cons_self ..)
  have h8m : iv G2 mk 8 = wr κ2.2.2.1 := hct.2.2.1
  refine x_aload_n (q := 31) dX3_bringUp_30 rfl rfl ?_
  refine x_dup (q := 32) dX3_bringUp_31 rfl rfl ?_
  refine x_getI (q := 35) dX3_bringUp_32 rfl f_3_68 rfl hw.1.1 ?_
  refine Ex.stk (st' := [.inl (wr κ2.2.2.1), .inr (.inr (some mk))]) (by rw [show iv G2 mk 8 = wr κ2.2.2.1 from h8m]) ?_
  refine x_iconst (q := 36) dX3_bringUp_35 rfl (by decide) ?_
  refine x_iadd (q := 37) (z := wr (κ2.2.2.1 + 1)) dX3_bringUp_36 rfl (wr_add _ 1) ?_
  refine x_putI (q := 40) dX3_bringUp_37 rfl f_3_68 rfl (fun h => by cases h) (fun h => by cases h) hw.1.1 ?_
  refine x_aload_n (q := 41) dX3_bringUp_40 rfl rfl ?_
  refine x_aload_n (q := 42) dX3_bringUp_41 rfl rfl ?_
  have hI3 : ∀ (b : Nat) (k : Int), ¬ (b = mk ∧ k = 8) → iv (si G2 mk 8 (wr (κ2.2.2.1 + 1))) b k = iv G2 b k := fun b k hb => by rw [iv_si, if_neg hb]
  have hF3 : Fq mk sk tp [] G2 (si G2 mk 8 (wr (κ2.2.2.1 + 1))) := (Fq.rf mk sk tp [] G2).si _ (Or.inl ⟨rfl, by omega⟩)
  have hw3 := WE_Fq hw hF3 (fun b hb => by cases hb)
  have hk3 : ∀ b, 33 ≤ b → CO G2 b → CO (si G2 mk 8 (wr (κ2.2.2.1 + 1))) b ∧ (∀ k, iv (si G2 mk 8 (wr (κ2.2.2.1 + 1))) b k = iv G2 b k) ∧ (∀ k, rv (si G2 mk 8 (wr (κ2.2.2.1 + 1))) b k = rv G2 b k) ∧ ∀ k, iv (si G2 mk 8 (wr (κ2.2.2.1 + 1))) (b + 1) k = iv G2 (b + 1) k := fun b hb hc => ⟨hc, fun k => hI3 b k (by omega), fun k => rfl, fun k => hI3 _ k (by omega)⟩
  have hrm3 : ∀ q ∈ rm, Fl (si G2 mk 8 (wr (κ2.2.2.1 + 1))) h c β d (ns + 1) q ∧ Gd P d q.2 := fun q hq => ⟨Fl_same (hrm q hq).1 (fun b hb => by
    have ob := hok b (List.mem_cons_of_mem _ (List.mem_append_left _ (List.mem_flatMap.mpr ⟨q.2, List.mem_map.mpr ⟨q, hq, rfl⟩, hb⟩)))
    exact hk3 b (by omega) ob.1), (hrm q hq).2⟩
  have hct3 : Ct mk (κ2.1, κ2.2.1, κ2.2.2.1 + 1, κ2.2.2.2) (si G2 mk 8 (wr (κ2.2.2.1 + 1))) := ⟨(hI3 mk 6 (by omega)).trans hct.1, (hI3 mk 7 (by omega)).trans hct.2.1, by simp [iv_si], (hI3 mk 9 (by omega)).trans hct.2.2.2⟩
  refine x_invV (q := 45) (as := [.inr (.inr (some mk)), .inr (.inr (some (nAd t.1)))]) (rest := []) dX3_bringUp_42 rfl l_3_84 m_X3_goThrough rfl rfl hw.1.1 (Nat.le_of_ble_eq_true rfl) (CX.up (d := 30 * d + 14) (by omega) (c_goThrough (h := h) (rm := rm) (nr := false) (nm := nN t.1) (dn := nD t.1) (f := nF t.1) (x := nX t.1) hP hc hpg hw3 ((hI3 _ 0 (by omega)).trans h0) ((hI3 _ 1 (by omega)).trans h1) ((hI3 _ 3 (by omega)).trans h3) ((hI3 _ 4 (by omega)).trans h4) ((hI3 _ 5 (by omega)).trans h5) (by rw [hI3 _ 12 (by omega), h12]; exact Int.le_refl _) (Chn_kept _ _ h8 (fun _ _ => rfl)) hrm3 (Chn_kept _ _ hch (fun _ _ => rfl)) hok hnd hct3 ((hI3 mk 3 (by omega)).trans htp) (fun q => by cases q) t00 htt hns f0 f1 x0 x1 (hWp ns (nAd t.1) _ _ _ _ _ _ _ tp hns t00 htt))) (fun r1 G4 hR => ?_)
  obtain ⟨rfl, ps, fs4, cr, hps, ⟨q1, q2, q3, q4, q5, q6, q7, q8, q9, q10, q11, q12⟩, g10, g12, -⟩ := hR
  refine Ex.stk (st' := []) rfl ?_
  refine x_vret dX3_bringUp_45 rfl ?_
  rw [hpu]
  refine ⟨rfl, _, fs4, cr2 + cr, ?_, ⟨q1, (hF.trans hF3 (fun b hb => by cases hb) (Int.le_refl _)).trans q2 (fun b hb => ?_) (Int.le_refl _), q3, q4, q5, fun b hb => ?_, q7, q8, ?_, ?_, ?_, ?_⟩, rfl, ?_, ?_⟩
  · show ((0, nF t.1, nX t.1, _, _, nN t.1, nD t.1 + 1), ps.map (nad d)) = _
    rw [hps]; rfl
  · exact hsub b hb
  · rcases q6 b hb with g | g
    · exact hsub b g
    · have g : sz G2 < b := g
      exact Or.inr (by omega)
  · have q9 : sz G4 = sz G2 + 2 * cr := q9
    omega
  · have q10 : sl G4 = sl G2 + 23 * cr := q10
    omega
  · rw [q11]
    have e : ((nAd t.1 :: adLs d (rm.map Prod.snd)) ++ fs2).length = (nAd t.1 :: (adLs d (rm.map Prod.snd) ++ fs2)).length := rfl
    rw [e, hlen]; omega
  · have q12 : (cr : Int) ≤ _ - κ2.2.1 := q12
    show ((cr2 + cr : Nat) : Int) ≤ _ - κ.2.1
    dsimp only at q12 ⊢
    omega
  · exact g10.trans h10
  · exact g12.trans ((hI3 _ 12 (by omega)).trans h12)
set_option maxHeartbeats 1000000 in
theorem br_of {mk sk pa : Nat} {P : Pg} {st vl ss : Int → Int} {N : Int} {h c : Int → Int} {β : Int} {d : Nat} (hP : Pok P) (hc : Cok c) (hpg : PgC P st vl ss N) (hWp : WpA mk sk pa P st vl ss N h c β d) (hAny : AnyC mk sk pa P st vl ss N h c β d) : BrC mk sk pa P st vl ss N h c β d := by
  intro G t ns κ fs tp hw ht hgd hch hok hnd hct htp t00 htt hns
  obtain ⟨hca, n0, n1, n2, n3, n4, n5, n6, n9, n10⟩ := ht.1
  have oa := hok (nAd t.1) (List.mem_append_left _ (List.mem_cons_self ..))
  have hna : nAd t.1 ∉ adLs d t.2 ++ fs := (List.nodup_cons.mp hnd).1
  have hndp : (adLs d t.2 ++ fs).Nodup := (List.nodup_cons.mp hnd).2
  show CX (30 * d + 26 + 4) 31 [.inr (.inr (some mk)), .inr (.inr (some (nAd t.1)))] G (fun r G' => r = none ∧ ∃ t' fs' cr, nad (d + 1) t' = (brT P h c d (nad (d + 1) t) κ).1 ∧ PO mk sk c β d ns κ (brT P h c d (nad (d + 1) t) κ).2 tp (adL (d + 1) t) fs G G' t' fs' cr ∧ aRt (d + 1) t' = aRt (d + 1) t ∧ rv G' (aRt (d + 1) t) 10 = rv G (aRt (d + 1) t) 10 ∧ iv G' (aRt (d + 1) t) 12 = β)
  refine CX.up (d := 30 * d + 26) (by omega) ?_
  refine CX.of (d := 30 * d + 25) m_X3_bringUp (Nat.le_of_ble_eq_true rfl) ?_
  refine Ex.lcl (ls' := [some (.inr (.inr (some mk))), some (.inr (.inr (some (nAd t.1))))]) rfl ?_
  refine x_aload_n (q := 1) dX3_bringUp_0 rfl rfl ?_
  refine x_aload_n (q := 2) dX3_bringUp_1 rfl rfl ?_
  refine x_getI (q := 5) dX3_bringUp_2 rfl f_3_38 rfl hw.1.1 ?_
  refine Ex.stk (st' := [.inl β, .inr (.inr (some (nAd t.1)))]) (by rw [show iv G mk 5 = β from hw.2.2.2.2.2.2.2.1]) ?_
  refine x_putI (q := 8) dX3_bringUp_5 rfl f_3_87 rfl (fun h => by cases h) (fun h => by cases h) oa.1.1 ?_
  refine x_aload_n (q := 9) dX3_bringUp_8 rfl rfl ?_
  refine x_aload_n (q := 10) dX3_bringUp_9 rfl rfl ?_
  refine x_getR (q := 13) dX3_bringUp_10 rfl f_3_15 rfl hw.1.1 ?_
  refine Ex.stk (st' := [.inr (.inr (some 15)), .inr (.inr (some (nAd t.1)))]) (by rw [show rv (si G (nAd t.1) 12 β) mk 0 = some 15 from hw.1.2.1]) ?_
  refine x_getR (q := 16) dX3_bringUp_13 rfl f_3_90 rfl hw.1.2.2.2.2.2.2.2.1 ?_
  refine Ex.stk (st' := [.inr (.inr (some 16)), .inr (.inr (some (nAd t.1)))]) (by rw [show rv (si G (nAd t.1) 12 β) 15 0 = some 16 from hw.1.2.2.2.2.2.2.2.2.1]) ?_
  have hms := WE_ms hw
  have hG1 : ∀ (b : Nat) (k : Int), ¬ (b = nAd t.1 ∧ k = 12) → iv (si G (nAd t.1) 12 β) b k = iv G b k := fun b k hb => by rw [iv_si, if_neg hb]
  have hF1 : Fq mk sk tp [nAd t.1] G (si G (nAd t.1) 12 β) := (Fq.rf mk sk tp [nAd t.1] G).si _ (Or.inr (Or.inr (Or.inl (List.mem_singleton.mpr rfl))))
  have hI12 : iv (si G (nAd t.1) 12 β) (nAd t.1) 12 = β := by rw [iv_si, if_pos ⟨rfl, rfl⟩]
  have hR1 : ∀ (b : Nat) (k : Int), rv (si G (nAd t.1) 12 β) b k = rv G b k := fun b k => rfl
  have hs1 : sz (si G (nAd t.1) 12 β) = sz G ∧ sl (si G (nAd t.1) 12 β) = sl G := ⟨rfl, rfl⟩
  have hT1 : ∀ b, tg (si G (nAd t.1) 12 β) b = tg G b := fun b => rfl
  have hCO1 : ∀ b, CO G b → CO (si G (nAd t.1) 12 β) b := fun b hb => hb
  have oat1 : tg (si G (nAd t.1) 12 β) (nAd t.1) = 1 := oa.1.1
  generalize si G (nAd t.1) 12 β = G1 at *
  have hw1 := WE_Fq hw hF1 (fun b hb => by rw [List.mem_singleton.mp hb]; omega)
  refine x_invV (q := 19) (as := [.inr (.inr (some (nAd t.1))), .inr (.inr (some 16))]) (rest := []) dX3_bringUp_16 rfl l_3_93 m_X1_isOld rfl rfl oat1 (Nat.le_of_ble_eq_true rfl) (CX.up (d := 0 + 2) (by omega) (c_isOldC 0 (hCO1 _ oa.1) hw1.1.2.2.2.2.2.2.2.2.2.1 hw1.1.2.2.2.2.2.2.2.2.2.2.1)) (fun r1 G2 hR => ?_)
  obtain ⟨hG2, z, rfl, hz1, hz2⟩ := hR
  replace hG2 := hG2.symm
  subst hG2
  rw [show iv G1 (nAd t.1) 6 = nM t.1 from (hG1 _ 6 (by omega)).trans n6, isOldN_held (h := h) (c := c) (fun i i0 i1 hi => (hG1 _ i (by omega)).trans (n10 i i0 i1 hi)) hw1.2.2.2.2.2.2.1] at hz2
  have hkp : ∀ p ∈ t.2, ∀ b ∈ adL d p, CO G1 b ∧ (∀ k, iv G1 b k = iv G b k) ∧ (∀ k, rv G1 b k = rv G b k) ∧ ∀ k, iv G1 (b + 1) k = iv G (b + 1) k := fun p hp b hb => by
    have hbm : b ∈ adLs d t.2 := List.mem_flatMap.mpr ⟨p, hp, hb⟩
    have ob := hok b (List.mem_append_left _ (List.mem_cons_of_mem _ hbm))
    have hba : b ≠ nAd t.1 := fun e => hna (List.mem_append_left _ (e ▸ hbm))
    refine ⟨hCO1 b ob.1, fun k => hG1 b k (fun z => hba z.1), fun k => hR1 b k, fun k => hG1 _ k (fun z => ?_)⟩
    have h1 := oa.1.1
    rw [← z.1, ob.1.2.2.1] at h1; omega
  have hps1 : ∀ p ∈ t.2, TA G1 h (β - 1) d (ns + 1) p ∧ Gd P d p := fun p hp => ⟨TA_same _ _ p (ht.2.2 p hp) (hkp p hp), hgd.2 p hp⟩
  have hch8 : Chn G1 (rv G1 (nAd t.1) 8) (t.2.map (aRt d)) := by rw [hR1]; exact Chn_kept _ _ ht.2.1 (fun b _ => hR1 b 10)
  have hch1 : Chn G1 (rv G1 28 0) fs := by rw [hR1]; exact Chn_kept _ _ hch (fun b _ => hR1 b 10)
  have hok1 : OkA G1 (adL (d + 1) t ++ fs) := OkA_Fq hF1 hok
  have hok1p : OkA G1 (adLs d t.2 ++ fs) := fun b hb => hok1 b (List.mem_cons_of_mem _ hb)
  have hct1 : Ct mk κ G1 := ⟨(hG1 mk 6 (by omega)).trans hct.1, (hG1 mk 7 (by omega)).trans hct.2.1, (hG1 mk 8 (by omega)).trans hct.2.2.1, (hG1 mk 9 (by omega)).trans hct.2.2.2⟩
  have htp1 : iv G1 mk 3 = tp := (hG1 mk 3 (by omega)).trans htp
  have hFa : Fq mk sk tp (adL (d + 1) t ++ fs) G G1 := hF1.mono (fun b hb => Or.inl (by rw [List.mem_singleton.mp hb]; exact List.mem_append_left _ (List.mem_cons_self ..))) (Int.le_refl _)
  have hnm : nM (nad (d + 1) t).1 = nM t.1 := rfl
  refine Ex.stk (st' := [.inl z]) rfl ?_
  refine x_if_ne (q := 22) (t := 30) dX3_bringUp_19 rfl (by decide) (fun h19 => ?_) (fun h19 => ?_)
  · have hold := hz2.mp (hz1.resolve_left h19)
    have em : (t.2.map (fun p => (false, p))).map (fun q : Bool × Tr d => aRt d q.2) = t.2.map (aRt d) := by rw [List.map_map]; rfl
    have es : (t.2.map (fun p => (false, p))).map (Prod.snd : Bool × Tr d → Tr d) = t.2 := by rw [List.map_map, show (Prod.snd : Bool × Tr d → Tr d) ∘ (fun p => (false, p)) = id from rfl, List.map_id]
    have en : (t.2.map (fun p => (false, p))).map (nq d) = (t.2.map (nad d)).map (fun p => (false, p)) := by rw [List.map_map, List.map_map]; rfl
    refine br_30 (rm := t.2.map (fun p => (false, p))) (κ2 := κ) (fs2 := fs) (cr2 := 0) hP hc hpg hWp hgd t00 htt hns hw1 ((hG1 _ 0 (by omega)).trans n0) ((hG1 _ 1 (by omega)).trans n1) ((hG1 _ 3 (by omega)).trans n3) ((hG1 _ 4 (by omega)).trans n4) ((hG1 _ 5 (by omega)).trans n5) hI12 (by rw [em]; exact hch8) (fun q hq => by
      obtain ⟨p, hp, rfl⟩ := List.mem_map.mp hq
      exact ⟨⟨(fun e => by cases e), fun _ => (hps1 p hp).1⟩, (hps1 p hp).2⟩) hch1 (by rw [es]; exact hok1) (by rw [es]; exact hnd) (by rw [es]; exact fun b hb => Or.inl hb) hct1 htp1 hFa hs1.1 hs1.2 (by rw [es]; rfl) (by show (0 : Int) ≤ _; omega) (hR1 _ 10) ?_
    rw [brT_eq P h c d (nad (d + 1) t) κ hold, en]
    rfl
  · refine x_aload_n (q := 23) dX3_bringUp_22 rfl rfl ?_
    refine x_aload_n (q := 24) dX3_bringUp_23 rfl rfl ?_
    refine x_invV (q := 27) (as := [.inr (.inr (some mk)), .inr (.inr (some (nAd t.1)))]) (rest := []) dX3_bringUp_24 rfl l_3_97 m_X3_isAnyPartOtherwise rfl rfl hw1.1.1 (Nat.le_of_ble_eq_true rfl) (CX.up (d := 30 * d + 4) (by omega) (hAny G1 (nAd t.1) t.2 ns κ fs tp hw1 (hCO1 _ oa.1) ((hG1 _ 5 (by omega)).trans n5) hch8 hps1 hch1 hok1p hndp hct1 htp1 t00 htt hns)) (fun r1 G2 hR => ?_)
    obtain ⟨z2, bs, rs, fs2, cr2, rfl, y1, y2, y3, y4, y5, ⟨a1, a2, a3, a4, a5, a6, a7, a8, a9, a10, ⟨a11, a12, a13, a14⟩, a15⟩, y7⟩ := hR
    have hno : ¬ isOldN h c (nM (nad (d + 1) t).1) = true := fun q => by have := hz2.mpr q; omega
    have hbT := brT_no P h c d (nad (d + 1) t) κ hno
    rw [show (nad (d + 1) t).2 = t.2.map (nad d) from rfl] at hbT
    have hOA1 : OkA G1 (adLs d t.2 ++ fs) := hok1p
    obtain ⟨r1a, r2a, r3a⟩ := Fq_hi a10 hOA1 hms (hCO1 _ oa.1) (by omega) (by rw [hs1.1]; exact oa.2.2) hna
    have hCO2 : CO G2 (nAd t.1) := CO_Fq a10 (hCO1 _ oa.1) (by rw [hs1.1]; exact oa.2.2)
    have hchp : Chn G2 (rv G2 (nAd t.1) 8) ((bs ++ rs).map (aRt d)) := by
      rw [r2a, y7]
      refine Chn_kept _ _ hch8 (fun b hb => ?_)
      rw [← y7] at hb
      obtain ⟨p, hp, rfl⟩ := List.mem_map.mp hb
      exact a15 p hp
    have hoka : OkA G2 (nAd t.1 :: (adLs d bs ++ (adLs d rs ++ fs2))) := fun b hb => by
      rcases List.mem_cons.mp hb with rfl | hb
      · exact ⟨hCO2, oa.2.1, by have := a10.1; rw [hs1.1] at this; omega⟩
      · exact a5 b hb
    have hnda : (nAd t.1 :: (adLs d bs ++ (adLs d rs ++ fs2))).Nodup := List.nodup_cons.mpr ⟨fun q => by
      rcases a7 _ q with g | g
      · exact hna g
      · rw [hs1.1] at g; omega, a6⟩
    have hsub2 : ∀ b ∈ nAd t.1 :: (adLs d bs ++ (adLs d rs ++ fs2)), b ∈ adL (d + 1) t ++ fs ∨ sz G < b := fun b hb => by
      rcases List.mem_cons.mp hb with rfl | hb
      · exact Or.inl (List.mem_append_left _ (List.mem_cons_self ..))
      · rcases a7 b hb with g | g
        · exact Or.inl (List.mem_cons_of_mem _ g)
        · rw [hs1.1] at g; exact Or.inr g
    have hFb : Fq mk sk tp (adL (d + 1) t ++ fs) G G2 := hFa.trans a10 (fun b hb => Or.inl (List.mem_cons_of_mem _ hb)) (Int.le_refl _)
    have hlen2 : (nAd t.1 :: (adLs d bs ++ (adLs d rs ++ fs2))).length = (adL (d + 1) t ++ fs).length + cr2 := by
      rw [List.length_cons, a13]
      show (adLs d t.2 ++ fs).length + cr2 + 1 = (nAd t.1 :: (adLs d t.2 ++ fs)).length + cr2
      rw [List.length_cons]; omega
    refine Ex.stk (st' := [.inl z2]) rfl ?_
    refine x_if_eq (q := 30) (t := 45) dX3_bringUp_27 rfl (by decide) (fun h27 => ?_) (fun h27 => ?_)
    · refine x_vret dX3_bringUp_45 rfl ?_
      have hrs := y5 h27
      subst hrs
      have hy : ¬ (brLs P h c d (t.2.map (nad d)) κ).2.2.1 = true := fun q => by have := y4.mpr q; omega
      have hbT2 : brT P h c d (nad (d + 1) t) κ = (mkN d (nad (d + 1) t).1 (brLs P h c d (t.2.map (nad d)) κ).1, (brLs P h c d (t.2.map (nad d)) κ).2.2.2) := by rw [hbT, noQ, if_neg hy]
      have hnoc : ∀ i, 0 ≤ i → i < 8 → rb (nM t.1) i = 1 → h i = c i := fun i i0 i1 hi => by
        by_cases he : h i = c i
        · exact he
        · exact absurd (isOldN_iff.mpr ⟨i, i0, i1, hi, he⟩) hno
      rw [hbT2]
      refine ⟨rfl, mkN d t.1 bs, fs2, cr2, ?_, ⟨⟨⟨hCO2, (r1a 0).trans ((hG1 _ 0 (by omega)).trans n0), (r1a 1).trans ((hG1 _ 1 (by omega)).trans n1), (r1a 2).trans ((hG1 _ 2 (by omega)).trans n2), (r1a 3).trans ((hG1 _ 3 (by omega)).trans n3), (r1a 4).trans ((hG1 _ 4 (by omega)).trans n4), (r1a 5).trans ((hG1 _ 5 (by omega)).trans n5), (r1a 6).trans ((hG1 _ 6 (by omega)).trans n6), by show iv G2 (nAd t.1) 12 ≤ β; rw [r1a 12, hI12]; exact Int.le_refl _, fun i i0 i1 hi => ?_⟩, ?_, fun p hp => (a2 p hp).1⟩, hFb, a4, fun b hb => hoka b hb, hnda, hsub2, a8, a9, by rw [a11, hs1.1], by rw [a12, hs1.2], hlen2, a14⟩, rfl, (r2a 10).trans (hR1 _ 10), (r1a 12).trans hI12⟩
      · show ((0, t.1.2), bs.map (nad d)) = _
        rw [y2]; rfl
      · show iv G2 (nAd t.1 + 1) i = c i
        rw [r3a i, hG1 _ i (by omega), ← hnoc i i0 i1 hi]; exact n10 i i0 i1 hi
      · rw [List.append_nil] at hchp; exact hchp
    · have hy := y4.mp (y1.resolve_left h27)
      have em : (bs.map (fun p => (true, p)) ++ rs.map (fun p => (false, p))).map (fun q : Bool × Tr d => aRt d q.2) = (bs ++ rs).map (aRt d) := by rw [List.map_append, List.map_append, List.map_map, List.map_map]; rfl
      have es : (bs.map (fun p => (true, p)) ++ rs.map (fun p => (false, p))).map (Prod.snd : Bool × Tr d → Tr d) = bs ++ rs := by rw [List.map_append, List.map_map, List.map_map, show (Prod.snd : Bool × Tr d → Tr d) ∘ (fun p => (false, p)) = id from rfl, show (Prod.snd : Bool × Tr d → Tr d) ∘ (fun p => (true, p)) = id from rfl, List.map_id, List.map_id]
      have en : (bs.map (fun p => (true, p)) ++ rs.map (fun p => (false, p))).map (nq d) = (bs.map (nad d)).map (fun p => (true, p)) ++ (rs.map (nad d)).map (fun p => (false, p)) := by rw [List.map_append, List.map_map, List.map_map, List.map_map, List.map_map]; rfl
      have ea : nAd t.1 :: (adLs d (bs ++ rs) ++ fs2) = nAd t.1 :: (adLs d bs ++ (adLs d rs ++ fs2)) := by rw [adLs_app, List.append_assoc]
      refine br_30 (rm := bs.map (fun p => (true, p)) ++ rs.map (fun p => (false, p))) (κ2 := (brLs P h c d (t.2.map (nad d)) κ).2.2.2) (fs2 := fs2) (cr2 := cr2) hP hc hpg hWp hgd t00 htt hns a1 ((r1a 0).trans ((hG1 _ 0 (by omega)).trans n0)) ((r1a 1).trans ((hG1 _ 1 (by omega)).trans n1)) ((r1a 3).trans ((hG1 _ 3 (by omega)).trans n3)) ((r1a 4).trans ((hG1 _ 4 (by omega)).trans n4)) ((r1a 5).trans ((hG1 _ 5 (by omega)).trans n5)) ((r1a 12).trans hI12) (by rw [em]; exact hchp) (fun q hq => by
        rcases List.mem_append.mp hq with hq | hq
        · obtain ⟨p, hp, rfl⟩ := List.mem_map.mp hq
          exact ⟨⟨fun _ => ⟨(a2 p hp).1, (a2 p hp).2.1⟩, fun e => by cases e⟩, (a2 p hp).2.2⟩
        · obtain ⟨p, hp, rfl⟩ := List.mem_map.mp hq
          exact ⟨⟨(fun e => by cases e), fun _ => (a3 p hp).1⟩, (a3 p hp).2⟩) a4 (by rw [es, ea]; exact hoka) (by rw [es, ea]; exact hnda) (by rw [es, ea]; exact hsub2) a8 a9 hFb (by rw [a11, hs1.1]) (by rw [a12, hs1.2]) (by rw [es, ea]; exact hlen2) a14 ((r2a 10).trans (hR1 _ 10)) ?_
      rw [hbT, noQ, if_pos hy, en, y2, y3]
      rfl
/-- all levels -/
theorem all_lv {mk sk pa : Nat} {P : Pg} {st vl ss : Int → Int} {N : Int} {h c : Int → Int} {β : Int} (hP : Pok P) (hc : Cok c) (hpg : PgC P st vl ss N) (hβ : 0 ≤ β) : ∀ d, MkC mk sk pa P st vl ss N c β d ∧ BrC mk sk pa P st vl ss N h c β d := by
  intro d
  induction d with
  | zero => exact ⟨mk_of hP hc hpg hβ (wpA_zero (h := h)), br_of hP hc hpg wpA_zero any_zero⟩
  | succ d ih =>
    have hW : WpA mk sk pa P st vl ss N h c β (d + 1) := wpA_succ hP hc ih.1 ih.2
    exact ⟨mk_of hP hc hpg hβ hW, br_of hP hc hpg hW (any_succ hP hc ih.2)⟩
