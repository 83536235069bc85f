/-! THE CLASS: parts brought, bringUp -/
def brLs (P : Pg) (h c : Int → Int) : (d : Nat) → List (Tr d) → Kt → List (Tr d) × List (Tr d) × Bool × Kt
  | 0, _, κ => ([], [], false, κ)
  | d + 1, l, κ => brL (brT P h c d) l κ
/-- the call t when its parts were brought as q says -/
def noQ (P : Pg) (h c : Int → Int) (d : Nat) (t : Tr (d + 1)) (q : List (Tr d) × List (Tr d) × Bool × Kt) : Tr (d + 1) × Kt := if q.2.2.1 = true then (mkN d (nAd t.1, nF t.1, nX t.1, (doS P h c d (nF t.1) (nX t.1) (q.1.map (fun p => (true, p)) ++ q.2.1.map (fun p => (false, p))) (q.2.2.2.1, q.2.2.2.2.1, q.2.2.2.2.2.1 + 1, q.2.2.2.2.2.2)).1, (doS P h c d (nF t.1) (nX t.1) (q.1.map (fun p => (true, p)) ++ q.2.1.map (fun p => (false, p))) (q.2.2.2.1, q.2.2.2.2.1, q.2.2.2.2.2.1 + 1, q.2.2.2.2.2.2)).2.1, nN t.1, nD t.1 + 1) (doS P h c d (nF t.1) (nX t.1) (q.1.map (fun p => (true, p)) ++ q.2.1.map (fun p => (false, p))) (q.2.2.2.1, q.2.2.2.2.1, q.2.2.2.2.2.1 + 1, q.2.2.2.2.2.2)).2.2.1, gon (doS P h c d (nF t.1) (nX t.1) (q.1.map (fun p => (true, p)) ++ q.2.1.map (fun p => (false, p))) (q.2.2.2.1, q.2.2.2.2.1, q.2.2.2.2.2.1 + 1, q.2.2.2.2.2.2)).2.2.2.1 (doS P h c d (nF t.1) (nX t.1) (q.1.map (fun p => (true, p)) ++ q.2.1.map (fun p => (false, p))) (q.2.2.2.1, q.2.2.2.2.1, q.2.2.2.2.2.1 + 1, q.2.2.2.2.2.2)).2.2.2.2) else (mkN d t.1 q.1, q.2.2.2)
theorem brT_no (P : Pg) (h c : Int → Int) (d : Nat) (t : Tr (d + 1)) (κ : Kt) (ho : ¬ isOldN h c (nM t.1) = true) : brT P h c d t κ = noQ P h c d t (brLs P h c d t.2 κ) := by
  cases d with
  | zero =>
    simp only [brT, brLs]
    rw [if_neg ho]
    have h0 : t.2 = [] := adLs0 t.2
    obtain ⟨n, l⟩ := t
    have h0 : l = [] := h0
    subst h0
    rfl
  | succ d =>
    have key : ∀ q : List (Tr (d + 1)) × List (Tr (d + 1)) × Bool × Kt, (match q with
      | (bs, rs, true, κ') => anT P c (anC P (brT P h c d) (mkT P c d)) t.1 (bs.map (fun p => (true, p)) ++ rs.map (fun p => (false, p))) κ'
      | (bs, _, false, κ') => (mkN (d + 1) t.1 bs, κ')) = noQ P h c (d + 1) t q := by
      rintro ⟨bs, rs, fl, κ'⟩
      cases fl <;> rfl
    simp only [brT]
    rw [if_neg ho]
    exact key _
theorem nd_re {K F F' : List Nat} {z : Nat} (h : (K ++ F).Nodup) (hz : ∀ b ∈ K ++ F, b ≤ z) (h1 : F'.Nodup) (h2 : ∀ b ∈ F', b ∈ F ∨ z < b) : (K ++ F').Nodup := by
  obtain ⟨g1, g2, g3⟩ := List.nodup_append.mp h
  refine List.nodup_append.mpr ⟨g1, h1, fun b hb e he q => ?_⟩
  subst q
  rcases h2 b he with r | r
  · exact g3 b hb b r rfl
  · have := hz b (List.mem_append_left _ hb); omega
/-- parts being brought -/
def AP (mk sk pa : Nat) (P : Pg) (st vl ss : Int → Int) (N : Int) (h c : Int → Int) (β : Int) (d : Nat) (ns : Int) (G0 : Hp) (A0 : List Nat) (n0 : Nat) (k0 tp : Int) (G : Hp) (bs l : List (Tr d)) (κ : Kt) (fs : List Nat) (cr : Nat) : Prop :=
  WE mk sk pa P st vl ss N c β G ∧ (∀ p ∈ bs, TA G c β d ns p ∧ iv G (aRt d p) 12 = β ∧ Gd P d p) ∧ (∀ p ∈ l, TA G h (β - 1) d ns p ∧ Gd P d p) ∧ Chn G (rv G 28 0) fs ∧ OkA G (adLs d bs ++ (adLs d l ++ fs)) ∧ (adLs d bs ++ (adLs d l ++ fs)).Nodup ∧ (∀ b ∈ adLs d bs ++ (adLs d l ++ fs), b ∈ A0 ∨ sz G0 < b) ∧ Ct mk κ G ∧ iv G mk 3 = tp ∧ Fq mk sk tp A0 G0 G ∧ (sz G = sz G0 + 2 * cr ∧ sl G = sl G0 + 23 * cr ∧ (adLs d bs ++ (adLs d l ++ fs)).length = n0 + cr ∧ (cr : Int) ≤ κ.2.1 - k0) ∧ ∀ p ∈ bs ++ l, rv G (aRt d p) 10 = rv G0 (aRt d p) 10
theorem AP_br {mk sk pa : Nat} {P : Pg} {st vl ss : Int → Int} {N : Int} {h c : Int → Int} {β : Int} {d : Nat} {ns : Int} {G0 : Hp} {A0 : List Nat} {n0 : Nat} {k0 tp : Int} {G : Hp} {bs l : List (Tr (d + 1))} {t : Tr (d + 1)} {κ : Kt} {fs : List Nat} {cr : Nat} (hA : AP mk sk pa P st vl ss N h c β (d + 1) ns G0 A0 n0 k0 tp G bs (t :: l) κ fs cr) {G' : Hp} {t' : Tr (d + 1)} {κ' : Kt} {fs' : List Nat} {cr' : Nat} (hp : PO mk sk c β d ns κ κ' tp (adL (d + 1) t) fs G G' t' fs' cr') (hgd : Gd P (d + 1) t') (hat : aRt (d + 1) t' = aRt (d + 1) t) (h10 : rv G' (aRt (d + 1) t) 10 = rv G (aRt (d + 1) t) 10) (h12 : iv G' (aRt (d + 1) t) 12 = β) : AP mk sk pa P st vl ss N h c β (d + 1) ns G0 A0 n0 k0 tp G' (bs ++ [t']) l κ' fs' (cr + cr') ∧ ∀ p ∈ l, ∀ b ∈ adL (d + 1) p, ∀ k, rv G' b k = rv G b k := by
  obtain ⟨a1, a2, a3, a4, a5, a6, a7, a8, a9, a10, ⟨a11, a12, a13, a14⟩, a15⟩ := hA
  obtain ⟨p1, p2, p3, p4, p5, p6, p7, p8, p9, p10, p11, p12⟩ := hp
  have hms := WE_ms a1
  have hpm : (adLs (d + 1) bs ++ (adLs (d + 1) (t :: l) ++ fs)).Perm ((adLs (d + 1) bs ++ adLs (d + 1) l) ++ (adL (d + 1) t ++ fs)) := by
    rw [adLs_cons, List.append_assoc (adLs (d + 1) bs), List.append_assoc (adL (d + 1) t)]
    refine List.Perm.append_left _ ?_
    rw [← List.append_assoc, ← List.append_assoc]
    exact List.Perm.append_right _ List.perm_append_comm
  have hpm' : (adLs (d + 1) (bs ++ [t']) ++ (adLs (d + 1) l ++ fs')).Perm ((adLs (d + 1) bs ++ adLs (d + 1) l) ++ (adL (d + 1) t' ++ fs')) := by
    rw [adLs_app, show adLs (d + 1) [t'] = adL (d + 1) t' from by simp [adLs], List.append_assoc, List.append_assoc (adLs (d + 1) bs)]
    refine List.Perm.append_left _ ?_
    rw [← List.append_assoc, ← List.append_assoc]
    exact List.Perm.append_right _ List.perm_append_comm
  have hnd := hpm.nodup_iff.mp a6
  obtain ⟨x1, x2, x3⟩ := List.nodup_append.mp hnd
  have hokF : OkA G (adL (d + 1) t ++ fs) := fun b hb => a5 b (hpm.mem_iff.mpr (List.mem_append_right _ hb))
  have hin : ∀ b ∈ adLs (d + 1) bs ++ adLs (d + 1) l, b ∈ adLs (d + 1) bs ++ (adLs (d + 1) (t :: l) ++ fs) := fun b hb => hpm.mem_iff.mpr (List.mem_append_left _ hb)
  have hk : ∀ b ∈ adLs (d + 1) bs ++ adLs (d + 1) l, CO G' b ∧ (∀ k, iv G' b k = iv G b k) ∧ (∀ k, rv G' b k = rv G b k) ∧ ∀ k, iv G' (b + 1) k = iv G (b + 1) k := fun b hb => by
    obtain ⟨o1, o2, o3⟩ := a5 b (hin b hb)
    obtain ⟨g1, g2, g3⟩ := Fq_hi p2 hokF hms o1 (by omega) o3 (fun q => x3 b hb b q rfl)
    exact ⟨CO_Fq p2 o1 o3, g1, g2, g3⟩
  have hb : ∀ p ∈ bs, ∀ b ∈ adL (d + 1) p, b ∈ adLs (d + 1) bs ++ adLs (d + 1) l := fun p hp b hb => List.mem_append_left _ (List.mem_flatMap.mpr ⟨p, hp, hb⟩)
  have hl : ∀ p ∈ l, ∀ b ∈ adL (d + 1) p, b ∈ adLs (d + 1) bs ++ adLs (d + 1) l := fun p hp b hb => List.mem_append_right _ (List.mem_flatMap.mpr ⟨p, hp, hb⟩)
  have hle : ∀ b ∈ (adLs (d + 1) bs ++ adLs (d + 1) l) ++ (adL (d + 1) t ++ fs), b ≤ sz G := fun b hb => by have := (a5 b (hpm.mem_iff.mpr hb)).2.2; omega
  have hsz := a10.1
  refine ⟨⟨WE_Fq a1 p2 (fun b hb => by have := (hokF b hb).2.1; omega), fun p hp => ?_, fun p hp => ⟨TA_same _ _ p (a3 p (List.mem_cons_of_mem _ hp)).1 (fun b hbm => hk b (hl p hp b hbm)), (a3 p (List.mem_cons_of_mem _ hp)).2⟩, p3, fun b hbm => ?_, hpm'.nodup_iff.mpr (nd_re hnd hle p5 p6), fun b hbm => ?_, p7, p8, a10.trans p2 (fun b hbm => a7 b (hpm.mem_iff.mpr (List.mem_append_right _ hbm))) (Int.le_refl _), ⟨by rw [p9, a11]; omega, by rw [p10, a12]; omega, ?_, by omega⟩, fun p hp => ?_⟩, fun p hp b hbm k => (hk b (hl p hp b hbm)).2.2.1 k⟩
  · rcases List.mem_append.mp hp with hp | hp
    · exact ⟨TA_same _ _ p (a2 p hp).1 (fun b hbm => hk b (hb p hp b hbm)), by rw [(hk _ (hb p hp _ (aRt_mem _ p))).2.1]; exact (a2 p hp).2.1, (a2 p hp).2.2⟩
    · rw [List.mem_singleton.mp hp]; exact ⟨p1, by rw [hat]; exact h12, hgd⟩
  · rcases List.mem_append.mp (hpm'.mem_iff.mp hbm) with q | q
    · exact OkA_Fq p2 a5 b (hin b q)
    · exact p4 b q
  · rcases List.mem_append.mp (hpm'.mem_iff.mp hbm) with q | q
    · exact a7 b (hin b q)
    · rcases p6 b q with r | r
      · exact a7 b (hpm.mem_iff.mpr (List.mem_append_right _ r))
      · exact Or.inr (by omega)
  · rw [hpm'.length_eq, List.length_append, p11]
    rw [hpm.length_eq, List.length_append] at a13
    omega
  · rcases List.mem_append.mp hp with hp | hp
    · rcases List.mem_append.mp hp with hp | hp
      · rw [(hk _ (hb p hp _ (aRt_mem _ p))).2.2.1]; exact a15 p (List.mem_append_left _ hp)
      · rw [List.mem_singleton.mp hp, hat, h10]; exact a15 t (List.mem_append_right _ (List.mem_cons_self ..))
    · rw [(hk _ (hl p hp _ (aRt_mem _ p))).2.2.1]; exact a15 p (List.mem_append_right _ (List.mem_cons_of_mem _ hp))
theorem any_loop {mk sk pa : Nat} {P : Pg} {st vl ss : Int → Int} {N : Int} {h c : Int → Int} {β : Int} {d : Nat} {ns : Int} {a : Nat} {G0 : Hp} {A0 : List Nat} {n0 : Nat} {k0 tp : Int} {Q : Option V → Hp → Prop} (hP : Pok P) (hc : Cok c) (hB : BrC mk sk pa P st vl ss N h c β d) (t00 : 0 ≤ tp) (htt : tp + 160 * ((d : Int) + 1) ≤ 960) (hns : ns + (d : Int) = 6) : ∀ (l bs : List (Tr (d + 1))) (G : Hp) (κ : Kt) (fs : List Nat) (cr : Nat) (r : Option Nat) (l3 : Option V), isL l3 = false → AP mk sk pa P st vl ss N h c β (d + 1) ns G0 A0 n0 k0 tp G bs l κ fs cr → Chn G r (l.map (aRt (d + 1))) → (∀ (z : Int) (Y rs' : List (Tr (d + 1))) (fs' : List Nat) (cr' : Nat) (G' : Hp), (z = 0 ∨ z = 1) → Y.map (nad (d + 1)) = (brL (brT P h c d) (l.map (nad (d + 1))) κ).1 → rs'.map (nad (d + 1)) = (brL (brT P h c d) (l.map (nad (d + 1))) κ).2.1 → (z = 1 ↔ (brL (brT P h c d) (l.map (nad (d + 1))) κ).2.2.1 = true) → (z = 0 → rs' = []) → AP mk sk pa P st vl ss N h c β (d + 1) ns G0 A0 n0 k0 tp G' (bs ++ Y) rs' ((brL (brT P h c d) (l.map (nad (d + 1))) κ).2.2.2) fs' cr' → (bs ++ Y ++ rs').map (aRt (d + 1)) = (bs ++ l).map (aRt (d + 1)) → Q (some (.inl z)) G') → Ex (30 * (d + 1) + 3) (some .boolean) 3 false cX3_isAnyPartOtherwise 16 [some (.inr (.inr (some mk))), some (.inr (.inr (some a))), some (.inr (.inr r)), l3] [] G Q := by
  intro l
  induction l with
  | nil =>
    intro bs G κ fs cr r l3 hl3 hA hr kk
    have hr : r = none := hr
    subst hr
    refine x_aload_n (q := 17) dX3_isAnyPartOtherwise_16 rfl rfl ?_
    refine x_ifnull (q := 20) (t := 48) dX3_isAnyPartOtherwise_17 rfl (by decide) (fun h17 => ?_) (fun a17 h17 => by exfalso; cases h17)
    refine x_iconst (q := 49) dX3_isAnyPartOtherwise_48 rfl (by decide) ?_
    refine x_zret dX3_isAnyPartOtherwise_49 rfl (by decide) ?_
    refine kk 0 [] [] fs cr G (Or.inl rfl) rfl rfl ⟨fun q => by omega, fun q => by cases q⟩ (fun _ => rfl) (by rw [List.append_nil]; exact hA) (by simp)
  | cons t l ih =>
    intro bs G κ fs cr r l3 hl3 hA hr kk
    obtain ⟨rfl, hr2⟩ := hr
    have hnl : noL [some (.inr (.inr (some mk))), some (.inr (.inr (some a))), some (.inr (.inr (some (aRt (d + 1) t)))), l3] = true := by simp [noL, isL] at hl3 ⊢; exact hl3
    have ht := hA.2.2.1 t (List.mem_cons_self ..)
    have hnd := hA.2.2.2.2.2.1
    rw [adLs_cons, List.append_assoc] at hnd
    obtain ⟨x1, x2, x3⟩ := List.nodup_append.mp hnd
    obtain ⟨x4, x5, x6⟩ := List.nodup_append.mp x2
    obtain ⟨x7, x8, x9⟩ := List.nodup_append.mp x5
    have hndF : (adL (d + 1) t ++ fs).Nodup := List.nodup_append.mpr ⟨x4, x8, fun b hb e he => x6 b hb e (List.mem_append_right _ he)⟩
    have hokF : OkA G (adL (d + 1) t ++ fs) := fun b hb => hA.2.2.2.2.1 b (List.mem_append_right _ (by
      rw [adLs_cons, List.append_assoc]
      rcases List.mem_append.mp hb with hb | hb
      · exact List.mem_append_left _ hb
      · exact List.mem_append_right _ (List.mem_append_right _ hb)))
    simp only [List.map_cons, brL] at kk
    refine x_aload_n (q := 17) dX3_isAnyPartOtherwise_16 rfl rfl ?_
    refine x_ifnull (q := 20) (t := 48) dX3_isAnyPartOtherwise_17 rfl (by decide) (fun h17 => by exfalso; cases h17) (fun a17 h17 => ?_)
    refine x_aload_n (q := 21) dX3_isAnyPartOtherwise_20 rfl rfl ?_
    refine x_getI (q := 24) dX3_isAnyPartOtherwise_21 rfl f_3_108 rfl (TA_rt _ _ _ ht.1).1.1 ?_
    refine Ex.stk (st' := [.inl (nV (rt (d + 1) t))]) (by rw [show iv G (aRt (d + 1) t) 2 = nV (rt (d + 1) t) from (TA_rt _ _ _ ht.1).2.2.2.1]) ?_
    refine x_istore_n (q := 25) (ls' := [some (.inr (.inr (some mk))), some (.inr (.inr (some a))), some (.inr (.inr (some (aRt (d + 1) t)))), some (.inl (nV (rt (d + 1) t)))]) dX3_isAnyPartOtherwise_24 rfl (Nat.le_of_ble_eq_true rfl) (by first | rfl | exact hnl | exact hnl2 _) rfl ?_
    refine x_aload_n (q := 26) dX3_isAnyPartOtherwise_25 rfl rfl ?_
    refine x_aload_n (q := 27) dX3_isAnyPartOtherwise_26 rfl rfl ?_
    refine x_invV (q := 30) (as := [.inr (.inr (some mk)), .inr (.inr (some (aRt (d + 1) t)))]) (rest := []) dX3_isAnyPartOtherwise_27 rfl l_3_55 m_X3_bringUp rfl rfl hA.1.1.1 (Nat.le_of_ble_eq_true rfl) (CX.up (d := 30 * (d + 1)) (by omega) (hB G t ns κ fs tp hA.1 ht.1 ht.2 hA.2.2.2.1 hokF hndF hA.2.2.2.2.2.2.2.1 hA.2.2.2.2.2.2.2.2.1 t00 htt hns)) (fun r1 G1 hR => ?_)
    obtain ⟨rfl, t', fs', cr', hnt, hpo, hat, h10, h12⟩ := hR
    have hgt : Gd P (d + 1) t' := (Gd_nad _ _).mp (hnt ▸ (Gd_all hP (h := h) hc d).2.2 _ _ ((Gd_nad _ _).mpr ht.2))
    have hv' : iv G1 (aRt (d + 1) t) 2 = nV (rt (d + 1) t') := by rw [← hat]; exact (TA_rt _ _ _ hpo.1).2.2.2.1
    have ht1 : tg G1 (aRt (d + 1) t) = 1 := by rw [← hat]; exact (TA_rt _ _ _ hpo.1).1.1
    obtain ⟨hA1, hkl⟩ := AP_br hA hpo hgt hat h10 h12
    have hvn : nV (rt (d + 1) (brT P h c d (nad (d + 1) t) κ).1) = nV (rt (d + 1) t') := by rw [← hnt]; exact (nad_rt _ _).2.2.1
    have hvo : nV (rt (d + 1) (nad (d + 1) t)) = nV (rt (d + 1) t) := (nad_rt _ _).2.2.1
    refine Ex.stk (st' := []) rfl ?_
    refine x_aload_n (q := 31) dX3_isAnyPartOtherwise_30 rfl rfl ?_
    refine x_getI (q := 34) dX3_isAnyPartOtherwise_31 rfl f_3_108 rfl ht1 ?_
    refine Ex.stk (st' := [.inl (nV (rt (d + 1) t'))]) (by rw [show iv G1 (aRt (d + 1) t) 2 = nV (rt (d + 1) t') from hv']) ?_
    refine x_iload_n (q := 35) dX3_isAnyPartOtherwise_34 rfl rfl ?_
    refine x_icmp_eq (q := 38) (t := 40) dX3_isAnyPartOtherwise_35 rfl (by decide) (fun h35 => ?_) (fun h35 => ?_)
    · refine x_aload_n (q := 41) dX3_isAnyPartOtherwise_40 rfl rfl ?_
      refine x_getR (q := 44) dX3_isAnyPartOtherwise_41 rfl f_3_111 rfl ht1 ?_
      refine x_astore_n (q := 45) (ls' := [some (.inr (.inr (some mk))), some (.inr (.inr (some a))), some (.inr (.inr (rv G1 (aRt (d + 1) t) 10))), some (.inl (nV (rt (d + 1) t)))]) dX3_isAnyPartOtherwise_44 rfl (Nat.le_of_ble_eq_true rfl) (by first | rfl | exact hnl | exact hnl2 _) rfl ?_
      refine x_goto (t := 16) dX3_isAnyPartOtherwise_45 (by decide) ?_
      rw [if_pos (by rw [hvn, hvo]; exact h35)] at kk
      refine ih (bs ++ [t']) G1 _ fs' (cr + cr') _ _ rfl hA1 ?_ (fun z Y rs' fs2 cr2 G2 z1 z2 z3 z4 z5 z6 z7 => ?_)
      · rw [h10]
        exact Chn_kept _ _ hr2 (fun b hb => by obtain ⟨p, hp, rfl⟩ := List.mem_map.mp hb; exact hkl p hp _ (aRt_mem _ p) 10)
      · refine kk z (t' :: Y) rs' fs2 cr2 G2 z1 ?_ z3 z4 z5 (by rw [show bs ++ t' :: Y = bs ++ [t'] ++ Y from by simp]; exact z6) ?_
        · show nad (d + 1) t' :: Y.map (nad (d + 1)) = _
          rw [z2, hnt]
        · rw [show bs ++ t' :: Y ++ rs' = bs ++ [t'] ++ Y ++ rs' from by simp, z7]
          simp only [List.map_append, List.map_cons, List.map_nil, hat, List.append_assoc, List.cons_append, List.nil_append]
    · refine x_iconst (q := 39) dX3_isAnyPartOtherwise_38 rfl (by decide) ?_
      refine x_zret dX3_isAnyPartOtherwise_39 rfl (by decide) ?_
      rw [if_neg (by rw [hvn, hvo]; exact h35)] at kk
      refine kk 1 [t'] l fs' (cr + cr') G1 (Or.inr rfl) ?_ rfl ⟨fun _ => rfl, fun _ => rfl⟩ (fun q => by omega) hA1 ?_
      · show [nad (d + 1) t'] = _
        rw [hnt]
      · simp only [List.map_append, List.map_cons, List.map_nil, hat, List.append_assoc, List.cons_append, List.nil_append]
/-- whether a part tells otherwise -/
def AnyC (mk sk pa : Nat) (P : Pg) (st vl ss : Int → Int) (N : Int) (h c : Int → Int) (β : Int) (d : Nat) : Prop := ∀ (G : Hp) (a : Nat) (ps : List (Tr d)) (ns : Int) (κ : Kt) (fs : List Nat) (tp : Int), WE mk sk pa P st vl ss N c β G → CO G a → iv G a 5 = ns → Chn G (rv G a 8) (ps.map (aRt d)) → (∀ p ∈ ps, TA G h (β - 1) d (ns + 1) p ∧ Gd P d p) → Chn G (rv G 28 0) fs → OkA G (adLs d ps ++ fs) → (adLs d ps ++ fs).Nodup → Ct mk κ G → iv G mk 3 = tp → 0 ≤ tp → tp + 160 * ((d : Int) + 1) ≤ 960 → ns + (d : Int) = 6 → CX (30 * d + 4) 32 [.inr (.inr (some mk)), .inr (.inr (some a))] G (fun r G' => ∃ (z : Int) (bs rs : List (Tr d)) (fs' : List Nat) (cr : Nat), r = some (.inl z) ∧ (z = 0 ∨ z = 1) ∧ bs.map (nad d) = (brLs P h c d (ps.map (nad d)) κ).1 ∧ rs.map (nad d) = (brLs P h c d (ps.map (nad d)) κ).2.1 ∧ (z = 1 ↔ (brLs P h c d (ps.map (nad d)) κ).2.2.1 = true) ∧ (z = 0 → rs = []) ∧ AP mk sk pa P st vl ss N h c β d (ns + 1) G (adLs d ps ++ fs) (adLs d ps ++ fs).length κ.2.1 tp G' bs rs (brLs P h c d (ps.map (nad d)) κ).2.2.2 fs' cr ∧ (bs ++ rs).map (aRt d) = ps.map (aRt d))
theorem AP_start {mk sk pa : Nat} {P : Pg} {st vl ss : Int → Int} {N : Int} {h c : Int → Int} {β : Int} {d : Nat} {ns : Int} {G : Hp} {ps : List (Tr d)} {κ : Kt} {fs : List Nat} {tp : Int} (hw : WE mk sk pa P st vl ss N c β G) (hps : ∀ p ∈ ps, TA G h (β - 1) d ns p ∧ Gd P d p) (hch : Chn G (rv G 28 0) fs) (hok : OkA G (adLs d ps ++ fs)) (hnd : (adLs d ps ++ fs).Nodup) (hct : Ct mk κ G) (htp : iv G mk 3 = tp) : AP mk sk pa P st vl ss N h c β d ns G (adLs d ps ++ fs) (adLs d ps ++ fs).length κ.2.1 tp G [] ps κ fs 0 :=
  ⟨hw, (fun p hp => by cases hp), hps, hch, hok, hnd, fun b hb => Or.inl hb, hct, htp, Fq.rf _ _ _ _ _, ⟨rfl, rfl, rfl, by show (0 : Int) ≤ _; omega⟩, fun p _ => rfl⟩
theorem any_zero {mk sk pa : Nat} {P : Pg} {st vl ss : Int → Int} {N : Int} {h c : Int → Int} {β : Int} : AnyC mk sk pa P st vl ss N h c β 0 := by
  intro G a ps ns κ fs tp hw hca h5 h8 hps hch hok hnd hct htp t00 htt hns
  have hp0 := adLs0 ps
  subst hp0
  refine CX.of (d := 3) m_X3_isAnyPartOtherwise (Nat.le_of_ble_eq_true rfl) ?_
  refine Ex.lcl (ls' := [some (.inr (.inr (some mk))), some (.inr (.inr (some a))), none, none]) rfl ?_
  refine x_aload_n (q := 1) dX3_isAnyPartOtherwise_0 rfl rfl ?_
  refine x_getI (q := 4) dX3_isAnyPartOtherwise_1 rfl f_3_101 rfl hca.1 ?_
  refine Ex.stk (st' := [.inl ns]) (by rw [show iv G a 5 = ns from h5]) ?_
  refine x_bipush (q := 6) dX3_isAnyPartOtherwise_4 rfl (by decide) ?_
  refine x_icmp_lt (q := 9) (t := 11) dX3_isAnyPartOtherwise_6 rfl (by decide) (fun h6 => by exfalso; omega) (fun h6 => ?_)
  refine x_iconst (q := 10) dX3_isAnyPartOtherwise_9 rfl (by decide) ?_
  refine x_zret dX3_isAnyPartOtherwise_10 rfl (by decide) ?_
  exact ⟨0, [], [], fs, 0, rfl, Or.inl rfl, rfl, rfl, ⟨fun q => by omega, fun q => by cases q⟩, fun _ => rfl, AP_start hw hps hch hok hnd hct htp, rfl⟩
theorem any_succ {mk sk pa : Nat} {P : Pg} {st vl ss : Int → Int} {N : Int} {h c : Int → Int} {β : Int} {d : Nat} (hP : Pok P) (hc : Cok c) (hB : BrC mk sk pa P st vl ss N h c β d) : AnyC mk sk pa P st vl ss N h c β (d + 1) := by
  intro G a ps ns κ fs tp hw hca h5 h8 hps hch hok hnd hct htp t00 htt hns
  refine CX.of (d := 30 * (d + 1) + 3) m_X3_isAnyPartOtherwise (Nat.le_of_ble_eq_true rfl) ?_
  refine Ex.lcl (ls' := [some (.inr (.inr (some mk))), some (.inr (.inr (some a))), none, none]) rfl ?_
  refine x_aload_n (q := 1) dX3_isAnyPartOtherwise_0 rfl rfl ?_
  refine x_getI (q := 4) dX3_isAnyPartOtherwise_1 rfl f_3_101 rfl hca.1 ?_
  refine Ex.stk (st' := [.inl ns]) (by rw [show iv G a 5 = ns from h5]) ?_
  refine x_bipush (q := 6) dX3_isAnyPartOtherwise_4 rfl (by decide) ?_
  refine x_icmp_lt (q := 9) (t := 11) dX3_isAnyPartOtherwise_6 rfl (by decide) (fun h6 => ?_) (fun h6 => by exfalso; omega)
  refine x_aload_n (q := 12) dX3_isAnyPartOtherwise_11 rfl rfl ?_
  refine x_getR (q := 15) dX3_isAnyPartOtherwise_12 rfl f_3_104 rfl hca.1 ?_
  refine x_astore_n (q := 16) (ls' := [some (.inr (.inr (some mk))), some (.inr (.inr (some a))), some (.inr (.inr (rv G a 8))), none]) dX3_isAnyPartOtherwise_15 rfl (Nat.le_of_ble_eq_true rfl) (by first | rfl | exact hnl | exact hnl2 _) rfl ?_
  refine any_loop hP hc hB t00 (by omega) (by omega) ps [] G κ fs 0 _ none rfl (AP_start hw hps hch hok hnd hct htp) h8 (fun z Y rs' fs' cr' G' z1 z2 z3 z4 z5 z6 z7 => ?_)
  exact ⟨z, Y, rs', fs', cr', rfl, z1, z2, z3, z4, z5, z6, z7⟩
