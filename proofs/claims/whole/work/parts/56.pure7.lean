/-! Pure: bringing is matching, all levels -/
theorem PM_succ {P : Pg} (hP : Pok P) {h c : Int → Int} (hc : Cok c) {d : Nat} (hB : PB P h c d) (hM : PM P h c d) : PM P h c (d + 1) := by
  intro f x κ l f0 f1 x0 x1 hk
  rw [(mkT_doS hP h hc (d + 1) f x κ f0 f1 x0 x1).1.1, doS_fold hP hc hB hM f0 f1 x0 x1 (rem := []) (fun q hq => by cases hq)]
  have e := fr_rt P c (d + 1) f x
  have hps := fr_parts hP hc d f0 f1 x0 x1
  obtain ⟨g1, g2, g3, g4⟩ := fold_up hB hM (fr P c (d + 1) f x).2 [] [] (κ.1 + 1, κ.2.1 + 1, κ.2.2) (l.1 + 1, l.2.1 + 1, l.2.2) hps (fun o ho => by cases ho) (by show κ.1 + 1 = l.1 + 1; omega)
  obtain ⟨g5, g6⟩ := g4 rfl
  change (List.foldl (stS P h c (d + 1)) ([], [], κ.1 + 1, κ.2.1 + 1, κ.2.2) (fr P c (d + 1) f x).2).1 = _ at g1
  change Rel _ (List.foldl (stS P h c (d + 1)) ([], [], κ.1 + 1, κ.2.1 + 1, κ.2.2) (fr P c (d + 1) f x).2).2.2 _ _ at g2
  change (List.foldl (stS P h c (d + 1)) ([], [], κ.1 + 1, κ.2.1 + 1, κ.2.2) (fr P c (d + 1) f x).2).2.2.2.2.2 + tszR (List.foldl (stS P h c (d + 1)) ([], [], κ.1 + 1, κ.2.1 + 1, κ.2.2) (fr P c (d + 1) f x).2).2.1 = κ.2.2.2 + ((0 : Nat) : Int) - _ + ((List.foldl (stS P h c (d + 1)) ([], [], κ.1 + 1, κ.2.1 + 1, κ.2.2) (fr P c (d + 1) f x).2).2.2.2.1 - (κ.2.1 + 1)) at g3
  change (List.foldl (stS P h c (d + 1)) ([], [], κ.1 + 1, κ.2.1 + 1, κ.2.2) (fr P c (d + 1) f x).2).2.1 = [] at g5
  change (List.foldl (stS P h c (d + 1)) ([], [], κ.1 + 1, κ.2.1 + 1, κ.2.2) (fr P c (d + 1) f x).2).2.2.2.2.2 = κ.2.2.2 at g6
  rw [g5, show tszR ([] : List (Bool × Tr (d + 1))) = 0 from rfl] at g3
  generalize List.foldl (stS P h c (d + 1)) ([], [], κ.1 + 1, κ.2.1 + 1, κ.2.2) (fr P c (d + 1) f x).2 = S at *
  have hu : upT h c (d + 1 + 1) none (fr P c (d + 1) f x) l = (mkN (d + 1) (0, f, x, nV (fr P c (d + 1) f x).1, nM (fr P c (d + 1) f x).1, l.1, 1) (upL (upT h c (d + 1)) [] (fr P c (d + 1) f x).2 (l.1 + 1, l.2.1 + 1, l.2.2)).1, (upL (upT h c (d + 1)) [] (fr P c (d + 1) f x).2 (l.1 + 1, l.2.1 + 1, l.2.2)).2) := by
    rw [upT]
    rw [show nF (fr P c (d + 1) f x).1 = f from e.1, show nX (fr P c (d + 1) f x).1 = x from e.2]
  rw [hu]
  obtain ⟨r1, r2, r3⟩ := g2
  dsimp only at r1 r2 r3 g1 ⊢
  refine ⟨by rw [g1, hk]; rfl, ⟨r1, by omega, by omega⟩, g6, ?_⟩
  rw [tsz_eq]; omega
theorem split_map {α β : Type} {g : α → β} : ∀ (l : List α) (p : List β) (o : β) (r : List β), l.map g = p ++ o :: r → ∃ p0 o0 r0, l = p0 ++ o0 :: r0 ∧ p0.map g = p ∧ g o0 = o ∧ r0.map g = r := by
  intro l
  induction l with
  | nil => intro p o r h; cases p <;> cases h
  | cons a l ih =>
    intro p o r h
    cases p with
    | nil =>
      rw [List.map_cons, List.nil_append] at h
      obtain ⟨h1, h2⟩ := List.cons.inj h
      exact ⟨[], a, l, rfl, rfl, h1, h2⟩
    | cons b p =>
      rw [List.map_cons, List.cons_append] at h
      obtain ⟨h1, h2⟩ := List.cons.inj h
      obtain ⟨p0, o0, r0, e1, e2, e3, e4⟩ := ih p o r h2
      exact ⟨a :: p0, o0, r0, by rw [e1]; rfl, by rw [List.map_cons, h1, e2], e3, e4⟩
theorem PB_succ {P : Pg} (hP : Pok P) {h c : Int → Int} (hh : Cok h) (hc : Cok c) {d : Nat} (hB : PB P h c d) (hM : PM P h c d) : PB P h c (d + 1) := by
  intro t κ l hn hk hl
  obtain ⟨ha, hnp⟩ := nad_0 hn
  obtain ⟨hz, f0, f1, x0, x1⟩ := hk
  have hk : Kp P h (d + 1) t := ⟨hz, f0, f1, x0, x1⟩
  have hkp := Kp_parts hP hh hk
  have ho : ∀ o ∈ t.2, Kp P h d o ∧ nad (d + 1) o = o := fun o hom => ⟨hkp o hom, hnp o hom⟩
  have e := fr_rt P c (d + 1) (nF t.1) (nX t.1)
  have hps := fr_parts hP hc d f0 f1 x0 x1
  have hs : (tsz (d + 1 + 1) t : Int) = 1 + (tszL (d + 1) t.2 : Int) := by rw [tsz_eq]; omega
  have hs2 : (tsz (d + 1 + 1) (fr P c (d + 1) (nF t.1) (nX t.1)) : Int) = 1 + (tszL (d + 1) (fr P c (d + 1) (nF t.1) (nX t.1)).2 : Int) := by rw [tsz_eq]; omega
  rw [hs, hs2]
  have hup : ∀ b, anewB h c (d + 1) t (fr P c (d + 1) (nF t.1) (nX t.1)) = b → upT h c (d + 1 + 1) (some t) (fr P c (d + 1) (nF t.1) (nX t.1)) l = (mkN (d + 1) (0, nF t.1, nX t.1, nV (fr P c (d + 1) (nF t.1) (nX t.1)).1, nM (fr P c (d + 1) (nF t.1) (nX t.1)).1, nN t.1, nD t.1 + (if b = true then 1 else 0)) (upL (upT h c (d + 1)) t.2 (fr P c (d + 1) (nF t.1) (nX t.1)).2 (l.1, l.2.1, l.2.2 + (if b = true then 1 else 0))).1, (upL (upT h c (d + 1)) t.2 (fr P c (d + 1) (nF t.1) (nX t.1)).2 (l.1, l.2.1, l.2.2 + (if b = true then 1 else 0))).2) := by
    intro b hb
    rw [upT, hb, show nF (fr P c (d + 1) (nF t.1) (nX t.1)).1 = nF t.1 from e.1, show nX (fr P c (d + 1) (nF t.1) (nX t.1)).1 = nX t.1 from e.2]
  by_cases hold : isOldN h c (nM t.1) = true
  · have han : anewB h c (d + 1) t (fr P c (d + 1) (nF t.1) (nX t.1)) = true := by unfold anewB; rw [hold]; rfl
    rw [brT_eq P h c (d + 1) t κ hold, hup true han, if_pos rfl, ha]
    rw [doS_fold hP hc hB hM f0 f1 x0 x1 (rem := t.2.map (fun p => (false, p))) (fun q hq => by
      obtain ⟨p, hp, rfl⟩ := List.mem_map.mp hq
      exact ⟨(fun z => by cases z), fun _ => ho p hp⟩)]
    obtain ⟨g1, g2, g3, -⟩ := fold_up hB hM (fr P c (d + 1) (nF t.1) (nX t.1)).2 t.2 [] (κ.1, κ.2.1, κ.2.2.1 + 1, κ.2.2.2) (l.1, l.2.1, l.2.2 + 1) hps ho hl
    dsimp only at g1 g2 g3 ⊢
    generalize List.foldl (stS P h c (d + 1)) ([], t.2.map (fun p => (false, p)), κ.1, κ.2.1, κ.2.2.1 + 1, κ.2.2.2) (fr P c (d + 1) (nF t.1) (nX t.1)).2 = S at *
    obtain ⟨c1, c2, c3, c4⟩ := gon_c S.2.1 S.2.2
    obtain ⟨r1, r2, r3⟩ := g2
    dsimp only at r1 r2 r3
    refine ⟨by rw [g1]; rfl, ⟨by rw [c1]; exact r1, by rw [c2]; omega, by rw [c3]; omega⟩, ?_⟩
    rw [c4, c2]; omega
  · have hv := Kp_nV hk
    have hfd := fr_fd hP hh hc (d + 1) f0 f1 x0 x1 (by rw [← hv.2.1]; exact hold)
    rw [brT_no P h c (d + 1) t κ hold]
    change (noQ P h c (d + 1) t (brL (brT P h c d) t.2 κ)).1 = _ ∧ Rel κ (noQ P h c (d + 1) t (brL (brT P h c d) t.2 κ)).2 l _ ∧ (noQ P h c (d + 1) t (brL (brT P h c d) t.2 κ)).2.2.2.2 = _ + ((noQ P h c (d + 1) t (brL (brT P h c d) t.2 κ)).2.2.1 - _)
    rcases hfd with ⟨s1, s2, s3⟩ | hdif
    · rw [← hv.2.2, k3_zap] at s3
      have han : anewB h c (d + 1) t (fr P c (d + 1) (nF t.1) (nX t.1)) = false := by
        unfold anewB
        rw [difL_same _ _ s3, Bool.or_false]
        simpa using hold
      obtain ⟨B, κ1, l1, i1, i2, i3, i4, i5, i6⟩ := pre_up hP hc hB t.2 (fr P c (d + 1) (nF t.1) (nX t.1)).2 κ (l.1, l.2.1, l.2.2 + 0) s3 ho hps hl
      have j1 := i1 []
      have j2 := i2 [] []
      rw [List.append_nil] at j1 j2
      rw [List.append_nil] at j2
      have j1 : brL (brT P h c d) t.2 κ = (B, [], false, κ1) := by rw [j1]; show (B ++ [], [], false, κ1) = _; rw [List.append_nil]
      have j2 : upL (upT h c (d + 1)) t.2 (fr P c (d + 1) (nF t.1) (nX t.1)).2 (l.1, l.2.1, l.2.2 + 0) = (B, l1) := by rw [j2]; show (B ++ [], l1) = _; rw [List.append_nil]
      have hno : noQ P h c (d + 1) t (brL (brT P h c d) t.2 κ) = (mkN (d + 1) t.1 B, κ1) := by rw [j1]; rfl
      rw [hno, hup false han, if_neg (by decide), j2]
      have hnode := Kp_node (c := c) hk ha (hv.1.trans s1) (hv.2.1.trans s2)
      rw [show nF (fr P c (d + 1) (nF t.1) (nX t.1)).1 = nF t.1 from e.1, show nX (fr P c (d + 1) (nF t.1) (nX t.1)).1 = nX t.1 from e.2] at hnode
      obtain ⟨r1, r2, r3⟩ := i3
      dsimp only at r1 r2 r3 ⊢
      refine ⟨?_, ⟨r1, by omega, by omega⟩, by omega⟩
      show mkN (d + 1) t.1 B = mkN (d + 1) _ B
      exact congrArg (fun n => mkN (d + 1) n B) hnode
    · obtain ⟨p, o, r, p', q, r', z1, z2, z3, z4, z5, z6⟩ := hdif
      rw [← hv.2.2] at z1
      obtain ⟨pre, o0, post, y1, y2, y3, y4⟩ := split_map _ _ _ _ z1
      have w3 : pre.map k3 = p'.map k3 := by rw [← z3, ← y2, k3_zap]
      have w4 : nF (rt (d + 1) o0) = nF (rt (d + 1) q) := by rw [← z4, ← y3, zap_rt]; rfl
      have w5 : nX (rt (d + 1) o0) = nX (rt (d + 1) q) := by rw [← z5, ← y3, zap_rt]; rfl
      have w6 : nV (rt (d + 1) o0) ≠ nV (rt (d + 1) q) := by
        have : nV (rt (d + 1) o) = nV (rt (d + 1) o0) := by rw [← y3, zap_rt]; rfl
        rw [← this]; exact z6
      have hdl := difL_dif pre p' o0 q post r' w3 w6
      rw [← y1, ← z2] at hdl
      have han : anewB h c (d + 1) t (fr P c (d + 1) (nF t.1) (nX t.1)) = true := by unfold anewB; rw [hdl, Bool.or_true]
      rw [z2] at hps
      rw [y1] at ho
      have hpq : ∀ s ∈ p', ∃ k y, 0 ≤ k ∧ k < P.2.2 ∧ 0 ≤ y ∧ y ≤ 996 ∧ s = fr P c d k y := fun s hsm => hps s (List.mem_append_left _ hsm)
      have hpr : ∀ s ∈ r', ∃ k y, 0 ≤ k ∧ k < P.2.2 ∧ 0 ≤ y ∧ y ≤ 996 ∧ s = fr P c d k y := fun s hsm => hps s (List.mem_append_right _ (List.mem_cons_of_mem _ hsm))
      obtain ⟨B, κ1, l1, i1, i2, i3, i4, i5, i6⟩ := pre_up hP hc hB pre p' κ (l.1, l.2.1, l.2.2 + 1) w3 (fun s hsm => ho s (List.mem_append_left _ hsm)) hpq hl
      obtain ⟨k, y, k0, k1, y0, y1', hq⟩ := hps q (List.mem_append_right _ (List.mem_cons_self ..))
      subst hq
      have eq := fr_rt P c d k y
      rw [eq.1] at w4
      rw [eq.2] at w5
      have hoo := ho o0 (List.mem_append_right _ (List.mem_cons_self ..))
      obtain ⟨m1, m2, m3⟩ := hB o0 κ1 l1 hoo.2 hoo.1 i3.1
      have w4' : nF o0.1 = k := w4
      have w5' : nX o0.1 = y := w5
      rw [w4', w5'] at m1 m2 m3
      have hvd : nV (rt (d + 1) (brT P h c d o0 κ1).1) ≠ nV (rt (d + 1) o0) := by rw [m1, (up_nV h c d _ _ l1).1]; exact fun z => w6 z.symm
      have j1 : brL (brT P h c d) t.2 κ = (B ++ [(brT P h c d o0 κ1).1], post, true, (brT P h c d o0 κ1).2) := by
        rw [y1, i1]
        simp only [brL]
        rw [if_neg hvd]
      have j2 : upL (upT h c (d + 1)) t.2 (fr P c (d + 1) (nF t.1) (nX t.1)).2 (l.1, l.2.1, l.2.2 + 1) = (B ++ (brT P h c d o0 κ1).1 :: (upL (upT h c (d + 1)) post r' (upT h c (d + 1) (some o0) (fr P c d k y) l1).2).1, (upL (upT h c (d + 1)) post r' (upT h c (d + 1) (some o0) (fr P c d k y) l1).2).2) := by
        rw [y1, z2, i2]
        simp only [upL]
        rw [eq.1, eq.2]
        simp only [fn1]
        rw [if_pos ⟨w4, w5⟩]
        dsimp only
        rw [m1]
      rw [hup true han, if_pos rfl, j2, j1, noQ, if_pos rfl]
      dsimp only
      rw [ha]
      rw [doS_fold hP hc hB hM f0 f1 x0 x1 (rem := (B ++ [(brT P h c d o0 κ1).1]).map (fun p => (true, p)) ++ post.map (fun p => (false, p))) (fun s hsm => by
        rcases List.mem_append.mp hsm with hsm | hsm
        · obtain ⟨b, hb, rfl⟩ := List.mem_map.mp hsm
          refine ⟨fun _ => ?_, (fun z => by cases z)⟩
          rcases List.mem_append.mp hb with hb | hb
          · exact i5 b hb
          · rw [List.mem_singleton.mp hb]
            show Kp P c d (brT P h c d o0 κ1).1
            rw [m1]; exact Kp_of_up hP hc k0 k1 y0 y1' _ _
        · obtain ⟨b, hb, rfl⟩ := List.mem_map.mp hsm
          exact ⟨(fun z => by cases z), fun _ => ho b (List.mem_append_right _ (List.mem_cons_of_mem _ hb))⟩)]
      have hfold : (fr P c (d + 1) (nF t.1) (nX t.1)).2.foldl (stS P h c (d + 1)) ([], (B ++ [(brT P h c d o0 κ1).1]).map (fun p => (true, p)) ++ post.map (fun p => (false, p)), ((brT P h c d o0 κ1).2.1, (brT P h c d o0 κ1).2.2.1, (brT P h c d o0 κ1).2.2.2.1 + 1, (brT P h c d o0 κ1).2.2.2.2)) = r'.foldl (stS P h c (d + 1)) (B ++ [(brT P h c d o0 κ1).1], post.map (fun p => (false, p)), ((brT P h c d o0 κ1).2.1, (brT P h c d o0 κ1).2.2.1, (brT P h c d o0 κ1).2.2.2.1 + 1, (brT P h c d o0 κ1).2.2.2.2)) := by
        rw [z2, show p' ++ fr P c d k y :: r' = (p' ++ [fr P c d k y]) ++ r' from by simp, List.foldl_append]
        congr 1
        rw [fold_true (B ++ [(brT P h c d o0 κ1).1]) (p' ++ [fr P c d k y]) _ [] _ ?_ ?_]
        · rfl
        · rw [List.map_append, List.map_append, i4, List.map_cons, List.map_nil, List.map_cons, List.map_nil]
          congr 2
          unfold k2
          rw [m1, (up_nV h c d _ _ l1).2.1, (up_nV h c d _ _ l1).2.2]
        · intro s hsm
          rcases List.mem_append.mp hsm with hsm | hsm
          · obtain ⟨k', y', _, hk', _, _, rfl⟩ := hpq s hsm
            rw [(fr_rt P c d k' y').1]; exact hk'
          · rw [List.mem_singleton.mp hsm, eq.1]; exact k1
      rw [hfold]
      obtain ⟨g1, g2, g3, -⟩ := fold_up hB hM r' post (B ++ [(brT P h c d o0 κ1).1]) ((brT P h c d o0 κ1).2.1, (brT P h c d o0 κ1).2.2.1, (brT P h c d o0 κ1).2.2.2.1 + 1, (brT P h c d o0 κ1).2.2.2.2) (upT h c (d + 1) (some o0) (fr P c d k y) l1).2 hpr (fun s hsm => ho s (List.mem_append_right _ (List.mem_cons_of_mem _ hsm))) m2.1
      dsimp only at g1 g2 g3 ⊢
      generalize List.foldl (stS P h c (d + 1)) (B ++ [(brT P h c d o0 κ1).1], post.map (fun p => (false, p)), ((brT P h c d o0 κ1).2.1, (brT P h c d o0 κ1).2.2.1, (brT P h c d o0 κ1).2.2.2.1 + 1, (brT P h c d o0 κ1).2.2.2.2)) r' = S at *
      obtain ⟨c1, c2, c3, c4⟩ := gon_c S.2.1 S.2.2
      obtain ⟨r1, r2, r3⟩ := g2
      obtain ⟨q1, q2, q3⟩ := m2
      obtain ⟨t1, t2, t3⟩ := i3
      dsimp only at r1 r2 r3 q1 q2 q3 t1 t2 t3
      have hsz1 : (tszL (d + 1) t.2 : Int) = (tszL (d + 1) pre : Int) + (tsz (d + 1) o0 : Int) + (tszL (d + 1) post : Int) := by rw [y1, tszL_app, tszL_cons]; omega
      have hsz2 : (tszL (d + 1) (fr P c (d + 1) (nF t.1) (nX t.1)).2 : Int) = (tszL (d + 1) p' : Int) + (tsz (d + 1) (fr P c d k y) : Int) + (tszL (d + 1) r' : Int) := by rw [z2, tszL_app, tszL_cons]; omega
      refine ⟨?_, ⟨by rw [c1]; exact r1, by rw [c2]; omega, by rw [c3]; omega⟩, ?_⟩
      · rw [g1]
        show mkN (d + 1) _ (B ++ [(brT P h c d o0 κ1).1] ++ _) = mkN (d + 1) _ (B ++ (brT P h c d o0 κ1).1 :: _)
        rw [List.append_assoc]; rfl
      · rw [c4, c2]; omega
/-- bringing is matching, making is laying anew -/
theorem pb_all {P : Pg} (hP : Pok P) {h c : Int → Int} (hh : Cok h) (hc : Cok c) : ∀ d, PB P h c d ∧ PM P h c d := by
  intro d
  induction d with
  | zero => exact ⟨PB_zero hP hh hc, PM_zero hP hc⟩
  | succ d ih => exact ⟨PB_succ hP hh hc ih.1 ih.2, PM_succ hP hc ih.1 ih.2⟩
