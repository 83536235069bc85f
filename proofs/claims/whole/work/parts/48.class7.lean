/-! THE CLASS: calls made, brought, done -/
/-- the steps are what the code becomes -/
def PgC (P : Pg) (st vl ss : Int → Int) (N : Int) : Prop := N ≤ 320 ∧ ∀ f, 0 ≤ f → f < P.2.2 → ∃ b q, Cp st vl P.1 160 (P.2.1 f) b (ss f) q ∧ st q = 11 ∧ 0 ≤ ss f ∧ q < N ∧ b ≤ P.2.1 f + 159
/-- what making or bringing leaves: L and the pool were owned, now the tree t and the pool are -/
def PO (mk sk : Nat) (c : Int → Int) (β : Int) (d : Nat) (ns : Int) (κ κ' : Kt) (tp : Int) (L fs : List Nat) (G G' : Hp) (t : Tr (d + 1)) (fs' : List Nat) (cr : Nat) : Prop := TA G' c β (d + 1) ns t ∧ Fq mk sk tp (L ++ fs) G G' ∧ Chn G' (rv G' 28 0) fs' ∧ OkA G' (adL (d + 1) t ++ fs') ∧ (adL (d + 1) t ++ fs').Nodup ∧ (∀ b ∈ adL (d + 1) t ++ fs', b ∈ L ++ fs ∨ sz G < b) ∧ Ct mk κ' G' ∧ iv G' mk 3 = tp ∧ sz G' = sz G + 2 * cr ∧ sl G' = sl G + 23 * cr ∧ (adL (d + 1) t ++ fs').length = (L ++ fs).length + cr ∧ (cr : Int) ≤ κ'.2.1 - κ.2.1
def MkC (mk sk pa : Nat) (P : Pg) (st vl ss : Int → Int) (N : Int) (c : Int → Int) (β : Int) (d : Nat) : Prop := ∀ (G : Hp) (f x ns : Int) (κ : Kt) (fs : List Nat) (tp : Int), WE mk sk pa P st vl ss N c β G → Chn G (rv G 28 0) fs → OkA G fs → fs.Nodup → Ct mk κ G → iv G mk 3 = tp → 0 ≤ tp → tp + 160 * ((d : Int) + 1) ≤ 960 → ns + (d : Int) = 6 → 0 ≤ f → f < P.2.2 → 0 ≤ x → x ≤ 996 → CX (30 * (d + 1)) 30 [.inr (.inr (some mk)), .inl f, .inl x, .inl ns] G (fun r G' => ∃ t fs' cr, r = some (.inr (.inr (some (aRt (d + 1) t)))) ∧ nad (d + 1) t = (mkT P c d f x κ).1 ∧ PO mk sk c β d ns κ (mkT P c d f x κ).2 tp [] fs G G' t fs' cr ∧ (cr = 0 ∨ fs' = []))
def BrC (mk sk pa : Nat) (P : Pg) (st vl ss : Int → Int) (N : Int) (h c : Int → Int) (β : Int) (d : Nat) : Prop := ∀ (G : Hp) (t0 : Tr (d + 1)) (ns : Int) (κ : Kt) (fs : List Nat) (tp : Int), WE mk sk pa P st vl ss N c β G → TA G h (β - 1) (d + 1) ns t0 → Gd P (d + 1) t0 → Chn G (rv G 28 0) fs → OkA G (adL (d + 1) t0 ++ fs) → (adL (d + 1) t0 ++ fs).Nodup → Ct mk κ G → iv G mk 3 = tp → 0 ≤ tp → tp + 160 * ((d : Int) + 1) ≤ 960 → ns + (d : Int) = 6 → CX (30 * (d + 1)) 31 [.inr (.inr (some mk)), .inr (.inr (some (aRt (d + 1) t0)))] G (fun r G' => r = none ∧ ∃ t fs' cr, nad (d + 1) t = (brT P h c d (nad (d + 1) t0) κ).1 ∧ PO mk sk c β d ns κ (brT P h c d (nad (d + 1) t0) κ).2 tp (adL (d + 1) t0) fs G G' t fs' cr ∧ aRt (d + 1) t = aRt (d + 1) t0 ∧ rv G' (aRt (d + 1) t0) 10 = rv G (aRt (d + 1) t0) 10 ∧ iv G' (aRt (d + 1) t0) 12 = β)
def nq (d : Nat) (q : Bool × Tr d) : Bool × Tr d := (q.1, nad d q.2)
theorem fnd_nad {d : Nat} (k y : Int) : ∀ (l : List (Bool × Tr d)), fnd k y (l.map (nq d)) = (fnd k y l).map (fun q => (q.1.map (nq d), nq d q.2.1, q.2.2.map (nq d))) := by
  intro l
  induction l with
  | nil => rfl
  | cons t l ih =>
    simp only [List.map_cons, fnd]
    rw [show nF (rt d (nq d t).2) = nF (rt d t.2) from (nad_rt d t.2).1, show nX (rt d (nq d t).2) = nX (rt d t.2) from (nad_rt d t.2).2.1]
    by_cases hc : nF (rt d t.2) = k ∧ nX (rt d t.2) = y
    · rw [if_pos hc, if_pos hc]; rfl
    · rw [if_neg hc, if_neg hc, ih]; cases fnd k y l <;> rfl
theorem gon_nad {d : Nat} (l : List (Bool × Tr d)) (κ : Kt) : gon (l.map (nq d)) κ = gon l κ := by
  unfold gon; rw [List.map_map, show (fun t : Bool × Tr d => tsz d t.2) ∘ nq d = fun t => tsz d t.2 from funext (fun t => nad_tsz d t.2)]
theorem gon_nad2 {d : Nat} (l : List (Bool × Tr d)) (κ : Kt) : gon (l.map (fun q => (q.1, nad d q.2))) κ = gon l κ := gon_nad l κ
theorem TA_rt {G : Hp} {h : Int → Int} {β : Int} : ∀ (d : Nat) (ns : Int) (t : Tr d), TA G h β d ns t → Nf G h β (rt d t) ns
  | 0, _, t, _ => t.elim
  | _ + 1, _, _, ht => ht.1
theorem Fl_rt {G : Hp} {h c : Int → Int} {β : Int} {d : Nat} {ns : Int} {q : Bool × Tr d} (hq : Fl G h c β d ns q) : CO G (aRt d q.2) ∧ iv G (aRt d q.2) 0 = nF (rt d q.2) ∧ iv G (aRt d q.2) 1 = nX (rt d q.2) ∧ TS G d ns q.2 := by
  cases hb : q.1 with
  | true => have h1 := TA_rt _ _ _ (hq.1 hb).1; exact ⟨h1.1, h1.2.1, h1.2.2.1, TA_TS _ _ _ (hq.1 hb).1⟩
  | false => have h1 := TA_rt _ _ _ (hq.2 hb); exact ⟨h1.1, h1.2.1, h1.2.2.1, TA_TS _ _ _ (hq.2 hb)⟩
theorem fsF_fnd {G : Hp} {h c : Int → Int} {β : Int} {d : Nat} {ns : Int} (k y : Int) : ∀ (l : List (Bool × Tr d)), (∀ q ∈ l, Fl G h c β d ns q) → fsF G k y (l.map (fun q => aRt d q.2)) = (fnd k y l).map (fun q => aRt d q.2.1.2) := by
  intro l
  induction l with
  | nil => intro _; rfl
  | cons t l ih =>
    intro hl
    obtain ⟨-, h1, h2, -⟩ := Fl_rt (hl t (List.mem_cons_self ..))
    simp only [List.map_cons, fsF, fnd]
    rw [h1, h2]
    by_cases hc : nF (rt d t.2) = k ∧ nX (rt d t.2) = y
    · rw [if_pos hc, if_pos hc]; rfl
    · rw [if_neg hc, if_neg hc, ih (fun q hq => hl q (List.mem_cons_of_mem _ hq))]; cases fnd k y l <;> rfl
theorem Fq_sk {mk sk : Nat} {tp : Int} {A : List Nat} {G G' : Hp} (hf : Fq mk sk tp A G G') (hA : ∀ b ∈ A, 33 ≤ b) (hs : sk ≤ 32) (hz : 32 ≤ sz G) (hne : sk ≠ mk) {j : Int} (hj : j < tp) : iv G' sk j = iv G sk j := by
  rcases hf.2.2.2 sk j (by omega) with g | g | g | g | ⟨b, g, e⟩
  · exact g
  · exact absurd g.1 hne
  · omega
  · have := hA _ g; omega
  · have := hA _ g; omega
theorem c_takeUp {mk sk pa : Nat} {P : Pg} {st vl ss : Int → Int} {N : Int} {h c : Int → Int} {β : Int} {d : Nat} {ns : Int} {a : Nat} {f x nm dn : Int} {G0 : Hp} {A0 : List Nat} {n0 : Nat} {k0 : Int} {nr : Bool} {t0 : Int} {G : Hp} {m : Int} {ps : List (Tr (d + 1))} {pre post : List (Bool × Tr (d + 1))} {q : Bool × Tr (d + 1)} {κ : Kt} {fs : List Nat} {cr : Nat} {tp : Int} (hP : Pok P) (hc : Cok c) (hB : BrC mk sk pa P st vl ss N h c β d) (hD : DO mk sk pa P st vl ss N h c β (d + 1) ns a f x nm dn G0 A0 n0 k0 nr t0 G m ps (pre ++ q :: post) κ fs cr tp) (hns : ns + ((d : Int) + 1) = 6) (htp : t0 ≤ tp) (ht0 : 0 ≤ t0) (ht : tp + 160 * ((d : Int) + 1) ≤ 960) : CX (30 * (d + 1) + 5) 38 [.inr (.inr (some mk)), .inr (.inr (some a)), .inr (.inr (some (aRt (d + 1) q.2)))] G (fun r G' => r = none ∧ ∃ t fs' κ' cr', DX mk sk pa P st vl ss N h c β (d + 1) ns a f x nm dn G0 A0 n0 k0 nr t0 G' m ps post κ' (adL (d + 1) t) fs' cr' tp ∧ TA G' c β (d + 1) (ns + 1) t ∧ Gd P (d + 1) t ∧ aRt (d + 1) t = aRt (d + 1) q.2 ∧ ((q.1 = true ∧ nad (d + 1) t = nad (d + 1) q.2 ∧ κ' = gon pre κ) ∨ (q.1 = false ∧ nad (d + 1) t = (brT P h c d (nad (d + 1) q.2) (gon pre κ)).1 ∧ κ' = (brT P h c d (nad (d + 1) q.2) (gon pre κ)).2)) ∧ ∀ j, j < tp → iv G' sk j = iv G sk j) := by
  have hms := WE_ms hD.1
  have hne := ENs_ne hD.1.1
  have hqm : q ∈ pre ++ q :: post := List.mem_append_right _ (List.mem_cons_self ..)
  have hpm : ∀ r ∈ pre, r ∈ pre ++ q :: post := fun r hr => List.mem_append_left _ hr
  have hsub : ∀ b ∈ adLs (d + 1) (pre.map Prod.snd) ++ fs, b ∈ own (d + 1) a ps (pre ++ q :: post) fs := fun b hb => by
    rcases List.mem_append.mp hb with hb | hb
    · obtain ⟨t, ht, hb⟩ := List.mem_flatMap.mp hb
      obtain ⟨r, hr, rfl⟩ := List.mem_map.mp ht
      exact own_rm (hpm r hr) hb
    · exact own_fs hb
  have hokp : OkA G (adLs (d + 1) (pre.map Prod.snd) ++ fs) := fun b hb => hD.2.2.2.2.2.2.1 b (hsub b hb)
  have hnd2 := (List.nodup_append.mp (List.nodup_cons.mp hD.2.2.2.2.2.2.2.1).2).2.1
  rw [List.map_append, List.map_cons, adLs_app, adLs_cons, List.append_assoc, List.append_assoc] at hnd2
  obtain ⟨w1, w2, w3⟩ := List.nodup_append.mp hnd2
  obtain ⟨w4, w5, w6⟩ := List.nodup_append.mp w2
  obtain ⟨w7, w8, w9⟩ := List.nodup_append.mp w5
  have hndp : (adLs (d + 1) (pre.map Prod.snd) ++ fs).Nodup := List.nodup_append.mpr ⟨w1, w8, fun a ha b hb => w3 a ha b (List.mem_append_right _ (List.mem_append_right _ hb))⟩
  have h3 := hD.2.2.1.2.2
  rw [List.map_append, List.map_cons] at h3
  have hsg := Chn_split _ _ _ _ h3 (fun e => by
    obtain ⟨r, hr, he⟩ := List.mem_map.mp e
    exact w3 _ (List.mem_flatMap.mpr ⟨r.2, List.mem_map.mpr ⟨r, hr, rfl⟩, aRt_mem _ r.2⟩) _ (List.mem_append_left _ (aRt_mem _ q.2)) he)
  rw [show pre.map (fun q => aRt (d + 1) q.2) = (pre.map Prod.snd).map (aRt (d + 1)) from by rw [List.map_map]; rfl] at hsg
  have htsp : ∀ p ∈ pre.map Prod.snd, TS G (d + 1) (ns + 1) p := fun p hp => by
    obtain ⟨r, hr, rfl⟩ := List.mem_map.mp hp
    exact (Fl_rt (hD.2.2.2.2.1 r (hpm r hr)).1).2.2.2
  refine CX.of (d := 30 * (d + 1) + 4) m_X3_takeUp (Nat.le_of_ble_eq_true rfl) ?_
  refine Ex.lcl (ls' := [some (.inr (.inr (some mk))), some (.inr (.inr (some a))), some (.inr (.inr (some (aRt (d + 1) q.2))))]) rfl ?_
  refine x_aload_n (q := 1) dX3_takeUp_0 rfl rfl ?_
  refine x_aload_n (q := 2) dX3_takeUp_1 rfl rfl ?_
  refine x_getR (q := 5) dX3_takeUp_2 rfl f_3_137 rfl hD.2.1.1.1 ?_
  refine x_aload_n (q := 6) dX3_takeUp_5 rfl rfl ?_
  refine x_invV (q := 9) (as := [.inr (.inr (some mk)), .inr (.inr (rv G a 11)), .inr (.inr (some (aRt (d + 1) q.2)))]) (rest := []) dX3_takeUp_6 rfl l_3_140 m_X3_letGoChain rfl rfl hD.1.1.1 (Nat.le_of_ble_eq_true rfl) (CX.up (d := 0 + (2 * (d + 1) + 1)) (by omega) (lgc_all 0 mk (d + 1) (pre.map Prod.snd) (ns + 1) G _ (some (aRt (d + 1) q.2)) fs κ.2.2.2 (WE_ml hD.1) hsg.1 htsp (by omega) hD.2.2.2.2.2.1 hokp hndp hD.2.2.2.2.2.2.2.2.2.1.2.2.2)) (fun r1 G1 hR => ?_)
  obtain ⟨rfl, fs1, hch1, hpm1, hg1, hL1⟩ := hR
  obtain ⟨hX, hFl, hGq⟩ := DX_let hD hL1 hch1 hpm1 hg1
  have hqL : OkA G (adL (d + 1) q.2) := fun b hb => hD.2.2.2.2.2.2.1 b (own_rm hqm hb)
  have hE1 : tg G1 a = 1 ∧ tg G1 (aRt (d + 1) q.2) = 1 ∧ tg G1 mk = 3 := ⟨(hL1.2.2.1 a).1.trans hD.2.1.1.1, (hL1.2.2.1 _).1.trans (hqL _ (aRt_mem _ q.2)).1.1, (hL1.2.2.1 mk).1.trans hD.1.1.1⟩
  refine Ex.stk (st' := []) rfl ?_
  refine x_aload_n (q := 10) dX3_takeUp_9 rfl rfl ?_
  refine x_aload_n (q := 11) dX3_takeUp_10 rfl rfl ?_
  refine x_getR (q := 14) dX3_takeUp_11 rfl f_3_111 rfl hE1.2.1 ?_
  refine x_putR (q := 17) dX3_takeUp_14 rfl f_3_137 rfl (fun h => by cases h) hE1.1 ?_
  refine x_aload_n (q := 18) dX3_takeUp_17 rfl rfl ?_
  refine x_getI (q := 21) dX3_takeUp_18 rfl f_3_87 rfl hE1.2.1 ?_
  refine x_aload_n (q := 22) dX3_takeUp_21 rfl rfl ?_
  refine x_getI (q := 25) dX3_takeUp_22 rfl f_3_38 rfl hE1.2.2 ?_
  refine Ex.stk (st' := [.inl β, .inl (iv (sr G1 a 11 (rv G1 (aRt (d + 1) q.2) 10)) (aRt (d + 1) q.2) 12)]) (by rw [show iv (sr G1 a 11 (rv G1 (aRt (d + 1) q.2) 10)) mk 5 = β from hX.1.2.2.2.2.2.2.2.1]) ?_
  refine x_icmp_eq (q := 28) (t := 33) dX3_takeUp_25 rfl (by decide) (fun h25 => ?_) (fun h25 => ?_)
  · refine x_vret dX3_takeUp_33 rfl ?_
    have hb1 : q.1 = true := by
      cases hb : q.1 with
      | true => rfl
      | false => have := (TA_rt _ _ _ (hFl.2 hb)).2.2.2.2.2.2.2.2.1; exact absurd h25 (by show ¬ iv _ (nAd (rt (d + 1) q.2)) 12 = β; omega)
    refine ⟨rfl, q.2, fs1, _, _, hX, (hFl.1 hb1).1, hGq, rfl, Or.inl ⟨hb1, rfl, rfl⟩, fun j hj => ?_⟩
    show iv G1 sk j = _
    exact Lg_iv hL1 hne j
  · refine x_aload_n (q := 29) dX3_takeUp_28 rfl rfl ?_
    refine x_aload_n (q := 30) dX3_takeUp_29 rfl rfl ?_
    have hb0 : q.1 = false := by
      cases hb : q.1 with
      | true => exact absurd (hFl.1 hb).2 h25
      | false => rfl
    have hTA := hFl.2 hb0
    refine x_invV (q := 33) (as := [.inr (.inr (some mk)), .inr (.inr (some (aRt (d + 1) q.2)))]) (rest := []) dX3_takeUp_30 rfl l_3_55 m_X3_bringUp rfl rfl hE1.2.2 (Nat.le_of_ble_eq_true rfl) (CX.up (d := 30 * (d + 1)) (by omega) (hB _ q.2 (ns + 1) (gon pre κ) fs1 tp hX.1 hTA hGq hX.2.2.2.2.2.1 (fun b hb => hX.2.2.2.2.2.2.1 b (own_fs hb)) (own_nd hX.2.2.2.2.2.2.2.1).2.2.2 hX.2.2.2.2.2.2.2.2.2.1 hX.2.2.2.2.2.2.2.2.2.2.1 (by omega) (by omega) (by omega))) (fun r1 G3 hR => ?_)
    obtain ⟨rfl, t, fs3, cr3, hnt, ⟨p1, p2, p3, p4, p5, p6, p7, p8, p9, p10, p11, p12⟩, hat, -, -⟩ := hR
    refine Ex.stk (st' := []) rfl ?_
    refine x_vret dX3_takeUp_33 rfl ?_
    have hX3 := DX_fq hX p2 (by omega) p3 p4 p5 p6 p7 p8 p9 p10 p11 p12 (fun hn => absurd ((hD.2.2.2.2.2.2.2.2.2.2.2.2.2.1 hn).1) (by cases pre <;> simp)) (fun hn => absurd ((hD.2.2.2.2.2.2.2.2.2.2.2.2.2.1 hn).1) (by cases pre <;> simp))
    refine ⟨rfl, t, fs3, _, _, hX3, p1, ?_, hat, Or.inr ⟨hb0, hnt, rfl⟩, fun j hj => ?_⟩
    · exact (Gd_nad _ _).mp (hnt ▸ (Gd_all hP (h := h) hc d).2.2 _ _ ((Gd_nad _ _).mpr hGq))
    · rw [Fq_sk p2 (fun b hb => by have := (hX.2.2.2.2.2.2.1 b (own_fs hb)).2.1; omega) hms.2 (by have := hX.1.2.2.2.2.2.2.2.2; omega) hne hj]
      show iv G1 sk j = _
      exact Lg_iv hL1 hne j
theorem c_addP {mk sk pa : Nat} {P : Pg} {st vl ss : Int → Int} {N : Int} {h c : Int → Int} {β : Int} {d : Nat} {ns : Int} {a : Nat} {f x nm dn : Int} {G0 : Hp} {A0 : List Nat} {n0 : Nat} {k0 : Int} {nr : Bool} {t0 : Int} {G : Hp} {m : Int} {ps : List (Tr d)} {rm : List (Bool × Tr d)} {κ : Kt} {fs : List Nat} {cr : Nat} {tp : Int} {t : Tr d} (D : Nat) (hD : DX mk sk pa P st vl ss N h c β d ns a f x nm dn G0 A0 n0 k0 nr t0 G m ps rm κ (adL d t) fs cr tp) (ht : TA G c β d (ns + 1) t) (hgd : Gd P d t) : CX (D + 1) 9 [.inr (.inr (some a)), .inr (.inr (some (aRt d t)))] G (fun r G' => r = none ∧ DO mk sk pa P st vl ss N h c β d ns a f x nm dn G0 A0 n0 k0 nr t0 G' m (ps ++ [t]) rm κ fs cr tp ∧ tg G' (aRt d t) = 1 ∧ iv G' (aRt d t) 2 = nV (rt d t) ∧ ∀ j, iv G' sk j = iv G sk j) := by
  obtain ⟨u1, u2, u3, u4⟩ := own_nd hD.2.2.2.2.2.2.2.1
  have hta : a ≠ aRt d t := fun e => u1 _ (List.mem_append_left _ (aRt_mem d t)) e.symm
  have htg : tg G (aRt d t) = 1 := (TA_rt _ _ _ ht).1.1
  have htv : iv G (aRt d t) 2 = nV (rt d t) := (TA_rt _ _ _ ht).2.2.2.1
  have h9 := hD.2.2.1.2.1
  rcases List.eq_nil_or_concat ps with hps | ⟨ps', p, hps⟩
  · have h9n : rv G a 9 = none := by rw [h9, hps]; rfl
    refine (c_addPart0 D hD.2.1.1 htg h9n hta).mono (fun r G' hr => ?_)
    exact ⟨hr.1, DO_add hD ht hgd (Or.inl ⟨hps, hr.2⟩), by rw [hr.2]; exact htg, by rw [hr.2]; exact htv, fun j => by rw [hr.2]; rfl⟩
  · rw [List.concat_eq_append] at hps
    have hp : p ∈ ps := by rw [hps]; exact List.mem_append_right _ (List.mem_singleton.mpr rfl)
    have h9n : rv G a 9 = some (aRt d p) := by rw [h9, hps]; simp
    have hpt : tg G (aRt d p) = 1 := (TA_rt _ _ _ (hD.2.2.2.1 p hp).1).1.1
    refine (c_addPart1 D hD.2.1.1 htg hpt h9n hta).mono (fun r G' hr => ?_)
    exact ⟨hr.1, DO_add hD ht hgd (Or.inr ⟨ps', p, hps, hr.2⟩), by rw [hr.2]; exact htg, by rw [hr.2]; exact htv, fun j => by rw [hr.2]; rfl⟩
/-- the picture of a call that is done, of its state without addresses -/
def JDo (mk sk pa : Nat) (P : Pg) (st vl ss : Int → Int) (N : Int) (h c : Int → Int) (β : Int) (d : Nat) (ns : Int) (a : Nat) (f x nm dn : Int) (G0 : Hp) (A0 : List Nat) (n0 : Nat) (k0 : Int) (nr : Bool) (t0 : Int) (G : Hp) (S : Int × List (Tr d) × List (Bool × Tr d) × Kt) (tp : Int) : Prop := ∃ ps rm fs cr, DO mk sk pa P st vl ss N h c β d ns a f x nm dn G0 A0 n0 k0 nr t0 G S.1 ps rm S.2.2.2 fs cr tp ∧ ps.map (nad d) = S.2.1 ∧ rm.map (nq d) = S.2.2.1
theorem wp_zero {mk sk pa : Nat} {P : Pg} {st vl ss : Int → Int} {N : Int} {h c : Int → Int} {β : Int} {ns : Int} {a : Nat} {f x nm dn : Int} {G0 : Hp} {A0 : List Nat} {n0 : Nat} {k0 : Int} {nr : Bool} {t0 : Int} {G : Hp} {S : Int × List (Tr 0) × List (Bool × Tr 0) × Kt} {tp k y : Int} (hJ : JDo mk sk pa P st vl ss N h c β 0 ns a f x nm dn G0 A0 n0 k0 nr t0 G S tp) (hns : ns = 6) : CX (12 : Nat) 37 [.inr (.inr (some mk)), .inr (.inr (some a)), .inl k, .inl y] G (fun r G1 => r = some (.inl (clS P h c 0 k y S).1) ∧ JDo mk sk pa P st vl ss N h c β 0 ns a f x nm dn G0 A0 n0 k0 nr t0 G1 ((clS P h c 0 k y S).2) tp ∧ ∀ j, j < tp → iv G1 sk j = iv G sk j) := by
  obtain ⟨ps, rm, fs, cr, hD, hps, hrm⟩ := hJ
  refine CX.of (d := 11) m_X3_whatPartTells (Nat.le_of_ble_eq_true rfl) ?_
  refine Ex.lcl (ls' := [some (.inr (.inr (some mk))), some (.inr (.inr (some a))), some (.inl k), some (.inl y), none]) rfl ?_
  refine x_aload_n (q := 1) dX3_whatPartTells_0 rfl rfl ?_
  refine x_getR (q := 4) dX3_whatPartTells_1 rfl f_3_23 rfl hD.1.1.1 ?_
  refine Ex.stk (st' := [.inr (.inr (some pa))]) (by rw [show rv G mk 4 = some pa from hD.1.1.2.2.2.2.1]) ?_
  refine x_iload_n (q := 5) dX3_whatPartTells_4 rfl rfl ?_
  refine x_invV (q := 8) (as := [.inr (.inr (some pa)), .inl k]) (rest := []) dX3_whatPartTells_5 rfl l_3_174 m_X5_tellsOf rfl rfl hD.1.1.2.2.2.2.2.2.2.2.2.2.2.2.1.1 (Nat.le_of_ble_eq_true rfl) (CX.up (d := 0 + 1) (by omega) (c_tellsOf 0 hD.1.1.2.2.2.2.2.2.2.2.2.2.2.2.1 hD.1.2.2.1)) (fun r1 G1 hR => ?_)
  obtain ⟨hG1, z5, rfl, z5a, z5b⟩ := hR
  replace hG1 := hG1.symm
  subst hG1
  refine Ex.stk (st' := [.inl z5]) rfl ?_
  refine x_if_eq (q := 11) (t := 20) dX3_whatPartTells_8 rfl (by decide) (fun h8 => ?_) (fun h8 => ?_)
  · refine x_iconst (q := 21) dX3_whatPartTells_20 rfl (by decide) ?_
    refine x_iret dX3_whatPartTells_21 rfl ?_
    exact ⟨rfl, ⟨ps, rm, fs, cr, hD, hps, hrm⟩, fun _ _ => rfl⟩
  · refine x_aload_n (q := 12) dX3_whatPartTells_11 rfl rfl ?_
    refine x_getI (q := 15) dX3_whatPartTells_12 rfl f_3_101 rfl hD.2.1.1.1 ?_
    refine Ex.stk (st' := [.inl ns]) (by rw [show iv G a 5 = ns from hD.2.1.2.2.2.2.2.1]) ?_
    refine x_bipush (q := 17) dX3_whatPartTells_15 rfl (by decide) ?_
    refine x_icmp_lt (q := 20) (t := 22) dX3_whatPartTells_17 rfl (by decide) (fun h17 => by exfalso; omega) (fun h17 => ?_)
    refine x_iconst (q := 21) dX3_whatPartTells_20 rfl (by decide) ?_
    refine x_iret dX3_whatPartTells_21 rfl ?_
    exact ⟨rfl, ⟨ps, rm, fs, cr, hD, hps, hrm⟩, fun _ _ => rfl⟩
theorem wp_succ {mk sk pa : Nat} {P : Pg} {st vl ss : Int → Int} {N : Int} {h c : Int → Int} {β : Int} {d : Nat} {ns : Int} {a : Nat} {f x nm dn : Int} {G0 : Hp} {A0 : List Nat} {n0 : Nat} {k0 : Int} {nr : Bool} {t0 : Int} {G : Hp} {S : Int × List (Tr (d + 1)) × List (Bool × Tr (d + 1)) × Kt} {tp k y : Int} (hP : Pok P) (hc : Cok c) (hM : MkC mk sk pa P st vl ss N c β d) (hB : BrC mk sk pa P st vl ss N h c β d) (hJ : JDo mk sk pa P st vl ss N h c β (d + 1) ns a f x nm dn G0 A0 n0 k0 nr t0 G S tp) (hns : ns + ((d : Int) + 1) = 6) (htp : t0 ≤ tp) (ht0 : 0 ≤ t0) (ht : tp + 160 * ((d : Int) + 1) ≤ 960) (k0' : 0 ≤ k) (y0 : 0 ≤ y) (y1 : y ≤ 996) : CX (30 * (d + 1) + 12) 37 [.inr (.inr (some mk)), .inr (.inr (some a)), .inl k, .inl y] G (fun r G1 => r = some (.inl (clS P h c (d + 1) k y S).1) ∧ JDo mk sk pa P st vl ss N h c β (d + 1) ns a f x nm dn G0 A0 n0 k0 nr t0 G1 ((clS P h c (d + 1) k y S).2) tp ∧ ∀ j, j < tp → iv G1 sk j = iv G sk j) := by
  obtain ⟨ps, rm, fs, cr, hD, hps, hrm⟩ := hJ
  have hms := WE_ms hD.1
  have hne := ENs_ne hD.1.1
  have hall : ∀ b ∈ rm.map (fun q => aRt (d + 1) q.2), CO G b := fun b hb => by
    obtain ⟨q, hq, rfl⟩ := List.mem_map.mp hb
    exact (Fl_rt (hD.2.2.2.2.1 q hq).1).1
  have hfF := fsF_fnd k y rm (fun q hq => (hD.2.2.2.2.1 q hq).1)
  have hfn := fnd_nad k y rm
  rw [hrm] at hfn
  refine CX.of (d := 30 * (d + 1) + 11) m_X3_whatPartTells (Nat.le_of_ble_eq_true rfl) ?_
  refine Ex.lcl (ls' := [some (.inr (.inr (some mk))), some (.inr (.inr (some a))), some (.inl k), some (.inl y), none]) rfl ?_
  by_cases hk : k < P.2.2
  · cases hf : fnd k y rm with
    | none =>
      have hfs : fsF G k y (rm.map (fun q => aRt (d + 1) q.2)) = none := by rw [hfF, hf]; rfl
      rw [hf] at hfn
      have hcl : clS P h c (d + 1) k y S = (nV (rt (d + 1) (mkT P c d k y S.2.2.2).1), S.1, S.2.1 ++ [(mkT P c d k y S.2.2.2).1], S.2.2.1, (mkT P c d k y S.2.2.2).2) := by
        simp only [clS, anC, if_pos hk, show fnd k y S.2.2.1 = none from hfn]
      refine x_aload_n (q := 1) dX3_whatPartTells_0 rfl rfl ?_
      refine x_getR (q := 4) dX3_whatPartTells_1 rfl f_3_23 rfl hD.1.1.1 ?_
      refine Ex.stk (st' := [.inr (.inr (some pa))]) (by rw [show rv G mk 4 = some pa from hD.1.1.2.2.2.2.1]) ?_
      refine x_iload_n (q := 5) dX3_whatPartTells_4 rfl rfl ?_
      refine x_invV (q := 8) (as := [.inr (.inr (some pa)), .inl k]) (rest := []) dX3_whatPartTells_5 rfl l_3_174 m_X5_tellsOf rfl rfl hD.1.1.2.2.2.2.2.2.2.2.2.2.2.2.1.1 (Nat.le_of_ble_eq_true rfl) (CX.up (d := 0 + 1) (by omega) (c_tellsOf 0 hD.1.1.2.2.2.2.2.2.2.2.2.2.2.2.1 hD.1.2.2.1)) (fun r1 G1 hR => ?_)
      obtain ⟨hG1, z5, rfl, z5a, z5b⟩ := hR
      replace hG1 := hG1.symm
      subst hG1
      refine Ex.stk (st' := [.inl z5]) rfl ?_
      refine x_if_eq (q := 11) (t := 20) dX3_whatPartTells_8 rfl (by decide) (fun h8 => by exfalso; (have := z5b.mpr ⟨k0', hk⟩; omega)) (fun h8 => ?_)
      refine x_aload_n (q := 12) dX3_whatPartTells_11 rfl rfl ?_
      refine x_getI (q := 15) dX3_whatPartTells_12 rfl f_3_101 rfl hD.2.1.1.1 ?_
      refine Ex.stk (st' := [.inl ns]) (by rw [show iv G a 5 = ns from hD.2.1.2.2.2.2.2.1]) ?_
      refine x_bipush (q := 17) dX3_whatPartTells_15 rfl (by decide) ?_
      refine x_icmp_lt (q := 20) (t := 22) dX3_whatPartTells_17 rfl (by decide) (fun h17 => ?_) (fun h17 => by exfalso; omega)
      refine x_aload_n (q := 23) dX3_whatPartTells_22 rfl rfl ?_
      refine x_iload_n (q := 24) dX3_whatPartTells_23 rfl rfl ?_
      refine x_iload_n (q := 25) dX3_whatPartTells_24 rfl rfl ?_
      refine x_invV (q := 28) (as := [.inr (.inr (some a)), .inl k, .inl y]) (rest := []) dX3_whatPartTells_25 rfl l_3_178 m_X1_firstSoFar rfl rfl hD.2.1.1.1 (Nat.le_of_ble_eq_true rfl) (CX.up (d := 0 + 2) (by omega) (c_firstSoFar 0 hD.2.1.1 hD.2.2.1.2.2 hall)) (fun r1 G1 hR => ?_)
      obtain ⟨hG1, rfl⟩ := hR
      replace hG1 := hG1.symm
      subst hG1
      rw [hfs]
      refine Ex.stk (st' := [.inr (.inr none)]) rfl ?_
      refine x_astore (q := 30) (ls' := [some (.inr (.inr (some mk))), some (.inr (.inr (some a))), some (.inl k), some (.inl y), some (.inr (.inr none))]) dX3_whatPartTells_28 rfl (Nat.le_of_ble_eq_true rfl) (by first | rfl | exact hnl | exact hnl2 _) rfl ?_
      refine x_aload (q := 32) dX3_whatPartTells_30 rfl rfl ?_
      refine x_ifnonnull (q := 35) (t := 52) dX3_whatPartTells_32 rfl (by decide) (fun a32 h32 => by exfalso; cases h32) (fun h32 => ?_)
      refine x_aload_n (q := 36) dX3_whatPartTells_35 rfl rfl ?_
      refine x_iload_n (q := 37) dX3_whatPartTells_36 rfl rfl ?_
      refine x_iload_n (q := 38) dX3_whatPartTells_37 rfl rfl ?_
      refine x_aload_n (q := 39) dX3_whatPartTells_38 rfl rfl ?_
      refine x_getI (q := 42) dX3_whatPartTells_39 rfl f_3_101 rfl hD.2.1.1.1 ?_
      refine Ex.stk (st' := [.inl ns, .inl y, .inl k, .inr (.inr (some mk))]) (by rw [show iv G a 5 = ns from hD.2.1.2.2.2.2.2.1]) ?_
      refine x_iconst (q := 43) dX3_whatPartTells_42 rfl (by decide) ?_
      refine x_iadd (q := 44) (z := ns + 1) dX3_whatPartTells_43 rfl (wr_id ⟨by omega, by omega⟩) ?_
      refine x_invV (q := 47) (as := [.inr (.inr (some mk)), .inl k, .inl y, .inl (ns + 1)]) (rest := []) dX3_whatPartTells_44 rfl l_3_31 m_X3_make rfl rfl hD.1.1.1 (Nat.le_of_ble_eq_true rfl) (CX.up (d := 30 * (d + 1)) (by omega) (hM G k y (ns + 1) S.2.2.2 fs tp hD.1 hD.2.2.2.2.2.1 (fun b hb => hD.2.2.2.2.2.2.1 b (own_fs hb)) (own_nd hD.2.2.2.2.2.2.2.1).2.2.2 hD.2.2.2.2.2.2.2.2.2.1 hD.2.2.2.2.2.2.2.2.2.2.1 (by omega) (by omega) (by omega) k0' hk y0 y1)) (fun r1 G1 hR => ?_)
      obtain ⟨t, fs1, cr1, rfl, hnt, ⟨p1, p2, p3, p4, p5, p6, p7, p8, p9, p10, p11, p12⟩, hcr⟩ := hR
      have hX := DX_fq (L := []) hD p2 htp p3 p4 p5 p6 p7 p8 p9 p10 p11 p12 (fun _ => hcr) (fun _ z1 z2 => by
        rw [z1, z2] at p11
        simp only [List.length_append, List.nil_append, List.length_nil] at p11
        exact List.eq_nil_of_length_eq_zero (by omega))
      have hgt : Gd P (d + 1) t := (Gd_nad _ _).mp (hnt ▸ (Gd_all hP (h := h) hc d).2.1 _ _ _ k0' hk y0 y1)
      have hst1 : ∀ j, j < tp → iv G1 sk j = iv G sk j := fun j hj => Fq_sk p2 (fun b hb => by have := (hD.2.2.2.2.2.2.1 b (own_fs hb)).2.1; omega) hms.2 (by have := hD.1.2.2.2.2.2.2.2.2; omega) hne hj
      have hta := p1
      refine Ex.stk (st' := [.inr (.inr (some (aRt (d + 1) t)))]) rfl ?_
      refine x_astore (q := 49) (ls' := [some (.inr (.inr (some mk))), some (.inr (.inr (some a))), some (.inl k), some (.inl y), some (.inr (.inr (some (aRt (d + 1) t))))]) dX3_whatPartTells_47 rfl (Nat.le_of_ble_eq_true rfl) (by first | rfl | exact hnl | exact hnl2 _) rfl ?_
      refine x_goto (t := 59) dX3_whatPartTells_49 (by decide) ?_
      refine x_aload_n (q := 60) dX3_whatPartTells_59 rfl rfl ?_
      refine x_aload (q := 62) dX3_whatPartTells_60 rfl rfl ?_
      refine x_invV (q := 65) (as := [.inr (.inr (some a)), .inr (.inr (some (aRt (d + 1) t)))]) (rest := []) dX3_whatPartTells_62 rfl l_3_185 m_X1_addPart rfl rfl hX.2.1.1.1 (Nat.le_of_ble_eq_true rfl) (CX.up (d := 0 + 1) (by omega) (c_addP 0 hX hta hgt)) (fun r1 G2 hR => ?_)
      obtain ⟨rfl, hD2, htg2, hv2, hst2⟩ := hR
      refine Ex.stk (st' := []) rfl ?_
      refine x_aload (q := 67) dX3_whatPartTells_65 rfl rfl ?_
      refine x_getI (q := 70) dX3_whatPartTells_67 rfl f_3_108 rfl htg2 ?_
      refine Ex.stk (st' := [.inl (nV (rt (d + 1) t))]) (by rw [show iv G2 (aRt (d + 1) t) 2 = nV (rt (d + 1) t) from hv2]) ?_
      refine x_iret dX3_whatPartTells_70 rfl ?_
      rw [hcl]
      refine ⟨?_, ⟨ps ++ [t], rm, fs1, _, hD2, ?_, hrm⟩, fun j hj => (hst2 j).trans (hst1 j hj)⟩
      · show some (Sum.inl (nV (rt (d + 1) t))) = _
        rw [← (nad_rt (d + 1) t).2.2.1, hnt]
      · rw [List.map_append, hps, List.map_cons, List.map_nil, hnt]
    | some q =>
      have hfs : fsF G k y (rm.map (fun q => aRt (d + 1) q.2)) = some (aRt (d + 1) q.2.1.2) := by rw [hfF, hf]; rfl
      rw [hf] at hfn
      obtain ⟨hrq, hqf, hqx⟩ := fnd_mem _ _ hf
      have hqt : tg G (aRt (d + 1) q.2.1.2) = 1 := (hall _ (by rw [hrq, List.map_append, List.map_cons]; exact List.mem_append_right _ (List.mem_cons_self ..))).1
      rw [hrq] at hD hall hfs
      refine x_aload_n (q := 1) dX3_whatPartTells_0 rfl rfl ?_
      refine x_getR (q := 4) dX3_whatPartTells_1 rfl f_3_23 rfl hD.1.1.1 ?_
      refine Ex.stk (st' := [.inr (.inr (some pa))]) (by rw [show rv G mk 4 = some pa from hD.1.1.2.2.2.2.1]) ?_
      refine x_iload_n (q := 5) dX3_whatPartTells_4 rfl rfl ?_
      refine x_invV (q := 8) (as := [.inr (.inr (some pa)), .inl k]) (rest := []) dX3_whatPartTells_5 rfl l_3_174 m_X5_tellsOf rfl rfl hD.1.1.2.2.2.2.2.2.2.2.2.2.2.2.1.1 (Nat.le_of_ble_eq_true rfl) (CX.up (d := 0 + 1) (by omega) (c_tellsOf 0 hD.1.1.2.2.2.2.2.2.2.2.2.2.2.2.1 hD.1.2.2.1)) (fun r1 G1 hR => ?_)
      obtain ⟨hG1, z5, rfl, z5a, z5b⟩ := hR
      replace hG1 := hG1.symm
      subst hG1
      refine Ex.stk (st' := [.inl z5]) rfl ?_
      refine x_if_eq (q := 11) (t := 20) dX3_whatPartTells_8 rfl (by decide) (fun h8 => by exfalso; (have := z5b.mpr ⟨k0', hk⟩; omega)) (fun h8 => ?_)
      refine x_aload_n (q := 12) dX3_whatPartTells_11 rfl rfl ?_
      refine x_getI (q := 15) dX3_whatPartTells_12 rfl f_3_101 rfl hD.2.1.1.1 ?_
      refine Ex.stk (st' := [.inl ns]) (by rw [show iv G a 5 = ns from hD.2.1.2.2.2.2.2.1]) ?_
      refine x_bipush (q := 17) dX3_whatPartTells_15 rfl (by decide) ?_
      refine x_icmp_lt (q := 20) (t := 22) dX3_whatPartTells_17 rfl (by decide) (fun h17 => ?_) (fun h17 => by exfalso; omega)
      refine x_aload_n (q := 23) dX3_whatPartTells_22 rfl rfl ?_
      refine x_iload_n (q := 24) dX3_whatPartTells_23 rfl rfl ?_
      refine x_iload_n (q := 25) dX3_whatPartTells_24 rfl rfl ?_
      refine x_invV (q := 28) (as := [.inr (.inr (some a)), .inl k, .inl y]) (rest := []) dX3_whatPartTells_25 rfl l_3_178 m_X1_firstSoFar rfl rfl hD.2.1.1.1 (Nat.le_of_ble_eq_true rfl) (CX.up (d := 0 + 2) (by omega) (c_firstSoFar 0 hD.2.1.1 hD.2.2.1.2.2 hall)) (fun r1 G1 hR => ?_)
      obtain ⟨hG1, rfl⟩ := hR
      replace hG1 := hG1.symm
      subst hG1
      rw [hfs]
      refine Ex.stk (st' := [.inr (.inr (some (aRt (d + 1) q.2.1.2)))]) rfl ?_
      refine x_astore (q := 30) (ls' := [some (.inr (.inr (some mk))), some (.inr (.inr (some a))), some (.inl k), some (.inl y), some (.inr (.inr (some (aRt (d + 1) q.2.1.2))))]) dX3_whatPartTells_28 rfl (Nat.le_of_ble_eq_true rfl) (by first | rfl | exact hnl | exact hnl2 _) rfl ?_
      refine x_aload (q := 32) dX3_whatPartTells_30 rfl rfl ?_
      refine x_ifnonnull (q := 35) (t := 52) dX3_whatPartTells_32 rfl (by decide) (fun a32 h32 => ?_) (fun h32 => by exfalso; cases h32)
      refine x_aload_n (q := 53) dX3_whatPartTells_52 rfl rfl ?_
      refine x_aload_n (q := 54) dX3_whatPartTells_53 rfl rfl ?_
      refine x_aload (q := 56) dX3_whatPartTells_54 rfl rfl ?_
      refine x_invV (q := 59) (as := [.inr (.inr (some mk)), .inr (.inr (some a)), .inr (.inr (some (aRt (d + 1) q.2.1.2)))]) (rest := []) dX3_whatPartTells_56 rfl l_3_182 m_X3_takeUp rfl rfl hD.1.1.1 (Nat.le_of_ble_eq_true rfl) (CX.up (d := 30 * (d + 1) + 5) (by omega) (c_takeUp hP hc hB hD (by omega) htp ht0 (by omega))) (fun r1 G1 hR => ?_)
      obtain ⟨rfl, t, fs1, κ1, cr1, hX, hta, hgt, hat, hcs, hst1⟩ := hR
      refine Ex.stk (st' := []) rfl ?_
      refine Ex.lcl (ls' := [some (.inr (.inr (some mk))), some (.inr (.inr (some a))), some (.inl k), some (.inl y), some (.inr (.inr (some (aRt (d + 1) t))))]) (by rw [hat]) ?_
      refine x_aload_n (q := 60) dX3_whatPartTells_59 rfl rfl ?_
      refine x_aload (q := 62) dX3_whatPartTells_60 rfl rfl ?_
      refine x_invV (q := 65) (as := [.inr (.inr (some a)), .inr (.inr (some (aRt (d + 1) t)))]) (rest := []) dX3_whatPartTells_62 rfl l_3_185 m_X1_addPart rfl rfl hX.2.1.1.1 (Nat.le_of_ble_eq_true rfl) (CX.up (d := 0 + 1) (by omega) (c_addP 0 hX hta hgt)) (fun r1 G2 hR => ?_)
      obtain ⟨rfl, hD2, htg2, hv2, hst2⟩ := hR
      refine Ex.stk (st' := []) rfl ?_
      refine x_aload (q := 67) dX3_whatPartTells_65 rfl rfl ?_
      refine x_getI (q := 70) dX3_whatPartTells_67 rfl f_3_108 rfl htg2 ?_
      refine Ex.stk (st' := [.inl (nV (rt (d + 1) t))]) (by rw [show iv G2 (aRt (d + 1) t) 2 = nV (rt (d + 1) t) from hv2]) ?_
      refine x_iret dX3_whatPartTells_70 rfl ?_
      rcases hcs with ⟨hb, hnt, hka⟩ | ⟨hb, hnt, hka⟩
      · subst hka
        have hcl : clS P h c (d + 1) k y S = (nV (rt (d + 1) (nad (d + 1) q.2.1.2)), S.1, S.2.1 ++ [nad (d + 1) q.2.1.2], q.2.2.map (nq (d + 1)), gon q.1 S.2.2.2) := by
          simp only [clS, anC, if_pos hk, show fnd k y S.2.2.1 = some (q.1.map (nq (d + 1)), nq (d + 1) q.2.1, q.2.2.map (nq (d + 1))) from hfn, nq, hb, gon_nad, gon_nad2]
        rw [hcl]
        refine ⟨vi_eq ?_, ⟨ps ++ [t], q.2.2, fs1, cr1, hD2, ?_, rfl⟩, fun j hj => (hst2 j).trans (hst1 j hj)⟩
        · rw [← (nad_rt (d + 1) t).2.2.1, hnt]
        · rw [List.map_append, hps, List.map_cons, List.map_nil, hnt]
      · subst hka
        have hcl : clS P h c (d + 1) k y S = (nV (rt (d + 1) (brT P h c d (nad (d + 1) q.2.1.2) (gon q.1 S.2.2.2)).1), S.1, S.2.1 ++ [(brT P h c d (nad (d + 1) q.2.1.2) (gon q.1 S.2.2.2)).1], q.2.2.map (nq (d + 1)), (brT P h c d (nad (d + 1) q.2.1.2) (gon q.1 S.2.2.2)).2) := by
          simp only [clS, anC, if_pos hk, show fnd k y S.2.2.1 = some (q.1.map (nq (d + 1)), nq (d + 1) q.2.1, q.2.2.map (nq (d + 1))) from hfn, nq, hb, gon_nad, gon_nad2]
        rw [hcl]
        refine ⟨vi_eq ?_, ⟨ps ++ [t], q.2.2, fs1, cr1, hD2, ?_, rfl⟩, fun j hj => (hst2 j).trans (hst1 j hj)⟩
        · rw [← (nad_rt (d + 1) t).2.2.1, hnt]
        · rw [List.map_append, hps, List.map_cons, List.map_nil, hnt]
  · have hcl : clS P h c (d + 1) k y S = (0, S) := by simp only [clS, anC, if_neg hk]
    refine x_aload_n (q := 1) dX3_whatPartTells_0 rfl rfl ?_
    refine x_getR (q := 4) dX3_whatPartTells_1 rfl f_3_23 rfl hD.1.1.1 ?_
    refine Ex.stk (st' := [.inr (.inr (some pa))]) (by rw [show rv G mk 4 = some pa from hD.1.1.2.2.2.2.1]) ?_
    refine x_iload_n (q := 5) dX3_whatPartTells_4 rfl rfl ?_
    refine x_invV (q := 8) (as := [.inr (.inr (some pa)), .inl k]) (rest := []) dX3_whatPartTells_5 rfl l_3_174 m_X5_tellsOf rfl rfl hD.1.1.2.2.2.2.2.2.2.2.2.2.2.2.1.1 (Nat.le_of_ble_eq_true rfl) (CX.up (d := 0 + 1) (by omega) (c_tellsOf 0 hD.1.1.2.2.2.2.2.2.2.2.2.2.2.2.1 hD.1.2.2.1)) (fun r1 G1 hR => ?_)
    obtain ⟨hG1, z5, rfl, z5a, z5b⟩ := hR
    replace hG1 := hG1.symm
    subst hG1
    refine Ex.stk (st' := [.inl z5]) rfl ?_
    refine x_if_eq (q := 11) (t := 20) dX3_whatPartTells_8 rfl (by decide) (fun h8 => ?_) (fun h8 => by exfalso; (have := z5b.mp (by omega); omega))
    refine x_iconst (q := 21) dX3_whatPartTells_20 rfl (by decide) ?_
    refine x_iret dX3_whatPartTells_21 rfl ?_
    rw [hcl]; exact ⟨rfl, ⟨ps, rm, fs, cr, hD, hps, hrm⟩, fun _ _ => rfl⟩
