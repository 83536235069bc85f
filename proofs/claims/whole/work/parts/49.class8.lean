/-! THE CLASS: goThrough -/
theorem jok {mk sk pa : Nat} {P : Pg} {st vl ss : Int → Int} {N : Int} {h c : Int → Int} {β : Int} {d : Nat} {ns : Int} {a : Nat} {f x nm dn : Int} {G0 : Hp} {A0 : List Nat} {n0 : Nat} {k0 : Int} {nr : Bool} {t0 : Int} (hP : Pok P) (hc : Cok c) (hW : ∀ (k y : Int) (G : Hp) (S : Int × List (Tr d) × List (Bool × Tr d) × Kt) (tp : Int), JDo mk sk pa P st vl ss N h c β d ns a f x nm dn G0 A0 n0 k0 nr t0 G S tp → 0 ≤ k → 0 ≤ y → y ≤ 996 → t0 ≤ tp → tp < t0 + 160 → CX (30 * d + 12) 37 [.inr (.inr (some mk)), .inr (.inr (some a)), .inl k, .inl y] G (fun r G1 => r = some (.inl (clS P h c d k y S).1) ∧ JDo mk sk pa P st vl ss N h c β d ns a f x nm dn G0 A0 n0 k0 nr t0 G1 ((clS P h c d k y S).2) tp ∧ ∀ j, j < tp → iv G1 sk j = iv G sk j)) : JOk (JDo mk sk pa P st vl ss N h c β d ns a f x nm dn G0 A0 n0 k0 nr t0) mk sk pa a c st vl N t0 (t0 + 160) x (30 * d + 10) (clS P h c d) := by
  refine ⟨?_, ?_, ?_, ?_, ?_⟩
  · rintro G S tp ⟨ps, rm, fs, cr, hD, -, -⟩
    have oa := hD.2.2.2.2.2.2.1 a (List.mem_cons_self ..)
    exact ⟨hD.1.1, hD.2.1.1, by omega, hD.2.2.2.2.2.2.2.2.2.2.1, hD.1.2.1, hD.1.2.2.2.1, hD.1.2.2.2.2.1, hD.2.1.2.2.1, hD.2.1.2.2.2.2.2.2.1, hD.1.2.2.2.2.2.2.1⟩
  · rintro G S tp v ⟨ps, rm, fs, cr, hD, h1, h2⟩ ht -
    exact ⟨ps, rm, fs, cr, DO_push hD ht v, h1, h2⟩
  · rintro G S tp ⟨ps, rm, fs, cr, hD, h1, h2⟩ -
    exact ⟨ps, rm, fs, cr, DO_pop hD _, h1, h2⟩
  · rintro G S tp i ⟨ps, rm, fs, cr, hD, h1, h2⟩ i0 i1
    exact ⟨ps, rm, fs, cr, DO_read hD i0 i1, h1, h2⟩
  · intro k y G S tp hJ k0 k1 y0 y1 ht hT
    refine ⟨hW k y G S tp hJ k0 y0 y1 ht hT, ?_⟩
    obtain ⟨ps, rm, fs, cr, hD, h1, h2⟩ := hJ
    refine ((Gd_all hP (h := h) hc d).1 k y S k0 k1 y0 y1 ⟨fun p hp => ?_, fun q hq => ?_⟩).1
    · rw [← h1] at hp
      obtain ⟨p', hp', rfl⟩ := List.mem_map.mp hp
      exact (Gd_nad _ _).mpr (hD.2.2.2.1 p' hp').2
    · rw [← h2] at hq
      obtain ⟨q', hq', rfl⟩ := List.mem_map.mp hq
      exact (Gd_nad _ _).mpr (hD.2.2.2.2.1 q' hq').2
/-- a doing begins -/
theorem DO_begin {mk sk pa : Nat} {P : Pg} {st vl ss : Int → Int} {N : Int} {h c : Int → Int} {β : Int} {d : Nat} {ns : Int} {a : Nat} {f x nm dn : Int} {nr : Bool} {G : Hp} {rm : List (Bool × Tr d)} {κ : Kt} {fs : List Nat} {tp : Int} (hw : WE mk sk pa P st vl ss N c β G) (h0 : iv G a 0 = f) (h1 : iv G a 1 = x) (h3 : iv G a 3 = wr nm) (h5 : iv G a 5 = ns) (h12 : iv G a 12 ≤ β) (h8 : Chn G (rv G a 8) (rm.map (fun q => aRt d q.2))) (hrm : ∀ q ∈ rm, Fl G h c β d (ns + 1) q ∧ Gd P d q.2) (hch : Chn G (rv G 28 0) fs) (hok : OkA G (a :: (adLs d (rm.map Prod.snd) ++ fs))) (hnd : (a :: (adLs d (rm.map Prod.snd) ++ fs)).Nodup) (hct : Ct mk κ G) (htp : iv G mk 3 = tp) (hnr : nr = true → rm = []) : DO mk sk pa P st vl ss N h c β d ns a f x nm (dn + 1) G (a :: (adLs d (rm.map Prod.snd) ++ fs)) (a :: (adLs d (rm.map Prod.snd) ++ fs)).length κ.2.1 nr tp (sr (sr (sr (si (si G a 4 (wr (dn + 1))) a 6 0) a 11 (rv G a 8)) a 8 none) a 9 none) 0 [] rm κ fs 0 tp := by
  have hms := WE_ms hw
  have oa := hok a (List.mem_cons_self ..)
  have hown : own d a [] rm fs = a :: (adLs d (rm.map Prod.snd) ++ fs) := rfl
  obtain ⟨u1, -, u3, u4⟩ := own_nd (show (own d a [] rm fs).Nodup from hnd)
  generalize hG1 : sr (sr (sr (si (si G a 4 (wr (dn + 1))) a 6 0) a 11 (rv G a 8)) a 8 none) a 9 none = G1
  have hI : ∀ (b : Nat) (k : Int), ¬ (b = a ∧ (k = 4 ∨ k = 6)) → iv G1 b k = iv G b k := fun b k hb => by
    rw [← hG1]; simp only [iv_sr, iv_si]; rw [if_neg (fun z => hb ⟨z.1, Or.inr z.2⟩), if_neg (fun z => hb ⟨z.1, Or.inl z.2⟩)]
  have hR : ∀ (b : Nat) (k : Int), ¬ (b = a ∧ (k = 8 ∨ k = 9 ∨ k = 11)) → rv G1 b k = rv G b k := fun b k hb => by
    rw [← hG1]; simp only [rv_sr, rv_si]; rw [if_neg (fun z => hb ⟨z.1, by omega⟩), if_neg (fun z => hb ⟨z.1, by omega⟩), if_neg (fun z => hb ⟨z.1, by omega⟩)]
  have hF : Fq mk sk tp [a] G G1 := by
    rw [← hG1]
    exact (((((Fq.rf mk sk tp [a] G).si _ (Or.inr (Or.inr (Or.inl (List.mem_singleton.mpr rfl))))).si _ (Or.inr (Or.inr (Or.inl (List.mem_singleton.mpr rfl))))).sr _ (Or.inr (Or.inl ⟨List.mem_singleton.mpr rfl, by decide⟩))).sr _ (Or.inr (Or.inl ⟨List.mem_singleton.mpr rfl, by decide⟩))).sr _ (Or.inr (Or.inl ⟨List.mem_singleton.mpr rfl, by decide⟩))
  have ra8 : rv G1 a 8 = none := by rw [← hG1]; simp [rv_sr]
  have ra9 : rv G1 a 9 = none := by rw [← hG1]; simp [rv_sr]
  have ra11 : rv G1 a 11 = rv G a 8 := by rw [← hG1]; simp [rv_sr]
  have ia4 : iv G1 a 4 = wr (dn + 1) := by rw [← hG1]; simp [iv_sr, iv_si]
  have ia6 : iv G1 a 6 = 0 := by rw [← hG1]; simp [iv_sr, iv_si]
  have hS : sz G1 = sz G ∧ sl G1 = sl G := by rw [← hG1]; exact ⟨rfl, rfl⟩
  have hk : ∀ q ∈ rm, ∀ b ∈ adL d q.2, CO G1 b ∧ (∀ k, iv G1 b k = iv G b k) ∧ (∀ k, rv G1 b k = rv G b k) ∧ ∀ k, iv G1 (b + 1) k = iv G (b + 1) k := fun q hq b hb => by
    have ob := hok b (own_rm (ps := []) hq hb)
    have hba := (u3 q hq b hb).1
    refine ⟨CO_Fq hF ob.1 ob.2.2, fun k => hI b k (fun z => hba z.1), fun k => hR b k (fun z => hba z.1), fun k => hI _ k (fun z => ?_)⟩
    have h1 := oa.1.1
    rw [← z.1, ob.1.2.2.1] at h1; omega
  refine ⟨WE_Fq hw hF (fun b hb => by rw [List.mem_singleton.mp hb]; omega), ⟨CO_Fq hF oa.1 oa.2.2, by rw [hI a 0 (by omega)]; exact h0, by rw [hI a 1 (by omega)]; exact h1, by rw [hI a 3 (by omega)]; exact h3, ia4, by rw [hI a 5 (by omega)]; exact h5, ia6, by rw [hI a 12 (by omega)]; exact h12, ⟨by decide, by decide⟩, fun i i0 i1 hi => by rw [rb_zero i0 i1] at hi; omega⟩, ⟨ra8, ra9, by rw [ra11]; exact Chn_kept _ _ h8 (fun b hb => by obtain ⟨q, hq, rfl⟩ := List.mem_map.mp hb; exact (hk q hq _ (aRt_mem d q.2)).2.2.1 10)⟩, (fun p hp => by cases hp), fun q hq => ⟨Fl_same (hrm q hq).1 (hk q hq), (hrm q hq).2⟩, ?_, OkA_Fq hF hok, hnd, fun b hb => Or.inl hb, ⟨by rw [hI mk 6 (by omega)]; exact hct.1, by rw [hI mk 7 (by omega)]; exact hct.2.1, by rw [hI mk 8 (by omega)]; exact hct.2.2.1, by rw [hI mk 9 (by omega)]; exact hct.2.2.2⟩, by rw [hI mk 3 (by omega)]; exact htp, hF.mono (fun b hb => Or.inl (by rw [List.mem_singleton.mp hb]; exact List.mem_cons_self ..)) (Int.le_refl _), ⟨hS.1, hS.2, rfl, by show (0 : Int) ≤ _; omega⟩, fun hn => ⟨hnr hn, Or.inl rfl⟩, hR a 10 (by omega), hI a 12 (by omega)⟩
  rw [hR 28 0 (by omega)]
  exact Chn_kept _ _ hch (fun b hb => hR b 10 (fun z => u1 b hb z.1))
/-- a doing ends -/
theorem DO_end {mk sk pa : Nat} {P : Pg} {st vl ss : Int → Int} {N : Int} {h c : Int → Int} {β : Int} {d : Nat} {ns : Int} {a : Nat} {f x nm dn : Int} {G0 : Hp} {A0 : List Nat} {n0 : Nat} {k0 : Int} {nr : Bool} {t0 : Int} {G : Hp} {m : Int} {ps : List (Tr d)} {rm : List (Bool × Tr d)} {κ : Kt} {fs : List Nat} {cr : Nat} {L0 fs0 : List Nat} {κ0 : Kt} (hD : DO mk sk pa P st vl ss N h c β d ns a f x nm dn G0 A0 n0 k0 nr t0 G m ps rm κ fs cr t0) (hA0 : A0 = L0 ++ fs0) (hn0 : n0 = (L0 ++ fs0).length) (hk0 : k0 = κ0.2.1) (v : Int) {G2 : Hp} {fs2 : List Nat} (hL : Lg mk (adLs d (rm.map Prod.snd)) (si G a 2 v) G2) (hch : Chn G2 (rv G2 28 0) fs2) (hp : fs2.Perm (adLs d (rm.map Prod.snd) ++ fs)) (hg : iv G2 mk 9 = wr (κ.2.2.2 + (tszL d (rm.map Prod.snd) : Int))) : PO mk sk c β d ns κ0 (gon rm κ) t0 L0 fs0 G0 (sr G2 a 11 none) (mkN d (a, f, x, v, m, nm, dn) ps) fs2 cr ∧ rv (sr G2 a 11 none) a 10 = rv G0 a 10 ∧ iv (sr G2 a 11 none) a 12 = iv G0 a 12 ∧ (nr = true → cr = 0 ∨ fs2 = []) := by
  obtain ⟨d1, d2, d3, d4, d5, d6, d7, d8, d9, d10, d11, d12, d13, d14, d15, d16⟩ := hD
  have hms := WE_ms d1
  have oa := d7 a (List.mem_cons_self ..)
  obtain ⟨u1, u2, u3, u4⟩ := own_nd d8
  obtain ⟨x1, x2⟩ := List.nodup_cons.mp d8
  obtain ⟨x3, x4, x5⟩ := List.nodup_append.mp x2
  have hperm : (adL (d + 1) (mkN d (a, f, x, v, m, nm, dn) ps) ++ fs2).Perm (own d a ps rm fs) := List.Perm.cons _ (List.Perm.append_left _ hp)
  have hmem : ∀ b, b ∈ adL (d + 1) (mkN d (a, f, x, v, m, nm, dn) ps) ++ fs2 ↔ b ∈ own d a ps rm fs := fun b => hperm.mem_iff
  have hrmo : ∀ b ∈ adLs d (rm.map Prod.snd), b ∈ own d a ps rm fs ∧ b ≠ a := fun b hb => by
    obtain ⟨t, ht, hb⟩ := List.mem_flatMap.mp hb
    obtain ⟨q, hq, rfl⟩ := List.mem_map.mp ht
    exact ⟨own_rm hq hb, (u3 q hq b hb).1⟩
  have na : a ∉ adLs d (rm.map Prod.snd) := fun q => (hrmo a q).2 rfl
  have hF : Fq mk sk t0 (own d a ps rm fs) G (sr G2 a 11 none) := (((Fq.rf mk sk t0 (own d a ps rm fs) G).si v (Or.inr (Or.inr (Or.inl (List.mem_cons_self ..))))).trans (hL.Fq (A := adLs d (rm.map Prod.snd)) (sk := sk) (tp := t0) (fun b hb => hb)) (fun b hb => Or.inl (hrmo b hb).1) (Int.le_refl _)).sr none (Or.inr (Or.inl ⟨List.mem_cons_self .., by decide⟩))
  have hI : ∀ (b : Nat) (k : Int), b ≠ mk → ¬ (b = a ∧ k = 2) → iv (sr G2 a 11 none) b k = iv G b k := fun b k h1 h2 => by
    rw [iv_sr, Lg_iv hL h1, iv_si, if_neg h2]
  have hM : ∀ (k : Int), k ≠ 9 → iv (sr G2 a 11 none) mk k = iv G mk k := fun k h9 => by
    rw [iv_sr]
    rcases hL.2.2.2.2 mk k with g | g
    · rw [g, iv_si, if_neg (by omega)]
    · exact absurd g.2 h9
  have hR : ∀ (b : Nat) (k : Int), b ≠ 28 → b ∉ adLs d (rm.map Prod.snd) → ¬ (b = a ∧ k = 11) → rv (sr G2 a 11 none) b k = rv G b k := fun b k h1 h2 h3 => by
    rw [rv_sr, if_neg h3, Lg_rv hL h1 h2, rv_si]
  have hps : ∀ p ∈ ps, ∀ b ∈ adL d p, b ∉ adLs d (rm.map Prod.snd) := fun p hpm b hb q => x5 b (List.mem_flatMap.mpr ⟨p, hpm, hb⟩) b (List.mem_append_left _ q) rfl
  obtain ⟨n1, n2, n3, n4, n5, n6, n7, n8, n9, n10⟩ := d2
  have hka1 : ∀ k, iv (sr G2 a 11 none) (a + 1) k = iv G (a + 1) k := fun k => hI _ k (by omega) (by omega)
  have hk : ∀ p ∈ ps, ∀ b ∈ adL d p, CO (sr G2 a 11 none) b ∧ (∀ k, iv (sr G2 a 11 none) b k = iv G b k) ∧ (∀ k, rv (sr G2 a 11 none) b k = rv G b k) ∧ ∀ k, iv (sr G2 a 11 none) (b + 1) k = iv G (b + 1) k := fun p hpm b hb => by
    have ob := d7 b (own_ps hpm hb)
    have hba := (u2 p hpm b hb).1
    refine ⟨CO_Fq hF ob.1 ob.2.2, fun k => hI b k (by omega) (fun z => hba z.1), fun k => hR b k (by omega) (hps p hpm b hb) (fun z => hba z.1), fun k => hI _ k (by omega) (fun z => ?_)⟩
    have h1 := oa.1.1
    rw [← z.1, ob.1.2.2.1] at h1; omega
  subst hA0 hn0 hk0
  refine ⟨⟨⟨⟨CO_Fq hF oa.1 oa.2.2, (hI a 0 (by omega) (by omega)).trans n2, (hI a 1 (by omega) (by omega)).trans n3, ?_, (hI a 3 (by omega) (by omega)).trans n4, (hI a 4 (by omega) (by omega)).trans n5, (hI a 5 (by omega) (by omega)).trans n6, (hI a 6 (by omega) (by omega)).trans n7, by show iv _ a 12 ≤ β; rw [hI a 12 (by omega) (by omega)]; exact n8, fun i i0 i1 hi => (hka1 i).trans (n10 i i0 i1 hi)⟩, ?_, fun p hpm => TA_same _ _ p (d4 p hpm).1 (hk p hpm)⟩, d12.trans hF d9 (Int.le_refl _), ?_, fun b hb => OkA_Fq hF d7 b ((hmem b).mp hb), hperm.nodup_iff.mpr d8, fun b hb => d9 b ((hmem b).mp hb), ⟨(hM 6 (by decide)).trans d10.1, (hM 7 (by decide)).trans d10.2.1, (hM 8 (by decide)).trans d10.2.2.1, ?_⟩, (hM 3 (by decide)).trans d11, ?_, ?_, by rw [hperm.length_eq]; exact d13.2.2.1, d13.2.2.2⟩, ?_, ?_, fun hn => ?_⟩
  · show iv _ a 2 = v
    rw [iv_sr, Lg_iv hL (by omega), iv_si, if_pos ⟨rfl, rfl⟩]
  · show Chn _ (rv _ a 8) _
    rw [hR a 8 (by omega) na (by omega)]
    exact Chn_kept _ _ d3.1 (fun b hb => by obtain ⟨p, hpm, rfl⟩ := List.mem_map.mp hb; exact (hk p hpm _ (aRt_mem d p)).2.2.1 10)
  · rw [rv_sr, if_neg (by omega)]
    refine Chn_kept _ _ hch (fun b hb => ?_)
    have hba : b ≠ a := by
      rcases List.mem_append.mp (hp.mem_iff.mp hb) with q | q
      · exact (hrmo b q).2
      · exact u1 b q
    rw [rv_sr, if_neg (fun z => hba z.1)]
  · rw [iv_sr, hg]
    show _ = wr (κ.2.2.2 + ((rm.map (fun t => tsz d t.2)).sum : Nat))
    unfold tszL; rw [List.map_map]; rfl
  · show sz G2 = _; rw [hL.1]; exact d13.1
  · show sl G2 = _; rw [hL.2.1]; exact d13.2.1
  · rw [hR a 10 (by omega) na (by omega)]; exact d15
  · rw [hI a 12 (by omega) (by omega)]; exact d16
  · rcases (d14 hn).2 with q | q
    · exact Or.inl q
    · right
      rw [(d14 hn).1, q] at hp
      exact List.Perm.eq_nil hp
theorem TS_si2 {G : Hp} {a : Nat} {v : Int} : ∀ (d : Nat) (ns : Int) (t : Tr d), TS G d ns t → TS (si G a 2 v) d ns t := by
  intro d
  induction d with
  | zero => intro ns t; exact t.elim
  | succ d ih =>
    intro ns t ⟨h1, h2, h3, h4⟩
    exact ⟨h1, by rw [iv_si, if_neg (by omega)]; exact h2, Chn_kept _ _ h3 (fun _ _ => rfl), fun p hp => ih _ p (h4 p hp)⟩
/-- what whatPartTells must do for calls of d levels below -/
def WpH (mk sk pa : Nat) (P : Pg) (st vl ss : Int → Int) (N : Int) (h c : Int → Int) (β : Int) (d : Nat) (ns : Int) (a : Nat) (f x nm dn : Int) (A0 : List Nat) (n0 : Nat) (k0 : Int) (t0 : Int) : Prop := ∀ (G0 : Hp) (nr : Bool) (k y : Int) (G : Hp) (S : Int × List (Tr d) × List (Bool × Tr d) × Kt) (tp : Int), JDo mk sk pa P st vl ss N h c β d ns a f x nm dn G0 A0 n0 k0 nr t0 G S tp → 0 ≤ k → 0 ≤ y → y ≤ 996 → t0 ≤ tp → tp < t0 + 160 → CX (30 * d + 12) 37 [.inr (.inr (some mk)), .inr (.inr (some a)), .inl k, .inl y] G (fun r G1 => r = some (.inl (clS P h c d k y S).1) ∧ JDo mk sk pa P st vl ss N h c β d ns a f x nm dn G0 A0 n0 k0 nr t0 G1 ((clS P h c d k y S).2) tp ∧ ∀ j, j < tp → iv G1 sk j = iv G sk j)
set_option maxHeartbeats 1000000 in
theorem c_goThrough {mk sk pa : Nat} {P : Pg} {st vl ss : Int → Int} {N : Int} {h c : Int → Int} {β : Int} {d : Nat} {ns : Int} {a : Nat} {f x nm dn : Int} {nr : Bool} {G : Hp} {rm : List (Bool × Tr d)} {κ : Kt} {fs : List Nat} {tp : Int} (hP : Pok P) (hc : Cok c) (hpg : PgC P st vl ss N) (hw : WE mk sk pa P st vl ss N c β G) (h0 : iv G a 0 = f) (h1 : iv G a 1 = x) (h3 : iv G a 3 = wr nm) (h4 : iv G a 4 = wr dn) (h5 : iv G a 5 = ns) (h12 : iv G a 12 ≤ β) (h8 : Chn G (rv G a 8) (rm.map (fun q => aRt d q.2))) (hrm : ∀ q ∈ rm, Fl G h c β d (ns + 1) q ∧ Gd P d q.2) (hch : Chn G (rv G 28 0) fs) (hok : OkA G (a :: (adLs d (rm.map Prod.snd) ++ fs))) (hnd : (a :: (adLs d (rm.map Prod.snd) ++ fs)).Nodup) (hct : Ct mk κ G) (htp : iv G mk 3 = tp) (hnr : nr = true → rm = []) (t00 : 0 ≤ tp) (ht : tp + 160 * ((d : Int) + 1) ≤ 960) (hns : ns + (d : Int) = 6) (f0 : 0 ≤ f) (f1 : f < P.2.2) (x0 : 0 ≤ x) (x1 : x ≤ 996) (hW : WpH mk sk pa P st vl ss N h c β d ns a f x nm (dn + 1) (a :: (adLs d (rm.map Prod.snd) ++ fs)) (a :: (adLs d (rm.map Prod.snd) ++ fs)).length κ.2.1 tp) : CX (30 * d + 14) 33 [.inr (.inr (some mk)), .inr (.inr (some a))] G (fun r G' => r = none ∧ ∃ ps fs' cr, ps.map (nad d) = (doS P h c d f x (rm.map (nq d)) κ).2.2.1 ∧ PO mk sk c β d ns κ (gon (doS P h c d f x (rm.map (nq d)) κ).2.2.2.1 (doS P h c d f x (rm.map (nq d)) κ).2.2.2.2) tp (a :: adLs d (rm.map Prod.snd)) fs G G' (mkN d (a, f, x, (doS P h c d f x (rm.map (nq d)) κ).1, (doS P h c d f x (rm.map (nq d)) κ).2.1, nm, dn + 1) ps) fs' cr ∧ rv G' a 10 = rv G a 10 ∧ iv G' a 12 = iv G a 12 ∧ (nr = true → cr = 0 ∨ fs' = [])) := by
  have oa := hok a (List.mem_cons_self ..)
  refine CX.of (d := 30 * d + 13) m_X3_goThrough (Nat.le_of_ble_eq_true rfl) ?_
  refine Ex.lcl (ls' := [some (.inr (.inr (some mk))), some (.inr (.inr (some a))), none, none, none]) rfl ?_
  refine x_aload_n (q := 1) dX3_goThrough_0 rfl rfl ?_
  refine x_invV (q := 4) (as := [.inr (.inr (some a))]) (rest := []) dX3_goThrough_1 rfl l_3_114 m_X1_beginDoing rfl rfl oa.1.1 (Nat.le_of_ble_eq_true rfl) (CX.up (d := 0 + 1) (by omega) (c_beginDoing 0 oa.1 h4)) (fun r1 G1 hR => ?_)
  obtain ⟨rfl, rfl⟩ := hR
  have hD := DO_begin (h := h) (nr := nr) (dn := dn) hw h0 h1 h3 h5 h12 h8 hrm hch hok hnd hct htp hnr
  generalize hG1 : sr (sr (sr (si (si G a 4 (wr (dn + 1))) a 6 0) a 11 (rv G a 8)) a 8 none) a 9 none = G1 at *
  refine Ex.stk (st' := []) rfl ?_
  refine x_aload_n (q := 5) dX3_goThrough_4 rfl rfl ?_
  refine x_getR (q := 8) dX3_goThrough_5 rfl f_3_23 rfl hD.1.1.1 ?_
  refine Ex.stk (st' := [.inr (.inr (some pa))]) (by rw [show rv G1 mk 4 = some pa from hD.1.1.2.2.2.2.1]) ?_
  refine x_aload_n (q := 9) dX3_goThrough_8 rfl rfl ?_
  refine x_getI (q := 12) dX3_goThrough_9 rfl f_3_117 rfl hD.2.1.1.1 ?_
  refine Ex.stk (st' := [.inl f, .inr (.inr (some pa))]) (by rw [show iv G1 a 0 = f from hD.2.1.2.1]) ?_
  refine x_invV (q := 15) (as := [.inr (.inr (some pa)), .inl f]) (rest := []) dX3_goThrough_12 rfl l_3_120 m_X5_startOf rfl rfl hD.1.1.2.2.2.2.2.2.2.2.2.2.2.2.1.1 (Nat.le_of_ble_eq_true rfl) (CX.up (d := 0 + 2) (by omega) (c_startOf 0 hD.1.1.2.2.2.2.2.2.2.2.2.2.2.2.1 hD.1.2.2.1 hP.2.1 f0 f1)) (fun r1 G1 hR => ?_)
  obtain ⟨hG1, rfl⟩ := hR
  replace hG1 := hG1.symm
  subst hG1
  refine Ex.stk (st' := [.inl (ss f)]) (by rw [hD.1.2.2.2.2.2.1 f]; rfl) ?_
  refine x_istore_n (q := 16) (ls' := [some (.inr (.inr (some mk))), some (.inr (.inr (some a))), some (.inl (ss f)), none, none]) dX3_goThrough_15 rfl (Nat.le_of_ble_eq_true rfl) (by first | rfl | exact hnl | exact hnl2 _) rfl ?_
  refine x_iconst (q := 17) dX3_goThrough_16 rfl (by decide) ?_
  refine x_istore_n (q := 18) (ls' := [some (.inr (.inr (some mk))), some (.inr (.inr (some a))), some (.inl (ss f)), some (.inl 0), none]) dX3_goThrough_17 rfl (Nat.le_of_ble_eq_true rfl) (by first | rfl | exact hnl | exact hnl2 _) rfl ?_
  obtain ⟨b, q, hCp, hq11, ss0, qN, hb⟩ := hpg.2 f f0 f1
  have hbl := (Cp_lt hCp).2
  refine evC (jok hP hc (hW G nr)) hc ⟨x0, x1⟩ hpg.1 t00 (by omega) 160 (P.2.1 f) b (ss f) q hCp G1 ((0, [], rm.map (nq d), κ) : Int × List (Tr d) × List (Bool × Tr d) × Kt) tp 0 none _ ⟨[], rm, fs, 0, hD, rfl, rfl⟩ rfl ss0 qN (by decide) ss0 (Int.le_refl _) (by omega) (fun G' k' l4 hl4 k0' k1' hJ hv hv0 hv1 _ => ?_)
  change JDo mk sk pa P st vl ss N h c β d ns a f x nm (dn + 1) G (a :: (adLs d (rm.map Prod.snd) ++ fs)) (a :: (adLs d (rm.map Prod.snd) ++ fs)).length κ.2.1 nr tp G' (doS P h c d f x (rm.map (nq d)) κ).2 (tp + 1) at hJ
  change iv G' sk tp = (doS P h c d f x (rm.map (nq d)) κ).1 at hv
  generalize doS P h c d f x (rm.map (nq d)) κ = R at *
  have hnl : noL [some (.inr (.inr (some mk))), some (.inr (.inr (some a))), some (.inl q), some (.inl k'), l4] = true := by simp [noL, isL] at hl4 ⊢; exact hl4
  clear hD
  obtain ⟨ps, rm', fs', cr, hD, hps', hrm'⟩ := hJ
  have hp0 := Cp_lt hCp
  have hN320 := hpg.1
  refine x_iload_n (q := 19) dX3_goThrough_18 rfl rfl ?_
  refine x_sipush (q := 22) dX3_goThrough_19 rfl (by decide) ?_
  refine x_icmp_ge (q := 25) (t := 60) dX3_goThrough_22 rfl (by decide) (fun h22 => by exfalso; omega) (fun h22 => ?_)
  refine x_aload_n (q := 26) dX3_goThrough_25 rfl rfl ?_
  refine x_getR (q := 29) dX3_goThrough_26 rfl f_3_23 rfl hD.1.1.1 ?_
  refine Ex.stk (st' := [.inr (.inr (some pa))]) (by rw [show rv G' mk 4 = some pa from hD.1.1.2.2.2.2.1]) ?_
  refine x_iload_n (q := 30) dX3_goThrough_29 rfl rfl ?_
  refine x_invV (q := 33) (as := [.inr (.inr (some pa)), .inl q]) (rest := []) dX3_goThrough_30 rfl l_3_126 m_X5_stepAt rfl rfl hD.1.1.2.2.2.2.2.2.2.2.2.2.2.2.1.1 (Nat.le_of_ble_eq_true rfl) (CX.up (d := 0 + 1) (by omega) (c_stepAt 0 hD.1.1.2.2.2.2.2.2.2.2.2.2.2.2.1 hD.1.2.1 hpg.1 (by omega) qN)) (fun r1 G1 hR => ?_)
  obtain ⟨hG1, rfl⟩ := hR
  replace hG1 := hG1.symm
  subst hG1
  refine Ex.stk (st' := [.inl 11]) (by rw [hD.1.2.2.2.1 q, hq11]; rfl) ?_
  refine x_istore (q := 35) (ls' := [some (.inr (.inr (some mk))), some (.inr (.inr (some a))), some (.inl q), some (.inl k'), some (.inl 11)]) dX3_goThrough_33 rfl (Nat.le_of_ble_eq_true rfl) (by first | rfl | exact hnl | exact hnl2 _) rfl ?_
  refine x_iload (q := 37) dX3_goThrough_35 rfl rfl ?_
  refine x_bipush (q := 39) dX3_goThrough_37 rfl (by decide) ?_
  refine x_icmp_ne (q := 42) (t := 45) dX3_goThrough_39 rfl (by decide) (fun h39 => by exfalso; exact h39 rfl) (fun h39 => ?_)
  refine x_goto (t := 60) dX3_goThrough_42 (by decide) ?_
  refine x_aload_n (q := 61) dX3_goThrough_60 rfl rfl ?_
  refine x_aload_n (q := 62) dX3_goThrough_61 rfl rfl ?_
  have hE := hD.1.1
  refine x_invV (q := 65) (as := [.inr (.inr (some mk))]) (rest := [.inr (.inr (some a))]) dX3_goThrough_62 rfl l_3_133 m_X3_pop rfl rfl hD.1.1.1 (Nat.le_of_ble_eq_true rfl) (CX.up (d := 0 + 1) (by omega) (c_popC 0 (G := G') hE.1 hE.2.2.2.1 hE.2.2.2.2.2.1 hE.2.2.2.2.2.2.1 (tp := tp + 1) hD.2.2.2.2.2.2.2.2.2.2.1 (ENs_ne hE) (by omega) (by omega))) (fun r1 G1 hR => ?_)
  obtain ⟨rfl, rfl⟩ := hR
  have hD2 := DO_pop hD (tp + 1 - 1)
  rw [show tp + 1 - 1 = tp from by omega] at hD2 ⊢
  refine Ex.stk (st' := [.inl R.1, .inr (.inr (some a))]) (by rw [hv]; rfl) ?_
  generalize si G' mk 3 tp = G3 at *
  refine x_putI (q := 68) dX3_goThrough_65 rfl f_3_108 rfl (fun h => by cases h) (fun h => by cases h) hD2.2.1.1.1 ?_
  refine x_aload_n (q := 69) dX3_goThrough_68 rfl rfl ?_
  refine x_aload_n (q := 70) dX3_goThrough_69 rfl rfl ?_
  refine x_getR (q := 73) dX3_goThrough_70 rfl f_3_137 rfl hD2.2.1.1.1 ?_
  refine x_aconst_null (q := 74) dX3_goThrough_73 rfl ?_
  have hu := own_nd hD2.2.2.2.2.2.2.2.1
  have hk2 : ∀ q ∈ rm', ∀ b ∈ adL d q.2, CO (si G3 a 2 R.1) b ∧ (∀ k, iv (si G3 a 2 R.1) b k = iv (si G3 a 2 R.1) b k) := fun q hq b hb => ⟨(hD2.2.2.2.2.2.2.1 b (own_rm hq hb)).1, fun _ => rfl⟩
  have hts : ∀ p ∈ rm'.map Prod.snd, TS (si G3 a 2 R.1) d (ns + 1) p := fun p hp => by
    obtain ⟨q, hq, rfl⟩ := List.mem_map.mp hp
    have hs := (Fl_rt (hD2.2.2.2.2.1 q hq).1).2.2.2
    exact TS_si2 _ _ _ hs
  have hnd3 : (adLs d (rm'.map Prod.snd) ++ fs').Nodup := (List.nodup_append.mp (List.nodup_cons.mp hD2.2.2.2.2.2.2.2.1).2).2.1
  have hok3 : OkA (si G3 a 2 R.1) (adLs d (rm'.map Prod.snd) ++ fs') := fun b hb => hD2.2.2.2.2.2.2.1 b (List.mem_cons_of_mem _ (List.mem_append_right _ hb))
  have hsg : Seg (si G3 a 2 R.1) (rv (si G3 a 2 R.1) a 11) ((rm'.map Prod.snd).map (aRt d)) none := by
    have h11 := hD2.2.2.1.2.2
    rw [show rm'.map (fun q => aRt d q.2) = (rm'.map Prod.snd).map (aRt d) from by rw [List.map_map]; rfl] at h11
    exact Seg_of_Chn _ _ (Chn_kept _ _ h11 (fun _ _ => rfl))
  have hms := WE_ms hD2.1
  have oa2 := hD2.2.2.2.2.2.2.1 a (List.mem_cons_self ..)
  have hg9 : iv (si G3 a 2 R.1) mk 9 = wr R.2.2.2.2.2.2.2 := by rw [iv_si, if_neg (by omega)]; exact hD2.2.2.2.2.2.2.2.2.2.1.2.2.2
  refine x_invV (q := 77) (as := [.inr (.inr (some mk)), .inr (.inr (rv (si G3 a 2 R.1) a 11)), .inr (.inr none)]) (rest := []) dX3_goThrough_74 rfl l_3_140 m_X3_letGoChain rfl rfl hD2.1.1.1 (Nat.le_of_ble_eq_true rfl) (CX.up (d := 0 + (2 * d + 1)) (by omega) (lgc_all 0 mk d (rm'.map Prod.snd) (ns + 1) (si G3 a 2 R.1) _ none fs' _ (show MKl mk (si G3 a 2 R.1) from (WE_ml hD2.1 : MKl mk G3)) hsg hts (by omega) (Chn_kept _ _ hD2.2.2.2.2.2.1 (fun _ _ => rfl)) hok3 hnd3 hg9)) (fun r1 G4 hR => ?_)
  obtain ⟨rfl, fs4, hch4, hpm4, hg4, hL4⟩ := hR
  have hE4 := DO_end (κ0 := κ) (L0 := a :: adLs d (rm.map Prod.snd)) (fs0 := fs) hD2 rfl rfl rfl R.1 hL4 hch4 hpm4 hg4
  have ht4 : tg G4 a = 1 := (hL4.2.2.1 a).1.trans oa2.1.1
  refine Ex.stk (st' := []) rfl ?_
  refine x_aload_n (q := 78) dX3_goThrough_77 rfl rfl ?_
  refine x_aconst_null (q := 79) dX3_goThrough_78 rfl ?_
  refine x_putR (q := 82) dX3_goThrough_79 rfl f_3_137 rfl (fun h => by cases h) ht4 ?_
  refine x_vret dX3_goThrough_82 rfl ?_
  refine ⟨rfl, ps, fs4, cr, hps', ?_, hE4.2.1, hE4.2.2.1, hE4.2.2.2⟩
  have e9 : gon rm' R.2.2.2.2 = gon R.2.2.2.1 R.2.2.2.2 := by rw [← hrm', gon_nad]
  rw [← e9]; exact hE4.1
