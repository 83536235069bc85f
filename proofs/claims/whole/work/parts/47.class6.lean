/-! THE CLASS: parts taken in hand and added -/
/-- as DO, with L owned beside -/
def DX (mk sk pa : Nat) (P : Pg) (st vl ss : Int → Int) (N : Int) (h c : Int → Int) (β : Int) (d : Nat) (ns : Int) (a : Nat) (f x nm dn : Int) (G0 : Hp) (A0 : List Nat) (n0 : Nat) (k0 : Int) (nr : Bool) (t0 : Int) (G : Hp) (m : Int) (ps : List (Tr d)) (rm : List (Bool × Tr d)) (κ : Kt) (L fs : List Nat) (cr : Nat) (tp : Int) : Prop :=
  WE mk sk pa P st vl ss N c β G ∧ Nw G c β a f x nm dn ns m ∧ Lk G d a ps rm ∧ (∀ p ∈ ps, TA G c β d (ns + 1) p ∧ Gd P d p) ∧ (∀ q ∈ rm, Fl G h c β d (ns + 1) q ∧ Gd P d q.2) ∧ Chn G (rv G 28 0) fs ∧ OkA G (own d a ps rm (L ++ fs)) ∧ (own d a ps rm (L ++ fs)).Nodup ∧ (∀ b ∈ own d a ps rm (L ++ fs), b ∈ A0 ∨ sz G0 < b) ∧ Ct mk κ G ∧ iv G mk 3 = tp ∧ Fq mk sk t0 A0 G0 G ∧ Rom G0 G n0 (own d a ps rm (L ++ fs)) cr k0 κ ∧ (nr = true → rm = [] ∧ (cr = 0 ∨ fs = [])) ∧ rv G a 10 = rv G0 a 10 ∧ iv G a 12 = iv G0 a 12
theorem own_nd {d a : Nat} {ps : List (Tr d)} {rm : List (Bool × Tr d)} {fs : List Nat} (h : (own d a ps rm fs).Nodup) : (∀ b ∈ fs, b ≠ a) ∧ (∀ p ∈ ps, ∀ b ∈ adL d p, b ≠ a ∧ b ∉ fs) ∧ (∀ q ∈ rm, ∀ b ∈ adL d q.2, b ≠ a ∧ b ∉ fs) ∧ fs.Nodup := by
  obtain ⟨h1, h2⟩ := List.nodup_cons.mp h
  obtain ⟨h3, h4, h5⟩ := List.nodup_append.mp h2
  obtain ⟨h6, h7, h8⟩ := List.nodup_append.mp h4
  refine ⟨fun b hb e => h1 (e ▸ List.mem_append_right _ (List.mem_append_right _ hb)), fun p hp b hb => ⟨fun e => h1 (e ▸ List.mem_append_left _ (List.mem_flatMap.mpr ⟨p, hp, hb⟩)), fun e => h5 b (List.mem_flatMap.mpr ⟨p, hp, hb⟩) b (List.mem_append_right _ e) rfl⟩, fun q hq b hb => ?_, h7⟩
  have hm : b ∈ adLs d (rm.map Prod.snd) := List.mem_flatMap.mpr ⟨q.2, List.mem_map.mpr ⟨q, hq, rfl⟩, hb⟩
  exact ⟨fun e => h1 (e ▸ List.mem_append_right _ (List.mem_append_left _ hm)), fun e => h8 b hm b e rfl⟩
theorem own_re {d a : Nat} {ps : List (Tr d)} {rm : List (Bool × Tr d)} {F F' : List Nat} {z : Nat} (h : (own d a ps rm F).Nodup) (hz : ∀ b ∈ own d a ps rm F, b ≤ z) (h1 : F'.Nodup) (h2 : ∀ b ∈ F', b ∈ F ∨ z < b) : (own d a ps rm F').Nodup := by
  obtain ⟨g1, g2⟩ := List.nodup_cons.mp h
  obtain ⟨g3, g4, g5⟩ := List.nodup_append.mp g2
  obtain ⟨g6, g7, g8⟩ := List.nodup_append.mp g4
  have za := hz a (List.mem_cons_self ..)
  have zp : ∀ b ∈ adLs d ps, b ≤ z := fun b hb => hz b (List.mem_cons_of_mem _ (List.mem_append_left _ hb))
  have zr : ∀ b ∈ adLs d (rm.map Prod.snd), b ≤ z := fun b hb => hz b (List.mem_cons_of_mem _ (List.mem_append_right _ (List.mem_append_left _ hb)))
  refine List.nodup_cons.mpr ⟨fun q => ?_, List.nodup_append.mpr ⟨g3, List.nodup_append.mpr ⟨g6, h1, fun b hb e he q => ?_⟩, fun b hb e he q => ?_⟩⟩
  · rcases List.mem_append.mp q with q | q
    · exact g1 (List.mem_append_left _ q)
    · rcases List.mem_append.mp q with q | q
      · exact g1 (List.mem_append_right _ (List.mem_append_left _ q))
      · rcases h2 _ q with r | r
        · exact g1 (List.mem_append_right _ (List.mem_append_right _ r))
        · omega
  · subst q
    rcases h2 _ he with r | r
    · exact g8 b hb b r rfl
    · have := zr b hb; omega
  · subst q
    rcases List.mem_append.mp he with he | he
    · exact g5 b hb b (List.mem_append_left _ he) rfl
    · rcases h2 _ he with r | r
      · exact g5 b hb b (List.mem_append_right _ r) rfl
      · have := zp b hb; omega
theorem adLs_nd (d : Nat) : ∀ (l : List (Tr d)), (adLs d l).Nodup → ∀ p ∈ l, (adL d p).Nodup := by
  intro l
  induction l with
  | nil => intro _ p hp; cases hp
  | cons t l ih =>
    intro h p hp
    rw [adLs_cons] at h
    obtain ⟨h1, h2, -⟩ := List.nodup_append.mp h
    rcases List.mem_cons.mp hp with rfl | hp
    · exact h1
    · exact ih h2 p hp
section DXS
variable {mk sk pa : Nat} {P : Pg} {st vl ss : Int → Int} {N : Int} {h c : Int → Int} {β : Int} {d : Nat} {ns : Int} {a : Nat} {f x nm dn : Int} {G0 : Hp} {A0 : List Nat} {n0 : Nat} {k0 : Int} {nr : Bool} {t0 : Int} {G : Hp} {m : Int} {ps : List (Tr d)} {rm : List (Bool × Tr d)} {κ : Kt} {L fs : List Nat} {cr : Nat} {tp : Int}
/-- something that owns L and the pool was done -/
theorem DX_fq (hD : DX mk sk pa P st vl ss N h c β d ns a f x nm dn G0 A0 n0 k0 nr t0 G m ps rm κ L fs cr tp) {G1 : Hp} {L1 fs1 : List Nat} {κ1 : Kt} {c1 : Nat} (hF : Fq mk sk tp (L ++ fs) G G1) (htp : t0 ≤ tp) (e1 : Chn G1 (rv G1 28 0) fs1) (e2 : OkA G1 (L1 ++ fs1)) (e3 : (L1 ++ fs1).Nodup) (e4 : ∀ b ∈ L1 ++ fs1, b ∈ L ++ fs ∨ sz G < b) (e5 : Ct mk κ1 G1) (e6 : iv G1 mk 3 = tp) (e7 : sz G1 = sz G + 2 * c1) (e8 : sl G1 = sl G + 23 * c1) (e9 : (L1 ++ fs1).length = (L ++ fs).length + c1) (e10 : (c1 : Int) ≤ κ1.2.1 - κ.2.1) (e11 : nr = true → c1 = 0 ∨ fs1 = []) (e12 : nr = true → c1 = 0 → fs = [] → fs1 = []) : DX mk sk pa P st vl ss N h c β d ns a f x nm dn G0 A0 n0 k0 nr t0 G1 m ps rm κ1 L1 fs1 (cr + c1) tp := by
  obtain ⟨d1, d2, d3, d4, d5, d6, d7, d8, d9, d10, d11, d12, d13, d14, d15, d16⟩ := hD
  have hms := WE_ms d1
  obtain ⟨u1, u2, u3, u4⟩ := own_nd d8
  have hOA : OkA G (L ++ fs) := fun b hb => d7 b (own_fs hb)
  have hk : ∀ b, b ∈ own d a ps rm (L ++ fs) → b ∉ L ++ fs → CO G1 b ∧ (∀ k, iv G1 b k = iv G b k) ∧ (∀ k, rv G1 b k = rv G b k) ∧ ∀ k, iv G1 (b + 1) k = iv G (b + 1) k := fun b hb hn => by
    obtain ⟨o1, o2, o3⟩ := d7 b hb
    obtain ⟨g1, g2, g3⟩ := Fq_hi hF hOA hms o1 (by omega) o3 hn
    exact ⟨CO_Fq hF o1 o3, g1, g2, g3⟩
  obtain ⟨ka1, ka2, ka3, ka4⟩ := hk a (List.mem_cons_self ..) (fun q => u1 a q rfl)
  have hkp : ∀ p ∈ ps, ∀ b ∈ adL d p, CO G1 b ∧ (∀ k, iv G1 b k = iv G b k) ∧ (∀ k, rv G1 b k = rv G b k) ∧ ∀ k, iv G1 (b + 1) k = iv G (b + 1) k := fun p hp b hb => hk b (own_ps hp hb) (u2 p hp b hb).2
  have hkr : ∀ q ∈ rm, ∀ b ∈ adL d q.2, CO G1 b ∧ (∀ k, iv G1 b k = iv G b k) ∧ (∀ k, rv G1 b k = rv G b k) ∧ ∀ k, iv G1 (b + 1) k = iv G (b + 1) k := fun q hq b hb => hk b (own_rm hq hb) (u3 q hq b hb).2
  obtain ⟨n1, n2, n3, n4, n5, n6, n7, n8, n9, n10⟩ := d2
  have hle : ∀ b ∈ own d a ps rm (L ++ fs), b ≤ sz G := fun b hb => by have := (d7 b hb).2.2; omega
  have hin : ∀ b ∈ own d a ps rm (L1 ++ fs1), b ∈ own d a ps rm (L ++ fs) ∨ (b ∈ L1 ++ fs1 ∧ sz G < b) := fun b hb => by
    rcases List.mem_cons.mp hb with rfl | hb
    · exact Or.inl (List.mem_cons_self ..)
    · rcases List.mem_append.mp hb with hb | hb
      · exact Or.inl (List.mem_cons_of_mem _ (List.mem_append_left _ hb))
      · rcases List.mem_append.mp hb with hb | hb
        · exact Or.inl (List.mem_cons_of_mem _ (List.mem_append_right _ (List.mem_append_left _ hb)))
        · rcases e4 b hb with g | g
          · exact Or.inl (own_fs g)
          · exact Or.inr ⟨hb, g⟩
  have hsz := d12.1
  refine ⟨WE_Fq d1 hF (fun b hb => by have := (hOA b hb).2.1; omega), ⟨ka1, by rw [ka2]; exact n2, by rw [ka2]; exact n3, by rw [ka2]; exact n4, by rw [ka2]; exact n5, by rw [ka2]; exact n6, by rw [ka2]; exact n7, by rw [ka2]; exact n8, n9, fun i i0 i1 hi => by rw [ka4]; exact n10 i i0 i1 hi⟩, ⟨?_, by rw [ka3]; exact d3.2.1, ?_⟩, fun p hp => ⟨TA_same _ _ p (d4 p hp).1 (hkp p hp), (d4 p hp).2⟩, fun q hq => ⟨Fl_same (d5 q hq).1 (hkr q hq), (d5 q hq).2⟩, e1, fun b hb => ?_, own_re d8 hle e3 e4, fun b hb => ?_, e5, e6, d12.trans hF (fun b hb => d9 b (own_fs hb)) htp, ⟨by rw [e7, d13.1]; omega, by rw [e8, d13.2.1]; omega, ?_, by have := d13.2.2.2; omega⟩, fun hn => ⟨(d14 hn).1, ?_⟩, by rw [ka3]; exact d15, by rw [ka2]; exact d16⟩
  · rw [ka3]; exact Chn_kept _ _ d3.1 (fun b hb => by obtain ⟨p, hp, rfl⟩ := List.mem_map.mp hb; exact (hkp p hp _ (aRt_mem d p)).2.2.1 10)
  · rw [ka3]; exact Chn_kept _ _ d3.2.2 (fun b hb => by obtain ⟨q, hq, rfl⟩ := List.mem_map.mp hb; exact (hkr q hq _ (aRt_mem d q.2)).2.2.1 10)
  · rcases hin b hb with g | g
    · exact OkA_Fq hF d7 b g
    · exact e2 b g.1
  · rcases hin b hb with g | g
    · exact d9 b g
    · exact Or.inr (by omega)
  · have h1 : ∀ F : List Nat, (own d a ps rm F).length = 1 + ((adLs d ps).length + ((adLs d (rm.map Prod.snd)).length + F.length)) := fun F => by
      unfold own; rw [List.length_cons, List.length_append, List.length_append]; omega
    have h2 := d13.2.2.1
    rw [h1] at h2 ⊢
    omega
  · rcases e11 hn with g | g
    · rcases (d14 hn).2 with q | q
      · exact Or.inl (by omega)
      · exact Or.inr (e12 hn g q)
    · exact Or.inr g
theorem Chn_split {G : Hp} : ∀ (l1 : List Nat) (b : Nat) (l2 : List Nat) (r : Option Nat), Chn G r (l1 ++ b :: l2) → b ∉ l1 → Seg G r l1 (some b) ∧ Chn G (rv G b 10) l2 := by
  intro l1
  induction l1 with
  | nil => intro b l2 r ⟨h1, h2⟩ _; exact ⟨h1, h2⟩
  | cons e l1 ih =>
    intro b l2 r ⟨h1, h2⟩ hn
    obtain ⟨g1, g2⟩ := ih b l2 _ h2 (fun q => hn (List.mem_cons_of_mem _ q))
    exact ⟨⟨h1, fun q => hn (by cases q; exact List.mem_cons_self ..), g1⟩, g2⟩
theorem Chn_snoc {G G' : Hp} {b : Nat} (hb : rv G' b 10 = none) : ∀ (l : List Nat) (r : Option Nat) (z : Nat), Chn G r (l ++ [z]) → (∀ e ∈ l, rv G' e 10 = rv G e 10) → rv G' z 10 = some b → Chn G' r (l ++ [z] ++ [b]) := by
  intro l
  induction l with
  | nil => intro r z ⟨h1, _⟩ _ hz; exact ⟨h1, hz, hb⟩
  | cons e l ih =>
    intro r z ⟨h1, h2⟩ hk hz
    exact ⟨h1, by rw [hk e (List.mem_cons_self ..)]; exact ih _ z h2 (fun e' he => hk e' (List.mem_cons_of_mem _ he)) hz⟩
/-- those passed over are let go, the one found is in hand -/
theorem DX_let {pre post : List (Bool × Tr d)} {q : Bool × Tr d} (hD : DO mk sk pa P st vl ss N h c β d ns a f x nm dn G0 A0 n0 k0 nr t0 G m ps (pre ++ q :: post) κ fs cr tp) {G1 : Hp} {fs1 : List Nat} (hL : Lg mk (adLs d (pre.map Prod.snd)) G G1) (hch : Chn G1 (rv G1 28 0) fs1) (hp : fs1.Perm (adLs d (pre.map Prod.snd) ++ fs)) (hg : iv G1 mk 9 = wr (κ.2.2.2 + (tszL d (pre.map Prod.snd) : Int))) : DX mk sk pa P st vl ss N h c β d ns a f x nm dn G0 A0 n0 k0 nr t0 (sr G1 a 11 (rv G1 (aRt d q.2) 10)) m ps post (gon pre κ) (adL d q.2) fs1 cr tp ∧ Fl (sr G1 a 11 (rv G1 (aRt d q.2) 10)) h c β d (ns + 1) q ∧ Gd P d q.2 := by
  obtain ⟨d1, d2, d3, d4, d5, d6, d7, d8, d9, d10, d11, d12, d13, d14, d15, d16⟩ := hD
  have hms := WE_ms d1
  have hq : q ∈ pre ++ q :: post := List.mem_append_right _ (List.mem_cons_self ..)
  have hpo : ∀ r ∈ post, r ∈ pre ++ q :: post := fun r hr => List.mem_append_right _ (List.mem_cons_of_mem _ hr)
  -- the list of addresses, in another order
  have hperm : (own d a ps post (adL d q.2 ++ fs1)).Perm (own d a ps (pre ++ q :: post) fs) := by
    unfold own
    refine List.Perm.cons _ (List.Perm.append_left _ ?_)
    rw [List.map_append, List.map_cons, adLs_app, adLs_cons]
    have p1 : (adLs d (post.map Prod.snd) ++ (adL d q.2 ++ fs1)).Perm (adLs d (post.map Prod.snd) ++ (adL d q.2 ++ (adLs d (pre.map Prod.snd) ++ fs))) := List.Perm.append_left _ (List.Perm.append_left _ hp)
    refine p1.trans ?_
    rw [← List.append_assoc, ← List.append_assoc, ← List.append_assoc]
    refine List.Perm.append_right _ ?_
    rw [List.append_assoc (adLs d (pre.map Prod.snd))]
    refine (List.perm_append_comm).trans ?_
    refine List.Perm.append_left _ ?_
    exact List.perm_append_comm
  have hnd : (own d a ps post (adL d q.2 ++ fs1)).Nodup := hperm.nodup_iff.mpr d8
  have hmem : ∀ b, b ∈ own d a ps post (adL d q.2 ++ fs1) ↔ b ∈ own d a ps (pre ++ q :: post) fs := fun b => hperm.mem_iff
  obtain ⟨u1, u2, u3, u4⟩ := own_nd hnd
  have hpre : ∀ b ∈ adLs d (pre.map Prod.snd), b ∈ fs1 := fun b hb => hp.mem_iff.mpr (List.mem_append_left _ hb)
  obtain ⟨v1, v2, v3⟩ := List.nodup_append.mp u4
  have hdis : ∀ b, b ∈ own d a ps post (adL d q.2) → b ∉ adLs d (pre.map Prod.snd) := fun b hb e => by
    have e := hpre b e
    rcases List.mem_cons.mp hb with rfl | hb
    · exact u1 b (List.mem_append_right _ e) rfl
    · rcases List.mem_append.mp hb with hb | hb
      · obtain ⟨p, hpm, hb⟩ := List.mem_flatMap.mp hb
        exact (u2 p hpm b hb).2 (List.mem_append_right _ e)
      · rcases List.mem_append.mp hb with hb | hb
        · obtain ⟨t, ht, hb⟩ := List.mem_flatMap.mp hb
          obtain ⟨r, hr, rfl⟩ := List.mem_map.mp ht
          exact (u3 r hr b hb).2 (List.mem_append_right _ e)
        · exact v3 b hb b e rfl
  have hsub : ∀ b, b ∈ own d a ps post (adL d q.2) → b ∈ own d a ps (pre ++ q :: post) fs := fun b hb => (hmem b).mp (by
    rcases List.mem_cons.mp hb with rfl | hb
    · exact List.mem_cons_self ..
    · rcases List.mem_append.mp hb with hb | hb
      · exact List.mem_cons_of_mem _ (List.mem_append_left _ hb)
      · rcases List.mem_append.mp hb with hb | hb
        · exact List.mem_cons_of_mem _ (List.mem_append_right _ (List.mem_append_left _ hb))
        · exact own_fs (List.mem_append_left _ hb))
  have hk : ∀ b, b ∈ own d a ps post (adL d q.2) → CO G1 b ∧ (∀ k, iv G1 b k = iv G b k) ∧ (∀ k, rv G1 b k = rv G b k) ∧ ∀ k, iv G1 (b + 1) k = iv G (b + 1) k := fun b hb => by
    obtain ⟨o1, o2, o3⟩ := d7 b (hsub b hb)
    exact ⟨CO_Lg hL o1, fun k => Lg_iv hL (by omega) k, fun k => Lg_rv hL (by omega) (hdis b hb) k, fun k => Lg_iv hL (by omega) k⟩
  have hk2 : ∀ b, b ∈ own d a ps post (adL d q.2) → b ≠ a → CO (sr G1 a 11 (rv G1 (aRt d q.2) 10)) b ∧ (∀ k, iv (sr G1 a 11 (rv G1 (aRt d q.2) 10)) b k = iv G b k) ∧ (∀ k, rv (sr G1 a 11 (rv G1 (aRt d q.2) 10)) b k = rv G b k) ∧ ∀ k, iv (sr G1 a 11 (rv G1 (aRt d q.2) 10)) (b + 1) k = iv G (b + 1) k := fun b hb hne => by
    obtain ⟨o1, o2, o3, o4⟩ := hk b hb
    exact ⟨⟨o1.1, by rw [rv_sr, if_neg (fun z => hne z.1)]; exact o1.2.1, o1.2.2⟩, o2, fun k => by rw [rv_sr, if_neg (fun z => hne z.1)]; exact o3 k, o4⟩
  have kps : ∀ p ∈ ps, ∀ b ∈ adL d p, CO (sr G1 a 11 (rv G1 (aRt d q.2) 10)) b ∧ (∀ k, iv (sr G1 a 11 (rv G1 (aRt d q.2) 10)) b k = iv G b k) ∧ (∀ k, rv (sr G1 a 11 (rv G1 (aRt d q.2) 10)) b k = rv G b k) ∧ ∀ k, iv (sr G1 a 11 (rv G1 (aRt d q.2) 10)) (b + 1) k = iv G (b + 1) k := fun p hpm b hb => hk2 b (own_ps hpm hb) (u2 p hpm b hb).1
  have kpo : ∀ r ∈ post, ∀ b ∈ adL d r.2, CO (sr G1 a 11 (rv G1 (aRt d q.2) 10)) b ∧ (∀ k, iv (sr G1 a 11 (rv G1 (aRt d q.2) 10)) b k = iv G b k) ∧ (∀ k, rv (sr G1 a 11 (rv G1 (aRt d q.2) 10)) b k = rv G b k) ∧ ∀ k, iv (sr G1 a 11 (rv G1 (aRt d q.2) 10)) (b + 1) k = iv G (b + 1) k := fun r hr b hb => hk2 b (own_rm hr hb) (u3 r hr b hb).1
  have kq : ∀ b ∈ adL d q.2, CO (sr G1 a 11 (rv G1 (aRt d q.2) 10)) b ∧ (∀ k, iv (sr G1 a 11 (rv G1 (aRt d q.2) 10)) b k = iv G b k) ∧ (∀ k, rv (sr G1 a 11 (rv G1 (aRt d q.2) 10)) b k = rv G b k) ∧ ∀ k, iv (sr G1 a 11 (rv G1 (aRt d q.2) 10)) (b + 1) k = iv G (b + 1) k := fun b hb => hk2 b (own_fs hb) (u1 b (List.mem_append_left _ hb))
  obtain ⟨ka1, ka2, ka3, ka4⟩ := hk a (List.mem_cons_self ..)
  obtain ⟨n1, n2, n3, n4, n5, n6, n7, n8, n9, n10⟩ := d2
  have hF : Fq mk sk t0 (own d a ps (pre ++ q :: post) fs) G (sr G1 a 11 (rv G1 (aRt d q.2) 10)) := (hL.Fq (fun b hb => (hmem b).mp (own_fs (List.mem_append_right _ (hpre b hb))))).sr _ (Or.inr (Or.inl ⟨List.mem_cons_self .., by decide⟩))
  have hLw : ∀ (k : Int), k ≠ 9 → iv G1 mk k = iv G mk k := fun k hk9 => by
    rcases hL.2.2.2.2 mk k with g | g
    · exact g
    · exact absurd g.2 hk9
  have hrest : Chn G (rv G (aRt d q.2) 10) (post.map (fun q => aRt d q.2)) := by
    have h3 := d3.2.2
    rw [List.map_append, List.map_cons] at h3
    refine (Chn_split _ _ _ _ h3 (fun e => ?_)).2
    obtain ⟨r, hr, he⟩ := List.mem_map.mp e
    have hb : aRt d q.2 ∈ adLs d (pre.map Prod.snd) := he ▸ List.mem_flatMap.mpr ⟨r.2, List.mem_map.mpr ⟨r, hr, rfl⟩, aRt_mem d r.2⟩
    exact hdis _ (own_fs (aRt_mem d q.2)) hb
  refine ⟨⟨WE_Fq d1 hF (fun b hb => by have := (d7 b hb).2.1; omega), ⟨⟨ka1.1, by rw [rv_sr, if_neg (by omega)]; exact ka1.2.1, ka1.2.2⟩, by rw [iv_sr, ka2]; exact n2, by rw [iv_sr, ka2]; exact n3, by rw [iv_sr, ka2]; exact n4, by rw [iv_sr, ka2]; exact n5, by rw [iv_sr, ka2]; exact n6, by rw [iv_sr, ka2]; exact n7, by rw [iv_sr, ka2]; exact n8, n9, fun i i0 i1 hi => by rw [iv_sr, ka4]; exact n10 i i0 i1 hi⟩, ⟨?_, ?_, ?_⟩, fun p hpm => ⟨TA_same _ _ p (d4 p hpm).1 (kps p hpm), (d4 p hpm).2⟩, fun r hr => ⟨Fl_same (d5 r (hpo r hr)).1 (kpo r hr), (d5 r (hpo r hr)).2⟩, ?_, fun b hb => OkA_Fq hF d7 b ((hmem b).mp hb), hnd, fun b hb => d9 b ((hmem b).mp hb), ⟨by rw [iv_sr, hLw 6 (by decide)]; exact d10.1, by rw [iv_sr, hLw 7 (by decide)]; exact d10.2.1, by rw [iv_sr, hLw 8 (by decide)]; exact d10.2.2.1, ?_⟩, by rw [iv_sr, hLw 3 (by decide)]; exact d11, d12.trans hF d9 (Int.le_refl _), ⟨by show sz G1 = _; rw [hL.1]; exact d13.1, by show sl G1 = _; rw [hL.2.1]; exact d13.2.1, by rw [hperm.length_eq]; exact d13.2.2.1, d13.2.2.2⟩, fun hn => ?_, by rw [rv_sr, if_neg (by omega), ka3]; exact d15, by rw [iv_sr, ka2]; exact d16⟩, Fl_same (d5 q hq).1 kq, (d5 q hq).2⟩
  · rw [rv_sr, if_neg (by omega), ka3]; exact Chn_kept _ _ d3.1 (fun b hb => by obtain ⟨p, hpm, rfl⟩ := List.mem_map.mp hb; exact (kps p hpm _ (aRt_mem d p)).2.2.1 10)
  · rw [rv_sr, if_neg (by omega), ka3]; exact d3.2.1
  · have hrest1 : Chn G (rv G1 (aRt d q.2) 10) (post.map (fun q => aRt d q.2)) := by rw [(hk _ (own_fs (aRt_mem d q.2))).2.2.1]; exact hrest
    rw [rv_sr, if_pos ⟨rfl, rfl⟩]
    exact Chn_kept _ _ hrest1 (fun b hb => by obtain ⟨r, hr, rfl⟩ := List.mem_map.mp hb; exact (kpo r hr _ (aRt_mem d r.2)).2.2.1 10)
  · rw [rv_sr, if_neg (by omega)]
    refine Chn_kept _ _ hch (fun b hb => ?_)
    rw [rv_sr, if_neg (fun z => u1 b (List.mem_append_right _ hb) z.1)]
  · rw [iv_sr, hg]
    show _ = wr (κ.2.2.2 + ((pre.map (fun t => tsz d t.2)).sum : Nat))
    unfold tszL; rw [List.map_map]; rfl
  · have := (d14 hn).1
    exact absurd this (by cases pre <;> simp)
/-- what is in hand becomes the last part -/
theorem DO_add {t : Tr d} (hD : DX mk sk pa P st vl ss N h c β d ns a f x nm dn G0 A0 n0 k0 nr t0 G m ps rm κ (adL d t) fs cr tp) (ht : TA G c β d (ns + 1) t) (hgd : Gd P d t) {G1 : Hp} (hG1 : (ps = [] ∧ G1 = sr (sr (sr G (aRt d t) 10 none) a 8 (some (aRt d t))) a 9 (some (aRt d t))) ∨ ∃ ps' p, ps = ps' ++ [p] ∧ G1 = sr (sr (sr G (aRt d t) 10 none) (aRt d p) 10 (some (aRt d t))) a 9 (some (aRt d t))) : DO mk sk pa P st vl ss N h c β d ns a f x nm dn G0 A0 n0 k0 nr t0 G1 m (ps ++ [t]) rm κ fs cr tp := by
  obtain ⟨d1, d2, d3, d4, d5, d6, d7, d8, d9, d10, d11, d12, d13, d14, d15, d16⟩ := hD
  have hms := WE_ms d1
  obtain ⟨u1, u2, u3, u4⟩ := own_nd d8
  obtain ⟨v1, v2, v3⟩ := List.nodup_append.mp u4
  have hperm : (own d a (ps ++ [t]) rm fs).Perm (own d a ps rm (adL d t ++ fs)) := by
    unfold own
    refine List.Perm.cons _ ?_
    rw [adLs_app, show adLs d [t] = adL d t from by simp [adLs], List.append_assoc]
    refine List.Perm.append_left _ ?_
    rw [← List.append_assoc, ← List.append_assoc]
    exact List.Perm.append_right _ List.perm_append_comm
  have hmem : ∀ b, b ∈ own d a (ps ++ [t]) rm fs ↔ b ∈ own d a ps rm (adL d t ++ fs) := fun b => hperm.mem_iff
  have oa := d7 a (List.mem_cons_self ..)
  have ot := d7 _ (own_fs (a := a) (ps := ps) (rm := rm) (List.mem_append_left fs (aRt_mem d t)))
  have hta : aRt d t ≠ a := u1 _ (List.mem_append_left _ (aRt_mem d t))
  -- what G1 is
  have hI : ∀ (b : Nat) (k : Int), iv G1 b k = iv G b k := by
    rcases hG1 with ⟨-, rfl⟩ | ⟨ps', p, -, rfl⟩ <;> exact fun b k => rfl
  have hT : ∀ b, tg G1 b = tg G b ∧ ln G1 b = ln G b := by
    rcases hG1 with ⟨-, rfl⟩ | ⟨ps', p, -, rfl⟩ <;> exact fun b => ⟨rfl, rfl⟩
  have hS : sz G1 = sz G ∧ sl G1 = sl G := by
    rcases hG1 with ⟨-, rfl⟩ | ⟨ps', p, -, rfl⟩ <;> exact ⟨rfl, rfl⟩
  have hR : ∀ (b : Nat) (k : Int), rv G1 b k = rv G b k ∨ (b ∈ own d a ps rm (adL d t ++ fs) ∧ k ≠ 7) := by
    rcases hG1 with ⟨-, rfl⟩ | ⟨ps', p, hps, rfl⟩
    · intro b k
      simp only [rv_sr]
      by_cases c1 : b = a ∧ (k = 9 ∨ k = 8)
      · exact Or.inr ⟨c1.1 ▸ List.mem_cons_self .., by omega⟩
      · rw [if_neg (fun z => c1 ⟨z.1, Or.inl z.2⟩), if_neg (fun z => c1 ⟨z.1, Or.inr z.2⟩)]
        by_cases c2 : b = aRt d t ∧ k = 10
        · exact Or.inr ⟨c2.1 ▸ own_fs (List.mem_append_left _ (aRt_mem d t)), by omega⟩
        · exact Or.inl (if_neg c2)
    · intro b k
      have hp : p ∈ ps := by rw [hps]; exact List.mem_append_right _ (List.mem_singleton.mpr rfl)
      simp only [rv_sr]
      by_cases c1 : b = a ∧ k = 9
      · exact Or.inr ⟨c1.1 ▸ List.mem_cons_self .., by omega⟩
      · rw [if_neg c1]
        by_cases c3 : b = aRt d p ∧ k = 10
        · exact Or.inr ⟨c3.1 ▸ own_ps hp (aRt_mem d p), by omega⟩
        · rw [if_neg c3]
          by_cases c2 : b = aRt d t ∧ k = 10
          · exact Or.inr ⟨c2.1 ▸ own_fs (List.mem_append_left _ (aRt_mem d t)), by omega⟩
          · exact Or.inl (if_neg c2)
  have hF : Fq mk sk t0 (own d a ps rm (adL d t ++ fs)) G G1 := ⟨by rw [hS.1]; exact Nat.le_refl _, fun b _ => hT b, fun b k _ => by
    rcases hR b k with g | g
    · exact Or.inl g
    · exact Or.inr (Or.inr g), fun b k _ => Or.inl (hI b k)⟩
  have hCO : ∀ b, b ∈ own d a ps rm (adL d t ++ fs) → CO G1 b := fun b hb => CO_Fq hF (d7 b hb).1 (d7 b hb).2.2
  -- references of what isn't touched
  have hRo : ∀ (b : Nat) (k : Int), b ≠ a → ¬ (b = aRt d t ∧ k = 10) → (∀ p ∈ ps, ¬ (b = aRt d p ∧ k = 10)) → rv G1 b k = rv G b k := by
    rcases hG1 with ⟨-, rfl⟩ | ⟨ps', p, hps, rfl⟩
    · intro b k h1 h2 _
      simp only [rv_sr]
      rw [if_neg (fun z => h1 z.1), if_neg (fun z => h1 z.1), if_neg h2]
    · intro b k h1 h2 h3
      simp only [rv_sr]
      rw [if_neg (fun z => h1 z.1), if_neg (h3 p (by rw [hps]; exact List.mem_append_right _ (List.mem_singleton.mpr rfl))), if_neg h2]
  have ha11 : rv G1 a 11 = rv G a 11 := by
    rcases hG1 with ⟨-, rfl⟩ | ⟨ps', p, hps, rfl⟩
    · simp only [rv_sr]; rw [if_neg (by omega), if_neg (by omega), if_neg (by omega)]
    · simp only [rv_sr]; rw [if_neg (by omega), if_neg (by omega), if_neg (by omega)]
  have ha10 : rv G1 a 10 = rv G a 10 := by
    rcases hG1 with ⟨-, rfl⟩ | ⟨ps', p, hps, rfl⟩
    · simp only [rv_sr]; rw [if_neg (by omega), if_neg (by omega), if_neg (by omega)]
    · have hp : p ∈ ps := by rw [hps]; exact List.mem_append_right _ (List.mem_singleton.mpr rfl)
      have hpa : aRt d p ≠ a := (u2 p hp _ (aRt_mem d p)).1
      simp only [rv_sr]; rw [if_neg (by omega), if_neg (by omega), if_neg (by omega)]
  have ndp : ∀ p ∈ ps, (adL d p).Nodup := fun p hp => by
    have h1 := (List.nodup_append.mp (List.nodup_cons.mp d8).2).1
    exact adLs_nd _ _ h1 p hp
  obtain ⟨n1, n2, n3, n4, n5, n6, n7, n8, n9, n10⟩ := d2
  have ndp2 : ∀ p ∈ ps, ∀ p' ∈ ps, ∀ b ∈ adL d p, b = aRt d p' → p' = p ∨ True := fun _ _ _ _ _ _ _ => Or.inr trivial
  -- within a part only its root's next may be otherwise
  have hpar : ∀ p ∈ ps, ∀ b ∈ adL d p, ∀ k, ¬ (b = aRt d p ∧ k = 10) → rv G1 b k = rv G b k := by
    rcases hG1 with ⟨hps, -⟩ | ⟨ps', p, hps, rfl⟩
    · intro p hp; rw [hps] at hp; cases hp
    · intro p0 hp0 b hb k hbk
      have hba := (u2 p0 hp0 b hb).1
      have hbt : b ≠ aRt d t := fun e => (u2 p0 hp0 b hb).2 (List.mem_append_left _ (e ▸ aRt_mem d t))
      simp only [rv_sr]
      rw [if_neg (fun z => hba z.1)]
      by_cases c3 : b = aRt d p ∧ k = 10
      · exfalso
        rw [hps] at hp0
        rcases List.mem_append.mp hp0 with h0 | h0
        · have h1 := (List.nodup_append.mp (List.nodup_cons.mp d8).2).1
          rw [hps, adLs_app] at h1
          have h2 := (List.nodup_append.mp h1).2.2
          exact h2 b (List.mem_flatMap.mpr ⟨p0, h0, hb⟩) (aRt d p) (List.mem_flatMap.mpr ⟨p, List.mem_singleton.mpr rfl, aRt_mem d p⟩) c3.1
        · rw [List.mem_singleton.mp h0] at hbk; exact hbk c3
      · rw [if_neg c3, if_neg (fun z => hbt z.1)]
  have hrmv : ∀ q ∈ rm, ∀ b ∈ adL d q.2, CO G1 b ∧ (∀ k, iv G1 b k = iv G b k) ∧ (∀ k, rv G1 b k = rv G b k) ∧ ∀ k, iv G1 (b + 1) k = iv G (b + 1) k := fun q hq b hb => by
    refine ⟨hCO b (own_rm hq hb), hI b, fun k => hRo b k (u3 q hq b hb).1 (fun z => (u3 q hq b hb).2 (List.mem_append_left _ (z.1 ▸ aRt_mem d t))) (fun p hp z => ?_), hI (b + 1)⟩
    have h1 := (List.nodup_append.mp (List.nodup_cons.mp d8).2).2.2
    exact h1 (aRt d p) (List.mem_flatMap.mpr ⟨p, hp, aRt_mem d p⟩) b (List.mem_append_left _ (List.mem_flatMap.mpr ⟨q.2, List.mem_map.mpr ⟨q, hq, rfl⟩, hb⟩)) z.1.symm
  refine ⟨WE_Fq d1 hF (fun b hb => by have := (d7 b hb).2.1; omega), ⟨hCO a (List.mem_cons_self ..), by rw [hI]; exact n2, by rw [hI]; exact n3, by rw [hI]; exact n4, by rw [hI]; exact n5, by rw [hI]; exact n6, by rw [hI]; exact n7, by rw [hI]; exact n8, n9, fun i i0 i1 hi => by rw [hI]; exact n10 i i0 i1 hi⟩, ⟨?_, ?_, ?_⟩, fun p hp => ?_, fun q hq => ⟨Fl_same (d5 q hq).1 (hrmv q hq), (d5 q hq).2⟩, ?_, fun b hb => OkA_Fq hF d7 b ((hmem b).mp hb), hperm.nodup_iff.mpr d8, fun b hb => d9 b ((hmem b).mp hb), ⟨by rw [hI]; exact d10.1, by rw [hI]; exact d10.2.1, by rw [hI]; exact d10.2.2.1, by rw [hI]; exact d10.2.2.2⟩, by rw [hI]; exact d11, d12.trans hF d9 (Int.le_refl _), ⟨by rw [hS.1]; exact d13.1, by rw [hS.2]; exact d13.2.1, by rw [hperm.length_eq]; exact d13.2.2.1, d13.2.2.2⟩, d14, by rw [ha10]; exact d15, by rw [hI]; exact d16⟩
  · rcases hG1 with ⟨hps, rfl⟩ | ⟨ps', p, hps, rfl⟩
    · rw [hps]
      show Chn _ _ [aRt d t]
      refine ⟨?_, ?_⟩
      · simp only [rv_sr]; rw [if_neg (by omega), if_pos (by simp)]
      · show rv _ _ _ = none
        simp only [rv_sr]; rw [if_neg (fun z => hta z.1), if_neg (fun z => hta z.1), if_pos (by simp)]
    · have hp : p ∈ ps := by rw [hps]; exact List.mem_append_right _ (List.mem_singleton.mpr rfl)
      have hpa : aRt d p ≠ a := (u2 p hp _ (aRt_mem d p)).1
      have hpt : aRt d p ≠ aRt d t := fun e => (u2 p hp _ (aRt_mem d p)).2 (List.mem_append_left _ (e ▸ aRt_mem d t))
      have h3 := d3.1
      rw [hps, List.map_append, List.map_cons, List.map_nil] at h3
      rw [hps, List.map_append, List.map_append, List.map_cons, List.map_nil, List.map_cons, List.map_nil]
      rw [show rv (sr (sr (sr G (aRt d t) 10 none) (aRt d p) 10 (some (aRt d t))) a 9 (some (aRt d t))) a 8 = rv G a 8 from by simp only [rv_sr]; rw [if_neg (by omega), if_neg (by omega), if_neg (by omega)]]
      refine Chn_snoc ?_ _ _ _ h3 (fun e he => ?_) ?_
      · simp only [rv_sr]; rw [if_neg (fun z => hta z.1), if_neg (fun z => hpt z.1.symm), if_pos (by simp)]
      · obtain ⟨p0, hp0, rfl⟩ := List.mem_map.mp he
        have hp0m : p0 ∈ ps := by rw [hps]; exact List.mem_append_left _ hp0
        have h1 := (List.nodup_append.mp (List.nodup_cons.mp d8).2).1
        rw [hps, adLs_app] at h1
        have h2 := (List.nodup_append.mp h1).2.2
        have hne : aRt d p0 ≠ aRt d p := h2 _ (List.mem_flatMap.mpr ⟨p0, hp0, aRt_mem d p0⟩) _ (List.mem_flatMap.mpr ⟨p, List.mem_singleton.mpr rfl, aRt_mem d p⟩)
        have hne2 : aRt d p0 ≠ aRt d t := fun z => (u2 p0 hp0m _ (aRt_mem d p0)).2 (List.mem_append_left _ (z ▸ aRt_mem d t))
        have hne3 : aRt d p0 ≠ a := (u2 p0 hp0m _ (aRt_mem d p0)).1
        simp only [rv_sr]
        rw [if_neg (fun z => hne3 z.1), if_neg (fun z => hne z.1), if_neg (fun z => hne2 z.1)]
      · simp only [rv_sr]; rw [if_neg (fun z => hpa z.1), if_pos (by simp)]
  · have : rv G1 a 9 = some (aRt d t) := by
      rcases hG1 with ⟨-, rfl⟩ | ⟨ps', p, hps, rfl⟩ <;> simp [rv_sr]
    rw [this]; simp
  · rw [ha11]
    exact Chn_kept _ _ d3.2.2 (fun b hb => by obtain ⟨q, hq, rfl⟩ := List.mem_map.mp hb; exact (hrmv q hq _ (aRt_mem d q.2)).2.2.1 10)
  · rcases List.mem_append.mp hp with hp | hp
    · exact ⟨TA_root d _ p (d4 p hp).1 (ndp p hp) (fun b hb => ⟨hCO b (own_ps hp hb), hI b, fun k hk => hpar p hp b hb k hk, hI (b + 1)⟩), (d4 p hp).2⟩
    · rw [List.mem_singleton.mp hp]
      refine ⟨TA_root d _ t ht v1 (fun b hb => ⟨hCO b (own_fs (List.mem_append_left _ hb)), hI b, fun k hk => hRo b k (u1 b (List.mem_append_left _ hb)) hk (fun p' hp' z => ?_), hI (b + 1)⟩), hgd⟩
      exact (u2 p' hp' _ (aRt_mem d p')).2 (List.mem_append_left _ (z.1 ▸ hb))
  · rw [hRo 28 0 (by have := oa.2.1; omega) (by have := ot.2.1; omega) (fun p hp => by have := (d7 _ (own_ps (a := a) (rm := rm) (fs := adL d t ++ fs) hp (aRt_mem d p))).2.1; omega)]
    refine Chn_kept _ _ d6 (fun b hb => hRo b 10 (u1 b (List.mem_append_right _ hb)) (fun z => v3 _ (aRt_mem d t) b hb z.1.symm) (fun p hp z => (u2 p hp _ (aRt_mem d p)).2 (List.mem_append_right _ (z.1 ▸ hb))))
end DXS
