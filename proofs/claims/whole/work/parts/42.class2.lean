/-! THE CLASS: trees in the memory, what is let go -/
def aRt (d : Nat) (t : Tr d) : Nat := nAd (rt d t)
def adL : (d : Nat) → Tr d → List Nat
  | 0, t => t.elim
  | d + 1, t => nAd t.1 :: t.2.flatMap (adL d)
def adLs (d : Nat) (l : List (Tr d)) : List Nat := l.flatMap (adL d)
theorem adL_eq (d : Nat) (t : Tr (d + 1)) : adL (d + 1) t = nAd t.1 :: adLs d t.2 := rfl
theorem adLs_cons (d : Nat) (t : Tr d) (l : List (Tr d)) : adLs d (t :: l) = adL d t ++ adLs d l := by simp [adLs]
theorem adLs_app (d : Nat) (l1 l2 : List (Tr d)) : adLs d (l1 ++ l2) = adLs d l1 ++ adLs d l2 := by simp [adLs]
theorem aRt_mem : ∀ (d : Nat) (t : Tr d), aRt d t ∈ adL d t
  | 0, t => t.elim
  | _ + 1, _ => List.mem_cons_self ..
theorem adL_len : ∀ (d : Nat) (t : Tr d), (adL d t).length = tsz d t := by
  intro d
  induction d with
  | zero => intro t; exact t.elim
  | succ d ih =>
    intro t
    show (nAd t.1 :: t.2.flatMap (adL d)).length = 1 + (t.2.map (tsz d)).sum
    rw [List.length_cons, List.length_flatMap, show (fun x => (adL d x).length) = tsz d from funext ih]; omega
theorem adLs_len (d : Nat) (l : List (Tr d)) : (adLs d l).length = tszL d l := by
  unfold adLs tszL
  rw [List.length_flatMap, show (fun x => (adL d x).length) = tsz d from funext (adL_len d)]
/-- the shape of a tree -/
def TS (G : Hp) : (d : Nat) → Int → Tr d → Prop
  | 0, _, t => t.elim
  | d + 1, ns, t => CO G (nAd t.1) ∧ iv G (nAd t.1) 5 = ns ∧ Chn G (rv G (nAd t.1) 8) (t.2.map (aRt d)) ∧ ∀ p ∈ t.2, TS G d (ns + 1) p
/-- one call in the memory -/
def Nf (G : Hp) (h : Int → Int) (β : Int) (n : Nd) (ns : Int) : Prop := CO G (nAd n) ∧ iv G (nAd n) 0 = nF n ∧ iv G (nAd n) 1 = nX n ∧ iv G (nAd n) 2 = nV n ∧ iv G (nAd n) 3 = wr (nN n) ∧ iv G (nAd n) 4 = wr (nD n) ∧ iv G (nAd n) 5 = ns ∧ iv G (nAd n) 6 = nM n ∧ iv G (nAd n) 12 ≤ β ∧ ∀ i, 0 ≤ i → i < 8 → rb (nM n) i = 1 → iv G (nAd n + 1) i = h i
/-- a tree in the memory: h what cells held, β the last bring -/
def TA (G : Hp) (h : Int → Int) (β : Int) : (d : Nat) → Int → Tr d → Prop
  | 0, _, t => t.elim
  | d + 1, ns, t => Nf G h β t.1 ns ∧ Chn G (rv G (nAd t.1) 8) (t.2.map (aRt d)) ∧ ∀ p ∈ t.2, TA G h β d (ns + 1) p
theorem TA_TS {G : Hp} {h : Int → Int} {β : Int} : ∀ (d : Nat) (ns : Int) (t : Tr d), TA G h β d ns t → TS G d ns t := by
  intro d
  induction d with
  | zero => intro ns t; exact t.elim
  | succ d ih => intro ns t ⟨h1, h2, h3⟩; exact ⟨h1.1, h1.2.2.2.2.2.2.1, h2, fun p hp => ih _ p (h3 p hp)⟩
theorem TA_mono {G : Hp} {h : Int → Int} {β β' : Int} (hb : β ≤ β') : ∀ (d : Nat) (ns : Int) (t : Tr d), TA G h β d ns t → TA G h β' d ns t := by
  intro d
  induction d with
  | zero => intro ns t; exact t.elim
  | succ d ih =>
    intro ns t ⟨⟨a1, a2, a3, a4, a5, a6, a7, a8, a9, a10⟩, h2, h3⟩
    exact ⟨⟨a1, a2, a3, a4, a5, a6, a7, a8, by omega, a10⟩, h2, fun p hp => ih _ p (h3 p hp)⟩
/-- addresses of calls -/
def OkA (G : Hp) (A : List Nat) : Prop := ∀ b ∈ A, CO G b ∧ (b = 33 ∨ 63 ≤ b) ∧ b + 1 ≤ sz G
theorem OkA_app {G : Hp} {A B : List Nat} : OkA G (A ++ B) ↔ OkA G A ∧ OkA G B := by
  unfold OkA
  constructor
  · intro h; exact ⟨fun b hb => h b (List.mem_append_left _ hb), fun b hb => h b (List.mem_append_right _ hb)⟩
  · rintro ⟨h1, h2⟩ b hb
    rcases List.mem_append.mp hb with hb | hb
    · exact h1 b hb
    · exact h2 b hb
def Seg (G : Hp) : Option Nat → List Nat → Option Nat → Prop
  | r, [], e => r = e
  | r, a :: l, e => r = some a ∧ some a ≠ e ∧ Seg G (rv G a 10) l e
theorem Seg_of_Chn {G : Hp} : ∀ (l : List Nat) (r : Option Nat), Chn G r l → Seg G r l none := by
  intro l
  induction l with
  | nil => intro r h; exact h
  | cons a l ih => intro r ⟨h1, h2⟩; exact ⟨h1, (fun q => by cases q), ih _ h2⟩
theorem Seg_kept {G G' : Hp} : ∀ (l : List Nat) (r e : Option Nat), Seg G r l e → (∀ a ∈ l, rv G' a 10 = rv G a 10) → Seg G' r l e := by
  intro l
  induction l with
  | nil => intro r e h _; exact h
  | cons a l ih =>
    intro r e ⟨h1, h2, h3⟩ hk
    exact ⟨h1, h2, by rw [hk a (List.mem_cons_self ..)]; exact ih _ _ h3 (fun b hb => hk b (List.mem_cons_of_mem _ hb))⟩
theorem Chn_kept {G G' : Hp} : ∀ (l : List Nat) (r : Option Nat), Chn G r l → (∀ a ∈ l, rv G' a 10 = rv G a 10) → Chn G' r l := by
  intro l
  induction l with
  | nil => intro r h _; exact h
  | cons a l ih =>
    intro r ⟨h1, h3⟩ hk
    exact ⟨h1, by rw [hk a (List.mem_cons_self ..)]; exact ih _ h3 (fun b hb => hk b (List.mem_cons_of_mem _ hb))⟩
/-- what letting go may change -/
def Lg (mk : Nat) (A : List Nat) (G G' : Hp) : Prop := sz G' = sz G ∧ sl G' = sl G ∧ (∀ a, tg G' a = tg G a ∧ ln G' a = ln G a) ∧ (∀ a k, rv G' a k = rv G a k ∨ (a = 28 ∧ k = 0) ∨ (a ∈ A ∧ k ≠ 7)) ∧ ∀ a k, iv G' a k = iv G a k ∨ (a = mk ∧ k = 9)
theorem Lg.rf (mk : Nat) (A : List Nat) (G : Hp) : Lg mk A G G := ⟨rfl, rfl, fun _ => ⟨rfl, rfl⟩, fun _ _ => Or.inl rfl, fun _ _ => Or.inl rfl⟩
theorem Lg.trans {mk : Nat} {A B C : List Nat} {G G1 G2 : Hp} (h1 : Lg mk A G G1) (h2 : Lg mk B G1 G2) (ha : ∀ a ∈ A, a ∈ C) (hb : ∀ a ∈ B, a ∈ C) : Lg mk C G G2 := by
  obtain ⟨a1, a2, a3, a4, a5⟩ := h1
  obtain ⟨b1, b2, b3, b4, b5⟩ := h2
  refine ⟨b1.trans a1, b2.trans a2, fun a => ⟨(b3 a).1.trans (a3 a).1, (b3 a).2.trans (a3 a).2⟩, fun a k => ?_, fun a k => ?_⟩
  · rcases b4 a k with h | h | h
    · rw [h]
      rcases a4 a k with g | g | g
      · exact Or.inl g
      · exact Or.inr (Or.inl g)
      · exact Or.inr (Or.inr ⟨ha a g.1, g.2⟩)
    · exact Or.inr (Or.inl h)
    · exact Or.inr (Or.inr ⟨hb a h.1, h.2⟩)
  · rcases b5 a k with h | h
    · rw [h]; exact a5 a k
    · exact Or.inr h
theorem CO_Lg {mk : Nat} {A : List Nat} {G G' : Hp} (h : Lg mk A G G') {a : Nat} (hc : CO G a) : CO G' a := by
  obtain ⟨c1, c2, c3, c4⟩ := hc
  refine ⟨(h.2.2.1 a).1.trans c1, ?_, (h.2.2.1 _).1.trans c3, (h.2.2.1 _).2.trans c4⟩
  rcases h.2.2.2.1 a 7 with g | g | g
  · rw [g]; exact c2
  · exact absurd g.2 (by decide)
  · exact absurd rfl g.2
theorem OkA_Lg {mk : Nat} {A B : List Nat} {G G' : Hp} (h : Lg mk A G G') (hb : OkA G B) : OkA G' B := fun b hbm => ⟨CO_Lg h (hb b hbm).1, (hb b hbm).2.1, by rw [h.1]; exact (hb b hbm).2.2⟩
theorem Lg_rv {mk : Nat} {A : List Nat} {G G' : Hp} (h : Lg mk A G G') {a : Nat} (h1 : a ≠ 28) (h2 : a ∉ A) (k : Int) : rv G' a k = rv G a k := by
  rcases h.2.2.2.1 a k with g | g | g
  · exact g
  · exact absurd g.1 h1
  · exact absurd g.1 h2
theorem Lg_iv {mk : Nat} {A : List Nat} {G G' : Hp} (h : Lg mk A G G') {a : Nat} (h1 : a ≠ mk) (k : Int) : iv G' a k = iv G a k := by
  rcases h.2.2.2.2 a k with g | g
  · exact g
  · exact absurd g.1 h1
theorem TS_Lg {mk : Nat} {A : List Nat} {G G' : Hp} (h : Lg mk A G G') (hmk : mk ≤ 32) : ∀ (d : Nat) (ns : Int) (t : Tr d), TS G d ns t → (∀ a ∈ adL d t, a ∉ A ∧ 33 ≤ a) → TS G' d ns t := by
  intro d
  induction d with
  | zero => intro ns t; exact t.elim
  | succ d ih =>
    intro ns t ⟨h1, h2, h3, h4⟩ hA
    have hr := hA (nAd t.1) (List.mem_cons_self ..)
    have hp : ∀ p ∈ t.2, ∀ a ∈ adL d p, a ∉ A ∧ 33 ≤ a := fun p hp a ha => hA a (List.mem_cons_of_mem _ (List.mem_flatMap.mpr ⟨p, hp, ha⟩))
    refine ⟨CO_Lg h h1, by rw [Lg_iv h (by omega)]; exact h2, ?_, fun p hpm => ih _ p (h4 p hpm) (hp p hpm)⟩
    rw [Lg_rv h (by omega) hr.1]
    refine Chn_kept _ _ h3 (fun a ha => ?_)
    obtain ⟨p, hpm, rfl⟩ := List.mem_map.mp ha
    have := hp p hpm _ (aRt_mem d p)
    exact Lg_rv h (by omega) this.1 _
def MKl (mk : Nat) (G : Hp) : Prop := tg G mk = 3 ∧ rv G mk 1 = some 28 ∧ tg G 28 = 4 ∧ (mk = 29 ∨ mk = 31)
theorem MKl_Lg {mk : Nat} {A : List Nat} {G G' : Hp} (h : Lg mk A G G') (hA : ∀ a ∈ A, 33 ≤ a) (hm : MKl mk G) : MKl mk G' := by
  obtain ⟨m1, m2, m3, m4⟩ := hm
  exact ⟨(h.2.2.1 _).1.trans m1, (Lg_rv h (by omega) (fun q => by have := hA _ q; omega) 1).trans m2, (h.2.2.1 _).1.trans m3, m4⟩
/-- a chain let go -/
def LGC (D mk d : Nat) : Prop := ∀ (l : List (Tr d)) (ns : Int) (G : Hp) (r e : Option Nat) (fs : List Nat) (g : Int), MKl mk G → Seg G r (l.map (aRt d)) e → (∀ p ∈ l, TS G d ns p) → ns + (d : Int) = 7 → Chn G (rv G 28 0) fs → OkA G (adLs d l ++ fs) → (adLs d l ++ fs).Nodup → iv G mk 9 = wr g → CX (D + (2 * d + 1)) 39 [.inr (.inr (some mk)), .inr (.inr r), .inr (.inr e)] G (fun q G' => q = none ∧ ∃ fs', Chn G' (rv G' 28 0) fs' ∧ fs'.Perm (adLs d l ++ fs) ∧ iv G' mk 9 = wr (g + (tszL d l : Int)) ∧ Lg mk (adLs d l) G G')
/-- a call let go with all -/
def LGO (D mk d : Nat) : Prop := ∀ (t : Tr (d + 1)) (ns : Int) (G : Hp) (fs : List Nat) (g : Int), MKl mk G → TS G (d + 1) ns t → ns + (d : Int) = 6 → Chn G (rv G 28 0) fs → OkA G (adL (d + 1) t ++ fs) → (adL (d + 1) t ++ fs).Nodup → iv G mk 9 = wr g → CX (D + (2 * d + 2)) 40 [.inr (.inr (some mk)), .inr (.inr (some (nAd t.1)))] G (fun q G' => q = none ∧ ∃ fs', Chn G' (rv G' 28 0) fs' ∧ fs'.Perm (adL (d + 1) t ++ fs) ∧ iv G' mk 9 = wr (g + (tsz (d + 1) t : Int)) ∧ Lg mk (adL (d + 1) t) G G')
theorem adLs0 (l : List (Tr 0)) : l = [] := by
  cases l with
  | nil => rfl
  | cons t l => exact t.elim
theorem LGO_of {D mk d : Nat} (hC : LGC D mk d) : LGO D mk d := by
  intro t ns G fs g hm ts hns hch hok hnd hg
  obtain ⟨ts1, ts2, ts3, ts4⟩ := ts
  have hmk := hm.2.2.2
  have hokp : OkA G (adLs d t.2 ++ fs) := fun b hb => hok b (List.mem_cons_of_mem _ hb)
  have hndp : (adLs d t.2 ++ fs).Nodup := (List.nodup_cons.mp hnd).2
  have K18 : ∀ (G1 : Hp) (fs' : List Nat), Chn G1 (rv G1 28 0) fs' → fs'.Perm (adLs d t.2 ++ fs) → iv G1 mk 9 = wr (g + (tszL d t.2 : Int)) → Lg mk (adLs d t.2) G G1 → Ex (D + (2 * d + 1)) none 3 false cX3_letGo 18 [some (.inr (.inr (some mk))), some (.inr (.inr (some (nAd t.1))))] [] G1 (fun q G' => q = none ∧ ∃ fs', Chn G' (rv G' 28 0) fs' ∧ fs'.Perm (adL (d + 1) t ++ fs) ∧ iv G' mk 9 = wr (g + (tsz (d + 1) t : Int)) ∧ Lg mk (adL (d + 1) t) G G') := by
    intro G1 fs' hch1 hperm hg1 hL
    have hnot : nAd t.1 ∉ adLs d t.2 ++ fs := (List.nodup_cons.mp hnd).1
    have hm1 := MKl_Lg hL (fun a ha => by have := (hok a (List.mem_append_left _ (List.mem_cons_of_mem _ ha))).2.1; omega) hm
    have ht1 : tg G1 (nAd t.1) = 1 := (CO_Lg hL ts1).1
    have hok1 : OkA G1 fs' := fun b hb => OkA_Lg hL hokp b (hperm.mem_iff.mp hb)
    have hne : ¬ 28 = nAd t.1 := by have := (hok _ (List.mem_append_left _ (List.mem_cons_self ..))).2.1; omega
    refine x_aload_n (q := 19) dX3_letGo_18 rfl rfl ?_
    refine x_dup (q := 20) dX3_letGo_19 rfl rfl ?_
    refine x_getI (q := 23) dX3_letGo_20 rfl f_3_71 rfl (show tg _ mk = 3 from hm1.1) ?_
    refine Ex.stk (st' := [.inl (wr (g + (tszL d t.2 : Int))), .inr (.inr (some mk))]) (by rw [show iv G1 mk 9 = wr (g + (tszL d t.2 : Int)) from hg1]) ?_
    refine x_iconst (q := 24) dX3_letGo_23 rfl (by decide) ?_
    refine x_iadd (q := 25) (z := wr (g + (tszL d t.2 : Int) + 1)) dX3_letGo_24 rfl (wr_add _ 1) ?_
    refine x_putI (q := 28) dX3_letGo_25 rfl f_3_71 rfl (fun h => by cases h) (fun h => by cases h) (show tg _ mk = 3 from hm1.1) ?_
    refine x_aload_n (q := 29) dX3_letGo_28 rfl rfl ?_
    refine x_getR (q := 32) dX3_letGo_29 rfl f_3_19 rfl (show tg _ mk = 3 from hm1.1) ?_
    refine Ex.stk (st' := [.inr (.inr (some 28))]) (by rw [show rv (si G1 mk 9 (wr (g + (tszL d t.2 : Int) + 1))) mk 1 = some 28 from hm1.2.1]) ?_
    refine x_aload_n (q := 33) dX3_letGo_32 rfl rfl ?_
    refine x_invV (q := 36) (as := [.inr (.inr (some 28)), .inr (.inr (some (nAd t.1)))]) (rest := []) dX3_letGo_33 rfl l_3_188 m_X4_giveBack rfl rfl (show tg _ 28 = 4 from hm1.2.2.1) (Nat.le_of_ble_eq_true rfl) (c_giveBack (D + 2 * d) (G := si G1 mk 9 (wr (g + (tszL d t.2 : Int) + 1))) hm1.2.2.1 ht1 hne) (fun r1 G2 hR => ?_)
    obtain ⟨rfl, rfl⟩ := hR
    refine Ex.stk (st' := []) rfl ?_
    refine x_vret dX3_letGo_36 rfl ?_
    refine ⟨rfl, nAd t.1 :: fs', ⟨by simp [rv_sr], ?_⟩, ?_, ?_, ?_⟩
    · rw [show rv (sr (sr (sr (sr (si G1 mk 9 (wr (g + (tszL d t.2 : Int) + 1))) (nAd t.1) 8 none) (nAd t.1) 11 none) (nAd t.1) 10 (rv (si G1 mk 9 (wr (g + (tszL d t.2 : Int) + 1))) 28 0)) 28 0 (some (nAd t.1))) (nAd t.1) 10 = rv G1 28 0 from by simp [rv_sr, rv_si, hne]]
      refine Chn_kept _ _ hch1 (fun b hb => ?_)
      have hb1 : b ≠ nAd t.1 := fun q => hnot (hperm.mem_iff.mp (q ▸ hb))
      have hb2 := (hok1 b hb).2.1
      simp only [rv_sr, rv_si]
      rw [if_neg (by omega), if_neg (fun q => hb1 q.1), if_neg (fun q => hb1 q.1), if_neg (fun q => hb1 q.1)]
    · exact List.Perm.cons _ hperm
    · have : (tsz (d + 1) t : Int) = 1 + (tszL d t.2 : Int) := by rw [tsz_eq]; omega
      simp only [iv_sr, iv_si]; rw [if_pos (by simp), this]; congr 1; omega
    · refine ⟨hL.1, hL.2.1, hL.2.2.1, fun b k => ?_, fun b k => ?_⟩
      · simp only [rv_sr, rv_si]
        by_cases c1 : b = 28 ∧ k = 0
        · exact Or.inr (Or.inl c1)
        · rw [if_neg c1]
          by_cases c2 : b = nAd t.1 ∧ (k = 10 ∨ k = 11 ∨ k = 8)
          · exact Or.inr (Or.inr ⟨c2.1 ▸ List.mem_cons_self .., by omega⟩)
          · rw [if_neg (fun q => c2 ⟨q.1, by omega⟩), if_neg (fun q => c2 ⟨q.1, by omega⟩), if_neg (fun q => c2 ⟨q.1, by omega⟩)]
            rcases hL.2.2.2.1 b k with h | h | h
            · exact Or.inl h
            · exact Or.inr (Or.inl h)
            · exact Or.inr (Or.inr ⟨List.mem_cons_of_mem _ h.1, h.2⟩)
      · simp only [iv_sr, iv_si]
        by_cases c1 : b = mk ∧ k = 9
        · exact Or.inr c1
        · rw [if_neg c1]; exact hL.2.2.2.2 b k
  refine CX.of (d := D + (2 * d + 1)) m_X3_letGo (Nat.le_of_ble_eq_true rfl) ?_
  refine Ex.lcl (ls' := [some (.inr (.inr (some mk))), some (.inr (.inr (some (nAd t.1))))]) rfl ?_
  refine x_aload_n (q := 1) dX3_letGo_0 rfl rfl ?_
  refine x_getI (q := 4) dX3_letGo_1 rfl f_3_101 rfl ts1.1 ?_
  refine Ex.stk (st' := [.inl ns]) (by rw [show iv G (nAd t.1) 5 = ns from ts2]) ?_
  refine x_bipush (q := 6) dX3_letGo_4 rfl (by decide) ?_
  refine x_icmp_ge (q := 9) (t := 18) dX3_letGo_6 rfl (by decide) (fun h6 => ?_) (fun h6 => ?_)
  · have hd0 : d = 0 := by omega
    subst hd0
    have hp0 : t.2 = [] := adLs0 t.2
    exact K18 G fs hch (by rw [hp0]; exact List.Perm.refl _) (by rw [hp0, hg]; congr 1; show g = g + 0; omega) (Lg.rf _ _ _)
  · refine x_aload_n (q := 10) dX3_letGo_9 rfl rfl ?_
    refine x_aload_n (q := 11) dX3_letGo_10 rfl rfl ?_
    refine x_getR (q := 14) dX3_letGo_11 rfl f_3_104 rfl ts1.1 ?_
    refine x_aconst_null (q := 15) dX3_letGo_14 rfl ?_
    have hseg := Seg_of_Chn _ _ ts3
    refine x_invV (q := 18) (as := [.inr (.inr (some mk)), .inr (.inr (rv G (nAd t.1) 8)), .inr (.inr none)]) (rest := []) dX3_letGo_15 rfl l_3_140 m_X3_letGoChain rfl rfl hm.1 (Nat.le_of_ble_eq_true rfl) (hC t.2 (ns + 1) G _ none fs g hm hseg ts4 (by omega) hch hokp hndp hg) (fun r1 G1 hR => ?_)
    obtain ⟨rfl, fs', hch1, hperm, hg1, hL⟩ := hR
    refine Ex.stk (st' := []) rfl ?_
    exact K18 G1 fs' hch1 hperm hg1 hL
theorem lgc_loop {D mk d : Nat} {Q : Option V → Hp → Prop} {e : Option Nat} {l1 : Option V} (hn1 : isL l1 = false) (hO : LGO D mk d) : ∀ (l : List (Tr (d + 1))) (ns : Int) (G : Hp) (r : Option Nat) (fs : List Nat) (g : Int) (l4 : Option V), isL l4 = false → MKl mk G → Seg G r (l.map (aRt (d + 1))) e → (∀ p ∈ l, TS G (d + 1) ns p) → ns + (d : Int) = 6 → Chn G (rv G 28 0) fs → OkA G (adLs (d + 1) l ++ fs) → (adLs (d + 1) l ++ fs).Nodup → iv G mk 9 = wr g → (∀ G' fs', Chn G' (rv G' 28 0) fs' → fs'.Perm (adLs (d + 1) l ++ fs) → iv G' mk 9 = wr (g + (tszL (d + 1) l : Int)) → Lg mk (adLs (d + 1) l) G G' → Q none G') → Ex (D + (2 * d + 2)) none 3 false cX3_letGoChain 2 [some (.inr (.inr (some mk))), l1, some (.inr (.inr e)), some (.inr (.inr r)), l4] [] G Q := by
  intro l
  induction l with
  | nil =>
    intro ns G r fs g l4 hl4 hm hs ht hns hch hok hnd hg kk
    have hr : r = e := hs
    subst hr
    have K := kk G fs hch (List.Perm.refl _) (by rw [hg]; congr 1; show g = g + 0; omega) (Lg.rf _ _ _)
    cases r with
    | none =>
      refine x_aload_n (q := 3) dX3_letGoChain_2 rfl rfl ?_
      refine x_ifnull (q := 6) (t := 28) dX3_letGoChain_3 rfl (by decide) (fun h3 => ?_) (fun a3 h3 => by exfalso; cases h3)
      refine x_vret dX3_letGoChain_28 rfl ?_
      exact K
    | some b =>
      refine x_aload_n (q := 3) dX3_letGoChain_2 rfl rfl ?_
      refine x_ifnull (q := 6) (t := 28) dX3_letGoChain_3 rfl (by decide) (fun h3 => by exfalso; cases h3) (fun a3 h3 => ?_)
      refine x_aload_n (q := 7) dX3_letGoChain_6 rfl rfl ?_
      refine x_aload_n (q := 8) dX3_letGoChain_7 rfl rfl ?_
      refine x_acmp_eq (q := 11) (t := 28) dX3_letGoChain_8 rfl (by decide) (fun h8 => ?_) (fun h8 => by exfalso; exact h8 rfl)
      refine x_vret dX3_letGoChain_28 rfl ?_
      exact K
  | cons t l ih =>
    intro ns G r fs g l4 hl4 hm hs ht hns hch hok hnd hg kk
    obtain ⟨rfl, hne, hs2⟩ := hs
    have ht1 := ht t (List.mem_cons_self ..)
    have hnl : noL [some (.inr (.inr (some mk))), l1, some (.inr (.inr e)), some (.inr (.inr (some (nAd t.1)))), l4] = true := by simp [noL, isL] at hl4 hn1 ⊢; exact ⟨hn1, hl4⟩
    have hnl2 : ∀ y : Option Nat, noL [some (.inr (.inr (some mk))), l1, some (.inr (.inr e)), some (.inr (.inr (some (nAd t.1)))), some (.inr (.inr y))] = true := fun y => by simp [noL, isL] at hn1 ⊢; exact hn1
    rw [adLs_cons, List.append_assoc] at hok hnd
    have hokA := (OkA_app.mp hok).1
    have hokB := (OkA_app.mp hok).2
    have hokC := (OkA_app.mp hokB).1
    obtain ⟨nd1, nd2, nd3⟩ := List.nodup_append.mp hnd
    obtain ⟨nd4, nd5, nd6⟩ := List.nodup_append.mp nd2
    refine x_aload_n (q := 3) dX3_letGoChain_2 rfl rfl ?_
    refine x_ifnull (q := 6) (t := 28) dX3_letGoChain_3 rfl (by decide) (fun h3 => by exfalso; cases h3) (fun a3 h3 => ?_)
    refine x_aload_n (q := 7) dX3_letGoChain_6 rfl rfl ?_
    refine x_aload_n (q := 8) dX3_letGoChain_7 rfl rfl ?_
    refine x_acmp_eq (q := 11) (t := 28) dX3_letGoChain_8 rfl (by decide) (fun h8 => by exfalso; exact hne h8) (fun h8 => ?_)
    refine x_aload_n (q := 12) dX3_letGoChain_11 rfl rfl ?_
    refine x_getR (q := 15) dX3_letGoChain_12 rfl f_3_111 rfl ht1.1.1 ?_
    refine x_astore (q := 17) (ls' := [some (.inr (.inr (some mk))), l1, some (.inr (.inr e)), some (.inr (.inr (some (nAd t.1)))), some (.inr (.inr (rv G (nAd t.1) 10)))]) dX3_letGoChain_15 rfl (Nat.le_of_ble_eq_true rfl) (by first | rfl | exact hnl | exact hnl2 _) rfl ?_
    refine x_aload_n (q := 18) dX3_letGoChain_17 rfl rfl ?_
    refine x_aload_n (q := 19) dX3_letGoChain_18 rfl rfl ?_
    refine x_invV (q := 22) (as := [.inr (.inr (some mk)), .inr (.inr (some (nAd t.1)))]) (rest := []) dX3_letGoChain_19 rfl l_3_62 m_X3_letGo rfl rfl hm.1 (Nat.le_of_ble_eq_true rfl) (hO t ns G fs g hm ht1 hns hch (OkA_app.mpr ⟨hokA, (OkA_app.mp hokB).2⟩) (List.nodup_append.mpr ⟨nd1, nd5, fun a ha b hb => nd3 a ha b (List.mem_append_right _ hb)⟩) hg) (fun r1 G1 hR => ?_)
    obtain ⟨rfl, fs1, hch1, hp1, hg1, hL1⟩ := hR
    have hmk := hm.2.2.2
    have hm1 := MKl_Lg hL1 (fun a ha => by have := (hokA a ha).2.1; omega) hm
    refine Ex.stk (st' := []) rfl ?_
    refine x_aload (q := 24) dX3_letGoChain_22 rfl rfl ?_
    refine x_astore_n (q := 25) (ls' := [some (.inr (.inr (some mk))), l1, some (.inr (.inr e)), some (.inr (.inr (rv G (nAd t.1) 10))), some (.inr (.inr (rv G (nAd t.1) 10)))]) dX3_letGoChain_24 rfl (Nat.le_of_ble_eq_true rfl) (by first | rfl | exact hnl | exact hnl2 _) rfl ?_
    refine x_goto (t := 2) dX3_letGoChain_25 (by decide) ?_
    have hdis : ∀ a ∈ adLs (d + 1) l, a ∉ adL (d + 1) t := fun a ha q => nd3 a q a (List.mem_append_left _ ha) rfl
    have h33 : ∀ a ∈ adLs (d + 1) l, 33 ≤ a := fun a ha => by have := (hokC a ha).2.1; omega
    refine ih ns G1 _ fs1 (g + (tsz (d + 1) t : Int)) _ rfl hm1 (Seg_kept _ _ _ hs2 (fun a ha => ?_)) (fun p hp => TS_Lg hL1 (by omega) _ _ p (ht p (List.mem_cons_of_mem _ hp)) (fun a ha => ?_)) hns hch1 (OkA_app.mpr ⟨OkA_Lg hL1 hokC, fun b hb => ?_⟩) (List.nodup_append.mpr ⟨nd4, hp1.nodup_iff.mpr (List.nodup_append.mpr ⟨nd1, nd5, fun a ha b hb => nd3 a ha b (List.mem_append_right _ hb)⟩), fun a ha b hb => ?_⟩) hg1 (fun G2 fs2 k1 k2 k3 k4 => kk G2 fs2 k1 ?_ ?_ ?_)
    · obtain ⟨p, hp, rfl⟩ := List.mem_map.mp ha
      have hmem : aRt (d + 1) p ∈ adLs (d + 1) l := List.mem_flatMap.mpr ⟨p, hp, aRt_mem _ p⟩
      exact Lg_rv hL1 (by have := h33 _ hmem; omega) (hdis _ hmem) _
    · have hmem : a ∈ adLs (d + 1) l := List.mem_flatMap.mpr ⟨p, hp, ha⟩
      exact ⟨hdis _ hmem, h33 _ hmem⟩
    · rcases List.mem_append.mp (hp1.mem_iff.mp hb) with q | q
      · exact OkA_Lg hL1 hokA b q
      · exact OkA_Lg hL1 (OkA_app.mp hokB).2 b q
    · rcases List.mem_append.mp (hp1.mem_iff.mp hb) with q | q
      · exact fun z => nd3 b q a (List.mem_append_left _ ha) z.symm
      · exact nd6 a ha b q
    · rw [adLs_cons, List.append_assoc]
      refine k2.trans ((List.Perm.append_left _ hp1).trans ?_)
      rw [← List.append_assoc, ← List.append_assoc]
      exact List.Perm.append_right _ List.perm_append_comm
    · rw [k3, tszL_cons]; congr 1; omega
    · rw [adLs_cons]; exact hL1.trans k4 (fun a ha => List.mem_append_left _ ha) (fun a ha => List.mem_append_right _ ha)
theorem LGC_succ {D mk d : Nat} (hO : LGO D mk d) : LGC D mk (d + 1) := by
  intro l ns G r e fs g hm hs ht hns hch hok hnd hg
  refine CX.of (d := D + (2 * d + 2)) m_X3_letGoChain (Nat.le_of_ble_eq_true rfl) ?_
  refine Ex.lcl (ls' := [some (.inr (.inr (some mk))), some (.inr (.inr r)), some (.inr (.inr e)), none, none]) rfl ?_
  refine x_aload_n (q := 1) dX3_letGoChain_0 rfl rfl ?_
  refine x_astore_n (q := 2) (ls' := [some (.inr (.inr (some mk))), some (.inr (.inr r)), some (.inr (.inr e)), some (.inr (.inr r)), none]) dX3_letGoChain_1 rfl (Nat.le_of_ble_eq_true rfl) (by first | rfl | exact hnl | exact hnl2 _) rfl ?_
  exact lgc_loop rfl hO l ns G r fs g none rfl hm hs ht (by omega) hch hok hnd hg (fun G' fs' k1 k2 k3 k4 => ⟨rfl, fs', k1, k2, k3, k4⟩)
theorem LGC_zero (D mk : Nat) : LGC D mk 0 := by
  intro l ns G r e fs g hm hs ht hns hch hok hnd hg
  have hl := adLs0 l
  subst hl
  have hr : r = e := hs
  subst hr
  have K : (none : Option V) = none ∧ ∃ fs', Chn G (rv G 28 0) fs' ∧ fs'.Perm (adLs 0 [] ++ fs) ∧ iv G mk 9 = wr (g + (tszL 0 [] : Int)) ∧ Lg mk (adLs 0 []) G G := ⟨rfl, fs, hch, List.Perm.refl _, by rw [hg]; congr 1; show g = g + 0; omega, Lg.rf _ _ _⟩
  refine CX.of (d := D + 0) m_X3_letGoChain (Nat.le_of_ble_eq_true rfl) ?_
  refine Ex.lcl (ls' := [some (.inr (.inr (some mk))), some (.inr (.inr r)), some (.inr (.inr r)), none, none]) rfl ?_
  cases r with
  | none =>
    refine x_aload_n (q := 1) dX3_letGoChain_0 rfl rfl ?_
    refine x_astore_n (q := 2) (ls' := [some (.inr (.inr (some mk))), some (.inr (.inr none)), some (.inr (.inr none)), some (.inr (.inr none)), none]) dX3_letGoChain_1 rfl (Nat.le_of_ble_eq_true rfl) (by first | rfl | exact hnl | exact hnl2 _) rfl ?_
    refine x_aload_n (q := 3) dX3_letGoChain_2 rfl rfl ?_
    refine x_ifnull (q := 6) (t := 28) dX3_letGoChain_3 rfl (by decide) (fun h3 => ?_) (fun a3 h3 => by exfalso; cases h3)
    refine x_vret dX3_letGoChain_28 rfl ?_
    exact K
  | some b =>
    refine x_aload_n (q := 1) dX3_letGoChain_0 rfl rfl ?_
    refine x_astore_n (q := 2) (ls' := [some (.inr (.inr (some mk))), some (.inr (.inr (some b))), some (.inr (.inr (some b))), some (.inr (.inr (some b))), none]) dX3_letGoChain_1 rfl (Nat.le_of_ble_eq_true rfl) (by first | rfl | exact hnl | exact hnl2 _) rfl ?_
    refine x_aload_n (q := 3) dX3_letGoChain_2 rfl rfl ?_
    refine x_ifnull (q := 6) (t := 28) dX3_letGoChain_3 rfl (by decide) (fun h3 => by exfalso; cases h3) (fun a3 h3 => ?_)
    refine x_aload_n (q := 7) dX3_letGoChain_6 rfl rfl ?_
    refine x_aload_n (q := 8) dX3_letGoChain_7 rfl rfl ?_
    refine x_acmp_eq (q := 11) (t := 28) dX3_letGoChain_8 rfl (by decide) (fun h8 => ?_) (fun h8 => by exfalso; exact h8 rfl)
    refine x_vret dX3_letGoChain_28 rfl ?_
    exact K
theorem lgc_all (D mk : Nat) : ∀ d, LGC D mk d := by
  intro d
  induction d with
  | zero => exact LGC_zero D mk
  | succ d ih => exact LGC_succ (LGO_of ih)
theorem lgo_all (D mk d : Nat) : LGO D mk d := LGO_of (lgc_all D mk d)
