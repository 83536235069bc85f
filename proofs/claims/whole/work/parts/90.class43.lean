/-! THE CLASS: what making, letting go and listing leave as it was -/
def RCo (s : Sg) (G : Hp) : Prop := FC G ∧ RCt s.1 G ∧ RCp s.2.1 G ∧ RCr s.2.2.1 G ∧ RCb s.2.2.2.1 G
/-- the trace, not yet listed -/
def RCk (c : Tc) (n : Int) (t : Tr 6) (fs : List Nat) (κ : Kt) (G : Hp) : Prop := nad 6 t = c.1 ∧ TA G c.2.1 (iv G 29 5) 6 1 t ∧ Chn G (rv G 28 0) fs ∧ OkA G (adL 6 t ++ fs) ∧ (adL 6 t ++ fs).Nodup ∧ Ct 29 c.2.2 G ∧ Ct 31 κ G ∧ iv G 29 3 = 0 ∧ iv G 31 3 = 0 ∧ (0 ≤ iv G 29 5 ∧ iv G 29 5 ≤ n) ∧ iv G 31 5 = 0 ∧ 62 ≤ sz G ∧ ((adL 6 t ++ fs).length : Int) ≤ 728 + 364 * n ∧ (sz G : Int) ≤ 70 + 2 * ((adL 6 t ++ fs).length : Int) + 2 * n ∧ (sl G : Int) ≤ 30000 + 23 * ((adL 6 t ++ fs).length : Int) + 12 * n
def Fw (A : List Nat) (G G' : Hp) : Prop := sz G ≤ sz G' ∧ (∀ a, a ≤ sz G → tg G' a = tg G a ∧ ln G' a = ln G a) ∧ (∀ a k, a ≤ sz G → rv G' a k = rv G a k ∨ (a = 28 ∧ k = 0) ∨ (a = 17 ∧ k = 1) ∨ a = 18 ∨ (a ∈ A ∧ k ≠ 7)) ∧ ∀ a k, a ≤ sz G → iv G' a k = iv G a k ∨ (a = 17 ∧ k = 2) ∨ (29 ≤ a ∧ a ≤ 32) ∨ a ∈ A ∨ ∃ b ∈ A, a = b + 1
theorem Fw_of_Fq {mk sk : Nat} {tp : Int} {A : List Nat} {G G' : Hp} (hm : (mk = 29 ∧ sk = 30) ∨ (mk = 31 ∧ sk = 32)) (h : Fq mk sk tp A G G') : Fw A G G' := by
  refine ⟨h.1, h.2.1, fun a k ha => ?_, fun a k ha => ?_⟩
  · rcases h.2.2.1 a k ha with g | g | g
    · exact Or.inl g
    · exact Or.inr (Or.inl g)
    · exact Or.inr (Or.inr (Or.inr (Or.inr g)))
  · rcases h.2.2.2 a k ha with g | g | g | g | g
    · exact Or.inl g
    · exact Or.inr (Or.inr (Or.inl (by omega)))
    · exact Or.inr (Or.inr (Or.inl (by omega)))
    · exact Or.inr (Or.inr (Or.inr (Or.inl g)))
    · exact Or.inr (Or.inr (Or.inr (Or.inr g)))
theorem Fw_of_Lg {mk : Nat} {A : List Nat} {G G' : Hp} (hm : mk = 29 ∨ mk = 31) (h : Lg mk A G G') : Fw A G G' := by
  refine ⟨by rw [h.1]; exact Nat.le_refl _, fun a _ => h.2.2.1 a, fun a k ha => ?_, fun a k ha => ?_⟩
  · rcases h.2.2.2.1 a k with g | g | g
    · exact Or.inl g
    · exact Or.inr (Or.inl g)
    · exact Or.inr (Or.inr (Or.inr (Or.inr g)))
  · rcases h.2.2.2.2 a k with g | g
    · exact Or.inl g
    · exact Or.inr (Or.inr (Or.inl (by omega)))
theorem Fw_of_LsI {A : List Nat} {lo hi v : Int} {r : Option Nat} {G G' : Hp} (h : LsI A lo hi (si (sr G 17 1 r) 17 2 v) G') : Fw A G G' := by
  refine ⟨by rw [h.1]; exact Nat.le_refl _, fun a _ => h.2.2.1 a, fun a k ha => ?_, fun a k ha => ?_⟩
  · rcases h.2.2.2.1 a k with g | g
    · rw [rv_si, rv_sr] at g
      by_cases hc : a = 17 ∧ k = 1
      · exact Or.inr (Or.inr (Or.inl hc))
      · rw [if_neg hc] at g; exact Or.inl g
    · exact Or.inr (Or.inr (Or.inr (Or.inl g.1)))
  · rcases h.2.2.2.2 a k with g | g | g
    · rw [iv_si, iv_sr] at g
      by_cases hc : a = 17 ∧ k = 2
      · exact Or.inr (Or.inl hc)
      · rw [if_neg hc] at g; exact Or.inl g
    · exact Or.inr (Or.inl g)
    · exact Or.inr (Or.inr (Or.inr (Or.inl g.1)))
theorem Fw_of_29 {G G' : Hp} (h : Io G G') (hi : ∀ (a : Nat) (k : Int), a ≠ 29 → iv G' a k = iv G a k) : Fw [] G G' := by
  refine ⟨by rw [h.2.2.2.1]; exact Nat.le_refl _, fun a _ => ⟨h.1 a, h.2.1 a⟩, fun a k _ => Or.inl (h.2.2.1 a k), fun a k _ => ?_⟩
  by_cases ha : a = 29
  · exact Or.inr (Or.inr (Or.inl (by omega)))
  · exact Or.inl (hi a k ha)
theorem Fw_iv {A : List Nat} {G G' : Hp} (hq : Fw A G G') (hO : OkA G A) (h62 : 62 ≤ sz G) {a : Nat} (k : Int) (ha : a ≤ 28 ∨ (35 ≤ a ∧ a ≤ 62)) (h17 : ¬ (a = 17 ∧ k = 2)) : iv G' a k = iv G a k := by
  rcases hq.2.2.2 a k (by omega) with g | g | g | g | ⟨b, g1, g2⟩
  · exact g
  · exact absurd g h17
  · omega
  · have := (hO a g).2.1; omega
  · have := (hO b g1).2.1; omega
theorem Fw_rv {A : List Nat} {G G' : Hp} (hq : Fw A G G') (hO : OkA G A) (h62 : 62 ≤ sz G) {a : Nat} {k : Int} (ha : a ≤ 62) (h28 : a ≠ 28 ∨ k ≠ 0) (h33 : a ≠ 33 ∨ k = 7) (h17 : a ≠ 17 ∨ k ≠ 1) (h18 : a ≠ 18) : rv G' a k = rv G a k := by
  rcases hq.2.2.1 a k (by omega) with g | g | g | g | g
  · exact g
  · omega
  · omega
  · exact absurd g h18
  · have := (hO a g.1).2.1; omega
theorem FC_Fw {A : List Nat} {G G' : Hp} (hq : Fw A G G') (hO : OkA G A) (h62 : 62 ≤ sz G) (hF : FC G) : FC G' := by
  have q1 : ∀ e ∈ fcT, e.1 ≤ 34 := by decide
  have q2 : ∀ e ∈ fcR, e.1 ≤ 34 ∧ e.1 ≠ 28 ∧ (e.1 ≠ 33 ∨ e.2.1 = 7) ∧ (e.1 ≠ 17 ∨ e.2.1 ≠ 1) ∧ e.1 ≠ 18 := by decide
  refine ⟨fun e he => ?_, fun e he => ?_⟩
  · have := q1 e he
    rw [(hq.2.1 e.1 (by omega)).1, (hq.2.1 e.1 (by omega)).2]; exact hF.1 e he
  · have := q2 e he
    rw [Fw_rv hq hO h62 (by omega) (Or.inl this.2.1) this.2.2.1 this.2.2.2.1 this.2.2.2.2]; exact hF.2 e he
theorem Im_Fw {A : List Nat} {G G' : Hp} (hq : Fw A G G') (hO : OkA G A) (h62 : 62 ≤ sz G) {a : Nat} {q : (Int → Int) × Int} (h : ImAt G a q) : ImAt G' a q := by
  obtain ⟨h1, h2, h3, h4, h5, h6, h7, h8, h9, h10⟩ := h
  have n1 : a ∉ A := fun m => by have := (hO a m).1.1; omega
  have n2 : a + 1 ∉ A := fun m => by have := (hO _ m).1.1; omega
  have n3 : ∀ b ∈ A, a ≠ b + 1 := fun b m e => by subst e; have := (hO b m).1.2.2.1; omega
  have n4 : ∀ b ∈ A, a + 1 ≠ b + 1 := fun b m e => by
    have e : b = a := by omega
    subst e; exact n1 m
  have ei : ∀ k, iv G' a k = iv G a k := by
    intro k
    rcases hq.2.2.2 a k (by omega) with g | g | g | g | ⟨b, g1, g2⟩
    · exact g
    · omega
    · omega
    · exact absurd g n1
    · exact absurd g2 (n3 b g1)
  have ei1 : ∀ k, iv G' (a + 1) k = iv G (a + 1) k := by
    intro k
    rcases hq.2.2.2 (a + 1) k h2 with g | g | g | g | ⟨b, g1, g2⟩
    · exact g
    · omega
    · omega
    · exact absurd g n2
    · exact absurd g2 (n4 b g1)
  have er : rv G' a 0 = rv G a 0 := by
    rcases hq.2.2.1 a 0 (by omega) with g | g | g | g | g
    · exact g
    · omega
    · omega
    · omega
    · exact absurd g.1 n1
  exact ⟨h1, Nat.le_trans h2 hq.1, (hq.2.1 a (by omega)).1.trans h3, er.trans h4, (hq.2.1 _ h2).1.trans h5, (hq.2.1 _ h2).2.trans h6, (ei 1).trans h7, (ei 2).trans h8, (ei 3).trans h9, fun k k0 k1 => (ei1 k).trans (h10 k k0 k1)⟩
theorem RCo_Fw {A : List Nat} {G G' : Hp} (hq : Fw A G G') (hO : OkA G A) (h62 : 62 ≤ sz G) {s : Sg} (h : RCo s G) (hp : ∀ x, (x = 29 ∨ x = 31) → rv G' x 4 = rv G x 4) : RCo s G' ∧ Sm isM G G' := by
  obtain ⟨hF, h2, ⟨pa, p1, p2, p3, p4, p5, p6⟩, ⟨k1, k2, k3, k4, k5, k6⟩, h5⟩ := h
  have fi : ∀ (x : Nat) (k : Int), (x ≤ 28 ∨ (35 ≤ x ∧ x ≤ 62)) → x ≠ 17 → iv G' x k = iv G x k := fun x k hx h7 => Fw_iv hq hO h62 k hx (fun z => h7 z.1)
  have fr : ∀ (x : Nat) (k : Int), x ≤ 62 → x ≠ 28 → x ≠ 33 → x ≠ 17 → x ≠ 18 → rv G' x k = rv G x k := fun x k hx h1 h3 h4 h5 => Fw_rv hq hO h62 hx (Or.inl h1) (Or.inl h3) (Or.inl h4) h5
  refine ⟨⟨FC_Fw hq hO h62 hF, RCt_k h2 (fun k => fi _ k (by omega) (by omega)) (fi _ _ (by omega) (by omega)) (fi _ _ (by omega) (by omega)), ⟨pa, p1, by rw [fr _ _ (by omega) (by omega) (by omega) (by omega) (by omega)]; exact p2, by rw [fr _ _ (by omega) (by omega) (by omega) (by omega) (by omega)]; exact p3, by rw [fr _ _ (by omega) (by omega) (by omega) (by omega) (by omega)]; exact p4, by rw [fr _ _ (by omega) (by omega) (by omega) (by omega) (by omega)]; exact p5, RdOk_k p6 (fun x k x0 x1 => fi x k (by omega) (by omega))⟩, ⟨fun k k0 k9 => (fi 16 k (by omega) (by omega)).trans (k1 k k0 k9), (fi _ _ (by omega) (by omega)).trans k2, (fi _ _ (by omega) (by omega)).trans k3, (fi _ _ (by omega) (by omega)).trans k4, RCd_k k5 (fun a k a0 a1 => fi a k (by omega) (by omega)), ⟨fun j j0 j1 => ?_, fun a => by rw [fr 27 0 (by omega) (by omega) (by omega) (by omega) (by omega), fr 27 1 (by omega) (by omega) (by omega) (by omega) (by omega)]; exact k6.2 a⟩⟩, RCb_k h5 (fi _ _ (by omega) (by omega)) (fun k => fi _ k (by omega) (by omega)) (fun k => fi _ k (by omega) (by omega)) (fun k => fi _ k (by omega) (by omega))⟩, fun x hx => ?_⟩
  · have hk := k6.1 j j0 j1
    cases hq' : s.2.2.1.2.2.1 j with
    | none => rw [hq'] at hk; dsimp only at hk ⊢; rw [fr 27 j (by omega) (by omega) (by omega) (by omega) (by omega)]; exact hk
    | some q =>
      rw [hq'] at hk
      obtain ⟨a, a1, a2⟩ := hk
      exact ⟨a, by rw [fr 27 j (by omega) (by omega) (by omega) (by omega) (by omega)]; exact a1, Im_Fw hq hO h62 a2⟩
  · unfold isM at hx
    exact ⟨(hq.2.1 x (by omega)).1, (hq.2.1 x (by omega)).2, fun k => fi x k (by omega) (by omega), fun k => fr x k (by omega) (by omega) (by omega) (by omega) (by omega)⟩
theorem RCo_Fw' {A : List Nat} {G G' : Hp} (hq : Fw A G G') (hO : OkA G A) (h62 : 62 ≤ sz G) {s : Sg} (h : RCo s G) : RCo s G' ∧ Sm isM G G' := RCo_Fw hq hO h62 h (fun x hx => Fw_rv hq hO h62 (by omega) (by omega) (by omega) (by omega) (by omega))
theorem WE_o {s : Sg} {G : Hp} (h : RCo s G) (c15 : 62 ≤ sz G) {mk sk : Nat} (hm : (mk = 29 ∧ sk = 30) ∨ (mk = 31 ∧ sk = 32)) : ∃ pa, (pa = 7 ∨ pa = 11) ∧ rv G 1 4 = some pa ∧ WE mk sk pa s.2.1 (iv G (pa + 1)) (iv G (pa + 2)) (iv G (pa + 3)) (iv G pa 3) s.2.2.1.1 (iv G mk 5) G ∧ PgC s.2.1 (iv G (pa + 1)) (iv G (pa + 2)) (iv G (pa + 3)) (iv G pa 3) ∧ Pok s.2.1 := by
  obtain ⟨hF, h2, ⟨pa, p1, p2, p3, p4, p5, p6⟩, h4, h5⟩ := h
  have hE : ENs mk sk pa G := by
    rcases hm with ⟨rfl, rfl⟩ | ⟨rfl, rfl⟩
    · exact ⟨ft29 hF, fr29_0 hF, fr29_1 hF, fr29_2 hF, p4, ft30 hF, fl30 hF, ft15 hF, fr15_0 hF, ft16 hF, fl16 hF, ft28 hF, PGs_FC hF p1, Or.inl ⟨rfl, rfl⟩, p1⟩
    · exact ⟨ft31 hF, fr31_0 hF, fr31_1 hF, fr31_2 hF, p5, ft32 hF, fl32 hF, ft15 hF, fr15_0 hF, ft16 hF, fl16 hF, ft28 hF, PGs_FC hF p1, Or.inr ⟨rfl, rfl⟩, p1⟩
  exact ⟨pa, p1, p2, ⟨hE, rfl, p6.1, fun _ => rfl, fun _ => rfl, fun _ => rfl, h4.1, rfl, c15⟩, (RdOk_PgC p6).1, (RdOk_PgC p6).2⟩
theorem TA_same2 {G G' : Hp} {h : Int → Int} {β : Int} : ∀ (d : Nat) (ns : Int) (t : Tr d), TA G h β d ns t → (∀ b ∈ adL d t, CO G' b ∧ (∀ k, k < 13 → iv G' b k = iv G b k) ∧ (∀ k, rv G' b k = rv G b k) ∧ ∀ k, iv G' (b + 1) k = iv G (b + 1) k) → TA G' h β d ns t := by
  intro d
  induction d with
  | zero => intro ns t; exact t.elim
  | succ d ih =>
    intro ns t ⟨⟨a1, a2, a3, a4, a5, a6, a7, a8, a9, a10⟩, h2, h3⟩ hk
    obtain ⟨k1, k2, k3, k4⟩ := hk _ (List.mem_cons_self ..)
    have hp : ∀ p ∈ t.2, ∀ b ∈ adL d p, b ∈ adL (d + 1) t := fun p hp b hb => List.mem_cons_of_mem _ (List.mem_flatMap.mpr ⟨p, hp, hb⟩)
    refine ⟨⟨k1, by rw [k2 _ (by decide)]; exact a2, by rw [k2 _ (by decide)]; exact a3, by rw [k2 _ (by decide)]; exact a4, by rw [k2 _ (by decide)]; exact a5, by rw [k2 _ (by decide)]; exact a6, by rw [k2 _ (by decide)]; exact a7, by rw [k2 _ (by decide)]; exact a8, by rw [k2 _ (by decide)]; exact a9, fun i i0 i1 hi => by rw [k4]; exact a10 i i0 i1 hi⟩, ?_, fun p hpm => ih _ p (h3 p hpm) (fun b hb => hk b (hp p hpm b hb))⟩
    rw [k3]
    refine Chn_kept _ _ h2 (fun b hb => ?_)
    obtain ⟨p, hpm, rfl⟩ := List.mem_map.mp hb
    exact (hk _ (hp p hpm _ (aRt_mem d p))).2.2.1 10
/-- the trace listed -/
theorem list_ok {s : Sg} {c : Tc} {n : Int} {t : Tr 6} {fs : List Nat} {κ : Kt} {G G' : Hp} (ho : RCo s G) (hk : RCk c n t fs κ G) (hl : LsI (adL 6 t) 0 (tsz 6 t : Int) (si (sr G 17 1 (some (nAd t.1))) 17 2 0) G') (h2 : iv G' 17 2 = (tsz 6 t : Int)) (hi : IA G' 0 (inf 6 1 0 (-1) t)) : RC n (s.1, s.2.1, s.2.2.1, s.2.2.2.1, c) G' ∧ Sm isM G G' := by
  obtain ⟨c1, c2, c6, c7, c8, c9, c10, c11, c12, c13, c14, c15, c16, c17, c18⟩ := hk
  have hOt : OkA G (adL 6 t) := fun b hb => c7 b (List.mem_append_left _ hb)
  have hw := Fw_of_LsI hl
  obtain ⟨⟨r1, r2, r3, r4, r5⟩, r6⟩ := RCo_Fw' hw hOt c15 ho
  have e1 : ∀ (a : Nat) (k : Int), a ≠ 17 → a ≠ 18 → rv G' a k = rv G a k := fun a k h17 h18 => by
    rw [LsI_rv hl h18, rv_si, rv_sr, if_neg (fun z => h17 z.1)]
  have e2 : ∀ (a : Nat) (k : Int), a ≠ 17 → (a ∉ adL 6 t ∨ k < 13) → iv G' a k = iv G a k := fun a k h17 hh => by
    rw [LsI_iv hl (fun z => h17 z.1) (by rcases hh with q | q; exact Or.inl q; exact Or.inr ⟨by omega, by omega⟩), iv_si, if_neg (fun z => h17 z.1), iv_sr]
  have hsz : sz G' = sz G := hl.1
  have hsl : sl G' = sl G := hl.2.1
  have n29 : ∀ x, x ≤ 32 → x ∉ adL 6 t := fun x hx m => by have := (hOt x m).2.1; omega
  have hCO : ∀ b ∈ adL 6 t ++ fs, CO G' b := fun b hb => by
    have ob := c7 b hb
    exact ⟨((hl.2.2.1 b).1).trans ob.1.1, (e1 b 7 (by omega) (by omega)).trans ob.1.2.1, ((hl.2.2.1 _).1).trans ob.1.2.2.1, ((hl.2.2.1 _).2).trans ob.1.2.2.2⟩
  have e29 : ∀ k, iv G' 29 k = iv G 29 k := fun k => e2 29 k (by omega) (Or.inl (n29 29 (by omega)))
  have e31 : ∀ k, iv G' 31 k = iv G 31 k := fun k => e2 31 k (by omega) (Or.inl (n29 31 (by omega)))
  refine ⟨⟨r1, r2, r3, r4, r5, t, fs, κ, c1, ?_, ?_, h2, hi, ?_, fun b hb => ⟨hCO b hb, (c7 b hb).2.1, by rw [hsz]; exact (c7 b hb).2.2⟩, c8, ⟨by rw [e29]; exact c9.1, by rw [e29]; exact c9.2.1, by rw [e29]; exact c9.2.2.1, by rw [e29]; exact c9.2.2.2⟩, ⟨by rw [e31]; exact c10.1, by rw [e31]; exact c10.2.1, by rw [e31]; exact c10.2.2.1, by rw [e31]; exact c10.2.2.2⟩, by rw [e29]; exact c11, by rw [e31]; exact c12, by rw [e29]; exact c13, by rw [e31]; exact c14, by omega, c16, by rw [hsz]; exact c17, by rw [hsl]; exact c18⟩, r6⟩
  · rw [e29]
    refine TA_same2 _ _ t c2 (fun b hb => ?_)
    have ob := hOt b hb
    refine ⟨hCO b (List.mem_append_left _ hb), fun k k1 => e2 b k (by omega) (Or.inr k1), fun k => e1 b k (by omega) (by omega), fun k => e2 (b + 1) k (by omega) (Or.inl (fun m => ?_))⟩
    have := (hOt _ m).1.1; have := ob.1.2.2.1; omega
  · rw [LsI_rv hl (by decide), rv_si, rv_sr, if_pos ⟨rfl, rfl⟩]; rfl
  · rw [e1 28 0 (by omega) (by omega)]
    exact Chn_kept _ _ c6 (fun b hb => by have := (c7 b (List.mem_append_right _ hb)).2.1; exact e1 b 10 (by omega) (by omega))
