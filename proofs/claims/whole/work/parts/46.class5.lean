/-! THE CLASS: frames, and the picture of a call that is done -/
theorem mask_all : ∀ i : Fin 8, ∀ m : Fin 256, ∀ j : Fin 8, (rb (bor ((m.val : Nat) : Int) (bit ((i.val : Nat) : Int))) ((j.val : Nat) : Int) = if j = i then 1 else rb ((m.val : Nat) : Int) ((j.val : Nat) : Int)) ∧ 0 ≤ bor ((m.val : Nat) : Int) (bit ((i.val : Nat) : Int)) ∧ bor ((m.val : Nat) : Int) (bit ((i.val : Nat) : Int)) ≤ 255 := by decide +kernel
theorem mask_bor {m i j : Int} (m0 : 0 ≤ m) (m1 : m ≤ 255) (i0 : 0 ≤ i) (i1 : i < 8) (j0 : 0 ≤ j) (j1 : j < 8) : (rb (bor m (bit i)) j = if j = i then 1 else rb m j) ∧ 0 ≤ bor m (bit i) ∧ bor m (bit i) ≤ 255 := by
  have h := mask_all ⟨i.toNat, by omega⟩ ⟨m.toNat, by omega⟩ ⟨j.toNat, by omega⟩
  dsimp only at h
  rw [show ((i.toNat : Nat) : Int) = i from by omega, show ((m.toNat : Nat) : Int) = m from by omega, show ((j.toNat : Nat) : Int) = j from by omega] at h
  by_cases hji : j = i
  · rw [if_pos hji]
    subst hji
    rw [if_pos rfl] at h; exact h
  · rw [if_neg hji]
    rw [if_neg (fun q => hji (by have := congrArg Fin.val q; dsimp only at this; omega))] at h; exact h
theorem rb_zero {j : Int} (j0 : 0 ≤ j) (j1 : j < 8) : rb 0 j = 0 := by
  have h : ∀ j : Fin 8, rb 0 ((j.val : Nat) : Int) = 0 := by decide +kernel
  have := h ⟨j.toNat, by omega⟩
  dsimp only at this
  rw [show ((j.toNat : Nat) : Int) = j from by omega] at this; exact this
/-- what the making and bringing of calls may change: stacks from tp on, counts, the pool, the calls of A, what is new -/
def Fq (mk sk : Nat) (tp : Int) (A : List Nat) (G G' : Hp) : Prop := sz G ≤ sz G' ∧ (∀ a, a ≤ sz G → tg G' a = tg G a ∧ ln G' a = ln G a) ∧ (∀ a k, a ≤ sz G → rv G' a k = rv G a k ∨ (a = 28 ∧ k = 0) ∨ (a ∈ A ∧ k ≠ 7)) ∧ ∀ a k, a ≤ sz G → iv G' a k = iv G a k ∨ (a = mk ∧ (k = 3 ∨ (6 ≤ k ∧ k ≤ 9))) ∨ (a = sk ∧ tp ≤ k) ∨ a ∈ A ∨ ∃ b ∈ A, a = b + 1
theorem Fq.rf (mk sk : Nat) (tp : Int) (A : List Nat) (G : Hp) : Fq mk sk tp A G G := ⟨Nat.le_refl _, fun _ _ => ⟨rfl, rfl⟩, fun _ _ _ => Or.inl rfl, fun _ _ _ => Or.inl rfl⟩
theorem Fq.trans {mk sk : Nat} {tp tp' : Int} {A B : List Nat} {G G1 G2 : Hp} (h1 : Fq mk sk tp A G G1) (h2 : Fq mk sk tp' B G1 G2) (hb : ∀ b ∈ B, b ∈ A ∨ sz G < b) (ht : tp ≤ tp') : Fq mk sk tp A G G2 := by
  obtain ⟨a1, a2, a3, a4⟩ := h1
  obtain ⟨b1, b2, b3, b4⟩ := h2
  refine ⟨Nat.le_trans a1 b1, fun a ha => ⟨(b2 a (by omega)).1.trans (a2 a ha).1, (b2 a (by omega)).2.trans (a2 a ha).2⟩, fun a k ha => ?_, fun a k ha => ?_⟩
  · rcases b3 a k (by omega) with h | h | h
    · rw [h]; exact a3 a k ha
    · exact Or.inr (Or.inl h)
    · rcases hb a h.1 with g | g
      · exact Or.inr (Or.inr ⟨g, h.2⟩)
      · omega
  · rcases b4 a k (by omega) with h | h | h | h | ⟨b, h, e⟩
    · rw [h]; exact a4 a k ha
    · exact Or.inr (Or.inl h)
    · exact Or.inr (Or.inr (Or.inl ⟨h.1, by omega⟩))
    · rcases hb a h with g | g
      · exact Or.inr (Or.inr (Or.inr (Or.inl g)))
      · omega
    · rcases hb b h with g | g
      · exact Or.inr (Or.inr (Or.inr (Or.inr ⟨b, g, e⟩)))
      · omega
theorem Fq.mono {mk sk : Nat} {tp tp' : Int} {A B : List Nat} {G G1 : Hp} (h : Fq mk sk tp' A G G1) (hb : ∀ b ∈ A, b ∈ B ∨ sz G < b) (ht : tp ≤ tp') : Fq mk sk tp B G G1 := (Fq.rf mk sk tp B G).trans h hb ht
theorem Fq.si {mk sk : Nat} {tp : Int} {A : List Nat} {G G1 : Hp} (h : Fq mk sk tp A G G1) {b : Nat} {k : Int} (v : Int) (hb : (b = mk ∧ (k = 3 ∨ (6 ≤ k ∧ k ≤ 9))) ∨ (b = sk ∧ tp ≤ k) ∨ b ∈ A ∨ (∃ c ∈ A, b = c + 1) ∨ sz G < b) : Fq mk sk tp A G (si G1 b k v) := by
  obtain ⟨a1, a2, a3, a4⟩ := h
  refine ⟨a1, a2, a3, fun a j ha => ?_⟩
  rw [iv_si]
  by_cases hc : a = b ∧ j = k
  · obtain ⟨rfl, rfl⟩ := hc
    rcases hb with h | h | h | h | h
    · exact Or.inr (Or.inl h)
    · exact Or.inr (Or.inr (Or.inl h))
    · exact Or.inr (Or.inr (Or.inr (Or.inl h)))
    · exact Or.inr (Or.inr (Or.inr (Or.inr h)))
    · omega
  · rw [if_neg hc]; exact a4 a j ha
theorem Fq.sr {mk sk : Nat} {tp : Int} {A : List Nat} {G G1 : Hp} (h : Fq mk sk tp A G G1) {b : Nat} {k : Int} (v : Option Nat) (hb : (b = 28 ∧ k = 0) ∨ (b ∈ A ∧ k ≠ 7) ∨ sz G < b) : Fq mk sk tp A G (sr G1 b k v) := by
  obtain ⟨a1, a2, a3, a4⟩ := h
  refine ⟨a1, a2, fun a j ha => ?_, a4⟩
  rw [rv_sr]
  by_cases hc : a = b ∧ j = k
  · obtain ⟨rfl, rfl⟩ := hc
    rcases hb with h | h | h
    · exact Or.inr (Or.inl h)
    · exact Or.inr (Or.inr h)
    · omega
  · rw [if_neg hc]; exact a3 a j ha
theorem Fq.nw {mk sk : Nat} {tp : Int} {A : List Nat} {G G1 : Hp} (h : Fq mk sk tp A G G1) (t w : Nat) (n : Int) : Fq mk sk tp A G (nw G1 t n w) := by
  obtain ⟨a1, a2, a3, a4⟩ := h
  refine ⟨by rw [sz_nw]; omega, fun a ha => ?_, fun a k ha => ?_, fun a k ha => ?_⟩
  · rw [tg_nw, ln_nw, if_neg (by omega), if_neg (by omega)]; exact a2 a ha
  · rw [rv_nw, if_neg (by omega)]; exact a3 a k ha
  · rw [iv_nw, if_neg (by omega)]; exact a4 a k ha
theorem Lg.Fq {mk sk : Nat} {tp : Int} {A B : List Nat} {G G1 : Hp} (h : Lg mk B G G1) (hb : ∀ b ∈ B, b ∈ A) : Fq mk sk tp A G G1 := by
  refine ⟨by rw [h.1]; exact Nat.le_refl _, fun a _ => h.2.2.1 a, fun a k _ => ?_, fun a k _ => ?_⟩
  · rcases h.2.2.2.1 a k with g | g | g
    · exact Or.inl g
    · exact Or.inr (Or.inl g)
    · exact Or.inr (Or.inr ⟨hb a g.1, g.2⟩)
  · rcases h.2.2.2.2 a k with g | g
    · exact Or.inl g
    · exact Or.inr (Or.inl ⟨g.1, by omega⟩)
theorem CO_Fq {mk sk : Nat} {tp : Int} {A : List Nat} {G G' : Hp} (h : Fq mk sk tp A G G') {a : Nat} (hc : CO G a) (ha : a + 1 ≤ sz G) : CO G' a := by
  obtain ⟨c1, c2, c3, c4⟩ := hc
  refine ⟨(h.2.1 a (by omega)).1.trans c1, ?_, (h.2.1 _ ha).1.trans c3, (h.2.1 _ ha).2.trans c4⟩
  rcases h.2.2.1 a 7 (by omega) with g | g | g
  · rw [g]; exact c2
  · exact absurd g.2 (by decide)
  · exact absurd rfl g.2
theorem OkA_Fq {mk sk : Nat} {tp : Int} {A B : List Nat} {G G' : Hp} (h : Fq mk sk tp A G G') (hb : OkA G B) : OkA G' B := fun b hbm => ⟨CO_Fq h (hb b hbm).1 (hb b hbm).2.2, (hb b hbm).2.1, by have := (hb b hbm).2.2; have := h.1; omega⟩
theorem Fq_hi {mk sk : Nat} {tp : Int} {A : List Nat} {G G' : Hp} (h : Fq mk sk tp A G G') (hA : OkA G A) (hm : mk ≤ 32 ∧ sk ≤ 32) {b : Nat} (hc : CO G b) (h33 : 33 ≤ b) (hz : b + 1 ≤ sz G) (hn : b ∉ A) : (∀ k, iv G' b k = iv G b k) ∧ (∀ k, rv G' b k = rv G b k) ∧ ∀ k, iv G' (b + 1) k = iv G (b + 1) k := by
  refine ⟨fun k => ?_, fun k => ?_, fun k => ?_⟩
  · rcases h.2.2.2 b k (by omega) with g | g | g | g | ⟨e, g, rfl⟩
    · exact g
    · omega
    · omega
    · exact absurd g hn
    · have := (hA e g).1.2.2.1
      rw [hc.1] at this; omega
  · rcases h.2.2.1 b k (by omega) with g | g | g
    · exact g
    · omega
    · exact absurd g.1 hn
  · rcases h.2.2.2 (b + 1) k (by omega) with g | g | g | g | ⟨e, g, he⟩
    · exact g
    · omega
    · omega
    · have := (hA _ g).1.1
      rw [hc.2.2.1] at this; omega
    · have : e = b := by omega
      exact absurd (this ▸ g) hn
theorem TA_same {G G' : Hp} {h : Int → Int} {β : Int} : ∀ (d : Nat) (ns : Int) (t : Tr d), TA G h β d ns t → (∀ b ∈ adL d t, CO G' b ∧ (∀ k, iv G' b k = iv G b k) ∧ (∀ k, rv G' b k = rv G b k) ∧ ∀ k, iv G' (b + 1) k = iv G (b + 1) k) → TA G' h β d ns t := by
  intro d
  induction d with
  | zero => intro ns t; exact t.elim
  | succ d ih =>
    intro ns t ⟨⟨a1, a2, a3, a4, a5, a6, a7, a8, a9, a10⟩, h2, h3⟩ hk
    obtain ⟨k1, k2, k3, k4⟩ := hk _ (List.mem_cons_self ..)
    have hp : ∀ p ∈ t.2, ∀ b ∈ adL d p, b ∈ adL (d + 1) t := fun p hp b hb => List.mem_cons_of_mem _ (List.mem_flatMap.mpr ⟨p, hp, hb⟩)
    refine ⟨⟨k1, by rw [k2]; exact a2, by rw [k2]; exact a3, by rw [k2]; exact a4, by rw [k2]; exact a5, by rw [k2]; exact a6, by rw [k2]; exact a7, by rw [k2]; exact a8, by rw [k2]; exact a9, fun i i0 i1 hi => by rw [k4]; exact a10 i i0 i1 hi⟩, ?_, fun p hpm => ih _ p (h3 p hpm) (fun b hb => hk b (hp p hpm b hb))⟩
    rw [k3]
    refine Chn_kept _ _ h2 (fun b hb => ?_)
    obtain ⟨p, hpm, rfl⟩ := List.mem_map.mp hb
    exact (hk _ (hp p hpm _ (aRt_mem d p))).2.2.1 10
/-- the same, but where the root's own next may be otherwise -/
theorem TA_root {G G' : Hp} {h : Int → Int} {β : Int} (d : Nat) (ns : Int) (t : Tr d) (ht : TA G h β d ns t) (hnd : (adL d t).Nodup) (hk : ∀ b ∈ adL d t, CO G' b ∧ (∀ k, iv G' b k = iv G b k) ∧ (∀ k, ¬ (b = aRt d t ∧ k = 10) → rv G' b k = rv G b k) ∧ ∀ k, iv G' (b + 1) k = iv G (b + 1) k) : TA G' h β d ns t := by
  cases d with
  | zero => exact t.elim
  | succ d =>
    obtain ⟨⟨a1, a2, a3, a4, a5, a6, a7, a8, a9, a10⟩, h2, h3⟩ := ht
    obtain ⟨k1, k2, k3, k4⟩ := hk _ (List.mem_cons_self ..)
    have hp : ∀ p ∈ t.2, ∀ b ∈ adL d p, b ∈ adL (d + 1) t := fun p hp b hb => List.mem_cons_of_mem _ (List.mem_flatMap.mpr ⟨p, hp, hb⟩)
    have hne : ∀ p ∈ t.2, ∀ b ∈ adL d p, b ≠ nAd t.1 := fun p hpm b hb q => (List.nodup_cons.mp hnd).1 (q ▸ List.mem_flatMap.mpr ⟨p, hpm, hb⟩)
    have hq : ∀ p ∈ t.2, ∀ b ∈ adL d p, CO G' b ∧ (∀ k, iv G' b k = iv G b k) ∧ (∀ k, rv G' b k = rv G b k) ∧ ∀ k, iv G' (b + 1) k = iv G (b + 1) k := fun p hpm b hb => by
      obtain ⟨g1, g2, g3, g4⟩ := hk b (hp p hpm b hb)
      exact ⟨g1, g2, fun k => g3 k (fun q => hne p hpm b hb q.1), g4⟩
    refine ⟨⟨k1, by rw [k2]; exact a2, by rw [k2]; exact a3, by rw [k2]; exact a4, by rw [k2]; exact a5, by rw [k2]; exact a6, by rw [k2]; exact a7, by rw [k2]; exact a8, by rw [k2]; exact a9, fun i i0 i1 hi => by rw [k4]; exact a10 i i0 i1 hi⟩, ?_, fun p hpm => TA_same _ _ p (h3 p hpm) (hq p hpm)⟩
    rw [k3 8 (by omega)]
    refine Chn_kept _ _ h2 (fun b hb => ?_)
    obtain ⟨p, hpm, rfl⟩ := List.mem_map.mp hb
    exact (hq p hpm _ (aRt_mem d p)).2.2.1 10
theorem TA_CO {G : Hp} {h : Int → Int} {β : Int} : ∀ (d : Nat) (ns : Int) (t : Tr d), TA G h β d ns t → ∀ b ∈ adL d t, CO G b := by
  intro d
  induction d with
  | zero => intro ns t; exact t.elim
  | succ d ih =>
    intro ns t ⟨h1, _, h3⟩ b hb
    rcases List.mem_cons.mp hb with rfl | hb
    · exact h1.1
    · obtain ⟨p, hp, hb⟩ := List.mem_flatMap.mp hb
      exact ih _ p (h3 p hp) b hb
theorem TA_Fq {mk sk : Nat} {tp : Int} {A : List Nat} {G G' : Hp} (hf : Fq mk sk tp A G G') (hA : OkA G A) (hm : mk ≤ 32 ∧ sk ≤ 32) {h : Int → Int} {β : Int} {d : Nat} {ns : Int} {t : Tr d} (ht : TA G h β d ns t) (hb : ∀ b ∈ adL d t, b ∉ A ∧ 33 ≤ b ∧ b + 1 ≤ sz G) : TA G' h β d ns t :=
  TA_same d ns t ht (fun b hbm => by
    have hc := TA_CO d ns t ht b hbm
    obtain ⟨b1, b2, b3⟩ := hb b hbm
    obtain ⟨g1, g2, g3⟩ := Fq_hi hf hA hm hc b2 b3 b1
    exact ⟨CO_Fq hf hc b3, g1, g2, g3⟩)
theorem Chn_Fq {mk sk : Nat} {tp : Int} {A : List Nat} {G G' : Hp} (hf : Fq mk sk tp A G G') (hA : OkA G A) (hm : mk ≤ 32 ∧ sk ≤ 32) {l : List Nat} {r : Option Nat} (h : Chn G r l) (hl : OkA G l) (hn : ∀ b ∈ l, b ∉ A) : Chn G' r l :=
  Chn_kept l r h (fun b hb => (Fq_hi hf hA hm (hl b hb).1 (by have := (hl b hb).2.1; omega) (hl b hb).2.2 (hn b hb)).2.1 10)
/-- the world of a maker: program, cells, the number of the bring -/
def WE (mk sk pa : Nat) (P : Pg) (st vl ss : Int → Int) (N : Int) (c : Int → Int) (β : Int) (G : Hp) : Prop := ENs mk sk pa G ∧ iv G pa 3 = N ∧ iv G pa 4 = P.2.2 ∧ (∀ j, iv G (pa + 1) j = st j) ∧ (∀ j, iv G (pa + 2) j = vl j) ∧ (∀ j, iv G (pa + 3) j = ss j) ∧ (∀ i, 0 ≤ i → i < 8 → iv G 16 i = c i) ∧ iv G mk 5 = β ∧ 62 ≤ sz G
theorem WE_Fq {mk sk pa : Nat} {P : Pg} {st vl ss : Int → Int} {N : Int} {c : Int → Int} {β : Int} {tp : Int} {A : List Nat} {G G' : Hp} (hw : WE mk sk pa P st vl ss N c β G) (hf : Fq mk sk tp A G G') (hA : ∀ b ∈ A, 33 ≤ b) : WE mk sk pa P st vl ss N c β G' := by
  obtain ⟨⟨e1, e2, e3, e4, e5, e6, e7, e8, e9, e10, e11, e12, ⟨p1, p2, p3, p4, p5, p6, p7, p8, p9, p10⟩, e14, e15⟩, w2, w3, w4, w5, w6, w7, w8, w9⟩ := hw
  obtain ⟨f1, f2, f3, f4⟩ := hf
  have R : ∀ (a : Nat) (k : Int), a ≤ 32 → a ≠ 28 → rv G' a k = rv G a k := fun a k ha h28 => by
    rcases f3 a k (by omega) with g | g | g
    · exact g
    · omega
    · have := hA _ g.1; omega
  have I : ∀ (a : Nat) (k : Int), a ≤ 32 → ¬ (a = mk ∧ (k = 3 ∨ (6 ≤ k ∧ k ≤ 9))) → a ≠ sk → iv G' a k = iv G a k := fun a k ha h1 h2 => by
    rcases f4 a k (by omega) with g | g | g | g | ⟨b, g, e⟩
    · exact g
    · exact absurd g h1
    · exact absurd g.1 h2
    · have := hA _ g; omega
    · have := hA _ g; omega
  have T : ∀ a, a ≤ 32 → tg G' a = tg G a ∧ ln G' a = ln G a := fun a ha => f2 a (by omega)
  refine ⟨⟨(T mk (by omega)).1.trans e1, (R mk 0 (by omega) (by omega)).trans e2, (R mk 1 (by omega) (by omega)).trans e3, (R mk 2 (by omega) (by omega)).trans e4, (R mk 4 (by omega) (by omega)).trans e5, (T sk (by omega)).1.trans e6, (T sk (by omega)).2.trans e7, (T 15 (by omega)).1.trans e8, (R 15 0 (by omega) (by omega)).trans e9, (T 16 (by omega)).1.trans e10, (T 16 (by omega)).2.trans e11, (T 28 (by omega)).1.trans e12, ⟨(T pa (by omega)).1.trans p1, (R pa 0 (by omega) (by omega)).trans p2, (R pa 1 (by omega) (by omega)).trans p3, (R pa 2 (by omega) (by omega)).trans p4, (T _ (by omega)).1.trans p5, (T _ (by omega)).2.trans p6, (T _ (by omega)).1.trans p7, (T _ (by omega)).2.trans p8, (T _ (by omega)).1.trans p9, (T _ (by omega)).2.trans p10⟩, e14, e15⟩, (I pa 3 (by omega) (by omega) (by omega)).trans w2, (I pa 4 (by omega) (by omega) (by omega)).trans w3, fun j => (I _ j (by omega) (by omega) (by omega)).trans (w4 j), fun j => (I _ j (by omega) (by omega) (by omega)).trans (w5 j), fun j => (I _ j (by omega) (by omega) (by omega)).trans (w6 j), fun i i0 i1 => (I 16 i (by omega) (by omega) (by omega)).trans (w7 i i0 i1), (I mk 5 (by omega) (by omega) (by omega)).trans w8, by omega⟩
theorem WE_ms {mk sk pa : Nat} {P : Pg} {st vl ss : Int → Int} {N : Int} {c : Int → Int} {β : Int} {G : Hp} (hw : WE mk sk pa P st vl ss N c β G) : mk ≤ 32 ∧ sk ≤ 32 := by
  have := hw.1.2.2.2.2.2.2.2.2.2.2.2.2.2.1
  omega
theorem WE_ml {mk sk pa : Nat} {P : Pg} {st vl ss : Int → Int} {N : Int} {c : Int → Int} {β : Int} {G : Hp} (hw : WE mk sk pa P st vl ss N c β G) : MKl mk G := by
  obtain ⟨e1, e2, e3, e4, e5, e6, e7, e8, e9, e10, e11, e12, e13, e14, e15⟩ := hw.1
  exact ⟨e1, e3, e12, by omega⟩
/-- counts in the memory -/
def Ct (mk : Nat) (κ : Kt) (G : Hp) : Prop := iv G mk 6 = wr κ.1 ∧ iv G mk 7 = wr κ.2.1 ∧ iv G mk 8 = wr κ.2.2.1 ∧ iv G mk 9 = wr κ.2.2.2
/-- the room that was taken -/
def Rom (G0 G : Hp) (n0 : Nat) (L : List Nat) (cr : Nat) (k0 : Int) (κ : Kt) : Prop := sz G = sz G0 + 2 * cr ∧ sl G = sl G0 + 23 * cr ∧ L.length = n0 + cr ∧ (cr : Int) ≤ κ.2.1 - k0
def Nw (G : Hp) (c : Int → Int) (β : Int) (a : Nat) (f x nm dn ns m : Int) : Prop := CO G a ∧ iv G a 0 = f ∧ iv G a 1 = x ∧ iv G a 3 = wr nm ∧ iv G a 4 = wr dn ∧ iv G a 5 = ns ∧ iv G a 6 = m ∧ iv G a 12 ≤ β ∧ (0 ≤ m ∧ m ≤ 255) ∧ ∀ i, 0 ≤ i → i < 8 → rb m i = 1 → iv G (a + 1) i = c i
def Lk (G : Hp) (d : Nat) (a : Nat) (ps : List (Tr d)) (rm : List (Bool × Tr d)) : Prop := Chn G (rv G a 8) (ps.map (aRt d)) ∧ rv G a 9 = (ps.map (aRt d)).getLast? ∧ Chn G (rv G a 11) (rm.map (fun q => aRt d q.2))
/-- a part that is left: brought already, or not yet -/
def Fl (G : Hp) (h c : Int → Int) (β : Int) (d : Nat) (ns : Int) (q : Bool × Tr d) : Prop := (q.1 = true → TA G c β d ns q.2 ∧ iv G (aRt d q.2) 12 = β) ∧ (q.1 = false → TA G h (β - 1) d ns q.2)
def own (d : Nat) (a : Nat) (ps : List (Tr d)) (rm : List (Bool × Tr d)) (fs : List Nat) : List Nat := a :: (adLs d ps ++ (adLs d (rm.map Prod.snd) ++ fs))
/-- a call that is done: all that is so -/
def DO (mk sk pa : Nat) (P : Pg) (st vl ss : Int → Int) (N : Int) (h c : Int → Int) (β : Int) (d : Nat) (ns : Int) (a : Nat) (f x nm dn : Int) (G0 : Hp) (A0 : List Nat) (n0 : Nat) (k0 : Int) (nr : Bool) (t0 : Int) (G : Hp) (m : Int) (ps : List (Tr d)) (rm : List (Bool × Tr d)) (κ : Kt) (fs : List Nat) (cr : Nat) (tp : Int) : Prop :=
  WE mk sk pa P st vl ss N c β G ∧ Nw G c β a f x nm dn ns m ∧ Lk G d a ps rm ∧ (∀ p ∈ ps, TA G c β d (ns + 1) p ∧ Gd P d p) ∧ (∀ q ∈ rm, Fl G h c β d (ns + 1) q ∧ Gd P d q.2) ∧ Chn G (rv G 28 0) fs ∧ OkA G (own d a ps rm fs) ∧ (own d a ps rm fs).Nodup ∧ (∀ b ∈ own d a ps rm fs, b ∈ A0 ∨ sz G0 < b) ∧ Ct mk κ G ∧ iv G mk 3 = tp ∧ Fq mk sk t0 A0 G0 G ∧ Rom G0 G n0 (own d a ps rm fs) cr k0 κ ∧ (nr = true → rm = [] ∧ (cr = 0 ∨ fs = [])) ∧ rv G a 10 = rv G0 a 10 ∧ iv G a 12 = iv G0 a 12
theorem Fl_same {G G' : Hp} {h c : Int → Int} {β : Int} {d : Nat} {ns : Int} {q : Bool × Tr d} (hq : Fl G h c β d ns q) (hk : ∀ b ∈ adL d q.2, CO G' b ∧ (∀ k, iv G' b k = iv G b k) ∧ (∀ k, rv G' b k = rv G b k) ∧ ∀ k, iv G' (b + 1) k = iv G (b + 1) k) : Fl G' h c β d ns q :=
  ⟨fun e => ⟨TA_same _ _ _ (hq.1 e).1 hk, by rw [(hk _ (aRt_mem d q.2)).2.1]; exact (hq.1 e).2⟩, fun e => TA_same _ _ _ (hq.2 e) hk⟩
theorem own_ps {d a : Nat} {ps : List (Tr d)} {rm : List (Bool × Tr d)} {fs : List Nat} {p : Tr d} (hp : p ∈ ps) {b : Nat} (hb : b ∈ adL d p) : b ∈ own d a ps rm fs := List.mem_cons_of_mem _ (List.mem_append_left _ (List.mem_flatMap.mpr ⟨p, hp, hb⟩))
theorem own_rm {d a : Nat} {ps : List (Tr d)} {rm : List (Bool × Tr d)} {fs : List Nat} {q : Bool × Tr d} (hq : q ∈ rm) {b : Nat} (hb : b ∈ adL d q.2) : b ∈ own d a ps rm fs := List.mem_cons_of_mem _ (List.mem_append_right _ (List.mem_append_left _ (List.mem_flatMap.mpr ⟨q.2, List.mem_map.mpr ⟨q, hq, rfl⟩, hb⟩)))
theorem own_fs {d a : Nat} {ps : List (Tr d)} {rm : List (Bool × Tr d)} {fs : List Nat} {b : Nat} (hb : b ∈ fs) : b ∈ own d a ps rm fs := List.mem_cons_of_mem _ (List.mem_append_right _ (List.mem_append_right _ hb))
section DOS
variable {mk sk pa : Nat} {P : Pg} {st vl ss : Int → Int} {N : Int} {h c : Int → Int} {β : Int} {d : Nat} {ns : Int} {a : Nat} {f x nm dn : Int} {G0 : Hp} {A0 : List Nat} {n0 : Nat} {k0 : Int} {nr : Bool} {t0 : Int} {G : Hp} {m : Int} {ps : List (Tr d)} {rm : List (Bool × Tr d)} {κ : Kt} {fs : List Nat} {cr : Nat} {tp : Int}
/-- only the stack, or the maker's top, is otherwise -/
theorem DO_low (hD : DO mk sk pa P st vl ss N h c β d ns a f x nm dn G0 A0 n0 k0 nr t0 G m ps rm κ fs cr tp) {G1 : Hp} {tp1 : Int} (hio : Io G G1) (hi : ∀ (b : Nat) (k : Int), ¬ (b = mk ∧ k = 3) → b ≠ sk → iv G1 b k = iv G b k) (hst : ∀ k, k < t0 → iv G1 sk k = iv G sk k) (h3 : iv G1 mk 3 = tp1) : DO mk sk pa P st vl ss N h c β d ns a f x nm dn G0 A0 n0 k0 nr t0 G1 m ps rm κ fs cr tp1 := by
  obtain ⟨d1, d2, d3, d4, d5, d6, d7, d8, d9, d10, d11, d12, d13, d14, d15, d16⟩ := hD
  have hms := WE_ms d1
  have hne := ENs_ne d1.1
  have hF : Fq mk sk t0 [] G G1 := ⟨by rw [hio.2.2.2.1]; exact Nat.le_refl _, fun b _ => ⟨hio.1 b, hio.2.1 b⟩, fun b k _ => Or.inl (hio.2.2.1 b k), fun b k _ => by
    by_cases h1 : b = mk ∧ k = 3
    · exact Or.inr (Or.inl ⟨h1.1, Or.inl h1.2⟩)
    · by_cases h2 : b = sk
      · by_cases h4 : k < t0
        · subst h2; exact Or.inl (hst k h4)
        · exact Or.inr (Or.inr (Or.inl ⟨h2, by omega⟩))
      · exact Or.inl (hi b k h1 h2)⟩
  have O0 : OkA G [] := fun b hb => by cases hb
  have hk : ∀ b, b ∈ own d a ps rm fs → CO G1 b ∧ (∀ k, iv G1 b k = iv G b k) ∧ (∀ k, rv G1 b k = rv G b k) ∧ ∀ k, iv G1 (b + 1) k = iv G (b + 1) k := fun b hb => by
    obtain ⟨o1, o2, o3⟩ := d7 b hb
    obtain ⟨g1, g2, g3⟩ := Fq_hi hF O0 hms o1 (by omega) o3 (fun q => by cases q)
    exact ⟨CO_Fq hF o1 o3, g1, g2, g3⟩
  obtain ⟨ka1, ka2, ka3, ka4⟩ := hk a (List.mem_cons_self ..)
  obtain ⟨n1, n2, n3, n4, n5, n6, n7, n8, n9, n10⟩ := d2
  have h28 : rv G1 28 0 = rv G 28 0 := hio.2.2.1 28 0
  refine ⟨WE_Fq d1 hF (fun b hb => by cases hb), ⟨ka1, by rw [ka2]; exact n2, by rw [ka2]; exact n3, by rw [ka2]; exact n4, by rw [ka2]; exact n5, by rw [ka2]; exact n6, by rw [ka2]; exact n7, by rw [ka2]; exact n8, n9, fun i i0 i1 hi => by rw [ka4]; exact n10 i i0 i1 hi⟩, ⟨?_, by rw [ka3]; exact d3.2.1, ?_⟩, fun p hp => ⟨TA_same _ _ p (d4 p hp).1 (fun b hb => hk b (own_ps hp hb)), (d4 p hp).2⟩, fun q hq => ⟨Fl_same (d5 q hq).1 (fun b hb => hk b (own_rm hq hb)), (d5 q hq).2⟩, ?_, OkA_Fq hF d7, d8, d9, ⟨by rw [hi mk 6 (by omega) hne.symm]; exact d10.1, by rw [hi mk 7 (by omega) hne.symm]; exact d10.2.1, by rw [hi mk 8 (by omega) hne.symm]; exact d10.2.2.1, by rw [hi mk 9 (by omega) hne.symm]; exact d10.2.2.2⟩, h3, d12.trans hF (fun b hb => by cases hb) (Int.le_refl _), ⟨by rw [hio.2.2.2.1]; exact d13.1, by rw [hio.2.2.2.2]; exact d13.2.1, d13.2.2⟩, d14, by rw [ka3]; exact d15, by rw [ka2]; exact d16⟩
  · rw [ka3]; exact Chn_kept _ _ d3.1 (fun b hb => by obtain ⟨p, hp, rfl⟩ := List.mem_map.mp hb; exact (hk _ (own_ps hp (aRt_mem d p))).2.2.1 10)
  · rw [ka3]; exact Chn_kept _ _ d3.2.2 (fun b hb => by obtain ⟨q, hq, rfl⟩ := List.mem_map.mp hb; exact (hk _ (own_rm hq (aRt_mem d q.2))).2.2.1 10)
  · rw [h28]; exact Chn_kept _ _ d6 (fun b hb => (hk _ (own_fs hb)).2.2.1 10)
theorem DO_push (hD : DO mk sk pa P st vl ss N h c β d ns a f x nm dn G0 A0 n0 k0 nr t0 G m ps rm κ fs cr tp) (ht : t0 ≤ tp) (v : Int) : DO mk sk pa P st vl ss N h c β d ns a f x nm dn G0 A0 n0 k0 nr t0 (si (si G sk tp v) mk 3 (tp + 1)) m ps rm κ fs cr (tp + 1) := by
  have hne := ENs_ne hD.1.1
  exact DO_low hD (Io.rf G) (fun b k h1 h2 => by rw [iv_si, if_neg h1, iv_si, if_neg (fun q => h2 q.1)]) (fun k hk => by rw [iv_si, if_neg (fun q => hne q.1), iv_si, if_neg (by omega)]) (by simp [iv_si])
theorem DO_pop (hD : DO mk sk pa P st vl ss N h c β d ns a f x nm dn G0 A0 n0 k0 nr t0 G m ps rm κ fs cr tp) (v : Int) : DO mk sk pa P st vl ss N h c β d ns a f x nm dn G0 A0 n0 k0 nr t0 (si G mk 3 v) m ps rm κ fs cr v := by
  have hne := ENs_ne hD.1.1
  exact DO_low hD (Io.rf G) (fun b k h1 h2 => by rw [iv_si, if_neg h1]) (fun k hk => by rw [iv_si, if_neg (fun q => hne q.1)]) (by simp [iv_si])
/-- a cell is read -/
theorem DO_read (hD : DO mk sk pa P st vl ss N h c β d ns a f x nm dn G0 A0 n0 k0 nr t0 G m ps rm κ fs cr tp) {i : Int} (i0 : 0 ≤ i) (i1 : i < 8) : DO mk sk pa P st vl ss N h c β d ns a f x nm dn G0 A0 n0 k0 nr t0 (si (si G a 6 (bor m (bit i))) (a + 1) i (c i)) (bor m (bit i)) ps rm κ fs cr tp := by
  obtain ⟨d1, d2, d3, d4, d5, d6, d7, d8, d9, d10, d11, d12, d13, d14, d15, d16⟩ := hD
  have hms := WE_ms d1
  obtain ⟨oa1, oa2, oa3⟩ := d7 a (List.mem_cons_self ..)
  have hF : Fq mk sk t0 [a] G (si (si G a 6 (bor m (bit i))) (a + 1) i (c i)) := ((Fq.rf mk sk t0 [a] G).si _ (Or.inr (Or.inr (Or.inl (List.mem_singleton.mpr rfl))))).si _ (Or.inr (Or.inr (Or.inr (Or.inl ⟨a, List.mem_singleton.mpr rfl, rfl⟩))))
  have O1 : OkA G [a] := fun b hb => by rw [List.mem_singleton.mp hb]; exact ⟨oa1, oa2, oa3⟩
  obtain ⟨nda, ndr⟩ := List.nodup_cons.mp d8
  have hk : ∀ b, b ∈ adLs d ps ++ (adLs d (rm.map Prod.snd) ++ fs) → CO (si (si G a 6 (bor m (bit i))) (a + 1) i (c i)) b ∧ (∀ k, iv (si (si G a 6 (bor m (bit i))) (a + 1) i (c i)) b k = iv G b k) ∧ (∀ k, rv (si (si G a 6 (bor m (bit i))) (a + 1) i (c i)) b k = rv G b k) ∧ ∀ k, iv (si (si G a 6 (bor m (bit i))) (a + 1) i (c i)) (b + 1) k = iv G (b + 1) k := fun b hb => by
    obtain ⟨o1, o2, o3⟩ := d7 b (List.mem_cons_of_mem _ hb)
    obtain ⟨g1, g2, g3⟩ := Fq_hi hF O1 hms o1 (by omega) o3 (fun q => nda (List.mem_singleton.mp q ▸ hb))
    exact ⟨CO_Fq hF o1 o3, g1, g2, g3⟩
  obtain ⟨n1, n2, n3, n4, n5, n6, n7, n8, n9, n10⟩ := d2
  have hmb := fun j j0 j1 => mask_bor (m := m) (i := i) (j := j) n9.1 n9.2 i0 i1 j0 j1
  have e : ∀ k, k ≠ 6 → iv (si (si G a 6 (bor m (bit i))) (a + 1) i (c i)) a k = iv G a k := fun k hk6 => by rw [iv_si, if_neg (by omega), iv_si, if_neg (by omega)]
  have L : ∀ (b : Nat) (k : Int), b ≤ 32 → iv (si (si G a 6 (bor m (bit i))) (a + 1) i (c i)) b k = iv G b k := fun b k hb => by rw [iv_si, if_neg (by omega), iv_si, if_neg (by omega)]
  refine ⟨WE_Fq d1 hF (fun b hb => by rw [List.mem_singleton.mp hb]; omega), ⟨n1, by rw [e 0 (by decide)]; exact n2, by rw [e 1 (by decide)]; exact n3, by rw [e 3 (by decide)]; exact n4, by rw [e 4 (by decide)]; exact n5, by rw [e 5 (by decide)]; exact n6, by rw [iv_si, if_neg (by omega), iv_si, if_pos ⟨rfl, rfl⟩], by rw [e 12 (by decide)]; exact n8, (hmb 0 (by decide) (by decide)).2, fun j j0 j1 hj => ?_⟩, ⟨Chn_kept _ _ d3.1 (fun _ _ => rfl), d3.2.1, Chn_kept _ _ d3.2.2 (fun _ _ => rfl)⟩, fun p hp => ⟨TA_same _ _ p (d4 p hp).1 (fun b hb => hk b (List.mem_append_left _ (List.mem_flatMap.mpr ⟨p, hp, hb⟩))), (d4 p hp).2⟩, fun q hq => ⟨Fl_same (d5 q hq).1 (fun b hb => hk b (List.mem_append_right _ (List.mem_append_left _ (List.mem_flatMap.mpr ⟨q.2, List.mem_map.mpr ⟨q, hq, rfl⟩, hb⟩)))), (d5 q hq).2⟩, Chn_kept _ _ d6 (fun _ _ => rfl), d7, d8, d9, ⟨by rw [L mk 6 hms.1]; exact d10.1, by rw [L mk 7 hms.1]; exact d10.2.1, by rw [L mk 8 hms.1]; exact d10.2.2.1, by rw [L mk 9 hms.1]; exact d10.2.2.2⟩, by rw [L mk 3 hms.1]; exact d11, d12.trans hF (fun b hb => by rw [List.mem_singleton.mp hb]; exact d9 a (List.mem_cons_self ..)) (Int.le_refl _), d13, d14, d15, by rw [e 12 (by decide)]; exact d16⟩
  rw [iv_si]
  by_cases hji : j = i
  · rw [if_pos ⟨rfl, hji⟩, hji]
  · rw [if_neg (fun q => hji q.2), iv_si, if_neg (by omega)]
    rw [(hmb j j0 j1).1, if_neg hji] at hj
    exact n10 j j0 j1 hj
end DOS
