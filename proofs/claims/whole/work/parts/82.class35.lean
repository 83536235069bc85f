/-! THE CLASS: a trial leaves all as it was -/
theorem Fq_Lg {mk sk : Nat} {tp : Int} {A B : List Nat} {G G1 G2 : Hp} (h : Fq mk sk tp A G G1) (hl : Lg mk B G1 G2) (hB : ∀ b ∈ B, b ∈ A ∨ sz G < b) : Fq mk sk tp A G G2 := by
  obtain ⟨a1, a2, a3, a4⟩ := h
  obtain ⟨b1, b2, b3, b4, b5⟩ := hl
  refine ⟨by rw [b1]; exact a1, fun a ha => ⟨(b3 a).1.trans (a2 a ha).1, (b3 a).2.trans (a2 a ha).2⟩, fun a k ha => ?_, fun a k ha => ?_⟩
  · rcases b4 a k with g | g | g
    · rw [g]; exact a3 a k ha
    · exact Or.inr (Or.inl g)
    · rcases hB a g.1 with q | q
      · exact Or.inr (Or.inr ⟨q, g.2⟩)
      · omega
  · rcases b5 a k with g | g
    · rw [g]; exact a4 a k ha
    · exact Or.inr (Or.inl ⟨g.1, by omega⟩)
theorem trial_ok {n : Int} {s : Sg} {G G1 G2 : Hp} {T t : Tr 6} {fs fs1 fs2 : List Nat} {κ κ1 : Kt} {cr : Nat} {c : Int → Int} (h : RC n s G) (n0 : 0 ≤ n) (t1 : tsz 6 s.2.2.2.2.1 ≤ 364) (t2 : tsz 6 t ≤ 364)
    (c1 : nad 6 T = s.2.2.2.2.1) (c2 : TA G s.2.2.2.2.2.1 (iv G 29 5) 6 1 T) (c3 : rv G 17 1 = some (aRt 6 T)) (c4 : iv G 17 2 = (tsz 6 T : Int)) (c5 : IA G 0 (inf 6 1 0 (-1) T)) (c7 : OkA G (adL 6 T ++ fs)) (c8 : (adL 6 T ++ fs).Nodup) (c9 : Ct 29 s.2.2.2.2.2.2 G) (c11 : iv G 29 3 = 0) (c13 : 0 ≤ iv G 29 5 ∧ iv G 29 5 ≤ n) (c14 : iv G 31 5 = 0) (c15 : 62 ≤ sz G) (c16 : ((adL 6 T ++ fs).length : Int) ≤ 728 + 364 * n) (c17 : (sz G : Int) ≤ 70 + 2 * ((adL 6 T ++ fs).length : Int) + 2 * n) (c18 : (sl G : Int) ≤ 30000 + 23 * ((adL 6 T ++ fs).length : Int) + 12 * n)
    (hp : PO 31 32 c 0 5 1 κ κ1 0 [] fs G G1 t fs1 cr) (hcr : cr = 0 ∨ fs1 = []) (g1 : Chn G2 (rv G2 28 0) fs2) (g2 : fs2.Perm (adL 6 t ++ fs1)) (g3 : iv G2 31 9 = wr (κ1.2.2.2 + (tsz 6 t : Int))) (g4 : Lg 31 (adL 6 t) G1 G2) : RC n s G2 ∧ Sm isM G G2 := by
  obtain ⟨p1, p2, p3, p4, p5, p6, p7, p8, p9, p10, p11, -⟩ := hp
  rw [List.nil_append] at p2 p6 p11
  have hOf : OkA G fs := fun b hb => c7 b (List.mem_append_right _ hb)
  have hq := Fq_Lg p2 g4 (fun b hb => p6 b (List.mem_append_left _ hb))
  have hrest := RC_Fq (t := s.1) (P := s.2.1) (r := s.2.2.1) (b := s.2.2.2.1) (c := s.2.2.2.2) (Or.inr ⟨rfl, rfl⟩) hq hOf c15 h
  obtain ⟨r1, r2, r3, r4, r5, r6⟩ := hrest
  have hsz : sz G2 = sz G + 2 * cr := g4.1.trans p9
  have hsl : sl G2 = sl G + 23 * cr := g4.2.1.trans p10
  have hlen : fs2.length = fs.length + cr := g2.length_eq.trans p11
  have hdis : ∀ b ∈ adL 6 T, b ∉ fs := fun b hb hf => (List.nodup_append.mp c8).2.2 b hb b hf rfl
  have hcell : ∀ b ∈ adL 6 T, CO G2 b ∧ (∀ k, iv G2 b k = iv G b k) ∧ (∀ k, rv G2 b k = rv G b k) ∧ ∀ k, iv G2 (b + 1) k = iv G (b + 1) k := by
    intro b hb
    have ob := c7 b (List.mem_append_left _ hb)
    have n1 := hdis b hb
    have n2 : b + 1 ∉ fs := fun m => by have := (hOf _ m).1.1; have := ob.1.2.2.1; omega
    have n3 : ∀ x ∈ fs, b ≠ x + 1 := fun x m e => by have := (hOf x m).1.2.2.1; have := ob.1.1; rw [e] at this; omega
    have n4 : ∀ x ∈ fs, b + 1 ≠ x + 1 := fun x m e => by
      have e : x = b := by omega
      subst e; exact n1 m
    have er : ∀ k, rv G2 b k = rv G b k := by
      intro k
      rcases hq.2.2.1 b k (by omega) with q | q | q
      · exact q
      · omega
      · exact absurd q.1 n1
    have ei : ∀ k, iv G2 b k = iv G b k := by
      intro k
      rcases hq.2.2.2 b k (by omega) with q | q | q | q | ⟨x, q1, q2⟩
      · exact q
      · omega
      · omega
      · exact absurd q n1
      · exact absurd q2 (n3 x q1)
    have ei1 : ∀ k, iv G2 (b + 1) k = iv G (b + 1) k := by
      intro k
      rcases hq.2.2.2 (b + 1) k ob.2.2 with q | q | q | q | ⟨x, q1, q2⟩
      · exact q
      · omega
      · omega
      · exact absurd q n2
      · exact absurd q2 (n4 x q1)
    exact ⟨⟨(hq.2.1 b (by omega)).1.trans ob.1.1, (er 7).trans ob.1.2.1, (hq.2.1 _ ob.2.2).1.trans ob.1.2.2.1, (hq.2.1 _ ob.2.2).2.trans ob.1.2.2.2⟩, ei, er, ei1⟩
  have e29 : ∀ k, iv G2 29 k = iv G 29 k := by
    intro k
    rcases hq.2.2.2 29 k (by omega) with q | q | q | q | ⟨x, q1, q2⟩
    · exact q
    · omega
    · omega
    · have := (hOf _ q).2.1; omega
    · have := (hOf _ q1).2.1; omega
  have e315 : iv G2 31 5 = iv G 31 5 := by
    rcases hq.2.2.2 31 5 (by omega) with q | q | q | q | ⟨x, q1, q2⟩
    · exact q
    · omega
    · omega
    · have := (hOf _ q).2.1; omega
    · have := (hOf _ q1).2.1; omega
  have l31 : ∀ k, k ≠ 9 → iv G2 31 k = iv G1 31 k := by
    intro k hk
    rcases g4.2.2.2.2 31 k with q | q
    · exact q
    · omega
  have hO2 : ∀ b ∈ adL 6 t ++ fs1, CO G2 b ∧ (b = 33 ∨ 63 ≤ b) ∧ b + 1 ≤ sz G2 := by
    intro b hb
    have ob := p4 b hb
    refine ⟨⟨(g4.2.2.1 b).1.trans ob.1.1, ?_, (g4.2.2.1 _).1.trans ob.1.2.2.1, (g4.2.2.1 _).2.trans ob.1.2.2.2⟩, ob.2.1, by rw [g4.1]; exact ob.2.2⟩
    rcases g4.2.2.2.1 b 7 with q | q | q
    · exact q.trans ob.1.2.1
    · omega
    · exact absurd rfl q.2
  refine ⟨⟨r1, r2, r3, r4, r5, T, fs2, (κ1.1, κ1.2.1, κ1.2.2.1, κ1.2.2.2 + (tsz 6 t : Int)), c1, ?_, ?_, ?_, ?_, g1, ?_, ?_, ?_, ?_, by rw [e29]; exact c11, by rw [l31 3 (by decide)]; exact p8, by rw [e29]; exact c13, by rw [e315]; exact c14, by omega, ?_, ?_, ?_⟩, r6⟩
  · rw [e29]; exact TA_same _ _ T c2 hcell
  · rw [Fq_rv hq hOf c15 (by omega) (by omega) (by omega)]; exact c3
  · rw [Fq_iv (Or.inr ⟨rfl, rfl⟩) hq hOf c15 2 (by omega)]; exact c4
  · refine IA_kept _ _ c5 (fun j _ _ => Fq_rv hq hOf c15 (by omega) (by omega) (by omega)) (fun e he => ?_)
    have hm : nAd e.1 ∈ adL 6 T := by rw [← inf_adr 6 1 0 (-1) T]; exact List.mem_map.mpr ⟨e, he, rfl⟩
    exact ⟨(hcell _ hm).2.1 13, (hcell _ hm).2.1 14⟩
  · intro b hb
    rcases List.mem_append.mp hb with m | m
    · have ob := c7 b (List.mem_append_left _ m)
      exact ⟨(hcell b m).1, ob.2.1, by omega⟩
    · exact hO2 b (g2.mem_iff.mp m)
  · rw [List.nodup_append]
    refine ⟨(List.nodup_append.mp c8).1, g2.nodup_iff.mpr p5, fun a ha b hb e => ?_⟩
    subst e
    rcases p6 a (g2.mem_iff.mp hb) with q | q
    · exact hdis a ha q
    · have := (c7 a (List.mem_append_left _ ha)).2.2; omega
  · exact ⟨by rw [e29]; exact c9.1, by rw [e29]; exact c9.2.1, by rw [e29]; exact c9.2.2.1, by rw [e29]; exact c9.2.2.2⟩
  · exact ⟨by rw [l31 6 (by decide)]; exact p7.1, by rw [l31 7 (by decide)]; exact p7.2.1, by rw [l31 8 (by decide)]; exact p7.2.2.1, g3⟩
  · rw [List.length_append, hlen]
    rw [List.length_append] at c16 p11
    rw [adL_len] at p11 c16 ⊢
    have hT : tsz 6 T ≤ 364 := by rw [← c1, nad_tsz] at t1; exact t1
    rcases hcr with q | q
    · subst q; omega
    · subst q; simp only [List.length_nil] at p11; have p11 : tsz 6 t + 0 = fs.length + cr := p11; omega
  · rw [List.length_append, hlen, hsz]
    rw [List.length_append] at c17
    omega
  · rw [List.length_append, hlen, hsl]
    rw [List.length_append] at c18
    omega
