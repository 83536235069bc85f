/-! THE CLASS: a tree brought or made anew is the trace's -/
theorem nad_nad : ∀ (d : Nat) (t : Tr d), nad d (nad d t) = nad d t := by
  intro d
  induction d with
  | zero => intro t; exact t.elim
  | succ d ih =>
    intro t
    show ((0, t.1.2), (t.2.map (nad d)).map (nad d)) = ((0, t.1.2), t.2.map (nad d))
    rw [List.map_map]
    congr 1
    exact List.map_congr_left (fun p _ => ih p)
theorem Kp_Gd {P : Pg} (hP : Pok P) {h : Int → Int} (hh : Cok h) : ∀ (d : Nat) (t : Tr (d + 1)), Kp P h d t → Gd P (d + 1) t := by
  intro d
  induction d with
  | zero =>
    intro t hk
    have hv := Kp_nV hk
    have hr := fr_rng hP hh 0 (nF t.1) (nX t.1) hk.2.1 hk.2.2.1 hk.2.2.2.1 hk.2.2.2.2
    refine ⟨⟨hk.2.1, hk.2.2.1, hk.2.2.2.1, hk.2.2.2.2, by rw [hv.1]; exact hr.1, by rw [hv.1]; exact hr.2⟩, fun p _ => p.elim⟩
  | succ d ih =>
    intro t hk
    have hv := Kp_nV hk
    have hr := fr_rng hP hh (d + 1) (nF t.1) (nX t.1) hk.2.1 hk.2.2.1 hk.2.2.2.1 hk.2.2.2.2
    exact ⟨⟨hk.2.1, hk.2.2.1, hk.2.2.2.1, hk.2.2.2.2, by rw [hv.1]; exact hr.1, by rw [hv.1]; exact hr.2⟩, fun p hp => ih p (Kp_parts hP hh hk p hp)⟩
theorem bring_fin {s : Sg} {tc : Tc} {n : Int} {G2 G3 : Hp} {L fs fs' : List Nat} {κ κ' κ31 : Kt} {t : Tr 6} {cr : Nat} {β : Int} (ho : RCo s G2) (hO : OkA G2 (L ++ fs)) (h62 : 62 ≤ sz G2) (h5 : iv G2 29 5 = β) (b0 : 0 ≤ β) (bn : β ≤ n + 1) (k31 : Ct 31 κ31 G2) (i3 : iv G2 31 3 = 0) (i5 : iv G2 31 5 = 0) (l1 : ((L ++ fs).length : Int) ≤ 728 + 364 * n) (l2 : (sz G2 : Int) ≤ 70 + 2 * ((L ++ fs).length : Int) + 2 * n) (l3 : (sl G2 : Int) ≤ 30000 + 23 * ((L ++ fs).length : Int) + 12 * n) (hp : PO 29 30 tc.2.1 β 5 1 κ κ' 0 L fs G2 G3 t fs' cr) (hn : nad 6 t = tc.1) (hκ : κ' = tc.2.2) (hcr : κ'.2.1 - κ.2.1 ≤ 364) : RCo s G3 ∧ RCk tc (n + 1) t fs' κ31 G3 ∧ Sm isM G2 G3 := by
  obtain ⟨p1, p2, p3, p4, p5, p6, p7, p8, p9, p10, p11, p12⟩ := hp
  obtain ⟨r1, r2⟩ := RCo_Fw' (Fw_of_Fq (Or.inl ⟨rfl, rfl⟩) p2) hO h62 ho
  have fi : ∀ (a : Nat) (k : Int), a ≤ 32 → a ≠ 30 → (a ≠ 29 ∨ k = 5) → iv G3 a k = iv G2 a k := by
    intro a k ha h30 h29
    rcases p2.2.2.2 a k (by omega) with q | q | q | q | ⟨x, q1, q2⟩
    · exact q
    · omega
    · omega
    · have := (hO _ q).2.1; omega
    · have := (hO _ q1).2.1; omega
  have e5 : iv G3 29 5 = β := (fi 29 5 (by omega) (by omega) (by omega)).trans h5
  have e31 : ∀ k, iv G3 31 k = iv G2 31 k := fun k => fi 31 k (by omega) (by omega) (by omega)
  refine ⟨r1, ⟨hn, by rw [e5]; exact p1, p3, p4, p5, by rw [← hκ]; exact p7, ⟨by rw [e31]; exact k31.1, by rw [e31]; exact k31.2.1, by rw [e31]; exact k31.2.2.1, by rw [e31]; exact k31.2.2.2⟩, p8, by rw [e31]; exact i3, by rw [e5]; exact ⟨b0, bn⟩, by rw [e31]; exact i5, by omega, ?_, ?_, ?_⟩, r2⟩
  · rw [show (adL 6 t ++ fs').length = (L ++ fs).length + cr from p11]; omega
  · rw [show (adL 6 t ++ fs').length = (L ++ fs).length + cr from p11]; omega
  · rw [show (adL 6 t ++ fs').length = (L ++ fs).length + cr from p11]; omega
theorem RCk_clr {s : Sg} {c : Tc} {n : Int} {t : Tr 6} {fs : List Nat} {κ : Kt} {G : Hp} (ho : RCo s G) (hk : RCk c n t fs κ G) : RCo s (si (si (si G 29 7 0) 29 8 0) 29 9 0) ∧ RCk (c.1, c.2.1, c.2.2.1, 0, 0, 0) n t fs κ (si (si (si G 29 7 0) 29 8 0) 29 9 0) ∧ Sm isM G (si (si (si G 29 7 0) 29 8 0) 29 9 0) := by
  obtain ⟨c1, c2, c6, c7, c8, c9, c10, c11, c12, c13, c14, c15, c16, c17, c18⟩ := hk
  have hio : Io G (si (si (si G 29 7 0) 29 8 0) 29 9 0) := ⟨fun _ => rfl, fun _ => rfl, fun _ _ => rfl, rfl, rfl⟩
  have hi : ∀ (a : Nat) (k : Int), a ≠ 29 → iv (si (si (si G 29 7 0) 29 8 0) 29 9 0) a k = iv G a k := fun a k ha => by
    rw [iv_si, if_neg (fun z => ha z.1), iv_si, if_neg (fun z => ha z.1), iv_si, if_neg (fun z => ha z.1)]
  have hj : ∀ (k : Int), k < 7 → iv (si (si (si G 29 7 0) 29 8 0) 29 9 0) 29 k = iv G 29 k := fun k hk => by
    rw [iv_si, if_neg (by omega), iv_si, if_neg (by omega), iv_si, if_neg (by omega)]
  obtain ⟨r1, r2⟩ := RCo_Fw' (Fw_of_29 hio hi) (fun b hb => by cases hb) c15 ho
  have hw : wr 0 = 0 := rfl
  refine ⟨r1, ⟨c1, ?_, Chn_kept _ _ c6 (fun _ _ => rfl), fun b hb => c7 b hb, c8, ⟨(hj 6 (by decide)).trans c9.1, ?_, ?_, ?_⟩, ⟨(hi 31 _ (by decide)).trans c10.1, (hi 31 _ (by decide)).trans c10.2.1, (hi 31 _ (by decide)).trans c10.2.2.1, (hi 31 _ (by decide)).trans c10.2.2.2⟩, (hj 3 (by decide)).trans c11, (hi 31 3 (by decide)).trans c12, by rw [hj 5 (by decide)]; exact c13, (hi 31 5 (by decide)).trans c14, c15, c16, c17, c18⟩, r2⟩
  · rw [hj 5 (by decide)]
    refine TA_same _ _ t c2 (fun b hb => ?_)
    have ob := c7 b (List.mem_append_left _ hb)
    exact ⟨ob.1, fun k => hi b k (by omega), fun _ => rfl, fun k => hi _ k (by omega)⟩
  · show _ = wr 0
    rw [hw, iv_si, if_neg (by omega), iv_si, if_neg (by omega), iv_si, if_pos ⟨rfl, rfl⟩]
  · show _ = wr 0
    rw [hw, iv_si, if_neg (by omega), iv_si, if_pos ⟨rfl, rfl⟩]
  · show _ = wr 0
    rw [hw, iv_si, if_pos ⟨rfl, rfl⟩]
/-- what bringing comes to -/
def brC (s : Sg) : Tc := (m_bring s).2.2.2.2.2
theorem br_pure {s : Sg} (hP : Pok s.2.1) (hh : Cok s.2.2.2.2.2.1) (hc : Cok s.2.2.1.1) (hk : Kp s.2.1 s.2.2.2.2.2.1 5 s.2.2.2.2.1) (hn : nad 6 s.2.2.2.2.1 = s.2.2.2.2.1) (hf : nF (rt 6 s.2.2.2.2.1) = s.2.2.1.1 8) (hx : nX (rt 6 s.2.2.2.2.1) = s.2.2.1.1 9) : (brT s.2.1 s.2.2.2.2.2.1 s.2.2.1.1 5 s.2.2.2.2.1 (s.2.2.2.2.2.2.1, 0, 0, 0)).1 = (brC s).1 ∧ (brT s.2.1 s.2.2.2.2.2.1 s.2.2.1.1 5 s.2.2.2.2.1 (s.2.2.2.2.2.2.1, 0, 0, 0)).2 = (brC s).2.2 := by
  have h := (pb_all hP hh hc 5).1 s.2.2.2.2.1 (s.2.2.2.2.2.2.1, 0, 0, 0) (s.2.2.2.2.2.2.1, 0, 0) hn hk rfl
  have hu : upR s = upT s.2.2.2.2.2.1 s.2.2.1.1 6 (some s.2.2.2.2.1) (fr s.2.1 s.2.2.1.1 5 (nF s.2.2.2.2.1.1) (nX s.2.2.2.2.1.1)) (s.2.2.2.2.2.2.1, 0, 0) := by
    unfold upR newN olT
    rw [if_pos ⟨hf, hx⟩, show nF s.2.2.2.2.1.1 = s.2.2.1.1 8 from hf, show nX s.2.2.2.2.1.1 = s.2.2.1.1 9 from hx]
  have hnw : newN s = fr s.2.1 s.2.2.1.1 5 (nF s.2.2.2.2.1.1) (nX s.2.2.2.2.1.1) := by
    unfold newN
    rw [show nF s.2.2.2.2.1.1 = s.2.2.1.1 8 from hf, show nX s.2.2.2.2.1.1 = s.2.2.1.1 9 from hx]
  unfold brC m_bring
  dsimp only
  rw [hu, hnw]
  generalize fr s.2.1 s.2.2.1.1 5 (nF s.2.2.2.2.1.1) (nX s.2.2.2.2.1.1) = N at *
  generalize upT s.2.2.2.2.2.1 s.2.2.1.1 6 (some s.2.2.2.2.1) N (s.2.2.2.2.2.2.1, 0, 0) = U at *
  generalize brT s.2.1 s.2.2.2.2.2.1 s.2.2.1.1 5 s.2.2.2.2.1 (s.2.2.2.2.2.2.1, 0, 0, 0) = B at *
  obtain ⟨B1, b1, b2, b3, b4⟩ := B
  obtain ⟨U1, u1, u2, u3⟩ := U
  obtain ⟨h1, ⟨h2, h3, h4⟩, h5⟩ := h
  replace h5 : b4 = 0 + (tsz 6 s.2.2.2.2.1 : Int) - (tsz 6 N : Int) + (b2 - 0) := h5
  dsimp only at h1 h2 h3 h4 h5 ⊢
  refine ⟨h1, ?_⟩
  rw [h2, show b2 = u2 by omega, show b3 = u3 by omega, show b4 = (tsz 6 s.2.2.2.2.1 : Int) - ((tsz 6 N : Int) - u2) by omega]
theorem mk_pure {s : Sg} (hP : Pok s.2.1) (hh : Cok s.2.2.2.2.2.1) (hc : Cok s.2.2.1.1) (hA : 0 ≤ s.2.2.1.1 8 ∧ s.2.2.1.1 8 < s.2.1.2.2 ∧ 0 ≤ s.2.2.1.1 9 ∧ s.2.2.1.1 9 ≤ 996) (hf : ¬ (nF (rt 6 s.2.2.2.2.1) = s.2.2.1.1 8 ∧ nX (rt 6 s.2.2.2.2.1) = s.2.2.1.1 9)) : (mkT s.2.1 s.2.2.1.1 5 (s.2.2.1.1 8) (s.2.2.1.1 9) (s.2.2.2.2.2.2.1, 0, 0, 0 + (tsz 6 s.2.2.2.2.1 : Int))).1 = (brC s).1 ∧ (mkT s.2.1 s.2.2.1.1 5 (s.2.2.1.1 8) (s.2.2.1.1 9) (s.2.2.2.2.2.2.1, 0, 0, 0 + (tsz 6 s.2.2.2.2.1 : Int))).2 = (brC s).2.2 := by
  have h := (pb_all hP hh hc 5).2 (s.2.2.1.1 8) (s.2.2.1.1 9) (s.2.2.2.2.2.2.1, 0, 0, 0 + (tsz 6 s.2.2.2.2.1 : Int)) (s.2.2.2.2.2.2.1, 0, 0) hA.1 hA.2.1 hA.2.2.1 hA.2.2.2 rfl
  have hu : upR s = upT s.2.2.2.2.2.1 s.2.2.1.1 6 none (fr s.2.1 s.2.2.1.1 5 (s.2.2.1.1 8) (s.2.2.1.1 9)) (s.2.2.2.2.2.2.1, 0, 0) := by
    unfold upR newN olT
    rw [if_neg hf]
  unfold brC m_bring
  dsimp only
  rw [hu]
  unfold newN
  generalize fr s.2.1 s.2.2.1.1 5 (s.2.2.1.1 8) (s.2.2.1.1 9) = N at *
  generalize upT s.2.2.2.2.2.1 s.2.2.1.1 6 none N (s.2.2.2.2.2.2.1, 0, 0) = U at *
  generalize mkT s.2.1 s.2.2.1.1 5 (s.2.2.1.1 8) (s.2.2.1.1 9) (s.2.2.2.2.2.2.1, 0, 0, 0 + (tsz 6 s.2.2.2.2.1 : Int)) = B at *
  obtain ⟨B1, b1, b2, b3, b4⟩ := B
  obtain ⟨U1, u1, u2, u3⟩ := U
  obtain ⟨h1, ⟨h2, h3, h4⟩, h5, h6⟩ := h
  replace h6 : b2 - 0 = (tsz 6 N : Int) := h6
  dsimp only at h1 h2 h3 h4 h5 h6 ⊢
  refine ⟨h1, ?_⟩
  rw [h2, show b2 = u2 by omega, show b3 = u3 by omega, show b4 = (tsz 6 s.2.2.2.2.1 : Int) - ((tsz 6 N : Int) - u2) by omega]
