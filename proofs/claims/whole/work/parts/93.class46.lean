/-! THE CLASS: a text taken: what it leaves as it was -/
def TxI (G G' : Hp) : Prop := (∀ a, tg G' a = tg G a) ∧ (∀ a, ln G' a = ln G a) ∧ (∀ (a : Nat) (k : Int), ¬ (a = 3 ∧ k = 6) → ¬ (a = 1 ∧ (k = 4 ∨ k = 5)) → ¬ ((a = 29 ∨ a = 31) ∧ k = 4) → rv G' a k = rv G a k) ∧ sz G' = sz G ∧ sl G' = sl G ∧ ∀ (a : Nat) (k : Int), (a = 17 ∨ a = 18 ∨ 23 ≤ a) → iv G' a k = iv G a k
theorem TxI.trans {G G1 G2 : Hp} (h1 : TxI G G1) (h2 : TxI G1 G2) : TxI G G2 := ⟨fun a => (h2.1 a).trans (h1.1 a), fun a => (h2.2.1 a).trans (h1.2.1 a), fun a k x y z => (h2.2.2.1 a k x y z).trans (h1.2.2.1 a k x y z), h2.2.2.2.1.trans h1.2.2.2.1, h2.2.2.2.2.1.trans h1.2.2.2.2.1, fun a k x => (h2.2.2.2.2.2 a k x).trans (h1.2.2.2.2.2 a k x)⟩
theorem TxI.rf (G : Hp) : TxI G G := ⟨fun _ => rfl, fun _ => rfl, fun _ _ _ _ _ => rfl, rfl, rfl, fun _ _ _ => rfl⟩
theorem TxI.si {G G1 : Hp} (h : TxI G G1) {b : Nat} (k v : Int) (hb : b ≤ 16 ∨ (19 ≤ b ∧ b ≤ 22)) : TxI G (si G1 b k v) := ⟨h.1, h.2.1, h.2.2.1, h.2.2.2.1, h.2.2.2.2.1, fun a j ha => by rw [iv_si, if_neg (by omega)]; exact h.2.2.2.2.2 a j ha⟩
theorem TxI.sr {G G1 : Hp} (h : TxI G G1) {b : Nat} {k : Int} (v : Option Nat) (hb : (b = 3 ∧ k = 6) ∨ (b = 1 ∧ (k = 4 ∨ k = 5)) ∨ ((b = 29 ∨ b = 31) ∧ k = 4)) : TxI G (sr G1 b k v) := ⟨h.1, h.2.1, fun a j x y z => by
  rw [rv_sr, if_neg (fun q => by obtain ⟨q1, q2⟩ := q; subst q1 q2; omega)]; exact h.2.2.1 a j x y z, h.2.2.2.1, h.2.2.2.2.1, fun a j ha => by rw [iv_sr]; exact h.2.2.2.2.2 a j ha⟩
theorem TxI_RcT {pb : Nat} {v : Option Nat} {G G' : Hp} (hpb : pb = 7 ∨ pb = 11) (h : RcT pb (sr G 3 6 v) G') : TxI G G' := by
  refine ⟨fun a => h.1.1 a, fun a => h.1.2.1 a, fun a k x _ _ => ?_, h.1.2.2.2.1, h.1.2.2.2.2, fun a k ha => ?_⟩
  · rw [h.1.2.2.1, rv_sr, if_neg x]
  · rw [h.2 a k (by omega) (by omega) (by omega) (by omega) (by omega) (by omega) (by omega) (by omega), iv_sr]
theorem TxI.M {G G' : Hp} (h : TxI G G') : Sm isM G G' := fun a ha => by
  unfold isM at ha
  exact ⟨h.1 a, h.2.1 a, fun k => h.2.2.2.2.2 a k (by omega), fun k => h.2.2.1 a k (by omega) (by omega) (by omega)⟩
theorem FC_tx {G G' : Hp} (h : TxI G G') (hF : FC G) : FC G' := by
  have q : ∀ e ∈ fcR, ¬ (e.1 = 3 ∧ e.2.1 = 6) ∧ ¬ (e.1 = 1 ∧ (e.2.1 = 4 ∨ e.2.1 = 5)) ∧ ¬ ((e.1 = 29 ∨ e.1 = 31) ∧ e.2.1 = 4) := by decide
  exact ⟨fun e he => by rw [h.1, h.2.1]; exact hF.1 e he, fun e he => by rw [h.2.2.1 _ _ (q e he).1 (q e he).2.1 (q e he).2.2]; exact hF.2 e he⟩
theorem RCi_tx {im : Int → Option ((Int → Int) × Int)} {G G' : Hp} (h : RCi im G) (hi : TxI G G') : RCi im G' := by
  have e27 : ∀ k, rv G' 27 k = rv G 27 k := fun k => hi.2.2.1 27 k (by omega) (by omega) (by omega)
  refine ⟨fun i i0 i1 => ?_, fun a => by rw [e27, e27]; exact h.2 a⟩
  have := h.1 i i0 i1
  cases hq : im i with
  | none => rw [hq] at this; dsimp only at this ⊢; rw [e27]; exact this
  | some q =>
    rw [hq] at this
    obtain ⟨a, a1, h1, h2, h3, h4, h5, h6, h7, h8, h9, h10⟩ := this
    exact ⟨a, by rw [e27]; exact a1, h1, by rw [hi.2.2.2.1]; exact h2, (hi.1 a).trans h3, (hi.2.2.1 a 0 (by omega) (by omega) (by omega)).trans h4, (hi.1 _).trans h5, (hi.2.1 _).trans h6, (hi.2.2.2.2.2 _ 1 (by omega)).trans h7, (hi.2.2.2.2.2 _ 2 (by omega)).trans h8, (hi.2.2.2.2.2 _ 3 (by omega)).trans h9, fun k k0 k1 => (hi.2.2.2.2.2 _ k (by omega)).trans (h10 k k0 k1)⟩
theorem RCc_tx {c : Tc} {n : Int} {G G' : Hp} (h : RCc c n G) (hi : TxI G G') : RCc c n G' := by
  obtain ⟨t, fs, κ, h1, h2, h3, h4, h5, h6, h7, h8, h9, h10, h11, h12, h13, h14, h15, h16, h17, h18⟩ := h
  have er : ∀ (b : Nat) (k : Int), (b = 17 ∨ b = 18 ∨ b = 28 ∨ 32 < b) → rv G' b k = rv G b k := fun b k hb => hi.2.2.1 b k (by omega) (by omega) (by omega)
  have hCO : ∀ b, (b = 33 ∨ 63 ≤ b) → CO G b → CO G' b := fun b ha hb => ⟨(hi.1 b).trans hb.1, (er b 7 (by omega)).trans hb.2.1, (hi.1 _).trans hb.2.2.1, (hi.2.1 _).trans hb.2.2.2⟩
  have e29 : ∀ k, iv G' 29 k = iv G 29 k := fun k => hi.2.2.2.2.2 29 k (by omega)
  have e31 : ∀ k, iv G' 31 k = iv G 31 k := fun k => hi.2.2.2.2.2 31 k (by omega)
  have hsz := hi.2.2.2.1
  have hsl := hi.2.2.2.2.1
  refine ⟨t, fs, κ, h1, ?_, by rw [er _ _ (by omega)]; exact h3, by rw [hi.2.2.2.2.2 17 2 (by omega)]; exact h4, IA_kept _ _ h5 (fun j _ _ => er 18 j (by omega)) (fun e he => ?_), ?_, fun b hb => ⟨hCO b (h7 b hb).2.1 (h7 b hb).1, (h7 b hb).2.1, by rw [hsz]; exact (h7 b hb).2.2⟩, h8, ⟨by rw [e29]; exact h9.1, by rw [e29]; exact h9.2.1, by rw [e29]; exact h9.2.2.1, by rw [e29]; exact h9.2.2.2⟩, ⟨by rw [e31]; exact h10.1, by rw [e31]; exact h10.2.1, by rw [e31]; exact h10.2.2.1, by rw [e31]; exact h10.2.2.2⟩, by rw [e29]; exact h11, by rw [e31]; exact h12, by rw [e29]; exact h13, by rw [e31]; exact h14, by rw [hsz]; exact h15, h16, by rw [hsz]; exact h17, by rw [hsl]; exact h18⟩
  · rw [e29]
    exact TA_same _ _ t h2 (fun b hb => by
      have ob := h7 b (List.mem_append_left _ hb)
      exact ⟨hCO b ob.2.1 ob.1, fun k => hi.2.2.2.2.2 b k (by omega), fun k => er b k (by omega), fun k => hi.2.2.2.2.2 _ k (by omega)⟩)
  · have hm : nAd e.1 ∈ adL 6 t := by rw [← inf_adr 6 1 0 (-1) t]; exact List.mem_map.mpr ⟨e, he, rfl⟩
    have := (h7 _ (List.mem_append_left _ hm)).2.1
    exact ⟨hi.2.2.2.2.2 _ 13 (by omega), hi.2.2.2.2.2 _ 14 (by omega)⟩
  · rw [er _ _ (by omega)]; exact Chn_kept _ _ h6 (fun b hb => er b 10 (by have := (h7 b (List.mem_append_right _ hb)).2.1; omega))
theorem RC_tx {n : Int} {t t' : Tx} {P P' : Pg} {r r' : Rw} {b : Bk} {c : Tc} {G G' : Hp} (h : RC n (t, P, r, b, c) G) (hi : TxI G G') (h1 : RCt t' G') (h2 : RCp P' G') (h3 : RCi r.2.2.1 G' → RCr r' G') : RC n (t', P', r', b, c) G' := ⟨FC_tx hi h.1, h1, h2, h3 (RCi_tx h.2.2.2.1.2.2.2.2.2 hi), RCb_k h.2.2.2.2.1 (hi.2.2.2.2.2 23 3 (by omega)) (fun k => hi.2.2.2.2.2 _ k (by omega)) (fun k => hi.2.2.2.2.2 _ k (by omega)) (fun k => hi.2.2.2.2.2 _ k (by omega)), RCc_tx h.2.2.2.2.2 hi⟩
/-- a faulty text -/
theorem fault_ok {n : Int} {s : Sg} {G G1 : Hp} {pa : Nat} (h : RC n s G) (hp : rv G 1 4 = some pa) (hpt : pa = 7 ∨ pa = 11) (hr : RcT (18 - pa) (sr G 3 6 (some (18 - pa))) G1) (pl : Int) : RC n ((s.1.1, 0, pl), s.2) (si (si G1 1 1 0) 1 2 pl) ∧ Sm isM G (si (si G1 1 1 0) 1 2 pl) := by
  have hi : TxI G (si (si G1 1 1 0) 1 2 pl) := ((TxI_RcT (by omega) hr).si 1 0 (by omega)).si 2 pl (by omega)
  have ei : ∀ (a : Nat) (k : Int), a ≠ 1 → ¬ (3 ≤ a ∧ a ≤ 6) → ¬ (18 - pa ≤ a ∧ a ≤ 21 - pa) → iv (si (si G1 1 1 0) 1 2 pl) a k = iv G a k := fun a k x y z => by
    rw [iv_si, if_neg (by omega), iv_si, if_neg (by omega), hr.2 a k (by omega) (by omega) (by omega) (by omega) (by omega) (by omega) (by omega) (by omega), iv_sr]
  have er : ∀ (a : Nat) (k : Int), ¬ (a = 3 ∧ k = 6) → rv (si (si G1 1 1 0) 1 2 pl) a k = rv G a k := fun a k x => by
    rw [rv_si, rv_si, hr.1.2.2.1, rv_sr, if_neg x]
  refine ⟨RC_tx (t := s.1) (P := s.2.1) (r := s.2.2.1) (b := s.2.2.2.1) (c := s.2.2.2.2) h hi ⟨fun k k0 k1 => by dsimp only at k1; omega, by rw [iv_si, if_neg (by omega), iv_si, if_pos ⟨rfl, rfl⟩], by rw [iv_si, if_pos ⟨rfl, rfl⟩]⟩ ?_ (fun hi => ?_), hi.M⟩
  · obtain ⟨pa', p1, p2, p3, p4, p5, p6⟩ := h.2.2.1
    have e : pa' = pa := Option.some.inj (p2.symm.trans hp)
    subst e
    exact ⟨pa', p1, by rw [er _ _ (by omega)]; exact p2, by rw [er _ _ (by omega)]; exact p3, by rw [er _ _ (by omega)]; exact p4, by rw [er _ _ (by omega)]; exact p5, RdOk_k p6 (fun a k a0 a1 => ei a k (by omega) (by omega) (by omega))⟩
  · obtain ⟨k1, k2, k3, k4, k5, k6⟩ := h.2.2.2.1
    exact ⟨fun k k0 k9 => (ei 16 k (by omega) (by omega) (by omega)).trans (k1 k k0 k9), (ei 15 1 (by omega) (by omega) (by omega)).trans k2, (ei 15 2 (by omega) (by omega) (by omega)).trans k3, (ei 15 3 (by omega) (by omega) (by omega)).trans k4, RCd_k k5 (fun a k a0 a1 => ei a k (by omega) (by omega) (by omega)), hi⟩
/-- a text without a fault -/
theorem taken_ok {n : Int} {s : Sg} {G G1 : Hp} {pa : Nat} (h : RC n s G) (hp : rv G 1 4 = some pa) (hpt : pa = 7 ∨ pa = 11) (hr : RcT (18 - pa) (sr G 3 6 (some (18 - pa))) G1) {P : Pg} (hd : RdOk (18 - pa) P G1) : RC n ((s.1.1, 0, -1), P, (fst0 s.2.2.1.1, [], s.2.2.1.2.2.1, s.2.2.1.2.2.2), s.2.2.2.1, s.2.2.2.2) (sr (sr (si (si (si (sr (sr (si (si G1 1 1 0) 1 2 (-1)) 1 4 (some (18 - pa))) 1 5 (some pa)) 15 1 0) 15 2 0) 19 4 0) 31 4 (some (18 - pa))) 29 4 (some (18 - pa))) := by
  obtain ⟨G2, hG2⟩ : ∃ G2, G2 = sr (sr (si (si (si (sr (sr (si (si G1 1 1 0) 1 2 (-1)) 1 4 (some (18 - pa))) 1 5 (some pa)) 15 1 0) 15 2 0) 19 4 0) 31 4 (some (18 - pa))) 29 4 (some (18 - pa)) := ⟨_, rfl⟩
  rw [← hG2]
  have hi : TxI G G2 := by
    subst hG2
    exact TxI.sr (TxI.sr (TxI.si (TxI.si (TxI.si (TxI.sr (TxI.sr (TxI.si (TxI.si (TxI_RcT (by omega) hr) 1 0 (by omega)) 2 (-1) (by omega)) _ (by omega)) _ (by omega)) 1 0 (by omega)) 2 0 (by omega)) 4 0 (by omega)) _ (by omega)) _ (by omega)
  have e1 : ∀ (a : Nat) (k : Int), a ≠ 1 → a ≠ 15 → ¬ (a = 19 ∧ k = 4) → iv G2 a k = iv G1 a k := fun a k x y z => by
    subst hG2
    rw [iv_sr, iv_sr, iv_si, if_neg z, iv_si, if_neg (by omega), iv_si, if_neg (by omega), iv_sr, iv_sr, iv_si, if_neg (by omega), iv_si, if_neg (by omega)]
  have ei : ∀ (a : Nat) (k : Int), a ≠ 1 → a ≠ 15 → ¬ (a = 19 ∧ k = 4) → 15 ≤ a → iv G2 a k = iv G a k := fun a k x y z u => by
    rw [e1 a k x y z, hr.2 a k (by omega) (by omega) (by omega) (by omega) (by omega) (by omega) (by omega) (by omega), iv_sr]
  refine RC_tx (t := s.1) (P := s.2.1) (r := s.2.2.1) (b := s.2.2.2.1) (c := s.2.2.2.2) h hi ⟨fun k k0 k1 => by dsimp only at k1; omega, ?_, ?_⟩ ⟨18 - pa, by omega, ?_, ?_, ?_, ?_, RdOk_k hd (fun a k a0 a1 => e1 a k (by omega) (by omega) (by omega))⟩ (fun hi => ?_)
  · subst hG2; simp [iv_si, iv_sr]
  · subst hG2; simp [iv_si, iv_sr]
  · subst hG2; simp [rv_si, rv_sr]
  · subst hG2; simp [rv_si, rv_sr]; omega
  · subst hG2; simp [rv_si, rv_sr]
  · subst hG2; simp [rv_si, rv_sr]
  · obtain ⟨k1, k2, k3, k4, k5, k6⟩ := h.2.2.2.1
    refine ⟨fun k k0 k9 => ?_, ?_, ?_, ?_, ⟨?_, ?_, ?_, fun i q p hq _ => by simp at hq⟩, hi⟩
    · show _ = fst0 s.2.2.1.1 k
      rw [fst0_lo _ k9]; exact (ei 16 k (by omega) (by omega) (by omega) (by omega)).trans (k1 k k0 k9)
    · subst hG2; simp [iv_si, iv_sr]; rfl
    · subst hG2; simp [iv_si, iv_sr]; rfl
    · rw [show iv G2 15 3 = iv G1 15 3 by subst hG2; simp [iv_si, iv_sr], hr.2 15 3 (by omega) (by omega) (by omega) (by omega) (by omega) (by omega) (by omega) (by omega), iv_sr]; exact k4
    · rw [ei 19 3 (by omega) (by omega) (by omega) (by omega)]; exact k5.1
    · rw [ei 19 3 (by omega) (by omega) (by omega) (by omega)]; exact k5.2.1
    · subst hG2; simp [iv_si, iv_sr]
