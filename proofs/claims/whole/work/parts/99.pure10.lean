/-! PURE: what is so after every call -/
def RwOk (m : Int) (r : Rw) : Prop := RowOk m r.1 ∧ (∀ q ∈ r.2.1, RowOk m q) ∧ r.2.1.length ≤ 16 ∧ (∀ j q, r.2.2.1 j = some q → Cok q.1 ∧ 0 ≤ q.1 8 ∧ (0 ≤ q.1 9 ∧ q.1 9 ≤ 996) ∧ 0 ≤ q.2 ∧ q.2 < 2147483648) ∧ 0 ≤ r.2.2.2 ∧ r.2.2.2 < 2147483648
def TcOk (N : Int) (P : Pg) (c : Tc) : Prop := Kp P c.2.1 5 c.1 ∧ Cok c.2.1 ∧ tsz 6 c.1 ≤ 364 ∧ (0 ≤ c.2.2.1 ∧ c.2.2.1 ≤ 364 * (N + 1)) ∧ (∀ e ∈ nds 6 c.1, (0 ≤ nN e ∧ nN e < c.2.2.1) ∧ 0 ≤ nD e ∧ nD e ≤ N + 1) ∧ (nms 6 c.1).Nodup ∧ (0 ≤ c.2.2.2.1 ∧ c.2.2.2.1 ≤ 364) ∧ (0 ≤ c.2.2.2.2.1 ∧ c.2.2.2.2.1 ≤ 364) ∧ -364 ≤ c.2.2.2.2.2 ∧ c.2.2.2.2.2 ≤ 728
def Iv (N : Int) (s : Sg) : Prop := (0 ≤ s.1.2.1 ∧ s.1.2.1 ≤ 160) ∧ Pok s.2.1 ∧ RwOk s.2.1.2.2 s.2.2.1 ∧ (s.2.2.2.1.length ≤ 20 ∧ ∀ e ∈ s.2.2.2.1, 0 ≤ e.1 ∧ e.1 < 5 ∧ 0 ≤ e.2.1 ∧ e.2.1 ≤ 996) ∧ TcOk N s.2.1 s.2.2.2.2
theorem TcOk_mono {N N' : Int} {P : Pg} {c : Tc} (hn : N ≤ N') (h : TcOk N P c) : TcOk N' P c := by
  obtain ⟨h1, h2, h3, h4, h5, h6⟩ := h
  exact ⟨h1, h2, h3, ⟨h4.1, by omega⟩, fun e he => ⟨(h5 e he).1, (h5 e he).2.1, by have := (h5 e he).2.2; omega⟩, h6⟩
theorem Iv_mono {N N' : Int} {s : Sg} (hn : N ≤ N') (h : Iv N s) : Iv N' s := ⟨h.1, h.2.1, h.2.2.1, h.2.2.2.1, TcOk_mono hn h.2.2.2.2⟩
section
variable {N : Int} {s : Sg}
theorem Iv_Aim (h : Iv N s) : Aim s.2.1 s.2.2.1 := ⟨h.2.1, h.2.2.1.1.1, h.2.2.1.1.2.1, h.2.2.1.1.2.2.1, h.2.2.1.1.2.2.2.1, h.2.2.1.1.2.2.2.2⟩
theorem Iv_hA (h : Iv N s) : 0 ≤ s.2.2.1.1 8 ∧ s.2.2.1.1 8 < s.2.1.2.2 ∧ 0 ≤ s.2.2.1.1 9 ∧ s.2.2.1.1 9 ≤ 996 := h.2.2.1.1.2
theorem Iv_Cnt (h : Iv N s) (n1 : N ≤ 1000) : Cnt s.2.2.2.2 := by
  obtain ⟨-, -, -, -, h1, h2, h3, h4, h5, h6⟩ := h
  refine ⟨h3, h4.1, by omega, fun e he => ?_⟩
  have hm : e.1 ∈ nds 6 s.2.2.2.2.1 := by rw [← flat_nds 6 1]; exact List.mem_map.mpr ⟨e, he, rfl⟩
  have := (h5 _ hm).2
  exact ⟨this.1, by omega⟩
theorem Iv_NmOk (h : Iv N s) (n1 : N ≤ 1000) : NmOk s.2.2.2.2.1 := by
  obtain ⟨-, -, -, -, h1, h2, h3, h4, h5, h6⟩ := h
  intro e he
  have hm : e.1 ∈ nds 6 s.2.2.2.2.1 := by rw [← inf_nds 6 1 0 (-1)]; exact List.mem_map.mpr ⟨e, he, rfl⟩
  have := h5 _ hm
  exact ⟨wr_id ⟨by omega, by omega⟩, wr_id ⟨by omega, by omega⟩⟩
theorem Iv_NmD (h : Iv N s) : NmD s.2.2.2.2.1 := by
  obtain ⟨-, -, -, -, h1, h2, h3, h4, h5, h6, -⟩ := h
  unfold NmD
  have : (inf 6 1 0 (-1) s.2.2.2.2.1).map (fun e => nN e.1) = nms 6 s.2.2.2.2.1 := by
    unfold nms
    rw [← inf_nds 6 1 0 (-1), List.map_map]; rfl
  rw [this]; exact h6
theorem Iv_wr (h : Iv N s) (n1 : N ≤ 1000) : wr s.2.2.2.2.2.2.1 = s.2.2.2.2.2.2.1 ∧ wr s.2.2.2.2.2.2.2.1 = s.2.2.2.2.2.2.2.1 ∧ wr s.2.2.2.2.2.2.2.2.1 = s.2.2.2.2.2.2.2.2.1 ∧ wr s.2.2.2.2.2.2.2.2.2 = s.2.2.2.2.2.2.2.2.2 := by
  obtain ⟨-, -, -, -, h1, h2, h3, h4, h5, h6, h7, h8, h9⟩ := h
  exact ⟨wr_id ⟨by omega, by omega⟩, wr_id ⟨by omega, by omega⟩, wr_id ⟨by omega, by omega⟩, wr_id ⟨by omega, by omega⟩⟩
theorem Iv_feed (h : Iv N s) (l : Int) : Iv N (o_feed l s).2 := by
  unfold o_feed
  split
  · split
    · exact h
    · rename_i c1 c2
      exact ⟨⟨by show 0 ≤ s.1.2.1 + 1; have := h.1; omega, by show s.1.2.1 + 1 ≤ 160; have := h.1; omega⟩, h.2⟩
  · exact h
theorem Iv_tear (h : Iv N s) : Iv N (o_tear s).2 := ⟨h.1, h.2.1, h.2.2.1, ⟨Nat.zero_le _, fun e he => by cases he⟩, h.2.2.2.2⟩
theorem Iv_seed (h : Iv N s) {v : Int} (hv : v < 2147483648) : Iv N (o_seed v s).2 := by
  unfold o_seed
  split
  · exact h
  · exact ⟨h.1, h.2.1, ⟨h.2.2.1.1, h.2.2.1.2.1, h.2.2.1.2.2.1, h.2.2.1.2.2.2.1, by show 0 ≤ v; omega, hv⟩, h.2.2.2⟩
theorem Iv_write (h : Iv N s) (f x v : Int) : Iv N (o_write f x v s).2 := by
  unfold o_write
  split
  · split
    · split
      · exact h
      · rename_i c1 c2 c3
        refine ⟨h.1, h.2.1, h.2.2.1, ⟨?_, fun e he => ?_⟩, h.2.2.2.2⟩
        · show (s.2.2.2.1 ++ [(f, x, v)]).length ≤ 20
          rw [List.length_append]; have := h.2.2.2.1.1; simp only [List.length_cons, List.length_nil]; omega
        · rcases List.mem_append.mp he with q | q
          · exact h.2.2.2.1.2 e q
          · rw [List.mem_singleton.mp q]
            have := h.2.1.2.1
            exact ⟨c1.1, by show f < 5; omega, c2.1, c2.2⟩
    · exact h
  · exact h
theorem RwOk_rem {m : Int} {r : Rw} (h : RwOk m r) {n : Int → Int} (hn : RowOk m n) : RwOk m (remR r n) := by
  refine ⟨hn, fun q hq => ?_, ?_, h.2.2.2⟩
  · rcases List.mem_cons.mp (List.mem_of_mem_take hq) with e | e
    · rw [e]; exact h.1
    · exact h.2.1 q e
  · show ((r.1 :: r.2.1).take 16).length ≤ 16
    rw [List.length_take]; exact Nat.min_le_left _ _
theorem RowOk_upi {m : Int} {r : Int → Int} (h : RowOk m r) {i v : Int} (i0 : 0 ≤ i) (i1 : i < 8) (v0 : 0 ≤ v) (v1 : v ≤ 996) : RowOk m (upi r i v) := by
  obtain ⟨h1, h2⟩ := h
  refine ⟨fun k k0 k1 => ?_, ?_⟩
  · unfold upi; split
    · exact ⟨v0, v1⟩
    · exact h1 k k0 k1
  · have e8 : upi r i v 8 = r 8 := by unfold upi; rw [if_neg (by omega)]
    have e9 : upi r i v 9 = r 9 := by unfold upi; rw [if_neg (by omega)]
    rw [e8, e9]; exact h2
theorem Iv_set (h : Iv N s) (i v : Int) : Iv N (o_set i v s).2 := by
  unfold o_set
  split
  · split
    · rename_i c1 c2
      exact ⟨h.1, h.2.1, RwOk_rem h.2.2.1 (RowOk_upi h.2.2.1.1 c1.1 (by omega) c2.1 c2.2), h.2.2.2⟩
    · exact h
  · exact h
theorem Iv_aim (h : Iv N s) (f x : Int) : Iv N (o_aim f x s).2 := by
  unfold o_aim
  split
  · split
    · rename_i c1 c2
      refine ⟨h.1, h.2.1, RwOk_rem h.2.2.1 ⟨fun k k0 k1 => ?_, ?_⟩, h.2.2.2⟩
      · unfold upi; rw [if_neg (by omega), if_neg (by omega)]; exact h.2.2.1.1.1 k k0 k1
      · have e8 : upi (upi s.2.2.1.1 8 f) 9 x 8 = f := rfl
        have e9 : upi (upi s.2.2.1.1 8 f) 9 x 9 = x := rfl
        rw [e8, e9]; exact ⟨c1.1, c1.2, c2.1, c2.2⟩
    · exact h
  · exact h
theorem RwOk_dr1 {m : Int} {r : Rw} (h : RwOk m r) : RwOk m (dr1 r) := by
  have hz : ∀ z, 0 ≤ drw z ∧ drw z < 2147483648 := fun z => by unfold drw; omega
  have h1 := hz r.2.2.2
  have h2 := hz (drw r.2.2.2)
  have h3 := RwOk_rem h (RowOk_upi h.1 (i := drw r.2.2.2 / 65536 % 8) (v := drw (drw r.2.2.2) / 65536 % 10) (by omega) (by omega) (by omega) (by omega))
  exact ⟨h3.1, h3.2.1, h3.2.2.1, h3.2.2.2.1, h2.1, h2.2⟩
theorem RwOk_drN {m : Int} : ∀ (n : Nat) (r : Rw), RwOk m r → RwOk m (drN n r) := by
  intro n
  induction n with
  | zero => intro r h; exact h
  | succ n ih => intro r h; exact ih _ (RwOk_dr1 h)
theorem Iv_drift (h : Iv N s) (n : Int) : Iv N (o_drift n s).2 := by
  unfold o_drift
  split
  · exact ⟨h.1, h.2.1, RwOk_drN _ _ h.2.2.1, h.2.2.2⟩
  · exact h
theorem Iv_undo (h : Iv N s) (n : Int) : Iv N (o_undo n s).2 := by
  unfold o_undo
  split
  · split
    · exact h
    · refine ⟨h.1, h.2.1, ⟨?_, fun q hq => h.2.2.1.2.1 q (List.mem_of_mem_drop hq), ?_, h.2.2.1.2.2.2⟩, h.2.2.2⟩
      · show RowOk _ (rowAt s.2.2.1 n.toNat)
        unfold rowAt
        split
        · rename_i q hq
          rcases List.mem_cons.mp (List.mem_of_getElem? hq) with e | e
          · rw [e]; exact h.2.2.1.1
          · exact h.2.2.1.2.1 _ e
        · exact h.2.2.1.1
      · show (s.2.2.1.2.1.drop n.toNat).length ≤ 16
        rw [List.length_drop]; have := h.2.2.1.2.2.1; omega
  · exact h
theorem Iv_keep (h : Iv N s) (i : Int) : Iv N (o_keep i s).2 := by
  unfold o_keep
  split
  · refine ⟨h.1, h.2.1, ⟨h.2.2.1.1, fun q hq => (by cases hq), Nat.zero_le _, fun j q hq => ?_, h.2.2.1.2.2.2.2⟩, h.2.2.2⟩
    dsimp only at hq
    split at hq
    · cases hq
      exact ⟨h.2.2.1.1.1, h.2.2.1.1.2.1, h.2.2.1.1.2.2.2, h.2.2.1.2.2.2.2⟩
    · exact h.2.2.1.2.2.2.1 j q hq
  · exact h
theorem Iv_goBack (h : Iv N s) (i : Int) : Iv N (o_goBack i s).2 := by
  unfold o_goBack
  split
  · split
    · exact h
    · rename_i q hq
      split
      · rename_i c1
        have hj := h.2.2.1.2.2.2.1 i q hq
        exact ⟨h.1, h.2.1, ⟨⟨hj.1, hj.2.1, c1, hj.2.2.1⟩, fun q hq => (by cases hq), Nat.zero_le _, h.2.2.1.2.2.2.1, hj.2.2.2⟩, h.2.2.2⟩
      · exact h
  · exact h
theorem TcOk_up {P : Pg} {h c : Int → Int} {o : Option (Tr 6)} {me gone : Int} (hP : Pok P) (hc : Cok c) (n0 : 0 ≤ N) (h0 : 0 ≤ me) (h1 : me ≤ 364 * (N + 1)) {f x : Int} (f0 : 0 ≤ f) (f1 : f < P.2.2) (x0 : 0 ≤ x) (x1 : x ≤ 996) (ho : ∀ e ∈ ond 6 o, (0 ≤ nN e ∧ nN e < me) ∧ 0 ≤ nD e ∧ nD e ≤ N + 1) (hn : (onm 6 o).Nodup) {made anew : Int} (hm : made = (upT h c 6 o (fr P c 5 f x) (me, 0, 0)).2.2.1 ∧ anew = (upT h c 6 o (fr P c 5 f x) (me, 0, 0)).2.2.2 ∨ (made = 0 ∧ anew = 0)) (hg : -364 ≤ gone ∧ gone ≤ 728) : TcOk (N + 1) P ((upT h c 6 o (fr P c 5 f x) (me, 0, 0)).1, c, (upT h c 6 o (fr P c 5 f x) (me, 0, 0)).2.1, made, anew, gone) := by
  have hs : tsz 6 (fr P c 5 f x) ≤ 364 := fr_size hP hc 5 f x f0 f1 x0 x1
  have hcn := upT_cnt h c 6 o (fr P c 5 f x) (me, 0, 0)
  have hnm := upT_nm h c 6 o (fr P c 5 f x) (me, 0, 0) hn (fun y hy => by
    obtain ⟨e, he, rfl⟩ := List.mem_map.mp hy
    exact (ho e he).1.2)
  have hnd := upT_nd h c (show (0 : Int) ≤ N + 1 by omega) 6 o (fr P c 5 f x) (me, 0, 0) (fun e he => (ho e he).2)
  have hk := Kp_of_up hP hc f0 f1 x0 x1 (h := h) (d := 5) o (me, 0, 0)
  dsimp only at hcn hnm
  refine ⟨hk, hc, by show tsz 6 (upT h c 6 o (fr P c 5 f x) (me, 0, 0)).1 ≤ 364; rw [hcn.1]; exact hs, ⟨by show 0 ≤ (upT h c 6 o (fr P c 5 f x) (me, 0, 0)).2.1; omega, by show (upT h c 6 o (fr P c 5 f x) (me, 0, 0)).2.1 ≤ 364 * (N + 1 + 1); omega⟩, fun e he => ?_, hnm.1, ?_, ?_, hg.1, hg.2⟩
  · refine ⟨?_, hnd e he⟩
    rcases hnm.2 (nN e) (List.mem_map.mpr ⟨e, he, rfl⟩) with q | q
    · obtain ⟨e', he', q2⟩ := List.mem_map.mp q
      have := (ho e' he').1
      show 0 ≤ nN e ∧ nN e < (upT h c 6 o (fr P c 5 f x) (me, 0, 0)).2.1
      rw [← q2]; omega
    · show 0 ≤ nN e ∧ nN e < (upT h c 6 o (fr P c 5 f x) (me, 0, 0)).2.1
      omega
  · show 0 ≤ made ∧ made ≤ 364
    rcases hm with q | q
    · rw [q.1]; omega
    · omega
  · show 0 ≤ anew ∧ anew ≤ 364
    rcases hm with q | q
    · rw [q.2]; omega
    · omega
theorem Iv_bring (h : Iv N s) (n0 : 0 ≤ N) : Iv (N + 1) (m_bring s).2 := by
  refine ⟨h.1, h.2.1, h.2.2.1, h.2.2.2.1, ?_⟩
  have hA := Iv_hA h
  obtain ⟨-, hP, hr, -, h1, h2, h3, h4, h5, h6, -⟩ := h
  have hs : tsz 6 (newN s) ≤ 364 := fr_size hP hr.1.1 5 _ _ hA.1 hA.2.1 hA.2.2.1 hA.2.2.2
  have hcn := upT_cnt s.2.2.2.2.2.1 s.2.2.1.1 6 (olT s.2.2.2.2 s.2.2.1) (newN s) (s.2.2.2.2.2.2.1, 0, 0)
  dsimp only at hcn
  refine TcOk_up (h := s.2.2.2.2.2.1) (o := olT s.2.2.2.2 s.2.2.1) hP hr.1.1 n0 h4.1 h4.2 hA.1 hA.2.1 hA.2.2.1 hA.2.2.2 (fun e he => ?_) ?_ (Or.inl ⟨rfl, rfl⟩) ?_
  · unfold olT at he
    split at he
    · exact h5 e he
    · cases he
  · unfold onm olT
    split
    · exact h6
    · exact List.nodup_nil
  · show -364 ≤ (tsz 6 s.2.2.2.2.1 : Int) - ((tsz 6 (newN s) : Int) - (upR s).2.2.1) ∧ (tsz 6 s.2.2.2.2.1 : Int) - ((tsz 6 (newN s) : Int) - (upR s).2.2.1) ≤ 728
    have e : (upR s).2.2.1 = (upT s.2.2.2.2.2.1 s.2.2.1.1 6 (olT s.2.2.2.2 s.2.2.1) (newN s) (s.2.2.2.2.2.2.1, 0, 0)).2.2.1 := rfl
    rw [e]
    omega
theorem Iv_functions (h : Iv N s) (n0 : 0 ≤ N) (hP : (rdT s).1 = 0 → Pok (lcP s)) : Iv (N + 1) (o_functions s).2 := by
  unfold o_functions
  split
  · rename_i hz
    have hp := hP hz
    have hr := h.2.2.1
    have hc : Cok (fst0 s.2.2.1.1) := Cok_fst0 hr.1.1
    have e8 : fst0 s.2.2.1.1 8 = 0 := rfl
    have e9 : fst0 s.2.2.1.1 9 = 0 := rfl
    have hp1 := hp.1
    refine ⟨⟨Int.le_refl _, by show (0 : Int) ≤ 160; decide⟩, hp, ⟨⟨hc, by show 0 ≤ fst0 s.2.2.1.1 8; rw [e8]; decide, by show fst0 s.2.2.1.1 8 < (lcP s).2.2; rw [e8]; omega, by show 0 ≤ fst0 s.2.2.1.1 9 ∧ fst0 s.2.2.1.1 9 ≤ 996; rw [e9]; decide⟩, fun q hq => (by cases hq), Nat.zero_le _, hr.2.2.2⟩, h.2.2.2.1, ?_⟩
    exact TcOk_up (h := fst0 s.2.2.1.1) (c := fst0 s.2.2.1.1) (o := none) (me := 0) hp hc n0 (Int.le_refl _) (by omega) (Int.le_refl _) (by omega) (Int.le_refl _) (by decide) (fun e he => by cases he) List.nodup_nil (Or.inr ⟨rfl, rfl⟩) (by decide)
  · exact Iv_mono (by omega) ⟨⟨Int.le_refl _, by show (0 : Int) ≤ 160; decide⟩, h.2⟩
end
theorem Iv_00 : Iv 0 s00 := by
  refine ⟨⟨Int.le_refl _, by show (0 : Int) ≤ 160; decide⟩, Pok0, ⟨⟨Cok0, ?_⟩, fun q hq => (by cases hq), Nat.zero_le _, fun j q hq => (by cases hq), by show (0 : Int) ≤ 0 ∧ (0 : Int) < 2147483648; decide⟩, ⟨Nat.zero_le _, fun e he => by cases he⟩, ?_⟩
  · show 0 ≤ c00 8 ∧ c00 8 < 1 ∧ 0 ≤ c00 9 ∧ c00 9 ≤ 996
    have e8 : c00 8 = 0 := rfl
    have e9 : c00 9 = 0 := rfl
    rw [e8, e9]; decide
  · have hk : Kp P0 c00 5 (first P0 c00).1 := Kp_of_up Pok0 Cok0 (h := c00) (d := 5) (Int.le_refl _) (by decide) (Int.le_refl _) (by decide) none (0, 0, 0)
    show TcOk 0 P0 ((first P0 c00).1, c00, (first P0 c00).2.1, 0, 0, 0)
    rw [first_P0] at hk ⊢
    refine ⟨hk, Cok0, by decide, by decide, fun e he => ?_, by decide, by decide, by decide, by decide, by decide⟩
    have he : e = (0, 0, 0, 0, 0, 0, 1) := by simpa [nds, mkN] using he
    rw [he]; decide
