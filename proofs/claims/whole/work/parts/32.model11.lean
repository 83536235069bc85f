/-! THE MODEL: matchAll, takeOver -/
def zapN (n : Nd) : Nd := (0, nF n, nX n, nV n, nM n, 0, 0)
def zap : (d : Nat) → Tr d → Tr d
  | 0, t => t
  | d + 1, t => mkN d (zapN t.1) (t.2.map (zap d))
theorem fm_congr {α β : Type} {f g : α → List β} : ∀ (l : List α), (∀ a ∈ l, f a = g a) → l.flatMap f = l.flatMap g := by
  intro l
  induction l with
  | nil => intro _; rfl
  | cons a l ih => intro h; rw [List.flatMap_cons, List.flatMap_cons, h a (List.mem_cons_self ..), ih (fun b hb => h b (List.mem_cons_of_mem _ hb))]
theorem flat_zap : ∀ (d : Nat) (ns : Int) (t : Tr d), flat d ns (zap d t) = (flat d ns t).map (fun e => (zapN e.1, e.2)) := by
  intro d
  induction d with
  | zero => intro ns t; exact t.elim
  | succ d ih =>
    intro ns t
    show (zapN t.1, ns) :: (t.2.map (zap d)).flatMap (flat d (ns + 1)) = (zapN t.1, ns) :: (t.2.flatMap (flat d (ns + 1))).map _
    congr 1
    rw [List.flatMap_map, List.map_flatMap]
    exact fm_congr _ (fun p _ => ih (ns + 1) p)
theorem fAt_zap {G : Hp} : ∀ (l : List (Nd × Int)) (k : Int), fAt G k (l.map (fun e => (zapN e.1, e.2))) ↔ fAt G k l := by
  intro l
  induction l with
  | nil => intro k; exact Iff.rfl
  | cons e l ih => intro k; simp only [List.map_cons, fAt, ih]; exact Iff.rfl
theorem upL_zap {d : Nat} {up : Option (Tr d) → Tr d → K3 → Tr d × K3} (hu : ∀ o t κ, zap d (up o t κ).1 = zap d t) : ∀ (l rem : List (Tr d)) (κ : K3), (upL up rem l κ).1.map (zap d) = l.map (zap d) := by
  intro l
  induction l with
  | nil => intro rem κ; rfl
  | cons t l ih =>
    intro rem κ
    simp only [upL]
    cases fn1 (nF (rt d t)) (nX (rt d t)) rem with
    | none => simp only [List.map_cons, hu, ih]
    | some q => simp only [List.map_cons, hu, ih]
theorem zap_upT (h c : Int → Int) : ∀ (d : Nat) (o : Option (Tr d)) (t : Tr d) (κ : K3), zap d (upT h c d o t κ).1 = zap d t := by
  intro d
  induction d with
  | zero => intro o t; exact t.elim
  | succ d ih =>
    intro o t κ
    cases o with
    | none => simp only [upT, zap, mkN]; rw [upL_zap ih]; rfl
    | some o => simp only [upT, zap, mkN]; rw [upL_zap ih]; rfl
theorem fAt_upT {G : Hp} (h c : Int → Int) (d : Nat) (o : Option (Tr d)) (t : Tr d) (κ : K3) (ns k : Int) (hf : fAt G k (flat d ns t)) : fAt G k (flat d ns (upT h c d o t κ).1) := by
  rw [← fAt_zap, ← flat_zap, zap_upT, flat_zap, fAt_zap]; exact hf
theorem mall_init {dd : Nat} {Q : Option V → Hp → Prop} {cn rt : Int} (c2 : cn ≤ 364) : ∀ (n : Nat) (k : Int) (G : Hp), FM G → iv G 35 29 = cn → 0 ≤ k → k + (n : Int) = cn → (∀ G', Io G G' → (∀ (a : Nat) (j : Int), a ≠ 57 → iv G' a j = iv G a j) → (∀ j, k ≤ j → j < cn → iv G' 57 j = -1) → (∀ j, j < k → iv G' 57 j = iv G 57 j) → Ex (dd + 3) none 10 false cX10_matchAll 23 [some (.inr (.inr (some 35))), some (.inl rt), some (.inl cn), none, none] [] G' Q) → Ex (dd + 3) none 10 false cX10_matchAll 2 [some (.inr (.inr (some 35))), some (.inl rt), some (.inl k), none, none] [] G Q := by
  intro n
  induction n with
  | zero =>
    intro k G hF hcn k0 k1 kk
    have hk : k = cn := by omega
    subst hk
    refine x_iload_n (q := 3) dX10_matchAll_2 rfl rfl ?_
    refine x_aload_n (q := 4) dX10_matchAll_3 rfl rfl ?_
    refine x_getI (q := 7) dX10_matchAll_4 rfl f_10_118 rfl (ft35 hF) ?_
    refine Ex.stk (st' := [.inl k, .inl k]) (by rw [show iv G 35 29 = k from hcn]) ?_
    refine x_icmp_ge (q := 10) (t := 23) dX10_matchAll_7 rfl (by decide) (fun h7 => ?_) (fun h7 => by exfalso; omega)
    exact kk G (Io.rf G) (fun _ _ _ => rfl) (fun j j1 j2 => by omega) (fun _ _ => rfl)
  | succ n ih =>
    intro k G hF hcn k0 k1 kk
    refine x_iload_n (q := 3) dX10_matchAll_2 rfl rfl ?_
    refine x_aload_n (q := 4) dX10_matchAll_3 rfl rfl ?_
    refine x_getI (q := 7) dX10_matchAll_4 rfl f_10_118 rfl (ft35 hF) ?_
    refine Ex.stk (st' := [.inl cn, .inl k]) (by rw [show iv G 35 29 = cn from hcn]) ?_
    refine x_icmp_ge (q := 10) (t := 23) dX10_matchAll_7 rfl (by decide) (fun h7 => by exfalso; omega) (fun h7 => ?_)
    refine x_aload_n (q := 11) dX10_matchAll_10 rfl rfl ?_
    refine x_getR (q := 14) dX10_matchAll_11 rfl f_10_77 rfl (ft35 hF) ?_
    refine Ex.stk (st' := [.inr (.inr (some 57))]) (by rw [fr35_30 hF]) ?_
    refine x_iload_n (q := 15) dX10_matchAll_14 rfl rfl ?_
    refine x_iconst (q := 16) dX10_matchAll_15 rfl (by decide) ?_
    refine x_iastore (q := 17) dX10_matchAll_16 rfl (ft57 hF) (by omega) (by rw [fl57 hF]; omega) ?_
    have hF := FX_si hF 57 k (-1)
    refine x_iinc (q := 20) (ls' := [some (.inr (.inr (some 35))), some (.inl rt), some (.inl (k + 1)), none, none]) dX10_matchAll_17 rfl rfl (by first | rfl | exact hnl | exact hnl2 _) (by rw [show wr (k + 1) = k + 1 from (wr_id ⟨by omega, by omega⟩)]; rfl) ?_
    refine x_goto (t := 2) dX10_matchAll_20 (by decide) ?_
    have kp : ∀ (a : Nat) (j : Int), a ≠ 57 → iv (si G 57 k (-1)) a j = iv G a j := fun a j ha => by simp only [iv_si]; rw [if_neg (by omega)]
    have kp2 : ∀ (j : Int), j ≠ k → iv (si G 57 k (-1)) 57 j = iv G 57 j := fun j ha => by simp only [iv_si]; rw [if_neg (by omega)]
    have kp3 : iv (si G 57 k (-1)) 57 k = -1 := by simp [iv_si]
    refine ih (k + 1) _ hF ((kp 35 29 (by decide)).trans hcn) (by omega) (by omega) (fun G' g1 g2 g3 g4 => kk G' g1 (fun a j ha => (g2 a j ha).trans (kp a j ha)) (fun j j1 j2 => ?_) (fun j j1 => (g4 j (by omega)).trans (kp2 j (by omega))))
    by_cases hj : j = k
    · subst hj; rw [g4 j (by omega)]; exact kp3
    · exact g3 j (by omega) j2
/-- what matchAll leaves as it was -/
def Mg (G G' : Hp) : Prop := Io G G' ∧ (∀ (a : Nat) (k : Int), a ≠ 35 → a ≠ 57 → a ≠ 58 → a ≠ 59 → iv G' a k = iv G a k) ∧ ∀ k, k ≠ 33 → k ≠ 34 → k ≠ 35 → k ≠ 36 → iv G' 35 k = iv G 35 k
set_option maxHeartbeats 1000000 in
theorem c_matchAll1 (dd : Nat) {G : Hp} (hF : FM G) {co cn me : Int} {h c : Int → Int} (hco : iv G 35 22 = co) (hcn : iv G 35 29 = cn) (c0 : 0 ≤ co) (c1 : co ≤ 364) (c2 : cn ≤ 364) (hh : iv G 51 = h) (hc : iv G 36 = c) (hD : ∀ j, 0 ≤ j → j < co → 0 ≤ iv G 50 j ∧ iv G 50 j ≤ 1000000) (h33 : iv G 35 33 = me) (m0 : 0 ≤ me) (m1 : me ≤ 900000) {N : Tr 6} (hN : NR G cn 6 0 1 [N]) (hcnN : cn = (tsz 6 N : Int)) {T : Tr 6} (hO : OR G co 6 0 1 [T]) : CX (dd + 4) 129 [.inr (.inr (some 35)), .inl 1] G (fun r G' => r = none ∧ Mg G G' ∧ iv G' 35 33 = (upT h c 6 (some T) N (me, 0, 0)).2.1 ∧ iv G' 35 34 = (upT h c 6 (some T) N (me, 0, 0)).2.2.1 ∧ iv G' 35 35 = (upT h c 6 (some T) N (me, 0, 0)).2.2.2 ∧ iv G' 35 36 = co - (cn - (upT h c 6 (some T) N (me, 0, 0)).2.2.1) ∧ nAt G' 0 (flat 6 1 (upT h c 6 (some T) N (me, 0, 0)).1)) := by
  have hN1 := tsz_pos 6 N
  have hsz0 : tszL 6 [N] = tsz 6 N := by rw [tszL_cons]; rfl
  refine CX.of (d := dd + 3) m_X10_matchAll (Nat.le_of_ble_eq_true rfl) ?_
  refine Ex.lcl (ls' := [some (.inr (.inr (some 35))), some (.inl 1), none, none, none]) rfl ?_
  refine x_iconst (q := 1) dX10_matchAll_0 rfl (by decide) ?_
  refine x_istore_n (q := 2) (ls' := [some (.inr (.inr (some 35))), some (.inl 1), some (.inl 0), none, none]) dX10_matchAll_1 rfl (Nat.le_of_ble_eq_true rfl) (by first | rfl | exact hnl | exact hnl2 _) rfl ?_
  refine mall_init c2 cn.toNat 0 G hF hcn (by decide) (by omega) (fun Ga a1 a2 a3 _ => ?_)
  have hFa : FM Ga := FX_Io hF a1
  have hF := hFa
  refine x_aload_n (q := 24) dX10_matchAll_23 rfl rfl ?_
  refine x_getR (q := 27) dX10_matchAll_24 rfl f_10_77 rfl (ft35 hF) ?_
  refine Ex.stk (st' := [.inr (.inr (some 57))]) (by rw [fr35_30 hF]) ?_
  refine x_iconst (q := 28) dX10_matchAll_27 rfl (by decide) ?_
  refine x_iload_n (q := 29) dX10_matchAll_28 rfl rfl ?_
  refine x_if_eq (q := 32) (t := 36) dX10_matchAll_29 rfl (by decide) (fun h29 => by exfalso; omega) (fun h29 => ?_)
  refine x_iconst (q := 33) dX10_matchAll_32 rfl (by decide) ?_
  refine x_goto (t := 37) dX10_matchAll_33 (by decide) ?_
  refine x_iastore (q := 38) dX10_matchAll_37 rfl (ft57 hF) (by omega) (by rw [fl57 hF]; omega) ?_
  have hF := FX_si hF 57 0 0
  refine x_aload_n (q := 39) dX10_matchAll_38 rfl rfl ?_
  refine x_iconst (q := 40) dX10_matchAll_39 rfl (by decide) ?_
  refine x_putI (q := 43) dX10_matchAll_40 rfl f_10_180 rfl (fun h => by cases h) (fun h => by cases h) (ft35 hF) ?_
  have hF := FX_si hF 35 34 0
  refine x_aload_n (q := 44) dX10_matchAll_43 rfl rfl ?_
  refine x_iconst (q := 45) dX10_matchAll_44 rfl (by decide) ?_
  refine x_putI (q := 48) dX10_matchAll_45 rfl f_10_183 rfl (fun h => by cases h) (fun h => by cases h) (ft35 hF) ?_
  have hF := FX_si hF 35 35 0
  refine x_iconst (q := 49) dX10_matchAll_48 rfl (by decide) ?_
  refine x_istore_n (q := 50) (ls' := [some (.inr (.inr (some 35))), some (.inl 1), some (.inl 0), none, none]) dX10_matchAll_49 rfl (Nat.le_of_ble_eq_true rfl) (by first | rfl | exact hnl | exact hnl2 _) rfl ?_
  have kp : ∀ (a : Nat) (j : Int), a ≠ 35 → a ≠ 57 → iv (si (si (si Ga 57 0 0) 35 34 0) 35 35 0) a j = iv G a j := fun a j g1 g2 => by simp only [iv_si]; rw [if_neg (by omega), if_neg (by omega), if_neg (by omega)]; exact a2 a j g2
  have kp2 : ∀ (j : Int), j ≠ 34 → j ≠ 35 → iv (si (si (si Ga 57 0 0) 35 34 0) 35 35 0) 35 j = iv G 35 j := fun j g1 g2 => by simp only [iv_si]; rw [if_neg (by omega), if_neg (by omega), if_neg (by omega)]; exact a2 35 j (by decide)
  have kp3 : ∀ (j : Int), 0 < j → j < cn → iv (si (si (si Ga 57 0 0) 35 34 0) 35 35 0) 57 j = -1 := fun j g1 g2 => by simp only [iv_si]; rw [if_neg (by omega), if_neg (by omega), if_neg (by omega)]; exact a3 j (by omega) g2
  have hmt : Mt G (si (si (si Ga 57 0 0) 35 34 0) 35 35 0) := ⟨a1, fun a j g1 g2 g3 g4 => kp a j g1 g2, fun j g1 g2 g3 => kp2 j g2 g3⟩
  have hsz : tszL 6 [N] = tsz 6 N := by rw [tszL_cons]; rfl
  have hMK : MK (si (si (si Ga 57 0 0) 35 34 0) 35 35 0) co cn h c (me, 0, 0) := ⟨hF, (kp2 22 (by decide) (by decide)).trans hco, (kp2 29 (by decide) (by decide)).trans hcn, by rw [← hh]; exact funext (fun j => kp 51 j (by decide) (by decide)), by rw [← hc]; exact funext (fun j => kp 36 j (by decide) (by decide)), fun j j1 j2 => by rw [kp 50 j (by decide) (by decide)]; exact hD j j1 j2, (kp2 33 (by decide) (by decide)).trans h33, by simp [iv_si], by simp [iv_si]⟩
  refine mall_loop c1 c2 6 [N] [some (0, T)] 0 1 1 (si (si (si Ga 57 0 0) 35 34 0) 35 35 0) _ _ (me, 0, 0) rfl rfl hMK (NR_kept hN (fun a j g1 g2 => kp a j (by omega) (by omega))) ⟨⟨by simp [iv_si], [], OR_kept hO (fun a j g1 g2 => kp a j (by omega) (by omega))⟩, fun i i1 i2 => kp3 i i1 (by omega), trivial⟩ (by dsimp only; omega) (fun Gz m3 m4 hm3 hm4 y1 y2 y3 y4 => ?_)
  rw [hsz]
  have hcnt := upT_cnt h c 6 (some T) N (me, 0, 0)
  replace y3 : MK Gz co cn h c (upT h c 6 (some T) N (me, 0, 0)).2 := y3
  replace y4 : nAt Gz 0 ((flat 6 1 (upT h c 6 (some T) N (me, 0, 0)).1) ++ []) := y4
  rw [List.append_nil] at y4
  generalize upT h c 6 (some T) N (me, 0, 0) = res at *
  obtain ⟨z1, z2, z3, z4, z5, z6, z7, z8, z9⟩ := y3
  have hF := z1
  dsimp only at hcnt
  refine x_iload_n (q := 51) dX10_matchAll_50 rfl rfl ?_
  refine x_aload_n (q := 52) dX10_matchAll_51 rfl rfl ?_
  refine x_getI (q := 55) dX10_matchAll_52 rfl f_10_118 rfl (ft35 hF) ?_
  refine Ex.stk (st' := [.inl cn, .inl (0 + (tsz 6 N : Int))]) (by rw [show iv Gz 35 29 = cn from (by simp [iv_si, iv_sr, iv_nw, z3])]) ?_
  refine x_icmp_ge (q := 58) (t := 184) dX10_matchAll_55 rfl (by decide) (fun h55 => ?_) (fun h55 => by exfalso; omega)
  refine x_aload_n (q := 185) dX10_matchAll_184 rfl rfl ?_
  refine x_aload_n (q := 186) dX10_matchAll_185 rfl rfl ?_
  refine x_getI (q := 189) dX10_matchAll_186 rfl f_10_173 rfl (ft35 hF) ?_
  refine Ex.stk (st' := [.inl co, .inr (.inr (some 35))]) (by rw [show iv Gz 35 22 = co from (by simp [iv_si, iv_sr, iv_nw, z2])]) ?_
  refine x_aload_n (q := 190) dX10_matchAll_189 rfl rfl ?_
  refine x_getI (q := 193) dX10_matchAll_190 rfl f_10_118 rfl (ft35 hF) ?_
  refine Ex.stk (st' := [.inl cn, .inl co, .inr (.inr (some 35))]) (by rw [show iv Gz 35 29 = cn from (by simp [iv_si, iv_sr, iv_nw, z3])]) ?_
  refine x_aload_n (q := 194) dX10_matchAll_193 rfl rfl ?_
  refine x_getI (q := 197) dX10_matchAll_194 rfl f_10_180 rfl (ft35 hF) ?_
  refine Ex.stk (st' := [.inl res.2.2.1, .inl cn, .inl co, .inr (.inr (some 35))]) (by rw [show iv Gz 35 34 = res.2.2.1 from (by simp [iv_si, iv_sr, iv_nw, z8])]) ?_
  refine x_isub (q := 198) (z := cn - res.2.2.1) dX10_matchAll_197 rfl (wr_id ⟨by omega, by omega⟩) ?_
  refine x_isub (q := 199) (z := co - (cn - res.2.2.1)) dX10_matchAll_198 rfl (wr_id ⟨by omega, by omega⟩) ?_
  refine x_putI (q := 202) dX10_matchAll_199 rfl f_10_195 rfl (fun h => by cases h) (fun h => by cases h) (ft35 hF) ?_
  have hF := FX_si hF 35 36 (co - (cn - res.2.2.1))
  refine x_vret dX10_matchAll_202 rfl ?_
  refine ⟨rfl, ⟨hmt.1.trans y1.1, fun a j g1 g2 g3 g4 => ?_, fun j g1 g2 g3 g4 => ?_⟩, ?_, ?_, ?_, ?_, nAt_kept _ _ y4 (fun a j g1 g2 _ _ => ?_)⟩
  · simp only [iv_si]; rw [if_neg (by omega)]; exact (y1.2.1 a j g1 g2 g3 g4).trans (hmt.2.1 a j g1 g2 g3 g4)
  · simp only [iv_si]; rw [if_neg (by omega)]; exact (y1.2.2 j g1 g2 g3).trans (hmt.2.2 j g1 g2 g3)
  · simp only [iv_si]; rw [if_neg (by omega)]; exact z7
  · simp only [iv_si]; rw [if_neg (by omega)]; exact z8
  · simp only [iv_si]; rw [if_neg (by omega)]; exact z9
  · simp [iv_si]
  · simp only [iv_si]; rw [if_neg (by omega)]
set_option maxHeartbeats 1000000 in
theorem c_matchAll0 (dd : Nat) {G : Hp} (hF : FM G) {co cn me : Int} {h c : Int → Int} (hco : iv G 35 22 = co) (hcn : iv G 35 29 = cn) (c0 : 0 ≤ co) (c1 : co ≤ 364) (c2 : cn ≤ 364) (hh : iv G 51 = h) (hc : iv G 36 = c) (hD : ∀ j, 0 ≤ j → j < co → 0 ≤ iv G 50 j ∧ iv G 50 j ≤ 1000000) (h33 : iv G 35 33 = me) (m0 : 0 ≤ me) (m1 : me ≤ 900000) {N : Tr 6} (hN : NR G cn 6 0 1 [N]) (hcnN : cn = (tsz 6 N : Int)) : CX (dd + 4) 129 [.inr (.inr (some 35)), .inl 0] G (fun r G' => r = none ∧ Mg G G' ∧ iv G' 35 33 = (upT h c 6 none N (me, 0, 0)).2.1 ∧ iv G' 35 34 = (upT h c 6 none N (me, 0, 0)).2.2.1 ∧ iv G' 35 35 = (upT h c 6 none N (me, 0, 0)).2.2.2 ∧ iv G' 35 36 = co - (cn - (upT h c 6 none N (me, 0, 0)).2.2.1) ∧ nAt G' 0 (flat 6 1 (upT h c 6 none N (me, 0, 0)).1)) := by
  have hN1 := tsz_pos 6 N
  have hsz0 : tszL 6 [N] = tsz 6 N := by rw [tszL_cons]; rfl
  refine CX.of (d := dd + 3) m_X10_matchAll (Nat.le_of_ble_eq_true rfl) ?_
  refine Ex.lcl (ls' := [some (.inr (.inr (some 35))), some (.inl 0), none, none, none]) rfl ?_
  refine x_iconst (q := 1) dX10_matchAll_0 rfl (by decide) ?_
  refine x_istore_n (q := 2) (ls' := [some (.inr (.inr (some 35))), some (.inl 0), some (.inl 0), none, none]) dX10_matchAll_1 rfl (Nat.le_of_ble_eq_true rfl) (by first | rfl | exact hnl | exact hnl2 _) rfl ?_
  refine mall_init c2 cn.toNat 0 G hF hcn (by decide) (by omega) (fun Ga a1 a2 a3 _ => ?_)
  have hFa : FM Ga := FX_Io hF a1
  have hF := hFa
  refine x_aload_n (q := 24) dX10_matchAll_23 rfl rfl ?_
  refine x_getR (q := 27) dX10_matchAll_24 rfl f_10_77 rfl (ft35 hF) ?_
  refine Ex.stk (st' := [.inr (.inr (some 57))]) (by rw [fr35_30 hF]) ?_
  refine x_iconst (q := 28) dX10_matchAll_27 rfl (by decide) ?_
  refine x_iload_n (q := 29) dX10_matchAll_28 rfl rfl ?_
  refine x_if_eq (q := 32) (t := 36) dX10_matchAll_29 rfl (by decide) (fun h29 => ?_) (fun h29 => by exfalso; omega)
  refine x_iconst (q := 37) dX10_matchAll_36 rfl (by decide) ?_
  refine x_iastore (q := 38) dX10_matchAll_37 rfl (ft57 hF) (by omega) (by rw [fl57 hF]; omega) ?_
  have hF := FX_si hF 57 0 (-1)
  refine x_aload_n (q := 39) dX10_matchAll_38 rfl rfl ?_
  refine x_iconst (q := 40) dX10_matchAll_39 rfl (by decide) ?_
  refine x_putI (q := 43) dX10_matchAll_40 rfl f_10_180 rfl (fun h => by cases h) (fun h => by cases h) (ft35 hF) ?_
  have hF := FX_si hF 35 34 0
  refine x_aload_n (q := 44) dX10_matchAll_43 rfl rfl ?_
  refine x_iconst (q := 45) dX10_matchAll_44 rfl (by decide) ?_
  refine x_putI (q := 48) dX10_matchAll_45 rfl f_10_183 rfl (fun h => by cases h) (fun h => by cases h) (ft35 hF) ?_
  have hF := FX_si hF 35 35 0
  refine x_iconst (q := 49) dX10_matchAll_48 rfl (by decide) ?_
  refine x_istore_n (q := 50) (ls' := [some (.inr (.inr (some 35))), some (.inl 0), some (.inl 0), none, none]) dX10_matchAll_49 rfl (Nat.le_of_ble_eq_true rfl) (by first | rfl | exact hnl | exact hnl2 _) rfl ?_
  have kp : ∀ (a : Nat) (j : Int), a ≠ 35 → a ≠ 57 → iv (si (si (si Ga 57 0 (-1)) 35 34 0) 35 35 0) a j = iv G a j := fun a j g1 g2 => by simp only [iv_si]; rw [if_neg (by omega), if_neg (by omega), if_neg (by omega)]; exact a2 a j g2
  have kp2 : ∀ (j : Int), j ≠ 34 → j ≠ 35 → iv (si (si (si Ga 57 0 (-1)) 35 34 0) 35 35 0) 35 j = iv G 35 j := fun j g1 g2 => by simp only [iv_si]; rw [if_neg (by omega), if_neg (by omega), if_neg (by omega)]; exact a2 35 j (by decide)
  have kp3 : ∀ (j : Int), 0 < j → j < cn → iv (si (si (si Ga 57 0 (-1)) 35 34 0) 35 35 0) 57 j = -1 := fun j g1 g2 => by simp only [iv_si]; rw [if_neg (by omega), if_neg (by omega), if_neg (by omega)]; exact a3 j (by omega) g2
  have hmt : Mt G (si (si (si Ga 57 0 (-1)) 35 34 0) 35 35 0) := ⟨a1, fun a j g1 g2 g3 g4 => kp a j g1 g2, fun j g1 g2 g3 => kp2 j g2 g3⟩
  have hsz : tszL 6 [N] = tsz 6 N := by rw [tszL_cons]; rfl
  have hMK : MK (si (si (si Ga 57 0 (-1)) 35 34 0) 35 35 0) co cn h c (me, 0, 0) := ⟨hF, (kp2 22 (by decide) (by decide)).trans hco, (kp2 29 (by decide) (by decide)).trans hcn, by rw [← hh]; exact funext (fun j => kp 51 j (by decide) (by decide)), by rw [← hc]; exact funext (fun j => kp 36 j (by decide) (by decide)), fun j j1 j2 => by rw [kp 50 j (by decide) (by decide)]; exact hD j j1 j2, (kp2 33 (by decide) (by decide)).trans h33, by simp [iv_si], by simp [iv_si]⟩
  refine mall_loop c1 c2 6 [N] [none] 0 1 1 (si (si (si Ga 57 0 (-1)) 35 34 0) 35 35 0) _ _ (me, 0, 0) rfl rfl hMK (NR_kept hN (fun a j g1 g2 => kp a j (by omega) (by omega))) ⟨(show iv (si (si (si Ga 57 0 (-1)) 35 34 0) 35 35 0) 57 0 = -1 by simp [iv_si]), fun i i1 i2 => kp3 i i1 (by omega), trivial⟩ (by dsimp only; omega) (fun Gz m3 m4 hm3 hm4 y1 y2 y3 y4 => ?_)
  rw [hsz]
  have hcnt := upT_cnt h c 6 none N (me, 0, 0)
  replace y3 : MK Gz co cn h c (upT h c 6 none N (me, 0, 0)).2 := y3
  replace y4 : nAt Gz 0 ((flat 6 1 (upT h c 6 none N (me, 0, 0)).1) ++ []) := y4
  rw [List.append_nil] at y4
  generalize upT h c 6 none N (me, 0, 0) = res at *
  obtain ⟨z1, z2, z3, z4, z5, z6, z7, z8, z9⟩ := y3
  have hF := z1
  dsimp only at hcnt
  refine x_iload_n (q := 51) dX10_matchAll_50 rfl rfl ?_
  refine x_aload_n (q := 52) dX10_matchAll_51 rfl rfl ?_
  refine x_getI (q := 55) dX10_matchAll_52 rfl f_10_118 rfl (ft35 hF) ?_
  refine Ex.stk (st' := [.inl cn, .inl (0 + (tsz 6 N : Int))]) (by rw [show iv Gz 35 29 = cn from (by simp [iv_si, iv_sr, iv_nw, z3])]) ?_
  refine x_icmp_ge (q := 58) (t := 184) dX10_matchAll_55 rfl (by decide) (fun h55 => ?_) (fun h55 => by exfalso; omega)
  refine x_aload_n (q := 185) dX10_matchAll_184 rfl rfl ?_
  refine x_aload_n (q := 186) dX10_matchAll_185 rfl rfl ?_
  refine x_getI (q := 189) dX10_matchAll_186 rfl f_10_173 rfl (ft35 hF) ?_
  refine Ex.stk (st' := [.inl co, .inr (.inr (some 35))]) (by rw [show iv Gz 35 22 = co from (by simp [iv_si, iv_sr, iv_nw, z2])]) ?_
  refine x_aload_n (q := 190) dX10_matchAll_189 rfl rfl ?_
  refine x_getI (q := 193) dX10_matchAll_190 rfl f_10_118 rfl (ft35 hF) ?_
  refine Ex.stk (st' := [.inl cn, .inl co, .inr (.inr (some 35))]) (by rw [show iv Gz 35 29 = cn from (by simp [iv_si, iv_sr, iv_nw, z3])]) ?_
  refine x_aload_n (q := 194) dX10_matchAll_193 rfl rfl ?_
  refine x_getI (q := 197) dX10_matchAll_194 rfl f_10_180 rfl (ft35 hF) ?_
  refine Ex.stk (st' := [.inl res.2.2.1, .inl cn, .inl co, .inr (.inr (some 35))]) (by rw [show iv Gz 35 34 = res.2.2.1 from (by simp [iv_si, iv_sr, iv_nw, z8])]) ?_
  refine x_isub (q := 198) (z := cn - res.2.2.1) dX10_matchAll_197 rfl (wr_id ⟨by omega, by omega⟩) ?_
  refine x_isub (q := 199) (z := co - (cn - res.2.2.1)) dX10_matchAll_198 rfl (wr_id ⟨by omega, by omega⟩) ?_
  refine x_putI (q := 202) dX10_matchAll_199 rfl f_10_195 rfl (fun h => by cases h) (fun h => by cases h) (ft35 hF) ?_
  have hF := FX_si hF 35 36 (co - (cn - res.2.2.1))
  refine x_vret dX10_matchAll_202 rfl ?_
  refine ⟨rfl, ⟨hmt.1.trans y1.1, fun a j g1 g2 g3 g4 => ?_, fun j g1 g2 g3 g4 => ?_⟩, ?_, ?_, ?_, ?_, nAt_kept _ _ y4 (fun a j g1 g2 _ _ => ?_)⟩
  · simp only [iv_si]; rw [if_neg (by omega)]; exact (y1.2.1 a j g1 g2 g3 g4).trans (hmt.2.1 a j g1 g2 g3 g4)
  · simp only [iv_si]; rw [if_neg (by omega)]; exact (y1.2.2 j g1 g2 g3).trans (hmt.2.2 j g1 g2 g3)
  · simp only [iv_si]; rw [if_neg (by omega)]; exact z7
  · simp only [iv_si]; rw [if_neg (by omega)]; exact z8
  · simp only [iv_si]; rw [if_neg (by omega)]; exact z9
  · simp [iv_si]
  · simp only [iv_si]; rw [if_neg (by omega)]
/-- the rows that are there, taken over as far as i -/
def TO (G G' : Hp) (i : Int) : Prop := Io G G' ∧ (∀ (a : Nat) (k : Int), (a < 44 ∨ 50 < a) → iv G' a k = iv G a k) ∧ ∀ j, 0 ≤ j → j < i → iv G' 44 j = iv G 52 j ∧ iv G' 45 j = iv G 53 j ∧ iv G' 46 j = iv G 54 j ∧ iv G' 47 j = iv G 55 j ∧ iv G' 48 j = iv G 56 j ∧ iv G' 49 j = iv G 58 j ∧ iv G' 50 j = iv G 59 j
theorem oAt_TO {G G' : Hp} {cn : Int} (h : TO G G' cn) : ∀ (l : List (Nd × Int)) (k : Int), 0 ≤ k → k + (l.length : Int) ≤ cn → fAt G k l → nAt G k l → oAt G' k l := by
  intro l
  induction l with
  | nil => intro k _ _ _ _; trivial
  | cons e l ih =>
    intro k k0 k1 h1 h2
    rw [List.length_cons] at k1
    obtain ⟨⟨a1, a2, a3, a4, a5⟩, a6⟩ := h1
    obtain ⟨⟨b1, b2⟩, b3⟩ := h2
    obtain ⟨t1, t2, t3, t4, t5, t6, t7⟩ := h.2.2 k k0 (by omega)
    exact ⟨⟨t1.trans a1, t2.trans a2, t3.trans a3, t4.trans a4, t5.trans a5, t6.trans b1, t7.trans b2⟩, ih (k + 1) (by omega) (by omega) a6 b3⟩
theorem take_loop {dd : Nat} {Q : Option V → Hp → Prop} {G : Hp} {cn : Int} (c2 : cn ≤ 364) (hcn : iv G 35 22 = cn) (kk : ∀ G', TO G G' cn → Ex (dd) none 10 false cX10_takeOver 108 [some (.inr (.inr (some 35))), some (.inl cn)] [] G' Q) : ∀ (n : Nat) (i : Int) (G' : Hp), FM G' → 0 ≤ i → i + (n : Int) = cn → TO G G' i → Ex (dd) none 10 false cX10_takeOver 10 [some (.inr (.inr (some 35))), some (.inl i)] [] G' Q := by
  intro n
  induction n with
  | zero =>
    intro i G' hF i0 i1 hT
    have hi : i = cn := by omega
    subst hi
    have hcn' := (hT.2.1 35 22 (by decide)).trans hcn
    refine x_iload_n (q := 11) dX10_takeOver_10 rfl rfl ?_
    refine x_aload_n (q := 12) dX10_takeOver_11 rfl rfl ?_
    refine x_getI (q := 15) dX10_takeOver_12 rfl f_10_173 rfl (ft35 hF) ?_
    refine Ex.stk (st' := [.inl i, .inl i]) (by rw [show iv G' 35 22 = i from (by simp [iv_si, iv_sr, iv_nw, hcn'])]) ?_
    refine x_icmp_ge (q := 18) (t := 108) dX10_takeOver_15 rfl (by decide) (fun h15 => ?_) (fun h15 => by exfalso; omega)
    exact kk G' hT
  | succ n ih =>
    intro i G' hF i0 i1 hT
    have hcn' := (hT.2.1 35 22 (by decide)).trans hcn
    have t52 := hT.2.1 52 i (by decide)
    have t53 := hT.2.1 53 i (by decide)
    have t54 := hT.2.1 54 i (by decide)
    have t55 := hT.2.1 55 i (by decide)
    have t56 := hT.2.1 56 i (by decide)
    have t58 := hT.2.1 58 i (by decide)
    have t59 := hT.2.1 59 i (by decide)
    refine x_iload_n (q := 11) dX10_takeOver_10 rfl rfl ?_
    refine x_aload_n (q := 12) dX10_takeOver_11 rfl rfl ?_
    refine x_getI (q := 15) dX10_takeOver_12 rfl f_10_173 rfl (ft35 hF) ?_
    refine Ex.stk (st' := [.inl cn, .inl i]) (by rw [show iv G' 35 22 = cn from (by simp [iv_si, iv_sr, iv_nw, hcn'])]) ?_
    refine x_icmp_ge (q := 18) (t := 108) dX10_takeOver_15 rfl (by decide) (fun h15 => by exfalso; omega) (fun h15 => ?_)
    refine x_aload_n (q := 19) dX10_takeOver_18 rfl rfl ?_
    refine x_getR (q := 22) dX10_takeOver_19 rfl f_10_38 rfl (ft35 hF) ?_
    refine Ex.stk (st' := [.inr (.inr (some 44))]) (by rw [fr35_15 hF]) ?_
    refine x_iload_n (q := 23) dX10_takeOver_22 rfl rfl ?_
    refine x_aload_n (q := 24) dX10_takeOver_23 rfl rfl ?_
    refine x_getR (q := 27) dX10_takeOver_24 rfl f_10_62 rfl (ft35 hF) ?_
    refine Ex.stk (st' := [.inr (.inr (some 52)), .inl i, .inr (.inr (some 44))]) (by rw [fr35_24 hF]) ?_
    refine x_iload_n (q := 28) dX10_takeOver_27 rfl rfl ?_
    refine x_iaload (q := 29) dX10_takeOver_28 rfl (Or.inl (ft52 hF)) (by omega) (by rw [fl52 hF]; omega) ?_
    refine Ex.stk (st' := [.inl (iv G 52 i), .inl i, .inr (.inr (some 44))]) (by rw [show iv G' 52 i = iv G 52 i from (by simp [iv_si, iv_sr, iv_nw, t52])]) ?_
    refine x_iastore (q := 30) dX10_takeOver_29 rfl (ft44 hF) (by omega) (by rw [fl44 hF]; omega) ?_
    have hF := FX_si hF 44 i (iv G 52 i)
    refine x_aload_n (q := 31) dX10_takeOver_30 rfl rfl ?_
    refine x_getR (q := 34) dX10_takeOver_31 rfl f_10_41 rfl (ft35 hF) ?_
    refine Ex.stk (st' := [.inr (.inr (some 45))]) (by rw [fr35_16 hF]) ?_
    refine x_iload_n (q := 35) dX10_takeOver_34 rfl rfl ?_
    refine x_aload_n (q := 36) dX10_takeOver_35 rfl rfl ?_
    refine x_getR (q := 39) dX10_takeOver_36 rfl f_10_65 rfl (ft35 hF) ?_
    refine Ex.stk (st' := [.inr (.inr (some 53)), .inl i, .inr (.inr (some 45))]) (by rw [fr35_25 hF]) ?_
    refine x_iload_n (q := 40) dX10_takeOver_39 rfl rfl ?_
    refine x_iaload (q := 41) dX10_takeOver_40 rfl (Or.inl (ft53 hF)) (by omega) (by rw [fl53 hF]; omega) ?_
    refine Ex.stk (st' := [.inl (iv G 53 i), .inl i, .inr (.inr (some 45))]) (by rw [show iv (si G' 44 i (iv G 52 i)) 53 i = iv G 53 i from (by simp [iv_si, iv_sr, iv_nw, t53])]) ?_
    refine x_iastore (q := 42) dX10_takeOver_41 rfl (ft45 hF) (by omega) (by rw [fl45 hF]; omega) ?_
    have hF := FX_si hF 45 i (iv G 53 i)
    refine x_aload_n (q := 43) dX10_takeOver_42 rfl rfl ?_
    refine x_getR (q := 46) dX10_takeOver_43 rfl f_10_44 rfl (ft35 hF) ?_
    refine Ex.stk (st' := [.inr (.inr (some 46))]) (by rw [fr35_17 hF]) ?_
    refine x_iload_n (q := 47) dX10_takeOver_46 rfl rfl ?_
    refine x_aload_n (q := 48) dX10_takeOver_47 rfl rfl ?_
    refine x_getR (q := 51) dX10_takeOver_48 rfl f_10_68 rfl (ft35 hF) ?_
    refine Ex.stk (st' := [.inr (.inr (some 54)), .inl i, .inr (.inr (some 46))]) (by rw [fr35_26 hF]) ?_
    refine x_iload_n (q := 52) dX10_takeOver_51 rfl rfl ?_
    refine x_iaload (q := 53) dX10_takeOver_52 rfl (Or.inl (ft54 hF)) (by omega) (by rw [fl54 hF]; omega) ?_
    refine Ex.stk (st' := [.inl (iv G 54 i), .inl i, .inr (.inr (some 46))]) (by rw [show iv (si (si G' 44 i (iv G 52 i)) 45 i (iv G 53 i)) 54 i = iv G 54 i from (by simp [iv_si, iv_sr, iv_nw, t54])]) ?_
    refine x_iastore (q := 54) dX10_takeOver_53 rfl (ft46 hF) (by omega) (by rw [fl46 hF]; omega) ?_
    have hF := FX_si hF 46 i (iv G 54 i)
    refine x_aload_n (q := 55) dX10_takeOver_54 rfl rfl ?_
    refine x_getR (q := 58) dX10_takeOver_55 rfl f_10_47 rfl (ft35 hF) ?_
    refine Ex.stk (st' := [.inr (.inr (some 47))]) (by rw [fr35_18 hF]) ?_
    refine x_iload_n (q := 59) dX10_takeOver_58 rfl rfl ?_
    refine x_aload_n (q := 60) dX10_takeOver_59 rfl rfl ?_
    refine x_getR (q := 63) dX10_takeOver_60 rfl f_10_71 rfl (ft35 hF) ?_
    refine Ex.stk (st' := [.inr (.inr (some 55)), .inl i, .inr (.inr (some 47))]) (by rw [fr35_27 hF]) ?_
    refine x_iload_n (q := 64) dX10_takeOver_63 rfl rfl ?_
    refine x_iaload (q := 65) dX10_takeOver_64 rfl (Or.inl (ft55 hF)) (by omega) (by rw [fl55 hF]; omega) ?_
    refine Ex.stk (st' := [.inl (iv G 55 i), .inl i, .inr (.inr (some 47))]) (by rw [show iv (si (si (si G' 44 i (iv G 52 i)) 45 i (iv G 53 i)) 46 i (iv G 54 i)) 55 i = iv G 55 i from (by simp [iv_si, iv_sr, iv_nw, t55])]) ?_
    refine x_iastore (q := 66) dX10_takeOver_65 rfl (ft47 hF) (by omega) (by rw [fl47 hF]; omega) ?_
    have hF := FX_si hF 47 i (iv G 55 i)
    refine x_aload_n (q := 67) dX10_takeOver_66 rfl rfl ?_
    refine x_getR (q := 70) dX10_takeOver_67 rfl f_10_50 rfl (ft35 hF) ?_
    refine Ex.stk (st' := [.inr (.inr (some 48))]) (by rw [fr35_19 hF]) ?_
    refine x_iload_n (q := 71) dX10_takeOver_70 rfl rfl ?_
    refine x_aload_n (q := 72) dX10_takeOver_71 rfl rfl ?_
    refine x_getR (q := 75) dX10_takeOver_72 rfl f_10_74 rfl (ft35 hF) ?_
    refine Ex.stk (st' := [.inr (.inr (some 56)), .inl i, .inr (.inr (some 48))]) (by rw [fr35_28 hF]) ?_
    refine x_iload_n (q := 76) dX10_takeOver_75 rfl rfl ?_
    refine x_iaload (q := 77) dX10_takeOver_76 rfl (Or.inl (ft56 hF)) (by omega) (by rw [fl56 hF]; omega) ?_
    refine Ex.stk (st' := [.inl (iv G 56 i), .inl i, .inr (.inr (some 48))]) (by rw [show iv (si (si (si (si G' 44 i (iv G 52 i)) 45 i (iv G 53 i)) 46 i (iv G 54 i)) 47 i (iv G 55 i)) 56 i = iv G 56 i from (by simp [iv_si, iv_sr, iv_nw, t56])]) ?_
    refine x_iastore (q := 78) dX10_takeOver_77 rfl (ft48 hF) (by omega) (by rw [fl48 hF]; omega) ?_
    have hF := FX_si hF 48 i (iv G 56 i)
    refine x_aload_n (q := 79) dX10_takeOver_78 rfl rfl ?_
    refine x_getR (q := 82) dX10_takeOver_79 rfl f_10_53 rfl (ft35 hF) ?_
    refine Ex.stk (st' := [.inr (.inr (some 49))]) (by rw [fr35_20 hF]) ?_
    refine x_iload_n (q := 83) dX10_takeOver_82 rfl rfl ?_
    refine x_aload_n (q := 84) dX10_takeOver_83 rfl rfl ?_
    refine x_getR (q := 87) dX10_takeOver_84 rfl f_10_80 rfl (ft35 hF) ?_
    refine Ex.stk (st' := [.inr (.inr (some 58)), .inl i, .inr (.inr (some 49))]) (by rw [fr35_31 hF]) ?_
    refine x_iload_n (q := 88) dX10_takeOver_87 rfl rfl ?_
    refine x_iaload (q := 89) dX10_takeOver_88 rfl (Or.inl (ft58 hF)) (by omega) (by rw [fl58 hF]; omega) ?_
    refine Ex.stk (st' := [.inl (iv G 58 i), .inl i, .inr (.inr (some 49))]) (by rw [show iv (si (si (si (si (si G' 44 i (iv G 52 i)) 45 i (iv G 53 i)) 46 i (iv G 54 i)) 47 i (iv G 55 i)) 48 i (iv G 56 i)) 58 i = iv G 58 i from (by simp [iv_si, iv_sr, iv_nw, t58])]) ?_
    refine x_iastore (q := 90) dX10_takeOver_89 rfl (ft49 hF) (by omega) (by rw [fl49 hF]; omega) ?_
    have hF := FX_si hF 49 i (iv G 58 i)
    refine x_aload_n (q := 91) dX10_takeOver_90 rfl rfl ?_
    refine x_getR (q := 94) dX10_takeOver_91 rfl f_10_56 rfl (ft35 hF) ?_
    refine Ex.stk (st' := [.inr (.inr (some 50))]) (by rw [fr35_21 hF]) ?_
    refine x_iload_n (q := 95) dX10_takeOver_94 rfl rfl ?_
    refine x_aload_n (q := 96) dX10_takeOver_95 rfl rfl ?_
    refine x_getR (q := 99) dX10_takeOver_96 rfl f_10_83 rfl (ft35 hF) ?_
    refine Ex.stk (st' := [.inr (.inr (some 59)), .inl i, .inr (.inr (some 50))]) (by rw [fr35_32 hF]) ?_
    refine x_iload_n (q := 100) dX10_takeOver_99 rfl rfl ?_
    refine x_iaload (q := 101) dX10_takeOver_100 rfl (Or.inl (ft59 hF)) (by omega) (by rw [fl59 hF]; omega) ?_
    refine Ex.stk (st' := [.inl (iv G 59 i), .inl i, .inr (.inr (some 50))]) (by rw [show iv (si (si (si (si (si (si G' 44 i (iv G 52 i)) 45 i (iv G 53 i)) 46 i (iv G 54 i)) 47 i (iv G 55 i)) 48 i (iv G 56 i)) 49 i (iv G 58 i)) 59 i = iv G 59 i from (by simp [iv_si, iv_sr, iv_nw, t59])]) ?_
    refine x_iastore (q := 102) dX10_takeOver_101 rfl (ft50 hF) (by omega) (by rw [fl50 hF]; omega) ?_
    have hF := FX_si hF 50 i (iv G 59 i)
    refine x_iinc (q := 105) (ls' := [some (.inr (.inr (some 35))), some (.inl (i + 1))]) dX10_takeOver_102 rfl rfl (by first | rfl | exact hnl | exact hnl2 _) (by rw [show wr (i + 1) = i + 1 from (wr_id ⟨by omega, by omega⟩)]; rfl) ?_
    refine x_goto (t := 10) dX10_takeOver_105 (by decide) ?_
    refine ih (i + 1) _ hF (by omega) (by omega) ⟨hT.1, fun a k ha => ?_, fun j j1 j2 => ?_⟩
    · simp only [iv_si]
      iterate 7 rw [if_neg (by omega)]
      exact hT.2.1 a k ha
    · by_cases hj : j = i
      · subst hj; simp [iv_si]
      · have := hT.2.2 j j1 (by omega)
        simp only [iv_si]
        simp [hj]
        exact this
/-- the cells that are held, as far as i -/
def TH (G G' : Hp) (i : Int) : Prop := Io G G' ∧ (∀ (a : Nat) (k : Int), a ≠ 51 → iv G' a k = iv G a k) ∧ ∀ j, 0 ≤ j → j < i → iv G' 51 j = iv G 36 j
theorem held_loop {dd : Nat} {Q : Option V → Hp → Prop} {G : Hp} (kk : ∀ G', TH G G' 8 → Q none G') : ∀ (n : Nat) (i : Int) (G' : Hp), FM G' → 0 ≤ i → i + (n : Int) = 8 → TH G G' i → Ex (dd) none 10 false cX10_takeOver 110 [some (.inr (.inr (some 35))), some (.inl i)] [] G' Q := by
  intro n
  induction n with
  | zero =>
    intro i G' hF i0 i1 hT
    have hi : i = 8 := by omega
    subst hi
    refine x_iload_n (q := 111) dX10_takeOver_110 rfl rfl ?_
    refine x_bipush (q := 113) dX10_takeOver_111 rfl (by decide) ?_
    refine x_icmp_ge (q := 116) (t := 134) dX10_takeOver_113 rfl (by decide) (fun h113 => ?_) (fun h113 => by exfalso; omega)
    refine x_vret dX10_takeOver_134 rfl ?_
    exact kk G' hT
  | succ n ih =>
    intro i G' hF i0 i1 hT
    have t36 := hT.2.1 36 i (by decide)
    refine x_iload_n (q := 111) dX10_takeOver_110 rfl rfl ?_
    refine x_bipush (q := 113) dX10_takeOver_111 rfl (by decide) ?_
    refine x_icmp_ge (q := 116) (t := 134) dX10_takeOver_113 rfl (by decide) (fun h113 => by exfalso; omega) (fun h113 => ?_)
    refine x_aload_n (q := 117) dX10_takeOver_116 rfl rfl ?_
    refine x_getR (q := 120) dX10_takeOver_117 rfl f_10_59 rfl (ft35 hF) ?_
    refine Ex.stk (st' := [.inr (.inr (some 51))]) (by rw [fr35_23 hF]) ?_
    refine x_iload_n (q := 121) dX10_takeOver_120 rfl rfl ?_
    refine x_aload_n (q := 122) dX10_takeOver_121 rfl rfl ?_
    refine x_getR (q := 125) dX10_takeOver_122 rfl f_10_7 rfl (ft35 hF) ?_
    refine Ex.stk (st' := [.inr (.inr (some 36)), .inl i, .inr (.inr (some 51))]) (by rw [fr35_0 hF]) ?_
    refine x_iload_n (q := 126) dX10_takeOver_125 rfl rfl ?_
    refine x_iaload (q := 127) dX10_takeOver_126 rfl (Or.inl (ft36 hF)) (by omega) (by rw [fl36 hF]; omega) ?_
    refine Ex.stk (st' := [.inl (iv G 36 i), .inl i, .inr (.inr (some 51))]) (by rw [show iv G' 36 i = iv G 36 i from (by simp [iv_si, iv_sr, iv_nw, t36])]) ?_
    refine x_iastore (q := 128) dX10_takeOver_127 rfl (ft51 hF) (by omega) (by rw [fl51 hF]; omega) ?_
    have hF := FX_si hF 51 i (iv G 36 i)
    refine x_iinc (q := 131) (ls' := [some (.inr (.inr (some 35))), some (.inl (i + 1))]) dX10_takeOver_128 rfl rfl (by first | rfl | exact hnl | exact hnl2 _) (by rw [show wr (i + 1) = i + 1 from (wr_id ⟨by omega, by omega⟩)]; rfl) ?_
    refine x_goto (t := 110) dX10_takeOver_131 (by decide) ?_
    refine ih (i + 1) _ hF (by omega) (by omega) ⟨hT.1, fun a k ha => ?_, fun j j1 j2 => ?_⟩
    · simp only [iv_si]
      rw [if_neg (by omega)]
      exact hT.2.1 a k ha
    · by_cases hj : j = i
      · subst hj; simp [iv_si]
      · have := hT.2.2 j j1 (by omega)
        simp only [iv_si]
        rw [if_neg (by omega)]
        exact this
theorem c_takeOver (d : Nat) {G : Hp} (hF : FM G) {cn : Int} (hcn : iv G 35 29 = cn) (c0 : 0 ≤ cn) (c2 : cn ≤ 364) : CX (d + 1) 130 [.inr (.inr (some 35))] G (fun r G' => r = none ∧ Io G G' ∧ (∀ (a : Nat) (k : Int), a ≠ 35 → (a < 44 ∨ 50 < a) → a ≠ 51 → iv G' a k = iv G a k) ∧ (∀ k, k ≠ 22 → iv G' 35 k = iv G 35 k) ∧ iv G' 35 22 = cn ∧ (∀ j, 0 ≤ j → j < 8 → iv G' 51 j = iv G 36 j) ∧ ∀ (l : List (Nd × Int)), (l.length : Int) = cn → fAt G 0 l → nAt G 0 l → oAt G' 0 l) := by
  refine CX.of (d := d + 0) m_X10_takeOver (Nat.le_of_ble_eq_true rfl) ?_
  refine Ex.lcl (ls' := [some (.inr (.inr (some 35))), none]) rfl ?_
  refine x_aload_n (q := 1) dX10_takeOver_0 rfl rfl ?_
  refine x_aload_n (q := 2) dX10_takeOver_1 rfl rfl ?_
  refine x_getI (q := 5) dX10_takeOver_2 rfl f_10_118 rfl (ft35 hF) ?_
  refine Ex.stk (st' := [.inl cn, .inr (.inr (some 35))]) (by rw [show iv G 35 29 = cn from hcn]) ?_
  refine x_putI (q := 8) dX10_takeOver_5 rfl f_10_173 rfl (fun h => by cases h) (fun h => by cases h) (ft35 hF) ?_
  have hF := FX_si hF 35 22 cn
  refine x_iconst (q := 9) dX10_takeOver_8 rfl (by decide) ?_
  refine x_istore_n (q := 10) (ls' := [some (.inr (.inr (some 35))), some (.inl 0)]) dX10_takeOver_9 rfl (Nat.le_of_ble_eq_true rfl) (by first | rfl | exact hnl | exact hnl2 _) rfl ?_
  refine take_loop (G := si G 35 22 cn) (cn := cn) c2 (by simp [iv_si]) (fun Gt hT => ?_) cn.toNat 0 _ hF (by decide) (by omega) ⟨Io.rf _, fun _ _ _ => rfl, fun j j1 j2 => by omega⟩
  have hFt : FM Gt := FX_Io hF hT.1
  refine x_iconst (q := 109) dX10_takeOver_108 rfl (by decide) ?_
  refine x_istore_n (q := 110) (ls' := [some (.inr (.inr (some 35))), some (.inl 0)]) dX10_takeOver_109 rfl (Nat.le_of_ble_eq_true rfl) (by first | rfl | exact hnl | exact hnl2 _) rfl ?_
  refine held_loop (G := Gt) (fun Gh hH => ?_) 8 0 Gt hFt (by decide) (by decide) ⟨Io.rf _, fun _ _ _ => rfl, fun j j1 j2 => by omega⟩
  refine ⟨rfl, hT.1.trans hH.1, fun a k g1 g2 g3 => ?_, fun k g1 => ?_, ?_, fun j j1 j2 => ?_, fun l hl hf hn => ?_⟩
  · rw [hH.2.1 a k g3, hT.2.1 a k g2]; simp only [iv_si]; rw [if_neg (by omega)]
  · rw [hH.2.1 35 k (by decide), hT.2.1 35 k (by decide)]; simp only [iv_si]; rw [if_neg (by omega)]
  · rw [hH.2.1 35 22 (by decide), hT.2.1 35 22 (by decide)]; simp [iv_si]
  · rw [hH.2.2 j j1 j2, hT.2.1 36 j (by decide)]; simp only [iv_si]; rw [if_neg (by omega)]
  · refine oAt_kept (G := Gt) _ _ (oAt_TO hT l 0 (by decide) (by omega) (fAt_kept _ _ hf (fun a j g1 g2 _ _ => ?_)) (nAt_kept _ _ hn (fun a j g1 g2 _ _ => ?_))) (fun a j g1 g2 _ _ => hH.2.1 a j (by omega))
    · simp only [iv_si]; rw [if_neg (by omega)]
    · simp only [iv_si]; rw [if_neg (by omega)]
