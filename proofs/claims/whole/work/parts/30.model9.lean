/-! THE MODEL: parts matched -/
def fnI {d : Nat} (f x : Int) : Int → List (Tr d) → Option (Int × Tr d × List (Tr d))
  | _, [] => none
  | j, t :: l => if nF (rt d t) = f ∧ nX (rt d t) = x then some (j, t, l) else fnI f x (j + (tsz d t : Int)) l
def asg {d : Nat} : Int → List (Tr d) → List (Tr d) → List (Option (Int × Tr d))
  | _, _, [] => []
  | j, rem, t :: l => (match fnI (nF (rt d t)) (nX (rt d t)) j rem with
    | some q => some (q.1, q.2.1) :: asg (q.1 + (tsz d q.2.1 : Int)) q.2.2 l
    | none => none :: asg j rem l)
def MA (G : Hp) (co no : Int) (d : Nat) : Int → List (Tr d) → List (Option (Int × Tr d)) → Prop
  | _, [], [] => True
  | k, t :: l, a :: as => (match a with
    | none => iv G 57 k = -1
    | some q => iv G 57 k = q.1 ∧ ∃ lo, OR G co d q.1 no (q.2 :: lo)) ∧ (∀ i, k < i → i < k + (tsz d t : Int) → iv G 57 i = -1) ∧ MA G co no d (k + (tsz d t : Int)) l as
  | _, _, _ => False
def upA {d : Nat} (up : Option (Tr d) → Tr d → K3 → Tr d × K3) : List (Option (Int × Tr d)) → List (Tr d) → K3 → List (Tr d) × K3
  | a :: as, t :: l, κ => ((up (a.map (fun q => q.2)) t κ).1 :: (upA up as l (up (a.map (fun q => q.2)) t κ).2).1, (upA up as l (up (a.map (fun q => q.2)) t κ).2).2)
  | _, _, κ => ([], κ)
theorem fn1_fnI {d : Nat} (f x : Int) : ∀ (rem : List (Tr d)) (j : Int), fn1 f x rem = (fnI f x j rem).map (fun q => q.2) := by
  intro rem
  induction rem with
  | nil => intro j; rfl
  | cons t l ih =>
    intro j
    simp only [fn1, fnI]
    by_cases h : nF (rt d t) = f ∧ nX (rt d t) = x
    · rw [if_pos h, if_pos h]; rfl
    · rw [if_neg h, if_neg h]; exact ih _
theorem upL_asg {d : Nat} (up : Option (Tr d) → Tr d → K3 → Tr d × K3) : ∀ (l rem : List (Tr d)) (j : Int) (κ : K3), upL up rem l κ = upA up (asg j rem l) l κ := by
  intro l
  induction l with
  | nil => intro rem j κ; rfl
  | cons t l ih =>
    intro rem j κ
    simp only [upL, asg]
    rw [fn1_fnI (nF (rt d t)) (nX (rt d t)) rem j]
    cases h : fnI (nF (rt d t)) (nX (rt d t)) j rem with
    | none => simp only [Option.map_none, upA]; rw [ih rem j]
    | some q => simp only [Option.map_some, upA]; rw [ih q.2.2 (q.1 + (tsz d q.2.1 : Int))]
theorem fnI_OR {G : Hp} {co no : Int} {d : Nat} {f x : Int} : ∀ (rem : List (Tr d)) (j : Int) (q : Int × Tr d × List (Tr d)), fnI f x j rem = some q → OR G co d j no rem → OR G co d q.1 no (q.2.1 :: q.2.2) ∧ q.1 + (tszL d (q.2.1 :: q.2.2) : Int) = j + (tszL d rem : Int) ∧ j ≤ q.1 := by
  intro rem
  induction rem with
  | nil => intro j q h; cases h
  | cons t l ih =>
    intro j q h hO
    simp only [fnI] at h
    by_cases hh : nF (rt d t) = f ∧ nX (rt d t) = x
    · rw [if_pos hh] at h
      cases h
      exact ⟨hO, rfl, Int.le_refl _⟩
    · rw [if_neg hh] at h
      obtain ⟨h1, h2, h3⟩ := ih _ q h (OR_tail hO)
      refine ⟨h1, ?_, by omega⟩
      rw [h2, tszL_cons d t l]; omega
theorem mfind_loop {dd : Nat} {G : Hp} {Q : Option V → Hp → Prop} (hF : FM G) {co : Int} (hco : iv G 35 22 = co) (c1 : co ≤ 364) {ko kn eo en no fr p f x : Int} (p0 : 0 ≤ p) (p1 : p < 364) (hf : iv G 52 p = f) (hx : iv G 53 p = x) {d : Nat} : ∀ (rem : List (Tr d)) (j : Int), OR G co d j no rem → j + (tszL d rem : Int) = eo → (∀ j', (∀ q, fnI f x j rem = some q → j' = q.1) → (fnI f x j rem = none → j' = eo) → Ex (dd + 1) none 10 false cX10_matchParts 106 [some (.inr (.inr (some 35))), some (.inl ko), some (.inl kn), some (.inl eo), some (.inl en), some (.inl fr), some (.inl p), some (.inl j')] [] G Q) → Ex (dd + 1) none 10 false cX10_matchParts 48 [some (.inr (.inr (some 35))), some (.inl ko), some (.inl kn), some (.inl eo), some (.inl en), some (.inl fr), some (.inl p), some (.inl j)] [] G Q := by
  intro rem
  induction rem with
  | nil =>
    intro j h1 h2 kk
    have e0 : tszL d ([] : List (Tr d)) = 0 := rfl
    rw [e0] at h2
    refine x_iload (q := 50) dX10_matchParts_48 rfl rfl ?_
    refine x_iload_n (q := 51) dX10_matchParts_50 rfl rfl ?_
    refine x_icmp_ge (q := 54) (t := 106) dX10_matchParts_51 rfl (by decide) (fun h51 => ?_) (fun h51 => by exfalso; omega)
    exact kk j (fun q hq => by cases hq) (fun _ => by omega)
  | cons t l ih =>
    intro j h1 h2 kk
    have hp := tsz_pos d t
    have hr1 := h1.2.2.1
    rw [tszL_cons] at h2 hr1
    obtain ⟨⟨⟨hf1, hx1, -⟩, -⟩, he1, j0⟩ := OR_head h1
    dsimp only at hf1 hx1
    refine x_iload (q := 50) dX10_matchParts_48 rfl rfl ?_
    refine x_iload_n (q := 51) dX10_matchParts_50 rfl rfl ?_
    refine x_icmp_ge (q := 54) (t := 106) dX10_matchParts_51 rfl (by decide) (fun h51 => by exfalso; omega) (fun h51 => ?_)
    refine x_aload_n (q := 55) dX10_matchParts_54 rfl rfl ?_
    refine x_getR (q := 58) dX10_matchParts_55 rfl f_10_38 rfl (ft35 hF) ?_
    refine Ex.stk (st' := [.inr (.inr (some 44))]) (by rw [fr35_15 hF]) ?_
    refine x_iload (q := 60) dX10_matchParts_58 rfl rfl ?_
    refine x_iaload (q := 61) dX10_matchParts_60 rfl (Or.inl (ft44 hF)) (by omega) (by rw [fl44 hF]; omega) ?_
    refine Ex.stk (st' := [.inl (nF (rt d t))]) (by rw [show iv G 44 j = nF (rt d t) from hf1]) ?_
    refine x_aload_n (q := 62) dX10_matchParts_61 rfl rfl ?_
    refine x_getR (q := 65) dX10_matchParts_62 rfl f_10_62 rfl (ft35 hF) ?_
    refine Ex.stk (st' := [.inr (.inr (some 52)), .inl (nF (rt d t))]) (by rw [fr35_24 hF]) ?_
    refine x_iload (q := 67) dX10_matchParts_65 rfl rfl ?_
    refine x_iaload (q := 68) dX10_matchParts_67 rfl (Or.inl (ft52 hF)) (by omega) (by rw [fl52 hF]; omega) ?_
    refine Ex.stk (st' := [.inl f, .inl (nF (rt d t))]) (by rw [show iv G 52 p = f from hf]) ?_
    refine x_icmp_ne (q := 71) (t := 88) dX10_matchParts_68 rfl (by decide) (fun h68 => ?_) (fun h68 => ?_)
    · refine x_aload_n (q := 89) dX10_matchParts_88 rfl rfl ?_
      refine x_getR (q := 92) dX10_matchParts_89 rfl f_10_47 rfl (ft35 hF) ?_
      refine Ex.stk (st' := [.inr (.inr (some 47))]) (by rw [fr35_18 hF]) ?_
      refine x_aload_n (q := 93) dX10_matchParts_92 rfl rfl ?_
      refine x_getI (q := 96) dX10_matchParts_93 rfl f_10_173 rfl (ft35 hF) ?_
      refine Ex.stk (st' := [.inl co, .inr (.inr (some 47))]) (by rw [show iv G 35 22 = co from hco]) ?_
      refine x_iload (q := 98) dX10_matchParts_96 rfl rfl ?_
      refine x_invS (q := 101) (as := [.inr (.inr (some 47)), .inl co, .inl j]) (rest := []) dX10_matchParts_98 rfl l_10_176 m_X10_endOf rfl rfl (Nat.le_of_ble_eq_true rfl) (Nat.le_of_ble_eq_true rfl) (c_endOf _ (ft47 hF) (fl47 hF) j0 c1 he1) (fun r1 G1 hR => ?_)
      obtain ⟨hG1, rfl⟩ := hR
      replace hG1 := hG1.symm
      subst hG1
      refine Ex.stk (st' := [.inl (j + (tsz d t : Int))]) rfl ?_
      refine x_istore (q := 103) (ls' := [some (.inr (.inr (some 35))), some (.inl ko), some (.inl kn), some (.inl eo), some (.inl en), some (.inl fr), some (.inl p), some (.inl (j + (tsz d t : Int)))]) dX10_matchParts_101 rfl (Nat.le_of_ble_eq_true rfl) (by first | rfl | exact hnl) rfl ?_
      refine x_goto (t := 48) dX10_matchParts_103 (by decide) ?_
      exact ih _ (OR_tail h1) (by omega) (fun j' g1 g2 => kk j' (fun q hq => g1 q (by simp only [fnI] at hq; rw [if_neg (by first | exact fun z => h68 z.1 | exact fun z => h85 z.2)] at hq; exact hq)) (fun hq => g2 (by simp only [fnI] at hq; rw [if_neg (by first | exact fun z => h68 z.1 | exact fun z => h85 z.2)] at hq; exact hq)))
    · refine x_aload_n (q := 72) dX10_matchParts_71 rfl rfl ?_
      refine x_getR (q := 75) dX10_matchParts_72 rfl f_10_41 rfl (ft35 hF) ?_
      refine Ex.stk (st' := [.inr (.inr (some 45))]) (by rw [fr35_16 hF]) ?_
      refine x_iload (q := 77) dX10_matchParts_75 rfl rfl ?_
      refine x_iaload (q := 78) dX10_matchParts_77 rfl (Or.inl (ft45 hF)) (by omega) (by rw [fl45 hF]; omega) ?_
      refine Ex.stk (st' := [.inl (nX (rt d t))]) (by rw [show iv G 45 j = nX (rt d t) from hx1]) ?_
      refine x_aload_n (q := 79) dX10_matchParts_78 rfl rfl ?_
      refine x_getR (q := 82) dX10_matchParts_79 rfl f_10_65 rfl (ft35 hF) ?_
      refine Ex.stk (st' := [.inr (.inr (some 53)), .inl (nX (rt d t))]) (by rw [fr35_25 hF]) ?_
      refine x_iload (q := 84) dX10_matchParts_82 rfl rfl ?_
      refine x_iaload (q := 85) dX10_matchParts_84 rfl (Or.inl (ft53 hF)) (by omega) (by rw [fl53 hF]; omega) ?_
      refine Ex.stk (st' := [.inl x, .inl (nX (rt d t))]) (by rw [show iv G 53 p = x from hx]) ?_
      refine x_icmp_eq (q := 88) (t := 106) dX10_matchParts_85 rfl (by decide) (fun h85 => ?_) (fun h85 => ?_)
      · exact kk j (fun q hq => by simp only [fnI] at hq; rw [if_pos ⟨h68, h85⟩] at hq; cases hq; rfl) (fun hq => by simp only [fnI] at hq; rw [if_pos ⟨h68, h85⟩] at hq; cases hq)
      · refine x_aload_n (q := 89) dX10_matchParts_88 rfl rfl ?_
        refine x_getR (q := 92) dX10_matchParts_89 rfl f_10_47 rfl (ft35 hF) ?_
        refine Ex.stk (st' := [.inr (.inr (some 47))]) (by rw [fr35_18 hF]) ?_
        refine x_aload_n (q := 93) dX10_matchParts_92 rfl rfl ?_
        refine x_getI (q := 96) dX10_matchParts_93 rfl f_10_173 rfl (ft35 hF) ?_
        refine Ex.stk (st' := [.inl co, .inr (.inr (some 47))]) (by rw [show iv G 35 22 = co from hco]) ?_
        refine x_iload (q := 98) dX10_matchParts_96 rfl rfl ?_
        refine x_invS (q := 101) (as := [.inr (.inr (some 47)), .inl co, .inl j]) (rest := []) dX10_matchParts_98 rfl l_10_176 m_X10_endOf rfl rfl (Nat.le_of_ble_eq_true rfl) (Nat.le_of_ble_eq_true rfl) (c_endOf _ (ft47 hF) (fl47 hF) j0 c1 he1) (fun r1 G1 hR => ?_)
        obtain ⟨hG1, rfl⟩ := hR
        replace hG1 := hG1.symm
        subst hG1
        refine Ex.stk (st' := [.inl (j + (tsz d t : Int))]) rfl ?_
        refine x_istore (q := 103) (ls' := [some (.inr (.inr (some 35))), some (.inl ko), some (.inl kn), some (.inl eo), some (.inl en), some (.inl fr), some (.inl p), some (.inl (j + (tsz d t : Int)))]) dX10_matchParts_101 rfl (Nat.le_of_ble_eq_true rfl) (by first | rfl | exact hnl) rfl ?_
        refine x_goto (t := 48) dX10_matchParts_103 (by decide) ?_
        exact ih _ (OR_tail h1) (by omega) (fun j' g1 g2 => kk j' (fun q hq => g1 q (by simp only [fnI] at hq; rw [if_neg (by first | exact fun z => h68 z.1 | exact fun z => h85 z.2)] at hq; exact hq)) (fun hq => g2 (by simp only [fnI] at hq; rw [if_neg (by first | exact fun z => h68 z.1 | exact fun z => h85 z.2)] at hq; exact hq)))
theorem mparts_loop {dd : Nat} {Q : Option V → Hp → Prop} {co cn : Int} (c1 : co ≤ 364) (c2 : cn ≤ 364) {ko kn eo en no nn : Int} {d : Nat} : ∀ (l : List (Tr d)) (p : Int) (rem : List (Tr d)) (fr : Int) (G : Hp) (l7 : Option V), isL l7 = false → FM G → iv G 35 22 = co → iv G 35 29 = cn → OR G co d fr no rem → fr + (tszL d rem : Int) = eo → NR G cn d p nn l → p + (tszL d l : Int) = en → (∀ i, p ≤ i → i < en → iv G 57 i = -1) → (∀ G', Io G G' → (∀ (a : Nat) (k : Int), a ≠ 57 → iv G' a k = iv G a k) → (∀ i, (i < p ∨ en ≤ i) → iv G' 57 i = iv G 57 i) → MA G' co no d p l (asg fr rem l) → Q none G') → Ex (dd + 1) none 10 false cX10_matchParts 37 [some (.inr (.inr (some 35))), some (.inl ko), some (.inl kn), some (.inl eo), some (.inl en), some (.inl fr), some (.inl p), l7] [] G Q := by
  intro l
  induction l with
  | nil =>
    intro p rem fr G l7 hl7 hF hco hcn h1 h2 h3 h4 h5 kk
    have e0 : tszL d ([] : List (Tr d)) = 0 := rfl
    rw [e0] at h4
    refine x_iload (q := 39) dX10_matchParts_37 rfl rfl ?_
    refine x_iload (q := 41) dX10_matchParts_39 rfl rfl ?_
    refine x_icmp_ge (q := 44) (t := 154) dX10_matchParts_41 rfl (by decide) (fun h41 => ?_) (fun h41 => by exfalso; omega)
    refine x_vret dX10_matchParts_154 rfl ?_
    exact kk G (Io.rf G) (fun _ _ _ => rfl) (fun _ _ => rfl) trivial
  | cons t l ih =>
    intro p rem fr G l7 hl7 hF hco hcn h1 h2 h3 h4 h5 kk
    have hp := tsz_pos d t
    have hr3 := h3.2.2.1
    rw [tszL_cons] at h4 hr3
    obtain ⟨⟨⟨hf2, hx2, -⟩, -⟩, he2, p0⟩ := NR_head h3
    dsimp only at hf2 hx2
    have hnl : noL [some (.inr (.inr (some 35))), some (.inl ko), some (.inl kn), some (.inl eo), some (.inl en), some (.inl fr), some (.inl p), l7] = true := by simp [noL, isL]; exact hl7
    refine x_iload (q := 39) dX10_matchParts_37 rfl rfl ?_
    refine x_iload (q := 41) dX10_matchParts_39 rfl rfl ?_
    refine x_icmp_ge (q := 44) (t := 154) dX10_matchParts_41 rfl (by decide) (fun h41 => by exfalso; omega) (fun h41 => ?_)
    refine x_iload (q := 46) dX10_matchParts_44 rfl rfl ?_
    refine x_istore (q := 48) (ls' := [some (.inr (.inr (some 35))), some (.inl ko), some (.inl kn), some (.inl eo), some (.inl en), some (.inl fr), some (.inl p), some (.inl fr)]) dX10_matchParts_46 rfl (Nat.le_of_ble_eq_true rfl) (by first | rfl | exact hnl) rfl ?_
    refine mfind_loop hF hco c1 p0 (by omega) hf2 hx2 rem fr h1 h2 (fun j' g1 g2 => ?_)
    cases hfn : fnI (nF (rt d t)) (nX (rt d t)) fr rem with
    | none =>
      replace g2 := (g2 hfn).symm
      subst g2
      refine x_iload (q := 108) dX10_matchParts_106 rfl rfl ?_
      refine x_iload_n (q := 109) dX10_matchParts_108 rfl rfl ?_
      refine x_icmp_ge (q := 112) (t := 136) dX10_matchParts_109 rfl (by decide) (fun h109 => ?_) (fun h109 => by exfalso; omega)
      refine x_aload_n (q := 137) dX10_matchParts_136 rfl rfl ?_
      refine x_getR (q := 140) dX10_matchParts_137 rfl f_10_71 rfl (ft35 hF) ?_
      refine Ex.stk (st' := [.inr (.inr (some 55))]) (by rw [fr35_27 hF]) ?_
      refine x_aload_n (q := 141) dX10_matchParts_140 rfl rfl ?_
      refine x_getI (q := 144) dX10_matchParts_141 rfl f_10_118 rfl (ft35 hF) ?_
      refine Ex.stk (st' := [.inl cn, .inr (.inr (some 55))]) (by rw [show iv G 35 29 = cn from hcn]) ?_
      refine x_iload (q := 146) dX10_matchParts_144 rfl rfl ?_
      refine x_invS (q := 149) (as := [.inr (.inr (some 55)), .inl cn, .inl p]) (rest := []) dX10_matchParts_146 rfl l_10_176 m_X10_endOf rfl rfl (Nat.le_of_ble_eq_true rfl) (Nat.le_of_ble_eq_true rfl) (c_endOf _ (ft55 hF) (fl55 hF) p0 c2 he2) (fun r1 G1 hR => ?_)
      obtain ⟨hG1, rfl⟩ := hR
      replace hG1 := hG1.symm
      subst hG1
      refine Ex.stk (st' := [.inl (p + (tsz d t : Int))]) rfl ?_
      refine x_istore (q := 151) (ls' := [some (.inr (.inr (some 35))), some (.inl ko), some (.inl kn), some (.inl eo), some (.inl en), some (.inl fr), some (.inl (p + (tsz d t : Int))), some (.inl eo)]) dX10_matchParts_149 rfl (Nat.le_of_ble_eq_true rfl) (by first | rfl | exact hnl) rfl ?_
      refine x_goto (t := 37) dX10_matchParts_151 (by decide) ?_
      refine ih _ rem fr G _ rfl hF hco hcn h1 h2 (NR_tail h3) (by omega) (fun i i1 i2 => h5 i (by omega) i2) (fun G' k1 k2 k3 k4 => kk G' k1 k2 (fun i hi => k3 i (by omega)) ?_)
      rw [asg, hfn]
      refine ⟨?_, fun i i1 i2 => ?_, k4⟩
      · show iv G' 57 p = -1
        rw [k3 p (by omega)]; exact h5 p (by omega) (by omega)
      · rw [k3 i (by omega)]; exact h5 i (by omega) (by omega)
    | some q =>
      replace g1 := g1 q hfn
      obtain ⟨q1, q2, q3⟩ := fnI_OR rem fr q hfn h1
      subst g1
      have hq := tsz_pos d q.2.1
      have hrq := q1.2.2.1
      rw [tszL_cons] at q2 hrq
      obtain ⟨-, heq, q0⟩ := OR_head q1
      have kp : ∀ (a : Nat) (k : Int), a ≠ 57 → iv (si G 57 p q.1) a k = iv G a k := fun a k ha => by simp only [iv_si]; rw [if_neg (by omega)]
      have heq' : endp (iv (si G 57 p q.1) 47) co q.1 (q.1 + (tsz d q.2.1 : Int)) := by rw [show iv (si G 57 p q.1) 47 = iv G 47 from funext (fun k => kp 47 k (by decide))]; exact heq
      have hep' : endp (iv (si G 57 p q.1) 55) cn p (p + (tsz d t : Int)) := by rw [show iv (si G 57 p q.1) 55 = iv G 55 from funext (fun k => kp 55 k (by decide))]; exact he2
      have hs57 : ∀ i, i ≠ p → iv (si G 57 p q.1) 57 i = iv G 57 i := fun i hi => by simp only [iv_si]; rw [if_neg (by omega)]
      have hs57p : iv (si G 57 p q.1) 57 p = q.1 := by simp [iv_si]
      refine x_iload (q := 108) dX10_matchParts_106 rfl rfl ?_
      refine x_iload_n (q := 109) dX10_matchParts_108 rfl rfl ?_
      refine x_icmp_ge (q := 112) (t := 136) dX10_matchParts_109 rfl (by decide) (fun h109 => by exfalso; omega) (fun h109 => ?_)
      refine x_aload_n (q := 113) dX10_matchParts_112 rfl rfl ?_
      refine x_getR (q := 116) dX10_matchParts_113 rfl f_10_77 rfl (ft35 hF) ?_
      refine Ex.stk (st' := [.inr (.inr (some 57))]) (by rw [fr35_30 hF]) ?_
      refine x_iload (q := 118) dX10_matchParts_116 rfl rfl ?_
      refine x_iload (q := 120) dX10_matchParts_118 rfl rfl ?_
      refine x_iastore (q := 121) dX10_matchParts_120 rfl (ft57 hF) (by omega) (by rw [fl57 hF]; omega) ?_
      have hF := FX_si hF 57 p q.1
      refine x_aload_n (q := 122) dX10_matchParts_121 rfl rfl ?_
      refine x_getR (q := 125) dX10_matchParts_122 rfl f_10_47 rfl (ft35 hF) ?_
      refine Ex.stk (st' := [.inr (.inr (some 47))]) (by rw [fr35_18 hF]) ?_
      refine x_aload_n (q := 126) dX10_matchParts_125 rfl rfl ?_
      refine x_getI (q := 129) dX10_matchParts_126 rfl f_10_173 rfl (ft35 hF) ?_
      refine Ex.stk (st' := [.inl co, .inr (.inr (some 47))]) (by rw [show iv (si G 57 p q.1) 35 22 = co from (by simp [iv_si, iv_sr, iv_nw, hco])]) ?_
      refine x_iload (q := 131) dX10_matchParts_129 rfl rfl ?_
      refine x_invS (q := 134) (as := [.inr (.inr (some 47)), .inl co, .inl q.1]) (rest := []) dX10_matchParts_131 rfl l_10_176 m_X10_endOf rfl rfl (Nat.le_of_ble_eq_true rfl) (Nat.le_of_ble_eq_true rfl) (c_endOf _ (ft47 hF) (fl47 hF) q0 c1 heq') (fun r1 G1 hR => ?_)
      obtain ⟨hG1, rfl⟩ := hR
      replace hG1 := hG1.symm
      subst hG1
      refine Ex.stk (st' := [.inl (q.1 + (tsz d q.2.1 : Int))]) rfl ?_
      refine x_istore (q := 136) (ls' := [some (.inr (.inr (some 35))), some (.inl ko), some (.inl kn), some (.inl eo), some (.inl en), some (.inl (q.1 + (tsz d q.2.1 : Int))), some (.inl p), some (.inl q.1)]) dX10_matchParts_134 rfl (Nat.le_of_ble_eq_true rfl) (by first | rfl | exact hnl) rfl ?_
      refine x_aload_n (q := 137) dX10_matchParts_136 rfl rfl ?_
      refine x_getR (q := 140) dX10_matchParts_137 rfl f_10_71 rfl (ft35 hF) ?_
      refine Ex.stk (st' := [.inr (.inr (some 55))]) (by rw [fr35_27 hF]) ?_
      refine x_aload_n (q := 141) dX10_matchParts_140 rfl rfl ?_
      refine x_getI (q := 144) dX10_matchParts_141 rfl f_10_118 rfl (ft35 hF) ?_
      refine Ex.stk (st' := [.inl cn, .inr (.inr (some 55))]) (by rw [show iv (si G 57 p q.1) 35 29 = cn from (by simp [iv_si, iv_sr, iv_nw, hcn])]) ?_
      refine x_iload (q := 146) dX10_matchParts_144 rfl rfl ?_
      refine x_invS (q := 149) (as := [.inr (.inr (some 55)), .inl cn, .inl p]) (rest := []) dX10_matchParts_146 rfl l_10_176 m_X10_endOf rfl rfl (Nat.le_of_ble_eq_true rfl) (Nat.le_of_ble_eq_true rfl) (c_endOf _ (ft55 hF) (fl55 hF) p0 c2 hep') (fun r1 G1 hR => ?_)
      obtain ⟨hG1, rfl⟩ := hR
      replace hG1 := hG1.symm
      subst hG1
      refine Ex.stk (st' := [.inl (p + (tsz d t : Int))]) rfl ?_
      refine x_istore (q := 151) (ls' := [some (.inr (.inr (some 35))), some (.inl ko), some (.inl kn), some (.inl eo), some (.inl en), some (.inl (q.1 + (tsz d q.2.1 : Int))), some (.inl (p + (tsz d t : Int))), some (.inl q.1)]) dX10_matchParts_149 rfl (Nat.le_of_ble_eq_true rfl) (by first | rfl | exact hnl) rfl ?_
      refine x_goto (t := 37) dX10_matchParts_151 (by decide) ?_
      refine ih _ q.2.2 _ _ _ rfl hF ((kp 35 22 (by decide)).trans hco) ((kp 35 29 (by decide)).trans hcn) (OR_kept (OR_tail q1) (fun a j g1 g2 => kp a j (by omega))) (by omega) (NR_kept (NR_tail h3) (fun a j g1 g2 => kp a j (by omega))) (by omega) (fun i i1 i2 => by rw [hs57 i (by omega)]; exact h5 i (by omega) i2) (fun G' k1 k2 k3 k4 => kk G' k1 (fun a k ha => (k2 a k ha).trans (kp a k ha)) (fun i hi => (k3 i (by omega)).trans (hs57 i (by omega))) ?_)
      rw [asg, hfn]
      refine ⟨⟨?_, q.2.2, ?_⟩, fun i i1 i2 => ?_, k4⟩
      · show iv G' 57 p = q.1
        rw [k3 p (by omega)]; exact hs57p
      · exact OR_kept q1 (fun a j g1 g2 => (k2 a j (by omega)).trans (kp a j (by omega)))
      · rw [k3 i (by omega), hs57 i (by omega)]; exact h5 i (by omega) (by omega)
theorem c_matchParts (dd : Nat) {G : Hp} (hF : FM G) {co cn : Int} (hco : iv G 35 22 = co) (hcn : iv G 35 29 = cn) (c1 : co ≤ 364) (c2 : cn ≤ 364) {ko kn no nn : Int} {d : Nat} {o t : Tr (d + 1)} {lo lt : List (Tr (d + 1))} (h1 : OR G co (d + 1) ko no (o :: lo)) (h2 : NR G cn (d + 1) kn nn (t :: lt)) (h5 : ∀ i, kn < i → i < kn + (tsz (d + 1) t : Int) → iv G 57 i = -1) : CX (dd + 2) 128 [.inr (.inr (some 35)), .inl ko, .inl kn] G (fun r G' => r = none ∧ Io G G' ∧ (∀ (a : Nat) (k : Int), a ≠ 57 → iv G' a k = iv G a k) ∧ (∀ i, (i ≤ kn ∨ kn + (tsz (d + 1) t : Int) ≤ i) → iv G' 57 i = iv G 57 i) ∧ MA G' co (no + 1) d (kn + 1) t.2 (asg (ko + 1) o.2 t.2)) := by
  have hp := tsz_pos (d + 1) o
  have hq := tsz_pos (d + 1) t
  have hr1 := h1.2.2.1
  have hr2 := h2.2.2.1
  rw [tszL_cons] at hr1 hr2
  obtain ⟨-, he1, k0⟩ := OR_head h1
  obtain ⟨-, he2, kn0⟩ := NR_head h2
  refine CX.of (d := dd + 1) m_X10_matchParts (Nat.le_of_ble_eq_true rfl) ?_
  refine Ex.lcl (ls' := [some (.inr (.inr (some 35))), some (.inl ko), some (.inl kn), none, none, none, none, none]) rfl ?_
  refine x_aload_n (q := 1) dX10_matchParts_0 rfl rfl ?_
  refine x_getR (q := 4) dX10_matchParts_1 rfl f_10_47 rfl (ft35 hF) ?_
  refine Ex.stk (st' := [.inr (.inr (some 47))]) (by rw [fr35_18 hF]) ?_
  refine x_aload_n (q := 5) dX10_matchParts_4 rfl rfl ?_
  refine x_getI (q := 8) dX10_matchParts_5 rfl f_10_173 rfl (ft35 hF) ?_
  refine Ex.stk (st' := [.inl co, .inr (.inr (some 47))]) (by rw [show iv G 35 22 = co from hco]) ?_
  refine x_iload_n (q := 9) dX10_matchParts_8 rfl rfl ?_
  refine x_invS (q := 12) (as := [.inr (.inr (some 47)), .inl co, .inl ko]) (rest := []) dX10_matchParts_9 rfl l_10_176 m_X10_endOf rfl rfl (Nat.le_of_ble_eq_true rfl) (Nat.le_of_ble_eq_true rfl) (c_endOf _ (ft47 hF) (fl47 hF) k0 c1 he1) (fun r1 G1 hR => ?_)
  obtain ⟨hG1, rfl⟩ := hR
  replace hG1 := hG1.symm
  subst hG1
  refine Ex.stk (st' := [.inl (ko + (tsz (d + 1) o : Int))]) rfl ?_
  refine x_istore_n (q := 13) (ls' := [some (.inr (.inr (some 35))), some (.inl ko), some (.inl kn), some (.inl (ko + (tsz (d + 1) o : Int))), none, none, none, none]) dX10_matchParts_12 rfl (Nat.le_of_ble_eq_true rfl) (by first | rfl | exact hnl) rfl ?_
  refine x_aload_n (q := 14) dX10_matchParts_13 rfl rfl ?_
  refine x_getR (q := 17) dX10_matchParts_14 rfl f_10_71 rfl (ft35 hF) ?_
  refine Ex.stk (st' := [.inr (.inr (some 55))]) (by rw [fr35_27 hF]) ?_
  refine x_aload_n (q := 18) dX10_matchParts_17 rfl rfl ?_
  refine x_getI (q := 21) dX10_matchParts_18 rfl f_10_118 rfl (ft35 hF) ?_
  refine Ex.stk (st' := [.inl cn, .inr (.inr (some 55))]) (by rw [show iv G 35 29 = cn from hcn]) ?_
  refine x_iload_n (q := 22) dX10_matchParts_21 rfl rfl ?_
  refine x_invS (q := 25) (as := [.inr (.inr (some 55)), .inl cn, .inl kn]) (rest := []) dX10_matchParts_22 rfl l_10_176 m_X10_endOf rfl rfl (Nat.le_of_ble_eq_true rfl) (Nat.le_of_ble_eq_true rfl) (c_endOf _ (ft55 hF) (fl55 hF) kn0 c2 he2) (fun r1 G1 hR => ?_)
  obtain ⟨hG1, rfl⟩ := hR
  replace hG1 := hG1.symm
  subst hG1
  refine Ex.stk (st' := [.inl (kn + (tsz (d + 1) t : Int))]) rfl ?_
  refine x_istore (q := 27) (ls' := [some (.inr (.inr (some 35))), some (.inl ko), some (.inl kn), some (.inl (ko + (tsz (d + 1) o : Int))), some (.inl (kn + (tsz (d + 1) t : Int))), none, none, none]) dX10_matchParts_25 rfl (Nat.le_of_ble_eq_true rfl) (by first | rfl | exact hnl) rfl ?_
  refine x_iload_n (q := 28) dX10_matchParts_27 rfl rfl ?_
  refine x_iconst (q := 29) dX10_matchParts_28 rfl (by decide) ?_
  refine x_iadd (q := 30) (z := ko + 1) dX10_matchParts_29 rfl (wr_id ⟨by omega, by omega⟩) ?_
  refine x_istore (q := 32) (ls' := [some (.inr (.inr (some 35))), some (.inl ko), some (.inl kn), some (.inl (ko + (tsz (d + 1) o : Int))), some (.inl (kn + (tsz (d + 1) t : Int))), some (.inl (ko + 1)), none, none]) dX10_matchParts_30 rfl (Nat.le_of_ble_eq_true rfl) (by first | rfl | exact hnl) rfl ?_
  refine x_iload_n (q := 33) dX10_matchParts_32 rfl rfl ?_
  refine x_iconst (q := 34) dX10_matchParts_33 rfl (by decide) ?_
  refine x_iadd (q := 35) (z := kn + 1) dX10_matchParts_34 rfl (wr_id ⟨by omega, by omega⟩) ?_
  refine x_istore (q := 37) (ls' := [some (.inr (.inr (some 35))), some (.inl ko), some (.inl kn), some (.inl (ko + (tsz (d + 1) o : Int))), some (.inl (kn + (tsz (d + 1) t : Int))), some (.inl (ko + 1)), some (.inl (kn + 1)), none]) dX10_matchParts_35 rfl (Nat.le_of_ble_eq_true rfl) (by first | rfl | exact hnl) rfl ?_
  refine mparts_loop c1 c2 t.2 _ o.2 _ G _ rfl hF hco hcn (OR_parts h1) ?_ (NR_parts h2) ?_ (fun i i1 i2 => h5 i (by omega) (by omega)) (fun G' k1 k2 k3 k4 => ⟨rfl, k1, k2, fun i hi => k3 i (by omega), k4⟩)
  · have := tsz_eq o; omega
  · have := tsz_eq t; omega
