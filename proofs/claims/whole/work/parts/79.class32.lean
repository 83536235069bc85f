/-! THE CLASS: two calls are alike -/
def AlkC (D : Nat) (G : Hp) (h h' : Int → Int) (β β' : Int) (d : Nat) : Prop := ∀ (t u : Tr d) (ns ns' : Int), TA G h β d ns t → TA G h' β' d ns' u → ns + (d : Int) = 7 → CX (D + d + 1) 16 [.inr (.inr (some (aRt d t))), .inr (.inr (some (aRt d u)))] G (fun r G' => G' = G ∧ ∃ z, r = some (.inl z) ∧ (z = 0 ∨ z = 1) ∧ (z = 1 ↔ alkT d t u))
theorem alk_loop {D d : Nat} {G : Hp} {h h' : Int → Int} {β β' ns ns' : Int} {a b : Nat} {Q : Option V → Hp → Prop} (hC : AlkC D G h h' β β' d) (hn : ns + (d : Int) = 7) : ∀ (l m : List (Tr d)) (r3 r2 : Option Nat), Chn G r3 (l.map (aRt d)) → Chn G r2 (m.map (aRt d)) → (∀ p ∈ l, TA G h β d ns p) → (∀ q ∈ m, TA G h' β' d ns' q) → (∀ z : Int, (z = 0 ∨ z = 1) → (z = 1 ↔ alkL (alkT d) l m) → Q (some (.inl z)) G) → Ex (D + d + 1) (some .boolean) 1 false cX1_areAlike 47 [some (.inr (.inr (some a))), some (.inr (.inr (some b))), some (.inr (.inr r2)), some (.inr (.inr r3))] [] G Q := by
  intro l
  induction l with
  | nil =>
    intro m r3 r2 k3 k2 hl hm kk
    have k3 : r3 = none := k3
    subst k3
    cases m with
    | nil =>
      have k2 : r2 = none := k2
      subst k2
      refine x_aload_n (q := 48) dX1_areAlike_47 rfl rfl ?_
      refine x_ifnull (q := 51) (t := 78) dX1_areAlike_48 rfl (by decide) (fun h48 => ?_) (fun a48 h48 => by exfalso; cases h48)
      refine x_aload_n (q := 79) dX1_areAlike_78 rfl rfl ?_
      refine x_ifnonnull (q := 82) (t := 86) dX1_areAlike_79 rfl (by decide) (fun a79 h79 => by exfalso; cases h79) (fun h79 => ?_)
      refine x_iconst (q := 83) dX1_areAlike_82 rfl (by decide) ?_
      refine x_goto (t := 87) dX1_areAlike_83 (by decide) ?_
      refine x_zret dX1_areAlike_87 rfl (by decide) ?_
      exact kk 1 (Or.inr rfl) ⟨fun _ => trivial, fun _ => rfl⟩
    | cons q m =>
      obtain ⟨k2, -⟩ := k2
      subst k2
      refine x_aload_n (q := 48) dX1_areAlike_47 rfl rfl ?_
      refine x_ifnull (q := 51) (t := 78) dX1_areAlike_48 rfl (by decide) (fun h48 => ?_) (fun a48 h48 => by exfalso; cases h48)
      refine x_aload_n (q := 79) dX1_areAlike_78 rfl rfl ?_
      refine x_ifnonnull (q := 82) (t := 86) dX1_areAlike_79 rfl (by decide) (fun a79 h79 => ?_) (fun h79 => by exfalso; cases h79)
      refine x_iconst (q := 87) dX1_areAlike_86 rfl (by decide) ?_
      refine x_zret dX1_areAlike_87 rfl (by decide) ?_
      exact kk 0 (Or.inl rfl) ⟨fun q => by omega, fun q => q.elim⟩
  | cons p l ih =>
    intro m r3 r2 k3 k2 hl hm kk
    obtain ⟨k3, k3'⟩ := k3
    subst k3
    have tp : tg G (aRt d p) = 1 := (TA_rt d _ p (hl p (List.mem_cons_self ..))).1.1
    cases m with
    | nil =>
      have k2 : r2 = none := k2
      subst k2
      refine x_aload_n (q := 48) dX1_areAlike_47 rfl rfl ?_
      refine x_ifnull (q := 51) (t := 78) dX1_areAlike_48 rfl (by decide) (fun h48 => by exfalso; cases h48) (fun a48 h48 => ?_)
      refine x_aload_n (q := 52) dX1_areAlike_51 rfl rfl ?_
      refine x_ifnull (q := 55) (t := 63) dX1_areAlike_52 rfl (by decide) (fun h52 => ?_) (fun a52 h52 => by exfalso; cases h52)
      refine x_iconst (q := 64) dX1_areAlike_63 rfl (by decide) ?_
      refine x_zret dX1_areAlike_64 rfl (by decide) ?_
      exact kk 0 (Or.inl rfl) ⟨fun q => by omega, fun q => q.elim⟩
    | cons q m =>
      obtain ⟨k2, k2'⟩ := k2
      subst k2
      have tq : tg G (aRt d q) = 1 := (TA_rt d _ q (hm q (List.mem_cons_self ..))).1.1
      refine x_aload_n (q := 48) dX1_areAlike_47 rfl rfl ?_
      refine x_ifnull (q := 51) (t := 78) dX1_areAlike_48 rfl (by decide) (fun h48 => by exfalso; cases h48) (fun a48 h48 => ?_)
      refine x_aload_n (q := 52) dX1_areAlike_51 rfl rfl ?_
      refine x_ifnull (q := 55) (t := 63) dX1_areAlike_52 rfl (by decide) (fun h52 => by exfalso; cases h52) (fun a52 h52 => ?_)
      refine x_aload_n (q := 56) dX1_areAlike_55 rfl rfl ?_
      refine x_aload_n (q := 57) dX1_areAlike_56 rfl rfl ?_
      refine x_invS (q := 60) (as := [.inr (.inr (some (aRt d p))), .inr (.inr (some (aRt d q)))]) (rest := []) dX1_areAlike_57 rfl l_1_63 m_X1_areAlike rfl rfl (Nat.le_of_ble_eq_true rfl) (Nat.le_of_ble_eq_true rfl) (hC p q ns ns' (hl p (List.mem_cons_self ..)) (hm q (List.mem_cons_self ..)) hn) (fun r1 G1 hR => ?_)
      obtain ⟨hG1, y, rfl, hy1, hy2⟩ := hR
      replace hG1 := hG1.symm
      subst hG1
      refine Ex.stk (st' := [.inl y]) rfl ?_
      refine x_if_ne (q := 63) (t := 65) dX1_areAlike_60 rfl (by decide) (fun h60 => ?_) (fun h60 => ?_)
      · refine x_aload_n (q := 66) dX1_areAlike_65 rfl rfl ?_
        refine x_getR (q := 69) dX1_areAlike_66 rfl f_1_50 rfl tq ?_
        refine x_astore_n (q := 70) (ls' := [some (.inr (.inr (some a))), some (.inr (.inr (some b))), some (.inr (.inr (rv G (aRt d q) 10))), some (.inr (.inr (some (aRt d p))))]) dX1_areAlike_69 rfl (Nat.le_of_ble_eq_true rfl) (by first | rfl | exact hnl | exact hnl2 _) rfl ?_
        refine x_aload_n (q := 71) dX1_areAlike_70 rfl rfl ?_
        refine x_getR (q := 74) dX1_areAlike_71 rfl f_1_50 rfl tp ?_
        refine x_astore_n (q := 75) (ls' := [some (.inr (.inr (some a))), some (.inr (.inr (some b))), some (.inr (.inr (rv G (aRt d q) 10))), some (.inr (.inr (rv G (aRt d p) 10)))]) dX1_areAlike_74 rfl (Nat.le_of_ble_eq_true rfl) (by first | rfl | exact hnl | exact hnl2 _) rfl ?_
        refine x_goto (t := 47) dX1_areAlike_75 (by decide) ?_
        exact ih m _ _ k3' k2' (fun x hx => hl x (List.mem_cons_of_mem _ hx)) (fun x hx => hm x (List.mem_cons_of_mem _ hx)) (fun z z1 z2 => kk z z1 ⟨fun e => ⟨hy2.mp (hy1.resolve_left h60), z2.mp e⟩, fun e => z2.mpr e.2⟩)
      · refine x_iconst (q := 64) dX1_areAlike_63 rfl (by decide) ?_
        refine x_zret dX1_areAlike_64 rfl (by decide) ?_
        exact kk 0 (Or.inl rfl) ⟨fun q => by omega, fun q => by have := hy2.mpr q.1; omega⟩
theorem alk_all {G : Hp} {h h' : Int → Int} {β β' : Int} (D : Nat) : ∀ d, AlkC D G h h' β β' d := by
  intro d
  induction d with
  | zero => intro t; exact t.elim
  | succ d ih =>
    intro t u ns ns' ht hu hn
    obtain ⟨⟨q1, q2, q3, q4, q5, q6, q7, q8, q9, q10⟩, tc, tp⟩ := ht
    obtain ⟨⟨w1, w2, w3, w4, w5, w6, w7, w8, w9, w10⟩, uc, up⟩ := hu
    refine CX.of (d := D + d + 1) m_X1_areAlike (Nat.le_of_ble_eq_true rfl) ?_
    refine Ex.lcl (ls' := [some (.inr (.inr (some (nAd t.1)))), some (.inr (.inr (some (nAd u.1)))), none, none]) rfl ?_
    refine x_aload_n (q := 1) dX1_areAlike_0 rfl rfl ?_
    refine x_getI (q := 4) dX1_areAlike_1 rfl f_1_22 rfl q1.1 ?_
    refine Ex.stk (st' := [.inl ns]) (by rw [show iv G (nAd t.1) 5 = ns from q7]) ?_
    refine x_bipush (q := 6) dX1_areAlike_4 rfl (by decide) ?_
    refine x_icmp_gt (q := 9) (t := 35) dX1_areAlike_6 rfl (by decide) (fun h6 => by exfalso; omega) (fun h6 => ?_)
    refine x_aload_n (q := 10) dX1_areAlike_9 rfl rfl ?_
    refine x_aload_n (q := 11) dX1_areAlike_10 rfl rfl ?_
    refine x_getI (q := 14) dX1_areAlike_11 rfl f_1_15 rfl w1.1 ?_
    refine Ex.stk (st' := [.inl (nF u.1), .inr (.inr (some (nAd t.1)))]) (by rw [show iv G (nAd u.1) 0 = nF u.1 from w2]) ?_
    refine x_aload_n (q := 15) dX1_areAlike_14 rfl rfl ?_
    refine x_getI (q := 18) dX1_areAlike_15 rfl f_1_19 rfl w1.1 ?_
    refine Ex.stk (st' := [.inl (nX u.1), .inl (nF u.1), .inr (.inr (some (nAd t.1)))]) (by rw [show iv G (nAd u.1) 1 = nX u.1 from w3]) ?_
    refine x_invV (q := 21) (as := [.inr (.inr (some (nAd t.1))), .inl (nF u.1), .inl (nX u.1)]) (rest := []) dX1_areAlike_18 rfl l_1_53 m_X1_isOf rfl rfl q1.1 (Nat.le_of_ble_eq_true rfl) (CX.up (d := 0 + 1) (by omega) (c_isOf 0 q1 q2 q3)) (fun r1 G1 hR => ?_)
    obtain ⟨hG1, y, rfl, hy1, hy2⟩ := hR
    replace hG1 := hG1.symm
    subst hG1
    refine Ex.stk (st' := [.inl y]) rfl ?_
    refine x_if_eq (q := 24) (t := 35) dX1_areAlike_21 rfl (by decide) (fun h21 => ?_) (fun h21 => ?_)
    · refine x_iconst (q := 36) dX1_areAlike_35 rfl (by decide) ?_
      refine x_zret dX1_areAlike_36 rfl (by decide) ?_
      refine ⟨rfl, 0, rfl, Or.inl rfl, fun e => by omega, fun e => ?_⟩
      first | exact absurd (hy2.mpr ⟨e.1, e.2.1⟩) (by omega) | exact absurd e.2.2.1 (by assumption) | exact absurd e.2.2.1 (by omega)
    · refine x_aload_n (q := 25) dX1_areAlike_24 rfl rfl ?_
      refine x_getI (q := 28) dX1_areAlike_25 rfl f_1_28 rfl q1.1 ?_
      refine Ex.stk (st' := [.inl (nV t.1)]) (by rw [show iv G (nAd t.1) 2 = nV t.1 from q4]) ?_
      refine x_aload_n (q := 29) dX1_areAlike_28 rfl rfl ?_
      refine x_getI (q := 32) dX1_areAlike_29 rfl f_1_28 rfl w1.1 ?_
      refine Ex.stk (st' := [.inl (nV u.1), .inl (nV t.1)]) (by rw [show iv G (nAd u.1) 2 = nV u.1 from w4]) ?_
      refine x_icmp_eq (q := 35) (t := 37) dX1_areAlike_32 rfl (by decide) (fun h32 => ?_) (fun h32 => ?_)
      · refine x_aload_n (q := 38) dX1_areAlike_37 rfl rfl ?_
        refine x_getR (q := 41) dX1_areAlike_38 rfl f_1_34 rfl w1.1 ?_
        refine x_astore_n (q := 42) (ls' := [some (.inr (.inr (some (nAd t.1)))), some (.inr (.inr (some (nAd u.1)))), some (.inr (.inr (rv G (nAd u.1) 8))), none]) dX1_areAlike_41 rfl (Nat.le_of_ble_eq_true rfl) (by first | rfl | exact hnl | exact hnl2 _) rfl ?_
        refine x_aload_n (q := 43) dX1_areAlike_42 rfl rfl ?_
        refine x_getR (q := 46) dX1_areAlike_43 rfl f_1_34 rfl q1.1 ?_
        refine x_astore_n (q := 47) (ls' := [some (.inr (.inr (some (nAd t.1)))), some (.inr (.inr (some (nAd u.1)))), some (.inr (.inr (rv G (nAd u.1) 8))), some (.inr (.inr (rv G (nAd t.1) 8)))]) dX1_areAlike_46 rfl (Nat.le_of_ble_eq_true rfl) (by first | rfl | exact hnl | exact hnl2 _) rfl ?_
        refine alk_loop ih (ns := ns + 1) (ns' := ns' + 1) (by omega) t.2 u.2 _ _ tc uc tp up (fun z z1 z2 => ⟨rfl, z, rfl, z1, ?_⟩)
        rw [z2]
        exact ⟨fun e => ⟨(hy2.mp (hy1.resolve_left h21)).1, (hy2.mp (hy1.resolve_left h21)).2, by first | assumption | omega, e⟩, fun e => e.2.2.2⟩
      · refine x_iconst (q := 36) dX1_areAlike_35 rfl (by decide) ?_
        refine x_zret dX1_areAlike_36 rfl (by decide) ?_
        refine ⟨rfl, 0, rfl, Or.inl rfl, fun e => by omega, fun e => ?_⟩
        first | exact absurd (hy2.mpr ⟨e.1, e.2.1⟩) (by omega) | exact absurd e.2.2.1 (by assumption) | exact absurd e.2.2.1 (by omega)
