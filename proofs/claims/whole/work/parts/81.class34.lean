/-! THE CLASS: a call made by itself, and let go -/
theorem c_mbi (d : Nat) {mk sk pa : Nat} {P : Pg} {st vl ss : Int → Int} {N : Int} {c : Int → Int} {β : Int} (hM : MkC mk sk pa P st vl ss N c β 5) {G : Hp} {f x : Int} {κ : Kt} {fs : List Nat} (hW : WE mk sk pa P st vl ss N c β G) (hch : Chn G (rv G 28 0) fs) (hO : OkA G fs) (hnd : fs.Nodup) (hct : Ct mk κ G) (htp : iv G mk 3 = 0) (f0 : 0 ≤ f) (f1 : f < P.2.2) (x0 : 0 ≤ x) (x1 : x ≤ 996) : CX (d + 181) 26 [.inr (.inr (some mk)), .inl f, .inl x] G (fun r G' => ∃ t fs' cr, r = some (.inr (.inr (some (aRt 6 t)))) ∧ nad 6 t = (mkT P c 5 f x κ).1 ∧ PO mk sk c β 5 1 κ (mkT P c 5 f x κ).2 0 [] fs G G' t fs' cr ∧ (cr = 0 ∨ fs' = [])) := by
  refine CX.of (d := d + 180) m_X3_madeByItself (Nat.le_of_ble_eq_true rfl) ?_
  refine Ex.lcl (ls' := [some (.inr (.inr (some mk))), some (.inl f), some (.inl x)]) rfl ?_
  refine x_aload_n (q := 1) dX3_madeByItself_0 rfl rfl ?_
  refine x_iload_n (q := 2) dX3_madeByItself_1 rfl rfl ?_
  refine x_iload_n (q := 3) dX3_madeByItself_2 rfl rfl ?_
  refine x_iconst (q := 4) dX3_madeByItself_3 rfl (by decide) ?_
  refine x_invV (q := 7) (as := [.inr (.inr (some mk)), .inl f, .inl x, .inl 1]) (rest := []) dX3_madeByItself_4 rfl l_3_31 m_X3_make rfl rfl hW.1.1 (Nat.le_of_ble_eq_true rfl) (CX.up (d := 30 * (5 + 1)) (by omega) (hM G f x 1 κ fs 0 hW hch hO hnd hct htp (by decide) (by decide) (by decide) f0 f1 x0 x1)) (fun r1 G1 hR => ?_)
  obtain ⟨t, fs', cr, rfl, e2, e3, e4⟩ := hR
  refine Ex.stk (st' := [.inr (.inr (some (aRt 6 t)))]) rfl ?_
  refine x_aret dX3_madeByItself_7 rfl ?_
  exact ⟨t, fs', cr, rfl, e2, e3, e4⟩
theorem c_lgAll (d : Nat) {mk : Nat} {t : Tr 6} {G : Hp} {fs : List Nat} {g : Int} (hK : MKl mk G) (ts : TS G 6 1 t) (hch : Chn G (rv G 28 0) fs) (hO : OkA G (adL 6 t ++ fs)) (hnd : (adL 6 t ++ fs).Nodup) (hg : iv G mk 9 = wr g) : CX (d + 13) 28 [.inr (.inr (some mk)), .inr (.inr (some (nAd t.1)))] G (fun q G' => q = none ∧ ∃ fs', Chn G' (rv G' 28 0) fs' ∧ fs'.Perm (adL 6 t ++ fs) ∧ iv G' mk 9 = wr (g + (tsz 6 t : Int)) ∧ Lg mk (adL 6 t) G G') := by
  refine CX.of (d := d + 12) m_X3_letGoWithAll (Nat.le_of_ble_eq_true rfl) ?_
  refine Ex.lcl (ls' := [some (.inr (.inr (some mk))), some (.inr (.inr (some (nAd t.1))))]) rfl ?_
  refine x_aload_n (q := 1) dX3_letGoWithAll_0 rfl rfl ?_
  refine x_ifnull (q := 4) (t := 9) dX3_letGoWithAll_1 rfl (by decide) (fun h1 => by exfalso; cases h1) (fun a1 h1 => ?_)
  refine x_aload_n (q := 5) dX3_letGoWithAll_4 rfl rfl ?_
  refine x_aload_n (q := 6) dX3_letGoWithAll_5 rfl rfl ?_
  refine x_invV (q := 9) (as := [.inr (.inr (some mk)), .inr (.inr (some (nAd t.1)))]) (rest := []) dX3_letGoWithAll_6 rfl l_3_62 m_X3_letGo rfl rfl hK.1 (Nat.le_of_ble_eq_true rfl) (CX.up (d := 0 + (2 * 5 + 2)) (by omega) (lgo_all 0 mk 5 t 1 G fs g hK ts (by decide) hch hO hnd hg)) (fun r1 G1 hR => ?_)
  obtain ⟨rfl, fs', e1, e2, e3, e4⟩ := hR
  refine Ex.stk (st' := []) rfl ?_
  refine x_vret dX3_letGoWithAll_9 rfl ?_
  exact ⟨rfl, fs', e1, e2, e3, e4⟩
