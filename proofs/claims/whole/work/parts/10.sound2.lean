/-! SOUNDNESS, second part: memory instructions of the machine against the abstract memory -/
abbrev tysv (E : Ev) : List (ClassId × FieldType) := [(E.2.1.1, .int), (E.2.1.2.1, .object RX1), (E.2.1.2.2, .object RX7)]
abbrev Av (E : Ev) : Nat → Prop := fun q => E.1.1 ≤ q
/-- what is known while a method runs (s: the state at its entry) -/
def Ctx (E : Ev) (L : Nat) (xs : Nat → Int32) (p : Program) (s : State) (m : MethodId) (args : Array Value) (meth : Method) (c : Code) (cc : ByteArray) (own nL : Nat) (ini : Bool) : Prop :=
  p.tables.exec = Jvm.exec ∧ c.code = cc ∧ c.maxLocals = nL ∧ s.vm.findClass (cn own) = some m.cls ∧ (∀ w ∈ gtbl, w.before args s = true) ∧ va_K (Dv E) vwCl (tysv E) s ∧ (va_X E.1.2 L xs s s.heap ∧ E.1.2 < E.1.1 ∧ E.1.1 ≤ s.heap.size) ∧
  ((∀ e ∈ ltab, e.2.2.2.1 = 1 → va_Nw (.methodLinkNest (cn e.1) e.2.1 (myn e.2.2.1) "TakenUpCalls") s) ∧ va_AO RX1 s ∧ va_AO RX7 s) ∧ (ini = true → meth.name = "<init>")
section SD
variable {p : Program} {l : Launch} {e : Env} {R : Room} {s : State} {m : MethodId} {args : Array Value} {below : List Frame} {meth : Method} {c : Code} {H : Heap} {locs : List Loc} {cells slots : Nat} {Q : State → Prop}
variable {E : Ev} {L : Nat} {xs : Nat → Int32} {cc : ByteArray} {own nL : Nat} {ini : Bool} {pc : Nat} {arr : Array Slot} {rest : List Value} {G : Hp}
theorem va_Sput (hS : va_S (Av E) s.heap H locs) {a k : Nat} {H' : Heap} (h1 : 1 ≤ a) (z : H'.size = H.size) (oq : ∀ q : Nat, q ≠ adr E a → H'[q]? = H[q]?) : va_S (Av E) s.heap H' (locs ++ [⟨adr E a, k⟩]) :=
  hS.put z oq (by rw [adr_pos E h1]; exact Nat.le_add_right _ _)
theorem sd_get (hx : Ctx E L xs p s m args meth c cc own nL ini) (hg : gwf L xs G) (hr : rep E G H) {a c0 idx : Nat} {k : Int} (hf : fres own idx = some (c0, k)) (ht : tg G a = c0) (hdg : decode cc pc = .ok (.getfield idx, 3))
    (kk : W p l e R s m args below meth c H locs cells slots Q (F0 m (pc + 3) arr (fv E G c0 a k.toNat :: rest))) : W p l e R s m args below meth c H locs cells slots Q (F0 m pc arr (.ref (adr E a) :: rest)) := by
  obtain ⟨hexec, hb, -, hown, hts, hK, -⟩ := hx
  obtain ⟨hl, hc, -, hk⟩ := g_field hf
  obtain ⟨h1, h2⟩ := gwf_lt hg ht (by omega)
  have hP := rep_at hr h1 h2
  rw [ent_obj ht hc] at hP
  exact va_get hexec hb hts (ws_ing hc) hown hK hP 0 rfl (cl_at hc) k.toNat hk (hts _ hl) (fun _ h => h) (fls_at hk) hdg kk
theorem sd_put (hx : Ctx E L xs p s m args meth c cc own nL ini) (hg : gwf L xs G) (hr : rep E G H) (hS : va_S (Av E) s.heap H locs) {a c0 idx : Nat} {k : Int} (hf : fres own idx = some (c0, k)) (ht : tg G a = c0) (hfi : (cT c0 k.toNat).2.2.2 = true → ini = true ∧ c0 = own) {v : Value} (hn : narrow (cY c0 k.toNat) v = v) (hfit : fits (cY c0 k.toNat) v = true)
    {G' : Hp} (hsz : sz G' = sz G) (he : ∀ b, b ≠ a → ent E G' b = ent E G b) (hea : ent E G' a = .inr (c0, (fls E G c0 a).set k.toNat v)) (hdg : decode cc pc = .ok (.putfield idx, 3))
    (kk : ∀ H' locs', rep E G' H' → va_S (Av E) s.heap H' locs' → W p l e R s m args below meth c H' locs' cells slots Q (F0 m (pc + 3) arr rest)) : W p l e R s m args below meth c H locs cells slots Q (F0 m pc arr (v :: .ref (adr E a) :: rest)) := by
  obtain ⟨hexec, hb, -, hown, hts, hK, -, -, hini⟩ := hx
  obtain ⟨hl, hc, -, hk⟩ := g_field hf
  obtain ⟨h1, h2⟩ := gwf_lt hg ht (by omega)
  have hP := rep_at hr h1 h2
  rw [ent_obj ht hc] at hP
  have hap := va_apart (own := cn own) hts (ws_ing hc) (cY c0) (ty_ok hc) (nm_ok hc) hK (cl_at hc)
  obtain ⟨r, hr1, cell, q1, q2, q3, q4⟩ := hP 0 _ rfl
  have hre : r = (cn c0, cT c0, cN c0) := Option.some.inj (hr1.symm.trans (cl_at hc))
  subst hre
  obtain ⟨hSl, hfc, kC, hkC, hkind⟩ := hK.1 c0 _ (cl_at hc)
  obtain ⟨cf, kf, fi, f, hi, hsl⟩ := hSl k.toNat hk
  have hst := (u_facts hfc hkC (u_lays hts (ws_ing hc) hk) hi).1
  have hdesc := ty_ok hc k.toNat hk
  have fin : ∀ H' : Heap, H'[adr E a]? = some (cell.setSlot f.slot v) → H'.size = H.size → (∀ q, q ≠ adr E a → H'[q]? = H[q]?) → W p l e R s m args below meth c H' (locs ++ [⟨adr E a, f.slot⟩]) cells slots Q (F0 m (pc + 3) arr rest) := by
    intro H' e1 e2 e3
    rw [hsl] at e1
    refine kk H' _ (rep_upd hr h1 hsz he ?_ e2 e3) (va_Sput hS h1 e2 e3)
    rw [hea]
    exact ⟨_, cl_at hc, t_OB.to (V := updV (vp_V (fls E G c0 a)) k.toNat v) ⟨_, e1, q2, q3, t_set q4 hap hk v⟩ (fun j _ => vp_updV_set (by rw [fls_len]; exact hk) v j)⟩
  have hlay := hts _ (ws_ing hc _ (u_in_lay hk))
  unfold u_lay at hlay
  by_cases hfin : (cT c0 k.toNat).2.2.2 = true
  · rw [if_pos hfin] at hlay
    obtain ⟨hi1, hi2⟩ := hfi hfin
    have hcf : m.cls = cf := by
      obtain ⟨_, _, c', _, _, _, -, -, hf', -, -, -, hown2, -⟩ := Cond.laysFinal_spec hlay
      have e1 : c' = cf := by have := hi.symm.trans hf'; simp at this; exact this.1.symm
      rw [own_ok c0 hc _ hk, hi2] at hown2
      rw [← e1]; exact Option.some.inj (hown.symm.trans hown2)
    exact W.putFinK hexec hb hown (hts _ hl) hi hst hcf (hini hi1) (by rw [q2]; exact u_fits hfc hkC hkind (Or.inr hlay) hi hdesc hn hfit) q1 q3 (by rw [hsl]; exact k2_hasslot (q4 k.toNat hk)) rfl rfl hdg fin
  · rw [if_neg hfin] at hlay
    exact W.putK hexec hb (f := f) ⟨hown, hts _ hl, ⟨_, _, _, hi⟩, hst⟩ (by rw [q2]; exact u_store hfc hkC hkind hlay hi hdesc hn hfit) q1 q3 (by rw [hsl]; exact k2_hasslot (q4 k.toNat hk)) rfl rfl hdg fin
theorem sd_iald (hx : Ctx E L xs p s m args meth c cc own nL ini) (hg : gwf L xs G) (hr : rep E G H) (hS : va_S (Av E) s.heap H locs) {a : Nat} {i : Int} (ht : tg G a = 20 ∨ tg G a = 30) (h0 : 0 ≤ i) (h1 : i < ln G a) (hdg : decode cc pc = .ok (.iaload, 1))
    (kk : W p l e R s m args below meth c H locs cells slots Q (F0 m (pc + 1) arr (.int (Int32.ofInt (iv G a i)) :: rest))) : W p l e R s m args below meth c H locs cells slots Q (F0 m pc arr (.int (Int32.ofInt i) :: .ref (adr E a) :: rest)) := by
  obtain ⟨hexec, hb, -, hown, hts, hK, ⟨hX, hbB, hBs⟩, -⟩ := hx
  have hln := (hg.2.2.2.2.2.2 a).2
  have hin : vp_in (Int32.ofInt i) (ln G a).toNat := ci_in h0 h1 hln
  have hnat : (Int32.ofInt i).toNatClampNeg = i.toNat := ci_nat ⟨h0, by omega⟩
  rcases ht with ht | ht
  · obtain ⟨g1, g2⟩ := gwf_lt hg ht (by omega)
    have hP := rep_at hr g1 g2
    rw [ent_int ht] at hP
    refine va_iald hexec hb hK hP 0 0 rfl rfl hin hdg ?_
    rw [hnat, show ((i.toNat : Nat) : Int) = i from by omega]
    exact kk
  · have ha := hg.2.2.1 a ht
    subst ha
    have hL : ln G 0 = (L : Int) := hg.2.2.2.1
    rw [hL] at hin
    refine va_sld (A := Av E) (b := E.1.2) hexec hb hX (by omega) (by unfold Av; omega) hS hin hdg ?_
    have hv := hg.2.2.2.2.1 i.toNat (by omega)
    rw [show ((i.toNat : Nat) : Int) = i from by omega] at hv
    rw [hnat, ← Int32.ofInt_toInt (xs i.toNat), ← hv]
    exact kk
theorem sd_alen (hx : Ctx E L xs p s m args meth c cc own nL ini) (hg : gwf L xs G) (hr : rep E G H) (hS : va_S (Av E) s.heap H locs) {a : Nat} (ht : tg G a = 20 ∨ tg G a = 30) (hdg : decode cc pc = .ok (.arraylength, 1))
    (kk : W p l e R s m args below meth c H locs cells slots Q (F0 m (pc + 1) arr (.int (Int32.ofInt (ln G a)) :: rest))) : W p l e R s m args below meth c H locs cells slots Q (F0 m pc arr (.ref (adr E a) :: rest)) := by
  obtain ⟨hexec, hb, -, hown, hts, hK, ⟨hX, hbB, hBs⟩, -⟩ := hx
  rcases ht with ht | ht
  · obtain ⟨g1, g2⟩ := gwf_lt hg ht (by omega)
    have hP := rep_at hr g1 g2
    rw [ent_int ht] at hP
    exact va_alen hexec hb hK hP 0 0 rfl rfl (ci_len (hg.2.2.2.2.2.2 a).1) hdg kk
  · have ha := hg.2.2.1 a ht
    subst ha
    refine va_slen (A := Av E) (b := E.1.2) hexec hb hX (by omega) (by unfold Av; omega) hS hdg ?_
    rw [← Int32.ofInt_eq_ofNat, ← hg.2.2.2.1]
    exact kk
theorem sd_aald (hx : Ctx E L xs p s m args meth c cc own nL ini) (hg : gwf L xs G) (hr : rep E G H) {a : Nat} {i : Int} (ht : tg G a = 21 ∨ tg G a = 22) (h0 : 0 ≤ i) (h1 : i < ln G a) (hdg : decode cc pc = .ok (.aaload, 1))
    (kk : W p l e R s m args below meth c H locs cells slots Q (F0 m (pc + 1) arr (va_rf ((rv G a i).map (adr E)) :: rest))) : W p l e R s m args below meth c H locs cells slots Q (F0 m pc arr (.int (Int32.ofInt i) :: .ref (adr E a) :: rest)) := by
  obtain ⟨hexec, hb, -, hown, hts, hK, -⟩ := hx
  have hln := (hg.2.2.2.2.2.2 a).2
  have hin : vp_in (Int32.ofInt i) (ln G a).toNat := ci_in h0 h1 hln
  have hnat : (Int32.ofInt i).toNatClampNeg = i.toNat := ci_nat ⟨h0, by omega⟩
  rcases ht with ht | ht
  · obtain ⟨g1, g2⟩ := gwf_lt hg ht (by omega)
    have hP := rep_at hr g1 g2
    rw [ent_call ht] at hP
    refine va_aldq hexec hb hK hP 0 1 rfl rfl hin hdg ?_
    rw [hnat, show ((i.toNat : Nat) : Int) = i from by omega]
    exact kk
  · obtain ⟨g1, g2⟩ := gwf_lt hg ht (by omega)
    have hP := rep_at hr g1 g2
    rw [ent_scene ht] at hP
    refine va_aldq hexec hb hK hP 0 2 rfl rfl hin hdg ?_
    rw [hnat, show ((i.toNat : Nat) : Int) = i from by omega]
    exact kk
theorem ent_si_ne (E : Ev) (G : Hp) {a b : Nat} (h : b ≠ a) (k v : Int) : ent E (si G a k v) b = ent E G b := ent_same rfl rfl (fun j => by rw [iv_si, if_neg (fun q => h q.1)]) (fun _ => rfl)
theorem ent_sr_ne (E : Ev) (G : Hp) {a b : Nat} (h : b ≠ a) (k : Int) (r : Option Nat) : ent E (sr G a k r) b = ent E G b := ent_same rfl rfl (fun _ => rfl) (fun j => by rw [rv_sr, if_neg (fun q => h q.1)])
theorem ent_cp_ne (E : Ev) (G : Hp) {a b d : Nat} (h : d ≠ b) (sp dp n : Int) : ent E (cp G a sp b dp n) d = ent E G d := ent_same rfl rfl (fun j => by rw [iv_cp, if_neg (fun q => h q.1)]) (fun _ => rfl)
theorem fls_si (E : Ev) (G : Hp) {c0 a : Nat} {k x : Int} (h0 : 0 ≤ k) (hk : k.toNat < cN c0) (hr : isR c0 k.toNat = false) : fls E (si G a k x) c0 a = (fls E G c0 a).set k.toNat (.int (Int32.ofInt x)) := by
  apply List.ext_getElem?
  intro j
  by_cases hj : j < cN c0
  · rw [fls_at hj]
    by_cases hjk : j = k.toNat
    · subst hjk
      rw [List.getElem?_set_self (by rw [fls_len]; exact hj)]
      unfold fv
      rw [if_neg (by rw [hr]; decide), iv_si, if_pos ⟨rfl, by omega⟩]
    · rw [List.getElem?_set_ne (Ne.symm hjk), fls_at hj]
      have hne : ¬ (j : Int) = k := fun q => hjk (by omega)
      unfold fv
      simp [iv_si, rv_si, hne]
  · rw [List.getElem?_eq_none (by rw [fls_len]; omega), List.getElem?_eq_none (by rw [List.length_set, fls_len]; omega)]
theorem fls_sr (E : Ev) (G : Hp) {c0 a : Nat} {k : Int} {r : Option Nat} (h0 : 0 ≤ k) (hk : k.toNat < cN c0) (hr : isR c0 k.toNat = true) : fls E (sr G a k r) c0 a = (fls E G c0 a).set k.toNat (va_rf (r.map (adr E))) := by
  apply List.ext_getElem?
  intro j
  by_cases hj : j < cN c0
  · rw [fls_at hj]
    by_cases hjk : j = k.toNat
    · subst hjk
      rw [List.getElem?_set_self (by rw [fls_len]; exact hj)]
      unfold fv
      rw [if_pos hr, rv_sr, if_pos ⟨rfl, by omega⟩]
    · rw [List.getElem?_set_ne (Ne.symm hjk), fls_at hj]
      have hne : ¬ (j : Int) = k := fun q => hjk (by omega)
      unfold fv
      simp [iv_sr, rv_sr, hne]
  · rw [List.getElem?_eq_none (by rw [fls_len]; omega), List.getElem?_eq_none (by rw [List.length_set, fls_len]; omega)]
theorem sd_iast (hx : Ctx E L xs p s m args meth c cc own nL ini) (hg : gwf L xs G) (hr : rep E G H) (hS : va_S (Av E) s.heap H locs) {a : Nat} {i x : Int} (ht : tg G a = 20) (h0 : 0 ≤ i) (h1 : i < ln G a) (hdg : decode cc pc = .ok (.iastore, 1))
    (kk : ∀ H' locs', rep E (si G a i x) H' → va_S (Av E) s.heap H' locs' → W p l e R s m args below meth c H' locs' cells slots Q (F0 m (pc + 1) arr rest)) : W p l e R s m args below meth c H locs cells slots Q (F0 m pc arr (.int (Int32.ofInt x) :: .int (Int32.ofInt i) :: .ref (adr E a) :: rest)) := by
  obtain ⟨hexec, hb, -, hown, hts, hK, -⟩ := hx
  have hln := (hg.2.2.2.2.2.2 a).2
  have hin : vp_in (Int32.ofInt i) (ln G a).toNat := ci_in h0 h1 hln
  have hnat : (Int32.ofInt i).toNatClampNeg = i.toNat := ci_nat ⟨h0, by omega⟩
  obtain ⟨g1, g2⟩ := gwf_lt hg ht (by omega)
  have hP := rep_at hr g1 g2
  rw [ent_int ht] at hP
  refine W.iast hexec hb (hP 0 _ rfl) ((hK.2 0 _ rfl).1 (ln G a).toNat (fun j => .int (Int32.ofInt (iv G a (j : Int))))) (fun q => by cases q) (by show ¬ (_ ∨ (arrV _ _ _).slots.size ≤ _); rw [arrV_size]; exact hin) rfl rfl hdg fun H' e1 e2 e3 => ?_
  refine kk H' _ (rep_upd hr g1 rfl (fun b hb => ent_si_ne E G hb _ _) ?_ e2 e3) (va_Sput hS g1 e2 e3)
  rw [ent_int (show tg (si G a i x) a = 20 from ht)]
  show H'[adr E a]? = some (vp_cell _ _)
  rw [e1, vp_cell_i, vp_cell_i, arrV_store]
  congr 2
  funext j
  unfold updV
  rw [hnat, iv_si]
  by_cases hj : j = i.toNat
  · rw [if_pos hj, if_pos ⟨rfl, by omega⟩]
  · rw [if_neg hj, if_neg (fun q => hj (by omega))]
theorem sd_aast (hx : Ctx E L xs p s m args meth c cc own nL ini) (hg : gwf L xs G) (hr : rep E G H) (hS : va_S (Av E) s.heap H locs) {a x : Nat} {i : Int} (ht : (tg G a = 21 ∧ tg G x = 1) ∨ (tg G a = 22 ∧ tg G x = 7)) (h0 : 0 ≤ i) (h1 : i < ln G a) (hdg : decode cc pc = .ok (.aastore, 1))
    (kk : ∀ H' locs', rep E (sr G a i (some x)) H' → va_S (Av E) s.heap H' locs' → W p l e R s m args below meth c H' locs' cells slots Q (F0 m (pc + 1) arr rest)) : W p l e R s m args below meth c H locs cells slots Q (F0 m pc arr (.ref (adr E x) :: .int (Int32.ofInt i) :: .ref (adr E a) :: rest)) := by
  obtain ⟨hexec, hb, -, hown, hts, hK, -⟩ := hx
  have hln := (hg.2.2.2.2.2.2 a).2
  have hnat : (Int32.ofInt i).toNatClampNeg = i.toNat := ci_nat ⟨h0, by omega⟩
  have hneg : ¬ Int32.ofInt i < 0 := ci_neg ⟨h0, by omega⟩
  have go : ∀ (cA c1 : Nat) (t0 : Nat) (C : ClassId), tg G a < 30 → tg G x = c1 → c1 < 11 → (tysv E)[t0]? = some (C, .object (cn c1)) → ent E G a = .inl (C, (ln G a).toNat, .inr (.inr (.inr (.inr (fun k => (rv G a (k : Int)).map (adr E)))))) → ent E (sr G a i (some x)) a = .inl (C, (ln G a).toNat, .inr (.inr (.inr (.inr (fun k => (rv (sr G a i (some x)) a (k : Int)).map (adr E)))))) → W p l e R s m args below meth c H locs cells slots Q (F0 m pc arr (.ref (adr E x) :: .int (Int32.ofInt i) :: .ref (adr E a) :: rest)) := by
    intro _ c1 t0 C hta htx hc1 hty hea hea'
    obtain ⟨g1, g2⟩ := gwf_lt hg rfl hta
    have hP := rep_at hr g1 g2
    rw [hea] at hP
    obtain ⟨x1, x2⟩ := gwf_lt hg htx (by omega)
    have hPx := rep_at hr x1 x2
    rw [ent_obj htx hc1] at hPx
    obtain ⟨r', hr', cellV, v1, v2, v3, -⟩ := hPx 0 _ rfl
    have hcls := (hK.1 c1 _ (cl_at hc1)).2
    obtain ⟨kA, comp, k1, k2, k3, -⟩ := (hK.2 t0 _ hty).2
    have hcomp : comp = (Dv E).1 c1 := Option.some.inj (k3.symm.trans hcls.1)
    subst hcomp
    obtain ⟨kC, hkC, -⟩ := hcls.2
    have hlt : i.toNat < (ln G a).toNat := by omega
    refine W.aast hexec hb (hP 0 _ rfl) (fun q h => by cases h) (fun h => by cases h) k1 k2 rfl hkC ⟨hneg, by show _ < (arrV _ _ _).slots.size; rw [arrV_size, hnat]; exact hlt⟩ v1 (fun q h => by rw [v3] at h; cases h) (by rw [v2]; exact hkC) (by rw [v2]; exact va_assign hcls) rfl rfl hdg fun H' e1 e2 e3 => ?_
    refine kk H' _ (rep_upd hr g1 rfl (fun b hb => ent_sr_ne E G hb _ _) ?_ e2 e3) (va_Sput hS g1 e2 e3)
    rw [hea']
    show H'[adr E a]? = some (vp_cell _ _)
    rw [e1, vp_cell_q, vp_cell_q, arrV_store]
    congr 2
    funext j
    unfold updV
    rw [hnat, rv_sr]
    by_cases hj : j = i.toNat
    · rw [if_pos hj, if_pos ⟨rfl, by omega⟩]; rfl
    · rw [if_neg hj, if_neg (fun q => hj (by omega))]
  rcases ht with ⟨h2, h3⟩ | ⟨h2, h3⟩
  · exact go 0 1 1 E.2.1.2.1 (by omega) h3 (by omega) rfl (ent_call h2) (ent_call (G := sr G a i (some x)) h2)
  · exact go 0 7 2 E.2.1.2.2 (by omega) h3 (by omega) rfl (ent_scene h2) (ent_scene (G := sr G a i (some x)) h2)
theorem ent_nw_old (E : Ev) (G : Hp) {b : Nat} (h : b ≤ sz G) (t w : Nat) (n : Int) : ent E (nw G t n w) b = ent E G b := ent_same (by rw [tg_nw, if_neg (by omega)]) (by rw [ln_nw, if_neg (by omega)]) (fun j => by rw [iv_nw, if_neg (by omega)]) (fun j => by rw [rv_nw, if_neg (by omega)])
theorem va_Snew (hS : va_S (Av E) s.heap H locs) {H' : Heap} (z : H'.size = H.size + 1) (oq : ∀ q : Nat, q < H.size → H'[q]? = H[q]?) : va_S (Av E) s.heap H' locs :=
  ⟨Nat.le_trans hS.1 (by omega), fun q h1 h2 => (oq q (Nat.lt_of_lt_of_le h1 hS.1)).trans (hS.2.1 q h1 h2), hS.2.2⟩
theorem sd_newarr (hx : Ctx E L xs p s m args meth c cc own nL ini) (hr : rep E G H) (hS : va_S (Av E) s.heap H locs) {n : Int} (h0 : 0 ≤ n ∧ n ≤ 100000) (hcells : cells + 1 ≤ R.cells) (hslots : slots + n.toNat ≤ R.slots) (hdg : decode cc pc = .ok (.newarray .int, 2))
    (kk : ∀ H', rep E (nw G 20 n n.toNat) H' → va_S (Av E) s.heap H' locs → W p l e R s m args below meth c H' locs (cells + 1) (slots + n.toNat) Q (F0 m (pc + 2) arr (.ref (adr E (sz G + 1)) :: rest))) : W p l e R s m args below meth c H locs cells slots Q (F0 m pc arr (.int (Int32.ofInt n) :: rest)) := by
  obtain ⟨hexec, hb, -, hown, hts, hK, -⟩ := hx
  have hnat : (Int32.ofInt n).toNatClampNeg = n.toNat := ci_nat ⟨h0.1, by omega⟩
  refine va_newaK (atype := .int) hexec hb (hts _ (in_g w_ac rfl)) rfl hdg rfl (ci_neg ⟨h0.1, by omega⟩) hnat (by show n.toNat * 4 ≤ _; omega) hcells hslots hr.1 fun H' cA e1 z o1 hAr hNm => ?_
  have hcA : cA = E.2.1.1 := by
    have h2 : s.vm.findClass ("[" ++ FieldType.int.toString) = some E.2.1.1 := (hK.2 0 _ rfl).2
    exact Option.some.inj (hNm.symm.trans h2)
  subst hcA
  rw [← hr.1] at z o1
  rw [← adr_new E G]
  refine kk H' (rep_new hr rfl (fun b hb => ent_nw_old E G hb _ _ _) ?_ z o1) (va_Snew hS z o1)
  rw [ent_int (by rw [tg_nw, if_pos rfl])]
  show H'[E.1.1 + sz G]? = some (vp_cell _ _)
  rw [e1, vp_cell_i]
  have hl : ln (nw G 20 n n.toNat) (sz G + 1) = n := by rw [ln_nw, if_pos rfl]
  rw [hl]
  congr 2
  funext j
  rw [iv_nw, if_pos rfl]
  rfl
theorem sd_anew (hx : Ctx E L xs p s m args meth c cc own nL ini) (hr : rep E G H) (hS : va_S (Av E) s.heap H locs) {n : Int} {k c1 t : Nat} (hk : nres own k = some c1) (hct : (c1 = 1 ∧ t = 21) ∨ (c1 = 7 ∧ t = 22)) (h0 : 0 ≤ n ∧ n ≤ 100000) (hcells : cells + 1 ≤ R.cells) (hslots : slots + n.toNat ≤ R.slots) (hdg : decode cc pc = .ok (.anewarray k, 3))
    (kk : ∀ H', rep E (nw G t n n.toNat) H' → va_S (Av E) s.heap H' locs → W p l e R s m args below meth c H' locs (cells + 1) (slots + n.toNat) Q (F0 m (pc + 3) arr (.ref (adr E (sz G + 1)) :: rest))) : W p l e R s m args below meth c H locs cells slots Q (F0 m pc arr (.int (Int32.ofInt n) :: rest)) := by
  obtain ⟨hexec, hb, -, hown, hts, hK, -, ⟨-, hAO1, hAO7⟩, -⟩ := hx
  have hnat : (Int32.ofInt n).toNatClampNeg = n.toNat := ci_nat ⟨h0.1, by omega⟩
  obtain ⟨hl, hc⟩ := g_new hk
  have hao : va_AO (cn c1) s := by rcases hct with ⟨rfl, -⟩ | ⟨rfl, -⟩ <;> assumption
  refine W.anew hexec hb hown (hts _ hl) (va_AO.use hao) rfl hdg rfl (ci_neg ⟨h0.1, by omega⟩) (by rw [hnat]; omega) hcells (by rw [hnat]; exact hslots) fun cA kA comp f1 f2 f3 f4 => ?_
  rw [hnat, hr.1]
  generalize hH' : H.push ({ cls := cA, slots := Array.replicate n.toNat .null, vm := .none } : Cell) = H'
  have z : H'.size = H.size + 1 := by rw [← hH', Array.size_push]
  have e1 : H'[H.size]? = some (arrV cA n.toNat (fun _ => .null)) := by rw [← hH', Array.getElem?_push_size, ← arrV_new]
  have o1 : ∀ q : Nat, q < H.size → H'[q]? = H[q]? := fun q hq => by rw [← hH', Array.getElem?_push, if_neg (Nat.ne_of_lt hq)]
  rw [← adr_new E G]
  refine kk H' (rep_new hr rfl (fun b hb => ent_nw_old E G hb _ _ _) ?_ z o1) (va_Snew hS z o1)
  have hl2 : ln (nw G t n n.toNat) (sz G + 1) = n := by rw [ln_nw, if_pos rfl]
  have hrv : (fun k : Nat => (rv (nw G t n n.toNat) (sz G + 1) (k : Int)).map (adr E)) = fun _ => none := by
    funext j; rw [rv_nw, if_pos rfl]; rfl
  rcases hct with ⟨rfl, rfl⟩ | ⟨rfl, rfl⟩
  · have hcA : cA = E.2.1.2.1 := by
      obtain ⟨_, _, -, -, -, h2⟩ := (hK.2 1 _ rfl).2
      exact Option.some.inj (f1.symm.trans h2)
    subst hcA
    rw [ent_call (by rw [tg_nw, if_pos rfl]), hl2, hrv]
    show H'[E.1.1 + sz G]? = some (vp_cell _ _)
    rw [← hr.1, e1, vp_cell_q]
    rfl
  · have hcA : cA = E.2.1.2.2 := by
      obtain ⟨_, _, -, -, -, h2⟩ := (hK.2 2 _ rfl).2
      exact Option.some.inj (f1.symm.trans h2)
    subst hcA
    rw [ent_scene (by rw [tg_nw, if_pos rfl]), hl2, hrv]
    show H'[E.1.1 + sz G]? = some (vp_cell _ _)
    rw [← hr.1, e1, vp_cell_q]
    rfl
theorem dflt_fv (E : Ev) (G : Hp) {c0 : Nat} (hc : c0 < 11) {w : Nat} {k : Nat} (hk : k < cN c0) : defaultValue (cY c0 k) = fv E (nw G c0 0 w) c0 (sz G + 1) k := by
  unfold fv
  rw [rv_nw, if_pos rfl, iv_nw, if_pos rfl]
  unfold isR
  rcases cY_kinds c0 hc k hk with h | h | ⟨C, h⟩ | ⟨t, h⟩ <;> rw [h] <;> rfl
theorem sd_new (hx : Ctx E L xs p s m args meth c cc own nL ini) (hr : rep E G H) (hS : va_S (Av E) s.heap H locs) {k c1 : Nat} (hk : nres own k = some c1) (hcells : cells + 1 ≤ R.cells) (hslots : slots + cN c1 ≤ R.slots) (hdg : decode cc pc = .ok (.new k, 3))
    (kk : ∀ H', rep E (nw G c1 0 (cN c1)) H' → va_S (Av E) s.heap H' locs → W p l e R s m args below meth c H' locs (cells + 1) (slots + cN c1) Q (F0 m (pc + 3) arr (.ref (adr E (sz G + 1)) :: rest))) : W p l e R s m args below meth c H locs cells slots Q (F0 m pc arr rest) := by
  obtain ⟨hexec, hb, -, hown, hts, hK, -⟩ := hx
  obtain ⟨hl, hc⟩ := g_new hk
  have hKn := hK.1 c1 _ (cl_at hc)
  refine W.newcK hexec hb hown (hts _ hl) (hts _ (g_inst hc)) (hts _ (g_init hc)) rfl hdg hcells hslots hKn.2.1 hr.1 fun H' kC hkC e1 z o1 => ?_
  rw [← hr.1] at z o1
  rw [← adr_new E G]
  refine kk H' (rep_new hr rfl (fun b hb => ent_nw_old E G hb _ _ _) ?_ z o1) (va_Snew hS z o1)
  rw [ent_obj (c := c1) (by rw [tg_nw, if_pos rfl]) hc]
  refine ⟨_, cl_at hc, t_OB.to (u_born (cY c1) hts (ws_ing hc) hKn hkC e1 (ty_ok hc)) (fun j hj => ?_)⟩
  rw [fls_V hj]
  exact dflt_fv E G hc hj
theorem sd_copy (hx : Ctx E L xs p s m args meth c cc own nL ini) (hg : gwf L xs G) (hr : rep E G H) (hS : va_S (Av E) s.heap H locs) (hsz : arr.size = nL) {idx z a b : Nat} {sp dp n : Int} (hl : lres own idx = some (901, z)) (hz : z = 0) (t1 : tg G a = 20) (t2 : tg G b = 20) (h1 : 0 ≤ sp) (h2 : 0 ≤ dp) (h3 : 0 ≤ n) (h4 : sp + n ≤ ln G a) (h5 : dp + n ≤ ln G b) (hframes : 1 ≤ R.frames) (hlocals : (rest.map fun v => v.category).sum + (nativeFrameWords "java/lang/System" "arraycopy" 5 + 11) ≤ R.locals) (hdg : decode cc pc = .ok (.invokestatic idx, 3))
    (kk : ∀ H' locs', rep E (cp G a sp b dp n) H' → va_S (Av E) s.heap H' locs' → W p l e R s m args below meth c H' locs' cells slots Q (F0 m (pc + 3) arr rest)) : W p l e R s m args below meth c H locs cells slots Q (F0 m pc arr (.int (Int32.ofInt n) :: .int (Int32.ofInt dp) :: .ref (adr E b) :: .int (Int32.ofInt sp) :: .ref (adr E a) :: rest)) := by
  obtain ⟨hexec, hb, hml, hown, hts, hK, -⟩ := hx
  have la := (hg.2.2.2.2.2.2 a).2
  have lb := (hg.2.2.2.2.2.2 b).2
  have hlink : (Cond.methodLink (cn own) idx arraycopyName).before args s = true := by
    have h := (g_link hl).1
    rw [hz] at h
    exact hts _ (in_g h rfl)
  obtain ⟨a1, a2⟩ := gwf_lt hg t1 (by omega)
  obtain ⟨b1, b2⟩ := gwf_lt hg t2 (by omega)
  have hPa := rep_at hr a1 a2
  rw [ent_int t1] at hPa
  have hPb := rep_at hr b1 b2
  rw [ent_int t2] at hPb
  have nsp : (Int32.ofInt sp).toNatClampNeg = sp.toNat := ci_nat ⟨h1, by omega⟩
  have ndp : (Int32.ofInt dp).toNatClampNeg = dp.toNat := ci_nat ⟨h2, by omega⟩
  have nn : (Int32.ofInt n).toNatClampNeg = n.toNat := ci_nat ⟨h3, by omega⟩
  have esp : (Int32.ofInt sp).toInt = sp := ci_to ⟨by omega, by omega⟩
  have edp : (Int32.ofInt dp).toInt = dp := ci_to ⟨by omega, by omega⟩
  have en : (Int32.ofInt n).toInt = n := ci_to ⟨by omega, by omega⟩
  intro T hT X
  have hc0 : H[adr E a]? = some (vp_cell E.2.1.1 ((ln G a).toNat, .inl (fun k => Int32.ofInt (iv G a (k : Int))))) := hPa 0 _ rfl
  have hc1 : H[adr E b]? = some (vp_cell E.2.1.1 ((ln G b).toNat, .inl (fun k => Int32.ofInt (iv G b (k : Int))))) := hPb 0 _ rfl
  obtain ⟨-, k0, hk0, cm0, hkk0⟩ := (hK.2 0 _ rfl).1 (ln G a).toNat (fun j => .int (Int32.ofInt (iv G a (j : Int))))
  obtain ⟨-, k1, hk1, cm1, hkk1⟩ := (hK.2 0 _ rfl).1 (ln G b).toNat (fun j => .int (Int32.ofInt (iv G b (j : Int))))
  obtain ⟨vm', X', step⟩ := X.arraycopy hexec hown hlink (hts _ (in_g w_nat rfl)) (hts _ (in_g w_sta rfl)) (hts _ (in_g w_isy rfl)) (src := adr E a) (dst := adr E b) (cs := vp_cell E.2.1.1 ((ln G a).toNat, .inl (fun k => Int32.ofInt (iv G a (k : Int))))) (cd := vp_cell E.2.1.1 ((ln G b).toNat, .inl (fun k => Int32.ofInt (iv G b (k : Int))))) (srcPos := Int32.ofInt sp) (destPos := Int32.ofInt dp) (n := Int32.ofInt n) (by rw [hT]; exact hc0) (by rw [hT]; exact hc1)
    (fun _ h => by cases h) (fun _ h => by cases h) (fun h => by cases h) (fun h => by cases h) hk0 hk1 hkk0 hkk1 (by simp [refKind]) (ci_neg ⟨h1, by omega⟩) (ci_neg ⟨h2, by omega⟩) (ci_neg ⟨h3, by omega⟩)
    (by rw [esp, en]; show ¬ _ > ((arrV _ _ _).slots.size : Int); rw [arrV_size]; omega)
    (by rw [edp, en]; show ¬ _ > ((arrV _ _ _).slots.size : Int); rw [arrV_size]; omega)
    (fun vm₁ _ i hi => by
      rw [nn] at hi
      have ee : (vp_cell E.2.1.1 ((ln G a).toNat, .inl (fun k => Int32.ofInt (iv G a (k : Int))))).slots.getD ((Int32.ofInt sp).toNatClampNeg + i) .null = .int (Int32.ofInt (iv G a ((sp.toNat + i : Nat) : Int))) := by
        show (arrV _ _ _).slots.getD _ _ = _
        rw [nsp, Array.getD_eq_getD_getElem?, arrV_read _ _ (by omega)]
        rfl
      refine ⟨?_, ?_⟩
      · rw [ee]; rfl
      · rw [ee]; exact trivial)
    (g := F0 m pc arr (.int (Int32.ofInt n) :: .int (Int32.ofInt dp) :: .ref (adr E b) :: .int (Int32.ofInt sp) :: .ref (adr E a) :: rest)) rfl (by show arr.size = _; rw [hml]; exact hsz) (rest := rest) rfl (by rw [hb]; exact hdg) hframes (by show 2 * 0 + _ + _ ≤ _; omega)
  have e1 : copied (vp_cell E.2.1.1 ((ln G a).toNat, .inl (fun k => Int32.ofInt (iv G a (k : Int))))) (vp_cell E.2.1.1 ((ln G b).toNat, .inl (fun k => Int32.ofInt (iv G b (k : Int))))) (Int32.ofInt sp) (Int32.ofInt dp) (Int32.ofInt n) = vp_cell E.2.1.1 ((ln G b).toNat, .inl (va_cpy (fun k => Int32.ofInt (iv G a (k : Int))) (fun k => Int32.ofInt (iv G b (k : Int))) sp.toNat dp.toNat n.toNat)) := by
    have h := va_copied (fun z => Value.int z) E.2.1.1 E.2.1.1 (n0 := (ln G a).toNat) (n1 := (ln G b).toNat) (sp := sp.toNat) (dp := dp.toNat) (n := n.toNat) (fun k => Int32.ofInt (iv G a (k : Int))) (fun k => Int32.ofInt (iv G b (k : Int))) (by omega)
    rw [← nsp, ← ndp, ← nn] at h ⊢
    exact h
  rw [e1] at X' step
  have hlt : adr E b < H.size := (Array.getElem?_eq_some_iff.mp hc1).1
  generalize hH' : H.setIfInBounds (adr E b) (vp_cell E.2.1.1 ((ln G b).toNat, .inl (va_cpy (fun k => Int32.ofInt (iv G a (k : Int))) (fun k => Int32.ofInt (iv G b (k : Int))) sp.toNat dp.toNat n.toNat))) = H'
  have hheap : ((T.setVm vm').setCell (adr E b) (vp_cell E.2.1.1 ((ln G b).toNat, .inl (va_cpy (fun k => Int32.ofInt (iv G a (k : Int))) (fun k => Int32.ofInt (iv G b (k : Int))) sp.toNat dp.toNat n.toNat)))).heap = H' := by rw [← hH', ← hT]; rfl
  have oq : ∀ q : Nat, q ≠ adr E b → H'[q]? = H[q]? := fun q hq => by rw [← hH']; simp [Array.getElem?_setIfInBounds, Ne.symm hq]
  have hat : H'[adr E b]? = some (vp_cell E.2.1.1 ((ln G b).toNat, .inl (va_cpy (fun k => Int32.ofInt (iv G a (k : Int))) (fun k => Int32.ofInt (iv G b (k : Int))) sp.toNat dp.toNat n.toNat))) := by rw [← hH']; simp [Array.getElem?_setIfInBounds, hlt]
  have zz : H'.size = H.size := by rw [← hH']; simp
  have hAb : Av E (adr E b) := by rw [adr_pos E b1]; exact Nat.le_add_right _ _
  obtain ⟨t, s1, s2⟩ := kk H' _ (rep_upd hr b1 rfl (fun d hd => ent_cp_ne E G hd _ _ _) (by
      rw [ent_int (show tg (cp G a sp b dp n) b = 20 from t2)]
      show H'[adr E b]? = some (vp_cell _ _)
      rw [hat]
      congr 3
      congr 1
      funext j
      unfold va_cpy
      rw [iv_cp]
      by_cases hj : dp.toNat ≤ j ∧ j < dp.toNat + n.toNat
      · rw [if_pos hj, if_pos ⟨rfl, by omega, by omega⟩]
        show Int32.ofInt (iv G a ((sp.toNat + (j - dp.toNat) : Nat) : Int)) = _
        rw [show ((sp.toNat + (j - dp.toNat) : Nat) : Int) = sp + ((j : Int) - dp) from by omega]
      · rw [if_neg hj, if_neg (fun q => hj ⟨by omega, by omega⟩)]) zz oq) ⟨by rw [zz]; exact hS.1, fun q g1 g2 => by
      rw [oq q (fun e => g2 (by rw [e]; exact hAb))]
      exact hS.2.1 q g1 g2, fun q hq => by
      rcases List.mem_append.mp hq with h | h
      · exact hS.2.2 q h
      · obtain ⟨y, -, hy⟩ := List.mem_map.mp h
        rw [← hy]
        exact hAb⟩ _ hheap X'
  exact ⟨t, step t s1, s2⟩
end SD
