/-! Pure: what is made by itself is what would be made now -/
theorem mk_fr {P : Pg} (hP : Pok P) {c : Int → Int} (hc : Cok c) {f x : Int} (f0 : 0 ≤ f) (f1 : f < P.2.2) (x0 : 0 ≤ x) (x1 : x ≤ 996) (κ : Kt) : zap 6 (mkT P c 5 f x κ).1 = fr P c 5 f x := by
  have h := ((pb_all hP hc hc 5).2 f x κ (κ.1, 0, 0) f0 f1 x0 x1 rfl).1
  rw [h, zap_upT, zap_fr hP hc 5 f x f0 f1 x0 x1]
theorem mk_nV {P : Pg} (hP : Pok P) {c : Int → Int} (hc : Cok c) {f x : Int} (f0 : 0 ≤ f) (f1 : f < P.2.2) (x0 : 0 ≤ x) (x1 : x ≤ 996) (κ : Kt) : nV (rt 6 (mkT P c 5 f x κ).1) = nV (rt 6 (fr P c 5 f x)) := by
  rw [← mk_fr hP hc f0 f1 x0 x1 κ, zap_rt]; rfl
theorem fq4_zap (d : Nat) (n : Int) (t : Tr d) : fq4 d n (zap d t) = fq4 d n t := by
  unfold fq4; rw [flat_zap, List.map_map]; rfl
theorem mk_tsz {P : Pg} (hP : Pok P) {c : Int → Int} (hc : Cok c) {f x : Int} (f0 : 0 ≤ f) (f1 : f < P.2.2) (x0 : 0 ≤ x) (x1 : x ≤ 996) (κ : Kt) : tsz 6 (mkT P c 5 f x κ).1 = tsz 6 (fr P c 5 f x) := by
  rw [← mk_fr hP hc f0 f1 x0 x1 κ, ← flat_len 6 1, ← flat_len 6 1, flat_zap, List.length_map]
