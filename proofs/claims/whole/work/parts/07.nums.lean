/-! Numbers: Int32 and Int64 against whole numbers -/
theorem ci_wr (z : Int) : Int32.ofInt (wr z) = Int32.ofInt z := by
  apply Int32.toInt_inj.mp
  simp only [Int32.toInt_ofInt, wr]
  show (z.bmod 4294967296).bmod 4294967296 = z.bmod 4294967296
  rw [Int.bmod_bmod]
theorem cl_wl (z : Int) : Int64.ofInt (wl z) = Int64.ofInt z := by
  apply Int64.toInt_inj.mp
  simp only [Int64.toInt_ofInt, wl]
  show (z.bmod 18446744073709551616).bmod 18446744073709551616 = z.bmod 18446744073709551616
  rw [Int.bmod_bmod]
theorem ci_to {x : Int} (h : i32 x) : (Int32.ofInt x).toInt = x := Int32.toInt_ofInt_of_le (by have := h.1; omega) (by have := h.2; omega)
theorem cl_to {x : Int} (h : i64 x) : (Int64.ofInt x).toInt = x := Int64.toInt_ofInt_of_le (by have := h.1; omega) (by have := h.2; omega)
theorem to_i32 (z : Int32) : i32 z.toInt := ⟨by have := z.le_toInt; omega, by have := z.toInt_lt; omega⟩
theorem wl_i64 (x : Int) : i64 (wl x) := by
  unfold i64 wl; rw [Int.bmod_def]; split <;> omega
theorem ci_lt {x y : Int} (hx : i32 x) (hy : i32 y) : Int32.ofInt x < Int32.ofInt y ↔ x < y := by rw [Int32.lt_iff_toInt_lt, ci_to hx, ci_to hy]
theorem ci_le {x y : Int} (hx : i32 x) (hy : i32 y) : Int32.ofInt x ≤ Int32.ofInt y ↔ x ≤ y := by rw [Int32.le_iff_toInt_le, ci_to hx, ci_to hy]
theorem ci_eq {x y : Int} (hx : i32 x) (hy : i32 y) : Int32.ofInt x = Int32.ofInt y ↔ x = y := by rw [← Int32.toInt_inj, ci_to hx, ci_to hy]
theorem cl_lt {x y : Int} (hx : i64 x) (hy : i64 y) : Int64.ofInt x < Int64.ofInt y ↔ x < y := by rw [Int64.lt_iff_toInt_lt, cl_to hx, cl_to hy]
theorem cl_eq {x y : Int} (hx : i64 x) (hy : i64 y) : Int64.ofInt x = Int64.ofInt y ↔ x = y := by rw [← Int64.toInt_inj, cl_to hx, cl_to hy]
theorem i32_0 : i32 0 := by unfold i32; omega
theorem ci_0 : Int32.ofInt 0 = 0 := by decide
theorem ci_div {x y : Int} (hx : i32 x) (hy : i32 y) : Int32.ofInt x / Int32.ofInt y = Int32.ofInt (wr (x.tdiv y)) := by
  rw [ci_wr]
  apply Int32.toInt_inj.mp
  rw [Int32.toInt_div, ci_to hx, ci_to hy, Int32.toInt_ofInt]
theorem ci_rem {x y : Int} (hx : i32 x) (hy : i32 y) : Int32.ofInt x - Int32.ofInt x / Int32.ofInt y * Int32.ofInt y = Int32.ofInt (x.tmod y) := by
  rw [ci_div hx hy, ci_wr, ← Int32.ofInt_mul, ← Int32.ofInt_sub]
  congr 1
  have := Int.mul_tdiv_add_tmod x y
  rw [Int.mul_comm] at this
  omega
theorem emod_le_self {x : Int} (h : 0 ≤ x) (m : Nat) : x % (m : Int) ≤ x := by
  obtain ⟨n, rfl⟩ := Int.eq_ofNat_of_zero_le h
  rw [← Int.natCast_emod]
  have := Nat.mod_le n m
  omega
theorem tmod_lt {x y : Int} {M : Int} (hx : -M ≤ x ∧ x < M) : -M ≤ x.tmod y ∧ x.tmod y < M := by
  rcases Int.le_total 0 x with h | h
  · have h1 := Int.tmod_nonneg y h
    have h2 : x.tmod y ≤ x := by
      rcases Int.natAbs_eq y with e | e
      · rw [e, Int.tmod_eq_emod_of_nonneg h]; exact emod_le_self h _
      · rw [e, Int.tmod_neg, Int.tmod_eq_emod_of_nonneg h]; exact emod_le_self h _
    omega
  · have h1 : 0 ≤ (-x).tmod y := Int.tmod_nonneg y (by omega)
    have h2 : (-x).tmod y ≤ -x := by
      rcases Int.natAbs_eq y with e | e
      · rw [e, Int.tmod_eq_emod_of_nonneg (by omega)]; exact emod_le_self (by omega) _
      · rw [e, Int.tmod_neg, Int.tmod_eq_emod_of_nonneg (by omega)]; exact emod_le_self (by omega) _
    rw [Int.neg_tmod] at h1 h2
    omega
theorem cl_rem {x y : Int} (hx : i64 x) (hy : i64 y) : Int64.ofInt x - Int64.ofInt x / Int64.ofInt y * Int64.ofInt y = Int64.ofInt (x.tmod y) := by
  have hd : Int64.ofInt x / Int64.ofInt y = Int64.ofInt (x.tdiv y) := by
    apply Int64.toInt_inj.mp
    rw [Int64.toInt_div, cl_to hx, cl_to hy, Int64.toInt_ofInt]
  rw [hd, ← Int64.ofInt_mul, ← Int64.ofInt_sub]
  congr 1
  have := Int.mul_tdiv_add_tmod x y
  rw [Int.mul_comm] at this
  omega
theorem ci_i2l {x : Int} (h : i32 x) : (Int32.ofInt x).toInt64 = Int64.ofInt x := by
  apply Int64.toInt_inj.mp
  have h64 : i64 x := ⟨by have := h.1; omega, by have := h.2; omega⟩
  rw [Int32.toInt_toInt64, ci_to h, cl_to h64]
theorem cl_l2i {x : Int} (h : i64 x) : (Int64.ofInt x).toInt32 = Int32.ofInt (wr x) := by
  apply Int32.toInt_inj.mp
  rw [Int64.toInt_toInt32, cl_to h, ci_wr, Int32.toInt_ofInt]
theorem ci_b {n : Int} (h : -128 ≤ n ∧ n ≤ 127) : (Int8.ofInt n).toInt32 = Int32.ofInt n := by
  apply Int32.toInt_inj.mp
  rw [Int8.toInt_toInt32, Int8.toInt_ofInt_of_le (by omega) (by omega), ci_to ⟨by omega, by omega⟩]
theorem ci_s {n : Int} (h : -32768 ≤ n ∧ n ≤ 32767) : (Int16.ofInt n).toInt32 = Int32.ofInt n := by
  apply Int32.toInt_inj.mp
  rw [Int16.toInt_toInt32, Int16.toInt_ofInt_of_le (by omega) (by omega), ci_to ⟨by omega, by omega⟩]
theorem ci_nat {x : Int} (h : 0 ≤ x ∧ x < 2147483648) : (Int32.ofInt x).toNatClampNeg = x.toNat := by
  rw [Int32.toNatClampNeg_ofInt_of_le (by omega) (by omega)]
theorem ci_in {i n : Int} (h0 : 0 ≤ i) (h1 : i < n) (hn : n ≤ 100000) : vp_in (Int32.ofInt i) n.toNat := by
  unfold vp_in
  rw [ci_nat ⟨h0, by omega⟩]
  have : ¬ Int32.ofInt i < 0 := by rw [← ci_0, ci_lt ⟨by omega, by omega⟩ i32_0]; omega
  rintro (h | h)
  · exact this h
  · omega
theorem ci_len {n : Int} (h : 0 ≤ n) : Int32.ofNat n.toNat = Int32.ofInt n := by
  rw [← Int32.ofInt_eq_ofNat]; congr 1; omega
theorem ci_neg {n : Int} (h : 0 ≤ n ∧ n < 2147483648) : ¬ Int32.ofInt n < 0 := by rw [← ci_0, ci_lt ⟨by omega, by omega⟩ i32_0]; omega
theorem cl_cmp {x y : Int} (hx : i64 x) (hy : i64 y) : lg_cmp (Int64.ofInt x) (Int64.ofInt y) = Int32.ofInt (if x < y then -1 else if x = y then 0 else 1) := by
  unfold lg_cmp
  split <;> split <;> (try split) <;> simp_all [cl_lt hx hy, cl_eq hx hy, cl_lt hy hx] <;> first | rfl | omega
theorem lc_nat (n : Fin 2) : Int64.ofNat (n : Nat) = Int64.ofInt ((n : Nat) : Int) := Int64.ofInt_eq_ofNat.symm
