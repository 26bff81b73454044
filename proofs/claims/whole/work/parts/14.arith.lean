/-! numbers -/
theorem i32e {x y : Int32} : (x = y) = (x.toInt = y.toInt) := propext Int32.toInt_inj.symm
theorem i64e {x y : Int64} : (x = y) = (x.toInt = y.toInt) := propext Int64.toInt_inj.symm
theorem vpi {x : Int32} {n : Nat} (h : 0 ≤ x.toInt ∧ x.toInt < (n : Int)) : vp_in x n := vp_in_iff.mpr h
theorem ci_nI {n : Nat} (h : n < 2 ^ 31) : ci (nI n) = n := nI_clamp h
theorem ci_int {x : Int32} (h : 0 ≤ x.toInt) : (ci x : Int) = x.toInt := by
  show ((x.toInt.toNat : Nat) : Int) = x.toInt
  omega
theorem ci_e {x : Int32} (h : 0 ≤ x.toInt) : x = nI (ci x) := by
  obtain ⟨j, h1, h2⟩ := nI_of (x := x) (fun q => by rw [Int32.lt_iff_toInt_lt] at q; have : (0 : Int32).toInt = 0 := rfl; omega)
  rw [h2, ci_nI h1]
theorem ci_lt {x : Int32} {n : Nat} (h : isx x n) : ci x < n := by
  have := ci_int h.1
  have := h.2
  omega
theorem J_n.t {v : Int32} {b : Nat} (h : J_n v b) (hb : b < 2 ^ 31 := by decide) : v.toInt = (ci v : Int) := by
  have := h.2
  rw [h.1, nI_toInt (by omega), ci_nI (by omega)]
theorem J_n.s {v : Int32} {b : Nat} (h : J_n v b) : v + 1 = nI (ci v + 1) := by
  rw [← nI_1, ← h.1]
theorem nI_mul (a b : Nat) : nI a * nI b = nI (a * b) := (Int32.ofNat_mul a b).symm
theorem ix60 (s i : Nat) : (60 : Int32) * nI s + nI i = nI (60 * s + i) := by
  rw [show (60 : Int32) = nI 60 from rfl, nI_mul, nI_add]
theorem ix32 (s i : Nat) : (32 : Int32) * nI s + nI i = nI (32 * s + i) := by
  rw [show (32 : Int32) = nI 32 from rfl, nI_mul, nI_add]
theorem l_ge {a b : Int} {n : Nat} (h : a.bmod n = a) (h2 : b = a) : b.bmod n = a := by rw [h2, h]
theorem ofInt32 {z : Int} (h1 : -2147483648 ≤ z) (h2 : z ≤ 2147483647) : (Int32.ofInt z).toInt = z := by
  rw [Int32.toInt_ofInt]
  show z.bmod 4294967296 = z
  unfold Int.bmod
  simp only []
  split <;> omega
theorem add64 {x y : Int64} (h1 : -9223372036854775808 ≤ x.toInt + y.toInt) (h2 : x.toInt + y.toInt ≤ 9223372036854775807) : (x + y).toInt = x.toInt + y.toInt := by
  rw [Int64.toInt_add]
  show (x.toInt + y.toInt).bmod 18446744073709551616 = _
  unfold Int.bmod
  simp only []
  split <;> omega
theorem sub64 {x y : Int64} (h1 : -9223372036854775808 ≤ x.toInt - y.toInt) (h2 : x.toInt - y.toInt ≤ 9223372036854775807) : (x - y).toInt = x.toInt - y.toInt := by
  rw [Int64.toInt_sub]
  show (x.toInt - y.toInt).bmod 18446744073709551616 = _
  unfold Int.bmod
  simp only []
  split <;> omega
theorem add32 {x y : Int32} (h1 : -2147483648 ≤ x.toInt + y.toInt) (h2 : x.toInt + y.toInt ≤ 2147483647) : (x + y).toInt = x.toInt + y.toInt := by
  rw [Int32.toInt_add]
  show (x.toInt + y.toInt).bmod 4294967296 = _
  unfold Int.bmod
  simp only []
  split <;> omega
theorem sub32 {x y : Int32} (h1 : -2147483648 ≤ x.toInt - y.toInt) (h2 : x.toInt - y.toInt ≤ 2147483647) : (x - y).toInt = x.toInt - y.toInt := by
  rw [Int32.toInt_sub]
  show (x.toInt - y.toInt).bmod 4294967296 = _
  unfold Int.bmod
  simp only []
  split <;> omega
theorem i32b (x : Int32) : -2147483648 ≤ x.toInt ∧ x.toInt ≤ 2147483647 := by
  have h1 := Int32.le_toInt x
  have h2 := Int32.toInt_lt x
  simp at h1 h2
  omega
theorem i64b (x : Int64) : -9223372036854775808 ≤ x.toInt ∧ x.toInt ≤ 9223372036854775807 := by
  have h1 := Int64.le_toInt x
  have h2 := Int64.toInt_lt x
  simp at h1 h2
  omega
theorem l_add {x y : Int32} : (x.toInt64 + y.toInt64).toInt = x.toInt + y.toInt := by
  have := i32b x
  have := i32b y
  rw [add64 (by rw [Int32.toInt_toInt64, Int32.toInt_toInt64]; omega) (by rw [Int32.toInt_toInt64, Int32.toInt_toInt64]; omega), Int32.toInt_toInt64, Int32.toInt_toInt64]
theorem qi' {h h' : z_H} {x : Int32} {p : Int32 × z_M} (e : p = (x, mv h')) (hc : z_sC h h') (hr : z_MR h') : Qi h p (some (z_i x)) h' := qi e rfl hc hr
theorem ql' {h h' : z_H} {x : Int64} {p : Int64 × z_M} (e : p = (x, mv h')) (hc : z_sC h h') (hr : z_MR h') : Ql h p (some (z_l x)) h' := ql e rfl hc hr
theorem qv' {h h' : z_H} {S : z_M} (e : mv h' = S) (hc : z_sC h h') (hr : z_MR h') : Qv h S none h' := qv e hc hr
