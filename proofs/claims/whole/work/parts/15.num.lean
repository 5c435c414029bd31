/-! numbers -/
theorem l_lt {a b : Int64} : a < b ↔ a.toInt < b.toInt := Int64.lt_iff_toInt_lt
theorem l_le {a b : Int64} : a ≤ b ↔ a.toInt ≤ b.toInt := Int64.le_iff_toInt_le
theorem l_eq {a b : Int64} : a = b ↔ a.toInt = b.toInt := Int64.toInt_inj.symm
theorem lc_lt {a b : Int64} : lg_cmp a b < 0 ↔ a.toInt < b.toInt := by
  rw [← l_lt]
  unfold lg_cmp
  split <;> (try split) <;> simp_all [l_lt, l_le, l_eq, i_lt] <;> omega
theorem lc_gt {a b : Int64} : 0 < lg_cmp a b ↔ b.toInt < a.toInt := by
  rw [← l_lt]
  unfold lg_cmp
  split <;> (try split) <;> simp_all [l_lt, l_le, l_eq, i_lt] <;> omega
theorem lc_le {a b : Int64} : lg_cmp a b ≤ 0 ↔ a.toInt ≤ b.toInt := by
  rw [← l_le]
  unfold lg_cmp
  split <;> (try split) <;> simp_all [l_lt, l_le, l_eq, i_lt, i_le] <;> omega
theorem lc_ge {a b : Int64} : 0 ≤ lg_cmp a b ↔ b.toInt ≤ a.toInt := by
  rw [← l_le]
  unfold lg_cmp
  split <;> (try split) <;> simp_all [l_lt, l_le, l_eq, i_lt, i_le] <;> omega
theorem lc_eq {a b : Int64} : lg_cmp a b = 0 ↔ a = b := by
  unfold lg_cmp
  split <;> (try split) <;> simp_all [l_lt, l_le, l_eq, i_lt, i_le] <;> omega
theorem l_bm {x : Int} (h1 : -9223372036854775808 ≤ x) (h2 : x < 9223372036854775808) : x.bmod 18446744073709551616 = x := by
  rw [Int.bmod_eq_of_le] <;> omega
theorem l_add {a b : Int64} (h1 : -9223372036854775808 ≤ a.toInt + b.toInt) (h2 : a.toInt + b.toInt < 9223372036854775808) : (a + b).toInt = a.toInt + b.toInt := by
  rw [Int64.toInt_add]; exact l_bm h1 h2
theorem l_sub {a b : Int64} (h1 : -9223372036854775808 ≤ a.toInt - b.toInt) (h2 : a.toInt - b.toInt < 9223372036854775808) : (a - b).toInt = a.toInt - b.toInt := by
  rw [Int64.toInt_sub]; exact l_bm h1 h2
theorem l_mul {a b : Int64} (h1 : -9223372036854775808 ≤ a.toInt * b.toInt) (h2 : a.toInt * b.toInt < 9223372036854775808) : (a * b).toInt = a.toInt * b.toInt := by
  rw [Int64.toInt_mul]; exact l_bm h1 h2
/-- an int made long, less one, and the like -/
theorem x64_sub (x : Int32) (c : Int64) (hc : -1000000 ≤ c.toInt ∧ c.toInt ≤ 1000000) : (x.toInt64 - c).toInt = x.toInt - c.toInt := by
  have := i_rng x
  rw [l_sub] <;> rw [Int32.toInt_toInt64] <;> omega
theorem x64_add (x : Int32) (c : Int64) (hc : -1000000 ≤ c.toInt ∧ c.toInt ≤ 1000000) : (x.toInt64 + c).toInt = x.toInt + c.toInt := by
  have := i_rng x
  rw [l_add] <;> rw [Int32.toInt_toInt64] <;> omega
theorem x64_addl (x : Int32) (c : Int64) (hc : -1000000 ≤ c.toInt ∧ c.toInt ≤ 1000000) : (c + x.toInt64).toInt = c.toInt + x.toInt := by
  have := i_rng x
  rw [l_add] <;> rw [Int32.toInt_toInt64] <;> omega
theorem ofI_1 : Int32.ofInt 1 = 1 := rfl
