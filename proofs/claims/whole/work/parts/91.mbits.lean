/-! the model's sets of told words and told runs -/
section
theorem b_or {a b : Nat} (ha : a < 4294967296) (hb : b < 4294967296) : nI a ||| nI b = nI (a ||| b) := by
  apply Int32.toBitVec_inj.mp
  apply BitVec.eq_of_toNat_eq
  have e : ∀ x, x < 4294967296 → (nI x).toBitVec.toNat = x := by
    intro x hx
    show (BitVec.ofNat 32 x).toNat = x
    rw [BitVec.toNat_ofNat, Nat.mod_eq_of_lt hx]
  have hab : a ||| b < 2 ^ 32 := Nat.or_lt_two_pow (by omega) (by omega)
  rw [Int32.toBitVec_or, BitVec.toNat_or, e a ha, e b hb, e _ (by omega)]
/-- one more bit -/
theorem b_tell {s p : Nat} (hs : s < 33554432) (hp : p < 25) : nI s ||| ((1 : Int32) <<< (nI p &&& 31)) = nI (s ||| 2 ^ p) ∧ s ||| 2 ^ p < 33554432 := by
  have h1 : 2 ^ p < 2 ^ 25 := Nat.pow_lt_pow_right (by decide) hp
  have h2 : s ||| 2 ^ p < 2 ^ 25 := Nat.or_lt_two_pow (by omega) h1
  rw [g_one p (by omega), b_or (by omega) (by omega)]
  exact ⟨rfl, by omega⟩
theorem b_tb (s p j : Nat) : (s ||| 2 ^ p).testBit j = true ↔ s.testBit j = true ∨ j = p := by
  rw [Nat.testBit_or, Nat.testBit_two_pow]
  by_cases h : p = j
  · simp [h]
  · simp [h, Ne.symm h]
/-- is the bit told -/
theorem b_is {s p : Nat} (hs : s < 33554432) (hp : p < 32) : (nI s >>> (nI p &&& 31)) &&& 1 = 1 ↔ s.testBit p = true := by
  rw [g_bit (by omega) hp]
  cases s.testBit p <;> decide
end
