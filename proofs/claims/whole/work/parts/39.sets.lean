/-! sets of up to thirty-one, as numbers -/
def n32 (x : Int32) : Nat := x.toUInt32.toNat
theorem n32_inj {x y : Int32} (h : n32 x = n32 y) : x = y := Int32.toBitVec_inj.1 (BitVec.eq_of_toNat_eq h)
theorem n32_lt (x : Int32) : n32 x < 4294967296 := UInt32.toNat_lt x.toUInt32
theorem n32_and (x y : Int32) : n32 (x &&& y) = n32 x &&& n32 y := by unfold n32; simp
theorem n32_or (x y : Int32) : n32 (x ||| y) = n32 x ||| n32 y := by unfold n32; simp
theorem n32_xor (x y : Int32) : n32 (x ^^^ y) = n32 x ^^^ n32 y := by unfold n32; simp
theorem n32_add (x y : Int32) : n32 (x + y) = (n32 x + n32 y) % 4294967296 := by unfold n32; simp
theorem n32_sub (x y : Int32) : n32 (x - y) = (4294967296 - n32 y + n32 x) % 4294967296 := UInt32.toNat_sub x.toUInt32 y.toUInt32
theorem n32_nI {s : Nat} (h : s < 4294967296) : n32 (nI s) = s := by unfold n32 nI; simp; omega
