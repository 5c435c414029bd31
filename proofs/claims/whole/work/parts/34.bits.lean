/-! Integer.bitCount, numberOfTrailingZeros; sets as numbers -/
def ush (x n : Int32) : Int32 := (x.toUInt32 >>> (n.toUInt32 &&& Int32.toUInt32 31)).toInt32
def sw1 (x : Int32) : Int32 := x - (ush x 1 &&& 1431655765)
def sw2b (x : Int32) : Int32 := (x &&& 858993459) + (ush x 2 &&& 858993459)
def sw3 (x : Int32) : Int32 := (x + ush x 4) &&& 252645135
def sw4 (x : Int32) : Int32 := x + ush x 8
def sw5 (x : Int32) : Int32 := x + ush x 16
def swr (x : Int32) : Int32 := sw5 (sw4 (sw3 (sw2b (sw1 x)))) &&& 63
theorem k_J6_bitCount_0f7a4 {sc : Sc} {I : Is} {L : Ls} {tg : Nat} {x : Int32} : Con sc mJ6_bitCount_0f7a4 0 0 0 [.int x] (XW I L tg) (rI (swr x) (XW I L tg)) := by
  refine Con_of (by decide) (Nat.le_of_ble_eq_true rfl) ?_
  refine r_iload_n (j := 0) rfl rfl dJ6_bitCount_0f7a4_0 ?_
  refine r_iload_n (j := 0) rfl rfl dJ6_bitCount_0f7a4_1 ?_
  refine r_iconst (v := 1) rfl dJ6_bitCount_0f7a4_2 ?_
  refine r_iushr dJ6_bitCount_0f7a4_3 ?_
  refine r_ldcw kJ6_265 dJ6_bitCount_0f7a4_4 ?_
  refine r_iand dJ6_bitCount_0f7a4_7 ?_
  refine r_isub dJ6_bitCount_0f7a4_8 ?_
  refine r_istore_n (lv' := fun z => [(0, .int z)]) dJ6_bitCount_0f7a4_9 rfl (Nat.le_of_ble_eq_true rfl) (fun _ => rfl) (fun x0_9 ex0_9 => ?_)
  refine r_iload_n (j := 0) rfl rfl dJ6_bitCount_0f7a4_10 ?_
  refine r_ldcw kJ6_266 dJ6_bitCount_0f7a4_11 ?_
  refine r_iand dJ6_bitCount_0f7a4_14 ?_
  refine r_iload_n (j := 0) rfl rfl dJ6_bitCount_0f7a4_15 ?_
  refine r_iconst (v := 2) rfl dJ6_bitCount_0f7a4_16 ?_
  refine r_iushr dJ6_bitCount_0f7a4_17 ?_
  refine r_ldcw kJ6_266 dJ6_bitCount_0f7a4_18 ?_
  refine r_iand dJ6_bitCount_0f7a4_21 ?_
  refine r_iadd dJ6_bitCount_0f7a4_22 ?_
  refine r_istore_n (lv' := fun z => [(0, .int z)]) dJ6_bitCount_0f7a4_23 rfl (Nat.le_of_ble_eq_true rfl) (fun _ => rfl) (fun x0_23 ex0_23 => ?_)
  refine r_iload_n (j := 0) rfl rfl dJ6_bitCount_0f7a4_24 ?_
  refine r_iload_n (j := 0) rfl rfl dJ6_bitCount_0f7a4_25 ?_
  refine r_iconst (v := 4) rfl dJ6_bitCount_0f7a4_26 ?_
  refine r_iushr dJ6_bitCount_0f7a4_27 ?_
  refine r_iadd dJ6_bitCount_0f7a4_28 ?_
  refine r_ldcw kJ6_267 dJ6_bitCount_0f7a4_29 ?_
  refine r_iand dJ6_bitCount_0f7a4_32 ?_
  refine r_istore_n (lv' := fun z => [(0, .int z)]) dJ6_bitCount_0f7a4_33 rfl (Nat.le_of_ble_eq_true rfl) (fun _ => rfl) (fun x0_33 ex0_33 => ?_)
  refine r_iload_n (j := 0) rfl rfl dJ6_bitCount_0f7a4_34 ?_
  refine r_iload_n (j := 0) rfl rfl dJ6_bitCount_0f7a4_35 ?_
  refine r_bipush (v := 8) rfl dJ6_bitCount_0f7a4_36 ?_
  refine r_iushr dJ6_bitCount_0f7a4_38 ?_
  refine r_iadd dJ6_bitCount_0f7a4_39 ?_
  refine r_istore_n (lv' := fun z => [(0, .int z)]) dJ6_bitCount_0f7a4_40 rfl (Nat.le_of_ble_eq_true rfl) (fun _ => rfl) (fun x0_40 ex0_40 => ?_)
  refine r_iload_n (j := 0) rfl rfl dJ6_bitCount_0f7a4_41 ?_
  refine r_iload_n (j := 0) rfl rfl dJ6_bitCount_0f7a4_42 ?_
  refine r_bipush (v := 16) rfl dJ6_bitCount_0f7a4_43 ?_
  refine r_iushr dJ6_bitCount_0f7a4_45 ?_
  refine r_iadd dJ6_bitCount_0f7a4_46 ?_
  refine r_istore_n (lv' := fun z => [(0, .int z)]) dJ6_bitCount_0f7a4_47 rfl (Nat.le_of_ble_eq_true rfl) (fun _ => rfl) (fun x0_47 ex0_47 => ?_)
  refine r_iload_n (j := 0) rfl rfl dJ6_bitCount_0f7a4_48 ?_
  refine r_bipush (v := 63) rfl dJ6_bitCount_0f7a4_49 ?_
  refine r_iand dJ6_bitCount_0f7a4_51 ?_
  refine w_iret rfl (rfl) (Nat.le_of_ble_eq_true rfl) (Nat.le_of_ble_eq_true rfl) dJ6_bitCount_0f7a4_52 ?_
  subst ex0_47 ex0_40 ex0_33 ex0_23 ex0_9; exact ⟨rfl, rfl, rfl, rfl⟩
def nt1 (n i : Int32) : Int32 := n + ush i 1
def nt2 (n i : Int32) : Int32 := if i ≤ 4 then nt1 n i else nt1 (n + 2) (ush i 2)
def nt3 (n i : Int32) : Int32 := if i ≤ 16 then nt2 n i else nt2 (n + 4) (ush i 4)
def nt4 (n i : Int32) : Int32 := if i ≤ 256 then nt3 n i else nt3 (n + 8) (ush i 8)
def nt5 (n i : Int32) : Int32 := if i ≤ 65536 then nt4 n i else nt4 (n + 16) (ush i 16)
def ntf (i : Int32) : Int32 := if 0 < i then nt5 1 i else i &&& 32
theorem nt_2 {sc : Sc} {I : Is} {L : Ls} {tg : Nat} {n i R : Int32} (h : nt2 n i = R) : RR sc mJ6_numberOfTrailingZeros_0f7a4 0 0 0 (rI R (XW I L tg)) 0 0 62 [(1, .int n), (0, .int i)] [] (XW I L tg) := by
  refine r_iload_n (j := 1) rfl rfl dJ6_numberOfTrailingZeros_0f7a4_62 ?_
  refine r_iconst (v := 4) rfl dJ6_numberOfTrailingZeros_0f7a4_63 ?_
  refine r_icmp_le (tgt := 74) dJ6_numberOfTrailingZeros_0f7a4_64 (by decide) (fun c64 => ?_) (fun c64 => ?_)
  · refine r_iload_n (j := 0) rfl rfl dJ6_numberOfTrailingZeros_0f7a4_74 ?_
    refine r_iload_n (j := 1) rfl rfl dJ6_numberOfTrailingZeros_0f7a4_75 ?_
    refine r_iconst (v := 1) rfl dJ6_numberOfTrailingZeros_0f7a4_76 ?_
    refine r_iushr dJ6_numberOfTrailingZeros_0f7a4_77 ?_
    refine r_iadd dJ6_numberOfTrailingZeros_0f7a4_78 ?_
    refine w_iret rfl (rfl) (Nat.le_of_ble_eq_true rfl) (Nat.le_of_ble_eq_true rfl) dJ6_numberOfTrailingZeros_0f7a4_79 ?_
    rw [← h]; exact ⟨by unfold nt2; rw [if_pos c64]; rfl, rfl, rfl, rfl⟩
  · refine r_iinc (j := 0) (lv' := fun z => [(1, .int z), (0, .int i)]) dJ6_numberOfTrailingZeros_0f7a4_67 rfl (Nat.le_of_ble_eq_true rfl) (fun _ => rfl) (fun x1_67 ex1_67 => ?_)
    refine r_iload_n (j := 1) rfl rfl dJ6_numberOfTrailingZeros_0f7a4_70 ?_
    refine r_iconst (v := 2) rfl dJ6_numberOfTrailingZeros_0f7a4_71 ?_
    refine r_iushr dJ6_numberOfTrailingZeros_0f7a4_72 ?_
    refine r_istore_n (lv' := fun z => [(0, .int z), (1, .int x1_67)]) dJ6_numberOfTrailingZeros_0f7a4_73 rfl (Nat.le_of_ble_eq_true rfl) (fun _ => rfl) (fun x0_73 ex0_73 => ?_)
    refine r_iload_n (j := 1) rfl rfl dJ6_numberOfTrailingZeros_0f7a4_74 ?_
    refine r_iload_n (j := 0) rfl rfl dJ6_numberOfTrailingZeros_0f7a4_75 ?_
    refine r_iconst (v := 1) rfl dJ6_numberOfTrailingZeros_0f7a4_76 ?_
    refine r_iushr dJ6_numberOfTrailingZeros_0f7a4_77 ?_
    refine r_iadd dJ6_numberOfTrailingZeros_0f7a4_78 ?_
    refine w_iret rfl (rfl) (Nat.le_of_ble_eq_true rfl) (Nat.le_of_ble_eq_true rfl) dJ6_numberOfTrailingZeros_0f7a4_79 ?_
    rw [← h]; subst ex0_73 ex1_67; exact ⟨by unfold nt2; rw [if_neg c64]; rfl, rfl, rfl, rfl⟩
theorem nt_3 {sc : Sc} {I : Is} {L : Ls} {tg : Nat} {n i R : Int32} (h : nt3 n i = R) : RR sc mJ6_numberOfTrailingZeros_0f7a4 0 0 0 (rI R (XW I L tg)) 0 0 49 [(1, .int n), (0, .int i)] [] (XW I L tg) := by
  refine r_iload_n (j := 1) rfl rfl dJ6_numberOfTrailingZeros_0f7a4_49 ?_
  refine r_bipush (v := 16) rfl dJ6_numberOfTrailingZeros_0f7a4_50 ?_
  refine r_icmp_le (tgt := 62) dJ6_numberOfTrailingZeros_0f7a4_52 (by decide) (fun c52 => ?_) (fun c52 => ?_)
  · exact nt_2 (by rw [← h]; unfold nt3; rw [if_pos c52])
  · refine r_iinc (j := 0) (lv' := fun z => [(1, .int z), (0, .int i)]) dJ6_numberOfTrailingZeros_0f7a4_55 rfl (Nat.le_of_ble_eq_true rfl) (fun _ => rfl) (fun x1_55 ex1_55 => ?_)
    refine r_iload_n (j := 1) rfl rfl dJ6_numberOfTrailingZeros_0f7a4_58 ?_
    refine r_iconst (v := 4) rfl dJ6_numberOfTrailingZeros_0f7a4_59 ?_
    refine r_iushr dJ6_numberOfTrailingZeros_0f7a4_60 ?_
    refine r_istore_n (lv' := fun z => [(0, .int z), (1, .int x1_55)]) dJ6_numberOfTrailingZeros_0f7a4_61 rfl (Nat.le_of_ble_eq_true rfl) (fun _ => rfl) (fun x0_61 ex0_61 => ?_)
    refine r_lvs [(1, .int x1_55), (0, .int x0_61)] [1, 0] rfl ?_
    subst ex0_61 ex1_55; exact nt_2 (by rw [← h]; unfold nt3; rw [if_neg c52]; rfl)
theorem nt_4 {sc : Sc} {I : Is} {L : Ls} {tg : Nat} {n i R : Int32} (h : nt4 n i = R) : RR sc mJ6_numberOfTrailingZeros_0f7a4 0 0 0 (rI R (XW I L tg)) 0 0 34 [(1, .int n), (0, .int i)] [] (XW I L tg) := by
  refine r_iload_n (j := 1) rfl rfl dJ6_numberOfTrailingZeros_0f7a4_34 ?_
  refine r_sipush (v := 256) rfl dJ6_numberOfTrailingZeros_0f7a4_35 ?_
  refine r_icmp_le (tgt := 49) dJ6_numberOfTrailingZeros_0f7a4_38 (by decide) (fun c38 => ?_) (fun c38 => ?_)
  · exact nt_3 (by rw [← h]; unfold nt4; rw [if_pos c38])
  · refine r_iinc (j := 0) (lv' := fun z => [(1, .int z), (0, .int i)]) dJ6_numberOfTrailingZeros_0f7a4_41 rfl (Nat.le_of_ble_eq_true rfl) (fun _ => rfl) (fun x1_41 ex1_41 => ?_)
    refine r_iload_n (j := 1) rfl rfl dJ6_numberOfTrailingZeros_0f7a4_44 ?_
    refine r_bipush (v := 8) rfl dJ6_numberOfTrailingZeros_0f7a4_45 ?_
    refine r_iushr dJ6_numberOfTrailingZeros_0f7a4_47 ?_
    refine r_istore_n (lv' := fun z => [(0, .int z), (1, .int x1_41)]) dJ6_numberOfTrailingZeros_0f7a4_48 rfl (Nat.le_of_ble_eq_true rfl) (fun _ => rfl) (fun x0_48 ex0_48 => ?_)
    refine r_lvs [(1, .int x1_41), (0, .int x0_48)] [1, 0] rfl ?_
    subst ex0_48 ex1_41; exact nt_3 (by rw [← h]; unfold nt4; rw [if_neg c38]; rfl)
theorem k_J6_numberOfTrailingZeros_0f7a4 {sc : Sc} {I : Is} {L : Ls} {tg : Nat} {x : Int32} : Con sc mJ6_numberOfTrailingZeros_0f7a4 0 0 0 [.int x] (XW I L tg) (rI (ntf ((x ^^^ (-1)) &&& (x - 1))) (XW I L tg)) := by
  refine Con_of (by decide) (Nat.le_of_ble_eq_true rfl) ?_
  refine r_iload_n (j := 0) rfl rfl dJ6_numberOfTrailingZeros_0f7a4_0 ?_
  refine r_iconst (v := (-1)) rfl dJ6_numberOfTrailingZeros_0f7a4_1 ?_
  refine r_ixor dJ6_numberOfTrailingZeros_0f7a4_2 ?_
  refine r_iload_n (j := 0) rfl rfl dJ6_numberOfTrailingZeros_0f7a4_3 ?_
  refine r_iconst (v := 1) rfl dJ6_numberOfTrailingZeros_0f7a4_4 ?_
  refine r_isub dJ6_numberOfTrailingZeros_0f7a4_5 ?_
  refine r_iand dJ6_numberOfTrailingZeros_0f7a4_6 ?_
  refine r_istore_n (lv' := fun z => [(0, .int z)]) dJ6_numberOfTrailingZeros_0f7a4_7 rfl (Nat.le_of_ble_eq_true rfl) (fun _ => rfl) (fun x0_7 ex0_7 => ?_)
  refine r_iload_n (j := 0) rfl rfl dJ6_numberOfTrailingZeros_0f7a4_8 ?_
  refine r_if_gt (tgt := 17) dJ6_numberOfTrailingZeros_0f7a4_9 (by decide) (fun c9 => ?_) (fun c9 => ?_)
  · refine r_iconst (v := 1) rfl dJ6_numberOfTrailingZeros_0f7a4_17 ?_
    refine r_istore_n (lv' := fun z => [(1, .int z), (0, .int x0_7)]) dJ6_numberOfTrailingZeros_0f7a4_18 rfl (Nat.le_of_ble_eq_true rfl) (fun _ => rfl) (fun x1_18 ex1_18 => ?_)
    refine r_iload_n (j := 1) rfl rfl dJ6_numberOfTrailingZeros_0f7a4_19 ?_
    refine r_ldcw kJ6_264 dJ6_numberOfTrailingZeros_0f7a4_20 ?_
    refine r_icmp_le (tgt := 34) dJ6_numberOfTrailingZeros_0f7a4_23 (by decide) (fun c23 => ?_) (fun c23 => ?_)
    · subst ex0_7 ex1_18; exact nt_4 (by unfold ntf nt5; rw [if_pos c9, if_pos c23])
    · refine r_iinc (j := 0) (lv' := fun z => [(1, .int z), (0, .int x0_7)]) dJ6_numberOfTrailingZeros_0f7a4_26 rfl (Nat.le_of_ble_eq_true rfl) (fun _ => rfl) (fun x1_26 ex1_26 => ?_)
      refine r_iload_n (j := 1) rfl rfl dJ6_numberOfTrailingZeros_0f7a4_29 ?_
      refine r_bipush (v := 16) rfl dJ6_numberOfTrailingZeros_0f7a4_30 ?_
      refine r_iushr dJ6_numberOfTrailingZeros_0f7a4_32 ?_
      refine r_istore_n (lv' := fun z => [(0, .int z), (1, .int x1_26)]) dJ6_numberOfTrailingZeros_0f7a4_33 rfl (Nat.le_of_ble_eq_true rfl) (fun _ => rfl) (fun x0_33 ex0_33 => ?_)
      refine r_lvs [(1, .int x1_26), (0, .int x0_33)] [1, 0] rfl ?_
      subst ex0_33 ex1_26 ex0_7 ex1_18; exact nt_4 (by unfold ntf nt5; rw [if_pos c9, if_neg c23]; rfl)
  · refine r_iload_n (j := 0) rfl rfl dJ6_numberOfTrailingZeros_0f7a4_12 ?_
    refine r_bipush (v := 32) rfl dJ6_numberOfTrailingZeros_0f7a4_13 ?_
    refine r_iand dJ6_numberOfTrailingZeros_0f7a4_15 ?_
    refine w_iret rfl (rfl) (Nat.le_of_ble_eq_true rfl) (Nat.le_of_ble_eq_true rfl) dJ6_numberOfTrailingZeros_0f7a4_16 ?_
    subst ex0_7; exact ⟨by unfold ntf; rw [if_neg c9], rfl, rfl, rfl⟩
theorem ntf_ok : ∀ t, t < 31 → ntf (nI (2 ^ t - 1)) = nI t := by decide +kernel
/-- sets of eight, as numbers -/
def clr (s p : Nat) : Nat := if s.testBit p then s - 2 ^ p else s
def pop (s : Nat) : Nat := (List.range 32).foldl (fun a i => a + (s.testBit i).toNat) 0
theorem s8_bz : ∀ s, s < 256 → ∀ p, p < 8 → (bz (nI s) p ↔ s.testBit p = false) := by decide +kernel
theorem s8_clr : ∀ s, s < 256 → ∀ p, p < 8 → nI s &&& (((1 : Int32) <<< (nI p &&& 31)) ^^^ (-1)) = nI (clr s p) := by decide +kernel
theorem s8_clt : ∀ s, s < 256 → ∀ p, p < 8 → s.testBit p = true → clr s p < s := by decide +kernel
theorem s8_set : ∀ s, s < 256 → ∀ p, p < 8 → nI s ||| ((1 : Int32) <<< (nI p &&& 31)) = nI (s ||| 2 ^ p) := by decide +kernel
theorem s8_one : ∀ p, p < 9 → (1 : Int32) <<< (nI p &&& 31) = nI (2 ^ p) := by decide +kernel
theorem s8_pop : ∀ s, s < 256 → swr (nI s) = nI (pop s) := by decide +kernel
