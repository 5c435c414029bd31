/-! the model: the night -/
section
variable {sc : Sc} {I : Is} {L : Ls} {tg : Nat}
def joC (m b : Int32) : Prop := (1 ≤ m.toInt ∧ m.toInt ≤ 20) ∧ 0 ≤ b.toInt ∧ b.toInt ≤ 1
theorem k_X12_join_r {m b : Int32} (hc : ¬ joC m b) : Con sc mX12_join 1 0 0 [.ref 95, .int m, .int b] (XW I L tg) (rI (-2) (XW I L tg)) := by
  refine Con_of (by decide) (Nat.le_of_ble_eq_true rfl) ?_
  refine r_iload_n (j := 1) rfl rfl dX12_join_0 ?_
  refine r_i2l dX12_join_1 ?_
  refine r_lconst (v := 1) rfl dX12_join_2 ?_
  refine r_ldc2 kX12_394 dX12_join_3 ?_
  refine w_cS3p (k_X12_in) (Nat.le_of_ble_eq_true rfl) lX12_52 mtX12_in (Nat.le_of_ble_eq_true rfl) (Nat.le_of_ble_eq_true rfl) (Nat.le_of_ble_eq_true rfl) dX12_join_6 ?_
  refine r_if_eq (tgt := 22) dX12_join_9 (by decide) (fun c9 => ?_) (fun c9 => ?_)
  · refine r_bipush (v := (-2)) rfl dX12_join_22 ?_
    refine w_iret rfl (rfl) (Nat.le_of_ble_eq_true rfl) (Nat.le_of_ble_eq_true rfl) dX12_join_24 ?_
    exact ⟨rfl, rfl, rfl, rfl⟩
  · refine r_iload_n (j := 2) rfl rfl dX12_join_12 ?_
    refine r_i2l dX12_join_13 ?_
    refine r_lconst (v := 0) rfl dX12_join_14 ?_
    refine r_lconst (v := 1) rfl dX12_join_15 ?_
    refine w_cS3p (k_X12_in) (Nat.le_of_ble_eq_true rfl) lX12_52 mtX12_in (Nat.le_of_ble_eq_true rfl) (Nat.le_of_ble_eq_true rfl) (Nat.le_of_ble_eq_true rfl) dX12_join_16 ?_
    refine r_if_ne (tgt := 25) dX12_join_19 (by decide) (fun c19 => ?_) (fun c19 => ?_)
    · exact absurd ⟨by have := bI_1.mp c9; rw [Int32.toInt_toInt64] at this; exact this, by have := bI_1.mp c19; rw [Int32.toInt_toInt64] at this; exact this⟩ hc
    · refine r_bipush (v := (-2)) rfl dX12_join_22 ?_
      refine w_iret rfl (rfl) (Nat.le_of_ble_eq_true rfl) (Nat.le_of_ble_eq_true rfl) dX12_join_24 ?_
      exact ⟨rfl, rfl, rfl, rfl⟩
theorem k_X12_join_f {m b : Int32} (hc : joC m b) (hn : (I 95 83).toInt = 8) : Con sc mX12_join 1 0 0 [.ref 95, .int m, .int b] (XW I L tg) (rI (-3) (XW I L tg)) := by
  obtain ⟨q1, q2⟩ := hc
  refine Con_of (by decide) (Nat.le_of_ble_eq_true rfl) ?_
  refine r_iload_n (j := 1) rfl rfl dX12_join_0 ?_
  refine r_i2l dX12_join_1 ?_
  refine r_lconst (v := 1) rfl dX12_join_2 ?_
  refine r_ldc2 kX12_394 dX12_join_3 ?_
  refine w_cS3p (k_X12_in) (Nat.le_of_ble_eq_true rfl) lX12_52 mtX12_in (Nat.le_of_ble_eq_true rfl) (Nat.le_of_ble_eq_true rfl) (Nat.le_of_ble_eq_true rfl) dX12_join_6 ?_
  refine r_if_eq (tgt := 22) dX12_join_9 (by decide) (fun c9 => ?_) (fun c9 => ?_)
  · refine absurd ?_ (bI_0.mp c9); rw [Int32.toInt_toInt64]; exact q1
  · refine r_iload_n (j := 2) rfl rfl dX12_join_12 ?_
    refine r_i2l dX12_join_13 ?_
    refine r_lconst (v := 0) rfl dX12_join_14 ?_
    refine r_lconst (v := 1) rfl dX12_join_15 ?_
    refine w_cS3p (k_X12_in) (Nat.le_of_ble_eq_true rfl) lX12_52 mtX12_in (Nat.le_of_ble_eq_true rfl) (Nat.le_of_ble_eq_true rfl) (Nat.le_of_ble_eq_true rfl) dX12_join_16 ?_
    refine r_if_ne (tgt := 25) dX12_join_19 (by decide) (fun c19 => ?_) (fun c19 => ?_)
    · refine r_aload_n (j := 0) rfl rfl dX12_join_25 ?_
      refine w_getI fX12_541 rfl dX12_join_26 ?_
      refine r_bipush (v := 8) rfl dX12_join_29 ?_
      refine r_icmp_ne (tgt := 37) dX12_join_31 (by decide) (fun c31 => ?_) (fun c31 => ?_)
      · exfalso; ((try simp only [bI_0, bI_1, lc_lt, lc_gt, lc_le, lc_ge, Classical.not_not] at *); (try simp only [i_lt, i_le, i_eq, l_lt, l_le, l_eq, Int32.toInt_toInt64, Int32.reduceToInt, Int64.reduceToInt] at *); omega)
      · refine r_bipush (v := (-3)) rfl dX12_join_34 ?_
        refine w_iret rfl (rfl) (Nat.le_of_ble_eq_true rfl) (Nat.le_of_ble_eq_true rfl) dX12_join_36 ?_
        exact ⟨rfl, rfl, rfl, rfl⟩
    · refine absurd ?_ (bI_0.mp c19); rw [Int32.toInt_toInt64]; exact q2
def padM (I : Is) (n : Nat) (m : Int32) : Is := up (up I 144 n m) 95 83 (I 95 83 + 1)
theorem k_X12_join_y {m b : Int32} {n : Nat} (hc : joC m b) (hn : (I 95 83).toInt = n) (h8 : n < 8) : Con sc mX12_join 1 0 0 [.ref 95, .int m, .int b] (XW I L tg) (rI (I 95 83) (XW (padM I n (m + 3 * b)) L tg)) := by
  obtain ⟨q1, q2⟩ := hc
  have ct := cl_of hn
  have hin := up_in hn h8
  refine Con_of (by decide) (Nat.le_of_ble_eq_true rfl) ?_
  refine r_iload_n (j := 1) rfl rfl dX12_join_0 ?_
  refine r_i2l dX12_join_1 ?_
  refine r_lconst (v := 1) rfl dX12_join_2 ?_
  refine r_ldc2 kX12_394 dX12_join_3 ?_
  refine w_cS3p (k_X12_in) (Nat.le_of_ble_eq_true rfl) lX12_52 mtX12_in (Nat.le_of_ble_eq_true rfl) (Nat.le_of_ble_eq_true rfl) (Nat.le_of_ble_eq_true rfl) dX12_join_6 ?_
  refine r_if_eq (tgt := 22) dX12_join_9 (by decide) (fun c9 => ?_) (fun c9 => ?_)
  · refine absurd ?_ (bI_0.mp c9); rw [Int32.toInt_toInt64]; exact q1
  · refine r_iload_n (j := 2) rfl rfl dX12_join_12 ?_
    refine r_i2l dX12_join_13 ?_
    refine r_lconst (v := 0) rfl dX12_join_14 ?_
    refine r_lconst (v := 1) rfl dX12_join_15 ?_
    refine w_cS3p (k_X12_in) (Nat.le_of_ble_eq_true rfl) lX12_52 mtX12_in (Nat.le_of_ble_eq_true rfl) (Nat.le_of_ble_eq_true rfl) (Nat.le_of_ble_eq_true rfl) dX12_join_16 ?_
    refine r_if_ne (tgt := 25) dX12_join_19 (by decide) (fun c19 => ?_) (fun c19 => ?_)
    · refine r_aload_n (j := 0) rfl rfl dX12_join_25 ?_
      refine w_getI fX12_541 rfl dX12_join_26 ?_
      refine r_bipush (v := 8) rfl dX12_join_29 ?_
      refine r_icmp_ne (tgt := 37) dX12_join_31 (by decide) (fun c31 => ?_) (fun c31 => ?_)
      · refine r_aload_n (j := 0) rfl rfl dX12_join_37 ?_
        refine w_getR (b := 144) fX12_324 rfl rfl dX12_join_38 ?_
        refine r_aload_n (j := 0) rfl rfl dX12_join_41 ?_
        refine w_getI fX12_541 rfl dX12_join_42 ?_
        refine r_iload_n (j := 1) rfl rfl dX12_join_45 ?_
        refine r_iconst (v := 3) rfl dX12_join_46 ?_
        refine r_iload_n (j := 2) rfl rfl dX12_join_47 ?_
        refine r_imul dX12_join_48 ?_
        refine r_iadd dX12_join_49 ?_
        refine w_iast rfl (by first | assumption | (rw [vp_in_iff]; ((try simp only [bI_0, bI_1, lc_lt, lc_gt, lc_le, lc_ge, Classical.not_not] at *); (try simp only [i_lt, i_le, i_eq, l_lt, l_le, l_eq, Int32.toInt_toInt64, Int32.reduceToInt, Int64.reduceToInt] at *); omega))) dX12_join_50 (fun J50 hJ50 => ?_)
        refine r_aload_n (j := 0) rfl rfl dX12_join_51 ?_
        refine r_dup rfl dX12_join_52 ?_
        refine w_getI fX12_541 rfl dX12_join_53 ?_
        refine r_iconst (v := 1) rfl dX12_join_56 ?_
        refine r_iadd dX12_join_57 ?_
        refine w_putI fX12_541 rfl (rfl) (rfl) dX12_join_58 (fun J58 hJ58 => ?_)
        refine r_aload_n (j := 0) rfl rfl dX12_join_61 ?_
        refine w_getI fX12_541 rfl dX12_join_62 ?_
        refine r_iconst (v := 1) rfl dX12_join_65 ?_
        refine r_isub dX12_join_66 ?_
        refine w_iret rfl (rfl) (Nat.le_of_ble_eq_true rfl) (Nat.le_of_ble_eq_true rfl) dX12_join_67 ?_
        subst hJ58 hJ50
        refine ⟨?_, ?_, rfl, rfl⟩
        · simp [up_eq, vu_eq]
        · unfold padM
          simp [up_eq, vu_eq, ct]
      · exfalso; ((try simp only [bI_0, bI_1, lc_lt, lc_gt, lc_le, lc_ge, Classical.not_not] at *); (try simp only [i_lt, i_le, i_eq, l_lt, l_le, l_eq, Int32.toInt_toInt64, Int32.reduceToInt, Int64.reduceToInt] at *); omega)
    · refine absurd ?_ (bI_0.mp c19); rw [Int32.toInt_toInt64]; exact q2
def roC (a b : Int32) : Prop := 0 ≤ a.toInt ∧ a.toInt < b.toInt ∧ b.toInt ≤ 600
theorem l_X12_rd {a b : Int32} {NR : Nat} (hR : (I 95 84).toInt = NR) (h5 : NR ≤ 5) {Q : Po}
    (K1 : fsk (fun r => decide (a < I 146 r ∧ I 145 r < b)) NR 0 = -1 → ∀ x3 : Int32, RR sc mX12_round 1 0 0 Q 0 0 69 [(3, .int x3), (0, .ref 95), (1, .int a), (2, .int b)] [] (XW I L tg))
    (K2 : ¬ fsk (fun r => decide (a < I 146 r ∧ I 145 r < b)) NR 0 = -1 → ∀ x3 : Int32, RR sc mX12_round 1 0 0 Q 0 0 60 [(3, .int x3), (0, .ref 95), (1, .int a), (2, .int b)] [] (XW I L tg)) : ∀ n i : Nat, i + n = NR → fsk (fun r => decide (a < I 146 r ∧ I 145 r < b)) NR 0 = fsk (fun r => decide (a < I 146 r ∧ I 145 r < b)) n i → ∀ x : Int32, x.toInt = i → RR sc mX12_round 1 0 0 Q 0 0 32 [(3, .int x), (0, .ref 95), (1, .int a), (2, .int b)] [] (XW I L tg) := by
  intro n
  induction n with
  | zero =>
    intro i hi he x hx
    refine r_iload_n (j := 0) rfl rfl dX12_round_32 ?_
    refine r_aload_n (j := 1) rfl rfl dX12_round_33 ?_
    refine w_getI fX12_546 rfl dX12_round_34 ?_
    refine r_icmp_ge (tgt := 69) dX12_round_37 (by decide) (fun c37 => ?_) (fun c37 => ?_)
    · exact K1 he _
    · exfalso; ((try simp only [bI_0, bI_1, lc_lt, lc_gt, lc_le, lc_ge, Classical.not_not] at *); (try simp only [i_lt, i_le, i_eq, l_lt, l_le, l_eq, Int32.toInt_toInt64, Int32.reduceToInt, Int64.reduceToInt] at *); omega)
  | succ n ih =>
    intro i hi he x hx
    have cx := cl_of hx
    have hin := up_in (N := 5) hx (by omega)
    rw [fsk] at he
    refine r_iload_n (j := 0) rfl rfl dX12_round_32 ?_
    refine r_aload_n (j := 1) rfl rfl dX12_round_33 ?_
    refine w_getI fX12_546 rfl dX12_round_34 ?_
    refine r_icmp_ge (tgt := 69) dX12_round_37 (by decide) (fun c37 => ?_) (fun c37 => ?_)
    · exfalso; ((try simp only [bI_0, bI_1, lc_lt, lc_gt, lc_le, lc_ge, Classical.not_not] at *); (try simp only [i_lt, i_le, i_eq, l_lt, l_le, l_eq, Int32.toInt_toInt64, Int32.reduceToInt, Int64.reduceToInt] at *); omega)
    · refine r_iload_n (j := 2) rfl rfl dX12_round_40 ?_
      refine r_aload_n (j := 1) rfl rfl dX12_round_41 ?_
      refine w_getR (b := 146) fX12_330 rfl rfl dX12_round_42 ?_
      refine r_iload_n (j := 0) rfl rfl dX12_round_45 ?_
      refine w_iald rfl (by first | assumption | (rw [vp_in_iff]; ((try simp only [bI_0, bI_1, lc_lt, lc_gt, lc_le, lc_ge, Classical.not_not] at *); (try simp only [i_lt, i_le, i_eq, l_lt, l_le, l_eq, Int32.toInt_toInt64, Int32.reduceToInt, Int64.reduceToInt] at *); omega))) dX12_round_46 ?_
      refine r_icmp_ge (tgt := 63) dX12_round_47 (by decide) (fun c47 => ?_) (fun c47 => ?_)
      · refine r_iinc (j := 0) (lv' := fun z => [(3, .int z), (0, .ref 95), (1, .int a), (2, .int b)]) dX12_round_63 rfl (Nat.le_of_ble_eq_true rfl) (fun _ => rfl) (fun x3_63 ex3_63 => ?_)
        refine r_goto (tgt := 32) dX12_round_66 (by decide) ?_
        rw [cx] at c47; rw [if_neg (by simp only [decide_eq_true_eq]; exact fun z => absurd z.1 (Int32.not_lt.mpr c47))] at he; exact ih (i + 1) (by omega) he _ (by rw [ex3_63]; exact i_inc hx (by omega))
      · refine r_aload_n (j := 1) rfl rfl dX12_round_50 ?_
        refine w_getR (b := 145) fX12_327 rfl rfl dX12_round_51 ?_
        refine r_iload_n (j := 0) rfl rfl dX12_round_54 ?_
        refine w_iald rfl (by first | assumption | (rw [vp_in_iff]; ((try simp only [bI_0, bI_1, lc_lt, lc_gt, lc_le, lc_ge, Classical.not_not] at *); (try simp only [i_lt, i_le, i_eq, l_lt, l_le, l_eq, Int32.toInt_toInt64, Int32.reduceToInt, Int64.reduceToInt] at *); omega))) dX12_round_55 ?_
        refine r_iload_n (j := 3) rfl rfl dX12_round_56 ?_
        refine r_icmp_ge (tgt := 63) dX12_round_57 (by decide) (fun c57 => ?_) (fun c57 => ?_)
        · refine r_iinc (j := 0) (lv' := fun z => [(3, .int z), (0, .ref 95), (1, .int a), (2, .int b)]) dX12_round_63 rfl (Nat.le_of_ble_eq_true rfl) (fun _ => rfl) (fun x3_63 ex3_63 => ?_)
          refine r_goto (tgt := 32) dX12_round_66 (by decide) ?_
          rw [cx] at c57; rw [if_neg (by simp only [decide_eq_true_eq]; exact fun z => absurd z.2 (Int32.not_lt.mpr c57))] at he; exact ih (i + 1) (by omega) he _ (by rw [ex3_63]; exact i_inc hx (by omega))
        · rw [cx] at c47 c57; rw [if_pos (decide_eq_true ⟨Int32.not_le.mp c47, Int32.not_le.mp c57⟩)] at he; exact K2 (by rw [he]; exact nI_nn (by omega)) _
def ruC (I : Is) (a b : Int32) : Prop := roC a b ∧ rmt (I 145) (I 146) (nN (I 95 84)) a b = -1
theorem k_X12_round_r {a b : Int32} (hc : ¬ ruC I a b) (r0 : 0 ≤ (I 95 84).toInt) (r5 : (I 95 84).toInt ≤ 5) : Con sc mX12_round 1 0 0 [.ref 95, .int a, .int b] (XW I L tg) (rI (-2) (XW I L tg)) := by
  have hR := nN_of r0
  refine Con_of (by decide) (Nat.le_of_ble_eq_true rfl) ?_
  refine r_iload_n (j := 1) rfl rfl dX12_round_0 ?_
  refine r_i2l dX12_round_1 ?_
  refine r_lconst (v := 0) rfl dX12_round_2 ?_
  refine r_ldc2 kX12_544 dX12_round_3 ?_
  refine w_cS3p (k_X12_in) (Nat.le_of_ble_eq_true rfl) lX12_52 mtX12_in (Nat.le_of_ble_eq_true rfl) (Nat.le_of_ble_eq_true rfl) (Nat.le_of_ble_eq_true rfl) dX12_round_6 ?_
  refine r_if_eq (tgt := 27) dX12_round_9 (by decide) (fun c9 => ?_) (fun c9 => ?_)
  · refine r_bipush (v := (-2)) rfl dX12_round_27 ?_
    refine w_iret rfl (rfl) (Nat.le_of_ble_eq_true rfl) (Nat.le_of_ble_eq_true rfl) dX12_round_29 ?_
    exact ⟨rfl, rfl, rfl, rfl⟩
  · refine r_iload_n (j := 2) rfl rfl dX12_round_12 ?_
    refine r_i2l dX12_round_13 ?_
    refine r_iload_n (j := 1) rfl rfl dX12_round_14 ?_
    refine r_i2l dX12_round_15 ?_
    refine r_lconst (v := 1) rfl dX12_round_16 ?_
    refine r_ladd dX12_round_17 ?_
    refine r_ldc2 kX12_544 dX12_round_18 ?_
    refine w_cS3p (k_X12_in) (Nat.le_of_ble_eq_true rfl) lX12_52 mtX12_in (Nat.le_of_ble_eq_true rfl) (Nat.le_of_ble_eq_true rfl) (Nat.le_of_ble_eq_true rfl) dX12_round_21 ?_
    refine r_if_ne (tgt := 30) dX12_round_24 (by decide) (fun c24 => ?_) (fun c24 => ?_)
    · refine r_iconst (v := 0) rfl dX12_round_30 ?_
      refine r_istore_n (lv' := fun z => [(3, .int z), (0, .ref 95), (1, .int a), (2, .int b)]) dX12_round_31 rfl (Nat.le_of_ble_eq_true rfl) (fun _ => rfl) (fun x3_31 ex3_31 => ?_)
      have h1 := bI_1.mp c9
      have h2 := bI_1.mp c24
      rw [Int32.toInt_toInt64] at h1
      rw [x64_add _ _ (by decide), Int32.toInt_toInt64] at h2
      have h1 : 0 ≤ a.toInt ∧ a.toInt ≤ 600 := h1
      have h2 : a.toInt + 1 ≤ b.toInt ∧ b.toInt ≤ 600 := h2
      refine l_X12_rd hR (by omega) (fun z => absurd ⟨⟨by omega, by omega, by omega⟩, z⟩ hc) (fun z x3 => ?_) _ 0 (Nat.zero_add _) rfl _ (by rw [ex3_31]; rfl)
      refine r_bipush (v := (-2)) rfl dX12_round_60 ?_
      refine w_iret rfl (rfl) (Nat.le_of_ble_eq_true rfl) (Nat.le_of_ble_eq_true rfl) dX12_round_62 ?_
      exact ⟨rfl, rfl, rfl, rfl⟩
    · refine r_bipush (v := (-2)) rfl dX12_round_27 ?_
      refine w_iret rfl (rfl) (Nat.le_of_ble_eq_true rfl) (Nat.le_of_ble_eq_true rfl) dX12_round_29 ?_
      exact ⟨rfl, rfl, rfl, rfl⟩
theorem k_X12_round_f {a b : Int32} (hc : ruC I a b) (r5 : (I 95 84).toInt = 5) : Con sc mX12_round 1 0 0 [.ref 95, .int a, .int b] (XW I L tg) (rI (-3) (XW I L tg)) := by
  have hR := nN_of (x := I 95 84) (by omega)
  obtain ⟨⟨q1, q2, q3⟩, q4⟩ := hc
  refine Con_of (by decide) (Nat.le_of_ble_eq_true rfl) ?_
  refine r_iload_n (j := 1) rfl rfl dX12_round_0 ?_
  refine r_i2l dX12_round_1 ?_
  refine r_lconst (v := 0) rfl dX12_round_2 ?_
  refine r_ldc2 kX12_544 dX12_round_3 ?_
  refine w_cS3p (k_X12_in) (Nat.le_of_ble_eq_true rfl) lX12_52 mtX12_in (Nat.le_of_ble_eq_true rfl) (Nat.le_of_ble_eq_true rfl) (Nat.le_of_ble_eq_true rfl) dX12_round_6 ?_
  refine r_if_eq (tgt := 27) dX12_round_9 (by decide) (fun c9 => ?_) (fun c9 => ?_)
  · refine absurd ?_ (bI_0.mp c9); rw [Int32.toInt_toInt64]; exact ⟨q1, by show _ ≤ (600 : Int); omega⟩
  · refine r_iload_n (j := 2) rfl rfl dX12_round_12 ?_
    refine r_i2l dX12_round_13 ?_
    refine r_iload_n (j := 1) rfl rfl dX12_round_14 ?_
    refine r_i2l dX12_round_15 ?_
    refine r_lconst (v := 1) rfl dX12_round_16 ?_
    refine r_ladd dX12_round_17 ?_
    refine r_ldc2 kX12_544 dX12_round_18 ?_
    refine w_cS3p (k_X12_in) (Nat.le_of_ble_eq_true rfl) lX12_52 mtX12_in (Nat.le_of_ble_eq_true rfl) (Nat.le_of_ble_eq_true rfl) (Nat.le_of_ble_eq_true rfl) dX12_round_21 ?_
    refine r_if_ne (tgt := 30) dX12_round_24 (by decide) (fun c24 => ?_) (fun c24 => ?_)
    · refine r_iconst (v := 0) rfl dX12_round_30 ?_
      refine r_istore_n (lv' := fun z => [(3, .int z), (0, .ref 95), (1, .int a), (2, .int b)]) dX12_round_31 rfl (Nat.le_of_ble_eq_true rfl) (fun _ => rfl) (fun x3_31 ex3_31 => ?_)
      refine l_X12_rd hR (by omega) (fun z x3 => ?_) (fun z => absurd q4 z) _ 0 (Nat.zero_add _) rfl _ (by rw [ex3_31]; rfl)
      refine r_aload_n (j := 1) rfl rfl dX12_round_69 ?_
      refine w_getI fX12_546 rfl dX12_round_70 ?_
      refine r_iconst (v := 5) rfl dX12_round_73 ?_
      refine r_icmp_ne (tgt := 80) dX12_round_74 (by decide) (fun c74 => ?_) (fun c74 => ?_)
      · exfalso; ((try simp only [bI_0, bI_1, lc_lt, lc_gt, lc_le, lc_ge, Classical.not_not] at *); (try simp only [i_lt, i_le, i_eq, l_lt, l_le, l_eq, Int32.toInt_toInt64, Int32.reduceToInt, Int64.reduceToInt] at *); omega)
      · refine r_bipush (v := (-3)) rfl dX12_round_77 ?_
        refine w_iret rfl (rfl) (Nat.le_of_ble_eq_true rfl) (Nat.le_of_ble_eq_true rfl) dX12_round_79 ?_
        exact ⟨rfl, rfl, rfl, rfl⟩
    · refine absurd ?_ (bI_0.mp c24); rw [x64_add _ _ (by decide), Int32.toInt_toInt64]; exact ⟨by show a.toInt + 1 ≤ _; omega, q3⟩
def radM (I : Is) (n : Nat) (a b : Int32) : Is := up (up (up I 145 n a) 146 n b) 95 84 (I 95 84 + 1)
theorem k_X12_round_y {a b : Int32} {n : Nat} (hc : ruC I a b) (hn : (I 95 84).toInt = n) (h5 : n < 5) : Con sc mX12_round 1 0 0 [.ref 95, .int a, .int b] (XW I L tg) (rI (I 95 84) (XW (radM I n a b) L tg)) := by
  have hR := nN_of (x := I 95 84) (by omega)
  obtain ⟨⟨q1, q2, q3⟩, q4⟩ := hc
  have ct := cl_of hn
  have hin := up_in hn h5
  refine Con_of (by decide) (Nat.le_of_ble_eq_true rfl) ?_
  refine r_iload_n (j := 1) rfl rfl dX12_round_0 ?_
  refine r_i2l dX12_round_1 ?_
  refine r_lconst (v := 0) rfl dX12_round_2 ?_
  refine r_ldc2 kX12_544 dX12_round_3 ?_
  refine w_cS3p (k_X12_in) (Nat.le_of_ble_eq_true rfl) lX12_52 mtX12_in (Nat.le_of_ble_eq_true rfl) (Nat.le_of_ble_eq_true rfl) (Nat.le_of_ble_eq_true rfl) dX12_round_6 ?_
  refine r_if_eq (tgt := 27) dX12_round_9 (by decide) (fun c9 => ?_) (fun c9 => ?_)
  · refine absurd ?_ (bI_0.mp c9); rw [Int32.toInt_toInt64]; exact ⟨q1, by show _ ≤ (600 : Int); omega⟩
  · refine r_iload_n (j := 2) rfl rfl dX12_round_12 ?_
    refine r_i2l dX12_round_13 ?_
    refine r_iload_n (j := 1) rfl rfl dX12_round_14 ?_
    refine r_i2l dX12_round_15 ?_
    refine r_lconst (v := 1) rfl dX12_round_16 ?_
    refine r_ladd dX12_round_17 ?_
    refine r_ldc2 kX12_544 dX12_round_18 ?_
    refine w_cS3p (k_X12_in) (Nat.le_of_ble_eq_true rfl) lX12_52 mtX12_in (Nat.le_of_ble_eq_true rfl) (Nat.le_of_ble_eq_true rfl) (Nat.le_of_ble_eq_true rfl) dX12_round_21 ?_
    refine r_if_ne (tgt := 30) dX12_round_24 (by decide) (fun c24 => ?_) (fun c24 => ?_)
    · refine r_iconst (v := 0) rfl dX12_round_30 ?_
      refine r_istore_n (lv' := fun z => [(3, .int z), (0, .ref 95), (1, .int a), (2, .int b)]) dX12_round_31 rfl (Nat.le_of_ble_eq_true rfl) (fun _ => rfl) (fun x3_31 ex3_31 => ?_)
      refine l_X12_rd hR (by omega) (fun z x3 => ?_) (fun z => absurd q4 z) _ 0 (Nat.zero_add _) rfl _ (by rw [ex3_31]; rfl)
      refine r_aload_n (j := 1) rfl rfl dX12_round_69 ?_
      refine w_getI fX12_546 rfl dX12_round_70 ?_
      refine r_iconst (v := 5) rfl dX12_round_73 ?_
      refine r_icmp_ne (tgt := 80) dX12_round_74 (by decide) (fun c74 => ?_) (fun c74 => ?_)
      · refine r_aload_n (j := 1) rfl rfl dX12_round_80 ?_
        refine w_getR (b := 145) fX12_327 rfl rfl dX12_round_81 ?_
        refine r_aload_n (j := 1) rfl rfl dX12_round_84 ?_
        refine w_getI fX12_546 rfl dX12_round_85 ?_
        refine r_iload_n (j := 2) rfl rfl dX12_round_88 ?_
        refine w_iast rfl (by first | assumption | (rw [vp_in_iff]; ((try simp only [bI_0, bI_1, lc_lt, lc_gt, lc_le, lc_ge, Classical.not_not] at *); (try simp only [i_lt, i_le, i_eq, l_lt, l_le, l_eq, Int32.toInt_toInt64, Int32.reduceToInt, Int64.reduceToInt] at *); omega))) dX12_round_89 (fun J89 hJ89 => ?_)
        refine r_aload_n (j := 1) rfl rfl dX12_round_90 ?_
        refine w_getR (b := 146) fX12_330 rfl rfl dX12_round_91 ?_
        refine r_aload_n (j := 1) rfl rfl dX12_round_94 ?_
        refine w_getI fX12_546 rfl dX12_round_95 ?_
        refine r_iload_n (j := 3) rfl rfl dX12_round_98 ?_
        refine w_iast rfl (by subst hJ89; simpa [up_eq, vu_eq] using hin) dX12_round_99 (fun J99 hJ99 => ?_)
        refine r_aload_n (j := 1) rfl rfl dX12_round_100 ?_
        refine r_dup rfl dX12_round_101 ?_
        refine w_getI fX12_546 rfl dX12_round_102 ?_
        refine r_iconst (v := 1) rfl dX12_round_105 ?_
        refine r_iadd dX12_round_106 ?_
        refine w_putI fX12_546 rfl (rfl) (rfl) dX12_round_107 (fun J107 hJ107 => ?_)
        refine r_aload_n (j := 1) rfl rfl dX12_round_110 ?_
        refine w_getI fX12_546 rfl dX12_round_111 ?_
        refine r_iconst (v := 1) rfl dX12_round_114 ?_
        refine r_isub dX12_round_115 ?_
        refine w_iret rfl (rfl) (Nat.le_of_ble_eq_true rfl) (Nat.le_of_ble_eq_true rfl) dX12_round_116 ?_
        subst hJ107 hJ99 hJ89
        refine ⟨?_, ?_, rfl, rfl⟩
        · simp [up_eq, vu_eq]
        · unfold radM
          simp [up_eq, vu_eq, ct]
      · exfalso; ((try simp only [bI_0, bI_1, lc_lt, lc_gt, lc_le, lc_ge, Classical.not_not] at *); (try simp only [i_lt, i_le, i_eq, l_lt, l_le, l_eq, Int32.toInt_toInt64, Int32.reduceToInt, Int64.reduceToInt] at *); omega)
    · refine absurd ?_ (bI_0.mp c24); rw [x64_add _ _ (by decide), Int32.toInt_toInt64]; exact ⟨by show a.toInt + 1 ≤ _; omega, q3⟩
def mrM (I : Is) : Is := up (up (up I 95 83 0) 95 84 0) 95 91 0
theorem k_X12_morning : Con sc mX12_morning 0 0 0 [.ref 95] (XW I L tg) (rI (I 95 83) (XW (mrM I) L tg)) := by
  refine Con_of (by decide) (Nat.le_of_ble_eq_true rfl) ?_
  refine r_aload_n (j := 0) rfl rfl dX12_morning_0 ?_
  refine w_getI fX12_541 rfl dX12_morning_1 ?_
  refine r_istore_n (lv' := fun z => [(1, .int z), (0, .ref 95)]) dX12_morning_4 rfl (Nat.le_of_ble_eq_true rfl) (fun _ => rfl) (fun x1_4 ex1_4 => ?_)
  refine r_aload_n (j := 1) rfl rfl dX12_morning_5 ?_
  refine r_iconst (v := 0) rfl dX12_morning_6 ?_
  refine w_putI fX12_541 rfl (rfl) (rfl) dX12_morning_7 (fun J7 hJ7 => ?_)
  refine r_aload_n (j := 1) rfl rfl dX12_morning_10 ?_
  refine r_iconst (v := 0) rfl dX12_morning_11 ?_
  refine w_putI fX12_546 rfl (rfl) (rfl) dX12_morning_12 (fun J12 hJ12 => ?_)
  refine r_aload_n (j := 1) rfl rfl dX12_morning_15 ?_
  refine r_iconst (v := 0) rfl dX12_morning_16 ?_
  refine w_putI fX12_391 rfl (rfl) (rfl) dX12_morning_17 (fun J17 hJ17 => ?_)
  refine r_iload_n (j := 0) rfl rfl dX12_morning_20 ?_
  refine w_iret rfl (rfl) (Nat.le_of_ble_eq_true rfl) (Nat.le_of_ble_eq_true rfl) dX12_morning_21 ?_
  subst hJ17 hJ12 hJ7; exact ⟨ex1_4, rfl, rfl, rfl⟩
/-- a sweep over the rounds -/
theorem l_X12_ob2 {p m t0 : Int32} {pn NR : Nat} (hR : (I 95 84).toInt = NR) (hr : rdOk (I 145) (I 146) NR) (hp : p.toInt = pn) (hp8 : pn < 8) (hn : ndOk (I 144 pn)) {Q : Po}
    (K : ∀ t mt x5 : Int32, prO (I 145) (I 146) NR (I 144 pn).toInt m.toInt t.toInt → (0 ≤ t.toInt ∧ t.toInt ≤ 2000000) → ((mt = 0 ∧ vld (I 145) (I 146) NR (I 144 pn).toInt t.toInt) ∨ (mt = 1 ∧ cwO (I 146) NR t.toInt < cwO (I 146) NR t0.toInt)) → RR sc mX12_outBy 0 0 0 Q 0 0 74 [(5, .int x5), (4, .int mt), (3, .int t), (0, .ref 95), (1, .int p), (2, .int m)] [] (XW I L tg)) : ∀ n i : Nat, i + n = NR → ∀ t mt x : Int32, prO (I 145) (I 146) NR (I 144 pn).toInt m.toInt t.toInt → (0 ≤ t.toInt ∧ t.toInt ≤ 2000000) → ((mt = 0 ∧ t = t0 ∧ ∀ r, r < i → ¬ mtr (I 145) (I 146) (I 144 pn).toInt t.toInt r) ∨ (mt = 1 ∧ cwO (I 146) NR t.toInt < cwO (I 146) NR t0.toInt)) → x.toInt = i → RR sc mX12_outBy 0 0 0 Q 0 0 16 [(5, .int x), (4, .int mt), (3, .int t), (0, .ref 95), (1, .int p), (2, .int m)] [] (XW I L tg) := by
  have cp := cl_of hp
  have hip := up_in hp hp8
  have h5 := hr.1
  obtain ⟨n1, n2⟩ := id hn
  intro n
  induction n with
  | zero =>
    intro i hi t mt x h1 h2 h3 hx
    have e : i = NR := by omega
    subst e
    refine r_iload (j := 0) rfl dX12_outBy_16 ?_
    refine r_aload_n (j := 3) rfl rfl dX12_outBy_18 ?_
    refine w_getI fX12_546 rfl dX12_outBy_19 ?_
    refine r_icmp_ge (tgt := 74) dX12_outBy_22 (by decide) (fun c22 => ?_) (fun c22 => ?_)
    · exact K _ _ _ h1 h2 (h3.elim (fun z => Or.inl ⟨z.1, z.2.2⟩) Or.inr)
    · exfalso; ((try simp only [bI_0, bI_1, lc_lt, lc_gt, lc_le, lc_ge, Classical.not_not] at *); (try simp only [i_lt, i_le, i_eq, l_lt, l_le, l_eq, Int32.toInt_toInt64, Int32.reduceToInt, Int64.reduceToInt] at *); omega)
  | succ n ih =>
    intro i hi t mt x h1 h2 h3 hx
    have cx := cl_of hx
    have hin := up_in (N := 5) hx (by omega)
    have q := hr.2 i (by omega)
    have eo : (t + I 144 pn).toInt = t.toInt + (I 144 pn).toInt := i_add (by omega) (by omega)
    have keep : ¬ mtr (I 145) (I 146) (I 144 pn).toInt t.toInt i → ((mt = 0 ∧ t = t0 ∧ ∀ r, r < i + 1 → ¬ mtr (I 145) (I 146) (I 144 pn).toInt t.toInt r) ∨ (mt = 1 ∧ cwO (I 146) NR t.toInt < cwO (I 146) NR t0.toInt)) := by
      intro hm
      rcases h3 with ⟨a1, a2, a3⟩ | a
      · refine Or.inl ⟨a1, a2, fun r hr2 => ?_⟩
        by_cases e : r = i
        · subst e; exact hm
        · exact a3 r (by omega)
      · exact Or.inr a
    refine r_iload (j := 0) rfl dX12_outBy_16 ?_
    refine r_aload_n (j := 3) rfl rfl dX12_outBy_18 ?_
    refine w_getI fX12_546 rfl dX12_outBy_19 ?_
    refine r_icmp_ge (tgt := 74) dX12_outBy_22 (by decide) (fun c22 => ?_) (fun c22 => ?_)
    · exfalso; ((try simp only [bI_0, bI_1, lc_lt, lc_gt, lc_le, lc_ge, Classical.not_not] at *); (try simp only [i_lt, i_le, i_eq, l_lt, l_le, l_eq, Int32.toInt_toInt64, Int32.reduceToInt, Int64.reduceToInt] at *); omega)
    · refine r_iload_n (j := 2) rfl rfl dX12_outBy_25 ?_
      refine r_aload_n (j := 3) rfl rfl dX12_outBy_26 ?_
      refine w_getR (b := 146) fX12_330 rfl rfl dX12_outBy_27 ?_
      refine r_iload (j := 0) rfl dX12_outBy_30 ?_
      refine w_iald rfl (by first | assumption | (rw [vp_in_iff]; ((try simp only [bI_0, bI_1, lc_lt, lc_gt, lc_le, lc_ge, Classical.not_not] at *); (try simp only [i_lt, i_le, i_eq, l_lt, l_le, l_eq, Int32.toInt_toInt64, Int32.reduceToInt, Int64.reduceToInt] at *); omega))) dX12_outBy_32 ?_
      refine r_icmp_ge (tgt := 68) dX12_outBy_33 (by decide) (fun c33 => ?_) (fun c33 => ?_)
      · refine r_iinc (j := 0) (lv' := fun z => [(5, .int z), (4, .int mt), (3, .int t), (0, .ref 95), (1, .int p), (2, .int m)]) dX12_outBy_68 rfl (Nat.le_of_ble_eq_true rfl) (fun _ => rfl) (fun x5_68 ex5_68 => ?_)
        refine r_goto (tgt := 16) dX12_outBy_71 (by decide) ?_
        rw [cx] at c33; exact ih (i + 1) (by omega) _ _ _ h1 h2 (keep (fun z => by rw [i_le] at c33; have := z.1; omega)) (by rw [ex5_68]; exact i_inc hx (by omega))
      · refine r_aload_n (j := 3) rfl rfl dX12_outBy_36 ?_
        refine w_getR (b := 145) fX12_327 rfl rfl dX12_outBy_37 ?_
        refine r_iload (j := 0) rfl dX12_outBy_40 ?_
        refine w_iald rfl (by first | assumption | (rw [vp_in_iff]; ((try simp only [bI_0, bI_1, lc_lt, lc_gt, lc_le, lc_ge, Classical.not_not] at *); (try simp only [i_lt, i_le, i_eq, l_lt, l_le, l_eq, Int32.toInt_toInt64, Int32.reduceToInt, Int64.reduceToInt] at *); omega))) dX12_outBy_42 ?_
        refine r_iload_n (j := 2) rfl rfl dX12_outBy_43 ?_
        refine r_aload_n (j := 3) rfl rfl dX12_outBy_44 ?_
        refine w_getR (b := 144) fX12_324 rfl rfl dX12_outBy_45 ?_
        refine r_iload_n (j := 4) rfl rfl dX12_outBy_48 ?_
        refine w_iald rfl (by first | assumption | (rw [vp_in_iff]; ((try simp only [bI_0, bI_1, lc_lt, lc_gt, lc_le, lc_ge, Classical.not_not] at *); (try simp only [i_lt, i_le, i_eq, l_lt, l_le, l_eq, Int32.toInt_toInt64, Int32.reduceToInt, Int64.reduceToInt] at *); omega))) dX12_outBy_49 ?_
        refine r_iadd dX12_outBy_50 ?_
        refine r_icmp_lt (tgt := 57) dX12_outBy_51 (by decide) (fun c51 => ?_) (fun c51 => ?_)
        · refine r_aload_n (j := 3) rfl rfl dX12_outBy_57 ?_
          refine w_getR (b := 146) fX12_330 rfl rfl dX12_outBy_58 ?_
          refine r_iload (j := 0) rfl dX12_outBy_61 ?_
          refine w_iald rfl (by first | assumption | (rw [vp_in_iff]; ((try simp only [bI_0, bI_1, lc_lt, lc_gt, lc_le, lc_ge, Classical.not_not] at *); (try simp only [i_lt, i_le, i_eq, l_lt, l_le, l_eq, Int32.toInt_toInt64, Int32.reduceToInt, Int64.reduceToInt] at *); omega))) dX12_outBy_63 ?_
          refine r_istore_n (lv' := fun z => [(3, .int z), (5, .int x), (4, .int mt), (0, .ref 95), (1, .int p), (2, .int m)]) dX12_outBy_64 rfl (Nat.le_of_ble_eq_true rfl) (fun _ => rfl) (fun x3_64 ex3_64 => ?_)
          refine r_iconst (v := 1) rfl dX12_outBy_65 ?_
          refine r_istore (lv' := fun z => [(4, .int z), (3, .int x3_64), (5, .int x), (0, .ref 95), (1, .int p), (2, .int m)]) dX12_outBy_66 (Nat.le_of_ble_eq_true rfl) (fun _ => rfl) (fun x4_66 ex4_66 => ?_)
          refine r_iinc (j := 2) (lv' := fun z => [(5, .int z), (4, .int x4_66), (3, .int x3_64), (0, .ref 95), (1, .int p), (2, .int m)]) dX12_outBy_68 rfl (Nat.le_of_ble_eq_true rfl) (fun _ => rfl) (fun x5_68 ex5_68 => ?_)
          refine r_goto (tgt := 16) dX12_outBy_71 (by decide) ?_
          rw [cx, cp] at c51
          rw [cx] at c33
          have hm : mtr (I 145) (I 146) (I 144 pn).toInt t.toInt i := ⟨by rw [i_le] at c33; omega, by rw [i_lt, eo] at c51; exact c51⟩
          rw [cx] at ex3_64
          subst ex3_64
          refine ih (i + 1) (by omega) _ _ _ (prO_step h1 (by omega) hm) (by omega) (Or.inr ⟨ex4_66, ?_⟩) (by rw [ex5_68]; exact i_inc hx (by omega))
          have c := cwO_lt (rt := I 146) (NR := NR) (show i < NR by omega) hm.1
          rcases h3 with ⟨-, a2, -⟩ | ⟨-, a2⟩
          · rw [← a2]; exact c
          · omega
        · refine r_goto (tgt := 68) dX12_outBy_54 (by decide) ?_
          refine r_iinc (j := 0) (lv' := fun z => [(5, .int z), (4, .int mt), (3, .int t), (0, .ref 95), (1, .int p), (2, .int m)]) dX12_outBy_68 rfl (Nat.le_of_ble_eq_true rfl) (fun _ => rfl) (fun x5_68 ex5_68 => ?_)
          refine r_goto (tgt := 16) dX12_outBy_71 (by decide) ?_
          rw [cx, cp] at c51; exact ih (i + 1) (by omega) _ _ _ h1 h2 (keep (fun z => by rw [i_lt, eo] at c51; exact c51 z.2)) (by rw [ex5_68]; exact i_inc hx (by omega))
theorem l_X12_ob1 {p m : Int32} {pn NR : Nat} (hR : (I 95 84).toInt = NR) (hr : rdOk (I 145) (I 146) NR) (hp : p.toInt = pn) (hp8 : pn < 8) (hn : ndOk (I 144 pn)) (hm : 0 ≤ m.toInt ∧ m.toInt ≤ 2000000) : ∀ (c : Nat) (t mt : Int32), cwO (I 146) NR t.toInt ≤ c → prO (I 145) (I 146) NR (I 144 pn).toInt m.toInt t.toInt → (0 ≤ t.toInt ∧ t.toInt ≤ 2000000) → (mt = 1 ∨ (mt = 0 ∧ vld (I 145) (I 146) NR (I 144 pn).toInt t.toInt)) → RR sc mX12_outBy 0 0 0 (rI (ouR (I 144) (I 145) (I 146) NR pn m) (XW I L tg)) 0 0 5 [(4, .int mt), (3, .int t), (0, .ref 95), (1, .int p), (2, .int m)] [] (XW I L tg) := by
  have cp := cl_of hp
  have hip := up_in hp hp8
  obtain ⟨n1, n2⟩ := id hn
  have A : ∀ t mt : Int32, prO (I 145) (I 146) NR (I 144 pn).toInt m.toInt t.toInt → (0 ≤ t.toInt ∧ t.toInt ≤ 2000000) → mt = 0 → vld (I 145) (I 146) NR (I 144 pn).toInt t.toInt → RR sc mX12_outBy 0 0 0 (rI (ouR (I 144) (I 145) (I 146) NR pn m) (XW I L tg)) 0 0 5 [(4, .int mt), (3, .int t), (0, .ref 95), (1, .int p), (2, .int m)] [] (XW I L tg) := by
    intro t mt h1 h2 h3 h4
    refine r_iload (j := 0) rfl dX12_outBy_5 ?_
    refine r_if_eq (tgt := 77) dX12_outBy_7 (by decide) (fun c7 => ?_) (fun c7 => ?_)
    · refine r_iload_n (j := 1) rfl rfl dX12_outBy_77 ?_
      refine r_aload_n (j := 2) rfl rfl dX12_outBy_78 ?_
      refine w_getR (b := 144) fX12_324 rfl rfl dX12_outBy_79 ?_
      refine r_iload_n (j := 3) rfl rfl dX12_outBy_82 ?_
      refine w_iald rfl (by first | assumption | (rw [vp_in_iff]; ((try simp only [bI_0, bI_1, lc_lt, lc_gt, lc_le, lc_ge, Classical.not_not] at *); (try simp only [i_lt, i_le, i_eq, l_lt, l_le, l_eq, Int32.toInt_toInt64, Int32.reduceToInt, Int64.reduceToInt] at *); omega))) dX12_outBy_83 ?_
      refine r_iadd dX12_outBy_84 ?_
      refine w_iret rfl (rfl) (Nat.le_of_ble_eq_true rfl) (Nat.le_of_ble_eq_true rfl) dX12_outBy_85 ?_
      refine ⟨?_, rfl, rfl, rfl⟩
      obtain ⟨b, b1, b2, -⟩ := ouR_ok (ne := I 144) (p := pn) (m := m) hr hn hm
      have e := isO_one (rf := I 145) (rt := I 146) (NR := NR) ⟨h1, h4⟩ b1
      rw [cp, i_eq, b2, i_add (by omega) (by omega), e]
    · exact absurd h3 c7
  intro c
  induction c with
  | zero =>
    intro t mt hc h1 h2 h3
    rcases h3 with h3 | ⟨h3, h4⟩
    · skip
      refine r_iload (j := 0) rfl dX12_outBy_5 ?_
      refine r_if_eq (tgt := 77) dX12_outBy_7 (by decide) (fun c7 => ?_) (fun c7 => ?_)
      · rw [h3] at c7; exact absurd c7 (by decide)
      · refine r_iconst (v := 0) rfl dX12_outBy_10 ?_
        refine r_istore (lv' := fun z => [(4, .int z), (3, .int t), (0, .ref 95), (1, .int p), (2, .int m)]) dX12_outBy_11 (Nat.le_of_ble_eq_true rfl) (fun _ => rfl) (fun x4_11 ex4_11 => ?_)
        refine r_iconst (v := 0) rfl dX12_outBy_13 ?_
        refine r_istore (lv' := fun z => [(5, .int z), (4, .int x4_11), (3, .int t), (0, .ref 95), (1, .int p), (2, .int m)]) dX12_outBy_14 (Nat.le_of_ble_eq_true rfl) (fun _ => rfl) (fun x5_14 ex5_14 => ?_)
        refine l_X12_ob2 hR hr hp hp8 hn ?_ NR 0 (Nat.zero_add _) t _ _ h1 h2 (Or.inl ⟨ex4_11, rfl, fun r hr2 => by omega⟩) (by rw [ex5_14]; rfl)
        intro t' mt' x5 k1 k2 k3
        refine r_lvs [(4, .int mt'), (3, .int t'), (0, .ref 95), (1, .int p), (2, .int m)] [1, 2, 3, 4, 5] rfl ?_
        refine r_goto (tgt := 5) dX12_outBy_74 (by decide) ?_
        rcases k3 with ⟨k3, k4⟩ | ⟨k3, k4⟩
        · exact A t' mt' k1 k2 k3 k4
        · omega
    · exact A t mt h1 h2 h3 h4
  | succ c ih =>
    intro t mt hc h1 h2 h3
    rcases h3 with h3 | ⟨h3, h4⟩
    · skip
      refine r_iload (j := 0) rfl dX12_outBy_5 ?_
      refine r_if_eq (tgt := 77) dX12_outBy_7 (by decide) (fun c7 => ?_) (fun c7 => ?_)
      · rw [h3] at c7; exact absurd c7 (by decide)
      · refine r_iconst (v := 0) rfl dX12_outBy_10 ?_
        refine r_istore (lv' := fun z => [(4, .int z), (3, .int t), (0, .ref 95), (1, .int p), (2, .int m)]) dX12_outBy_11 (Nat.le_of_ble_eq_true rfl) (fun _ => rfl) (fun x4_11 ex4_11 => ?_)
        refine r_iconst (v := 0) rfl dX12_outBy_13 ?_
        refine r_istore (lv' := fun z => [(5, .int z), (4, .int x4_11), (3, .int t), (0, .ref 95), (1, .int p), (2, .int m)]) dX12_outBy_14 (Nat.le_of_ble_eq_true rfl) (fun _ => rfl) (fun x5_14 ex5_14 => ?_)
        refine l_X12_ob2 hR hr hp hp8 hn ?_ NR 0 (Nat.zero_add _) t _ _ h1 h2 (Or.inl ⟨ex4_11, rfl, fun r hr2 => by omega⟩) (by rw [ex5_14]; rfl)
        intro t' mt' x5 k1 k2 k3
        refine r_lvs [(4, .int mt'), (3, .int t'), (0, .ref 95), (1, .int p), (2, .int m)] [1, 2, 3, 4, 5] rfl ?_
        refine r_goto (tgt := 5) dX12_outBy_74 (by decide) ?_
        rcases k3 with ⟨k3, k4⟩ | ⟨k3, k4⟩
        · exact A t' mt' k1 k2 k3 k4
        · exact ih t' mt' (by omega) k1 k2 (Or.inl k3)
    · exact A t mt h1 h2 h3 h4
/-- the model's people -/
def ouM (I : Is) : Nat → Int32 → Int32 := ouR (I 144) (I 145) (I 146) (nN (I 95 84))
def ntOk (I : Is) (P : Nat) : Prop := 0 ≤ (I 95 84).toInt ∧ rdOk (I 145) (I 146) (nN (I 95 84)) ∧ ∀ p, p < P → ndOk (I 144 p)
theorem k_X12_outBy {p m : Int32} {pn P : Nat} (h : ntOk I P) (hp : p.toInt = pn) (hpP : pn < P) (h8 : P ≤ 8) (hm : 0 ≤ m.toInt ∧ m.toInt ≤ 2000000) : Con sc mX12_outBy 0 0 0 [.ref 95, .int p, .int m] (XW I L tg) (rI (ouM I pn m) (XW I L tg)) := by
  obtain ⟨h1, h2, h3⟩ := h
  have hR := nN_of h1
  refine Con_of (by decide) (Nat.le_of_ble_eq_true rfl) ?_
  refine r_iload_n (j := 2) rfl rfl dX12_outBy_0 ?_
  refine r_istore_n (lv' := fun z => [(3, .int z), (0, .ref 95), (1, .int p), (2, .int m)]) dX12_outBy_1 rfl (Nat.le_of_ble_eq_true rfl) (fun _ => rfl) (fun x3_1 ex3_1 => ?_)
  refine r_iconst (v := 1) rfl dX12_outBy_2 ?_
  refine r_istore (lv' := fun z => [(4, .int z), (3, .int x3_1), (0, .ref 95), (1, .int p), (2, .int m)]) dX12_outBy_3 (Nat.le_of_ble_eq_true rfl) (fun _ => rfl) (fun x4_3 ex4_3 => ?_)
  subst ex3_1
  exact l_X12_ob1 hR h2 hp (by omega) (h3 pn hpP) hm _ _ _ (Nat.le_refl _) ⟨Int.le_refl _, fun c hc _ => hc⟩ hm (Or.inl ex4_3)
theorem ouM_ok {P : Nat} (h : ntOk I P) : outOk (ouM I) P := by
  obtain ⟨h1, h2, h3⟩ := h
  intro p hp
  refine ⟨fun m m0 m1 => ?_, fun m m' m0 hle m1 => ou_mono h2 (h3 p hp) m0 hle (by omega)⟩
  have := ou_rng (ne := I 144) (p := p) (m := m) h2 (h3 p hp) (by omega)
  show m.toInt ≤ (ouR (I 144) (I 145) (I 146) (nN (I 95 84)) p m).toInt ∧ (ouR (I 144) (I 145) (I 146) (nN (I 95 84)) p m).toInt ≤ m.toInt + 623
  omega
/-- an order off the tape -/
theorem l_X12_order {P N : Nat} (h : ntOk I P) (hP : I 95 83 = nI P) (h8 : P ≤ 8) (hNP : N ≤ P) {n1 : Int32} (hn1 : n1.toInt = N) : ∀ n i : Nat, i + n = N → ∀ g m x : Int32, (0 ≤ m.toInt ∧ m.toInt ≤ 1000 * i) → x.toInt = i → RR sc mX12_order 1 0 0 (rI (loS (fun j => I 96 j &&& 255) (I 95 83) (ouM I) n i g m) (XW I L tg)) 0 0 27 [(4, .int x), (3, .int m), (2, .int g), (1, .int n1), (0, .ref 95)] [] (XW I L tg) := by
  have hPi : (I 95 83).toInt = P := by rw [hP, nI_toInt (by omega)]
  intro n
  induction n with
  | zero =>
    intro i hi g m x hm hx
    refine r_iload (j := 0) rfl dX12_order_27 ?_
    refine r_iload_n (j := 3) rfl rfl dX12_order_29 ?_
    refine r_icmp_ge (tgt := 99) dX12_order_30 (by decide) (fun c30 => ?_) (fun c30 => ?_)
    · refine r_iload_n (j := 1) rfl rfl dX12_order_99 ?_
      refine w_iret rfl (rfl) (Nat.le_of_ble_eq_true rfl) (Nat.le_of_ble_eq_true rfl) dX12_order_100 ?_
      exact ⟨rfl, rfl, rfl, rfl⟩
    · exfalso; ((try simp only [bI_0, bI_1, lc_lt, lc_gt, lc_le, lc_ge, Classical.not_not] at *); (try simp only [i_lt, i_le, i_eq, l_lt, l_le, l_eq, Int32.toInt_toInt64, Int32.reduceToInt, Int64.reduceToInt] at *); omega)
  | succ n ih =>
    intro i hi g m x hm hx
    have cx := cl_of hx
    have hin := up_in (N := 900) hx (by omega)
    rw [loS]
    refine r_iload (j := 0) rfl dX12_order_27 ?_
    refine r_iload_n (j := 3) rfl rfl dX12_order_29 ?_
    refine r_icmp_ge (tgt := 99) dX12_order_30 (by decide) (fun c30 => ?_) (fun c30 => ?_)
    · exfalso; ((try simp only [bI_0, bI_1, lc_lt, lc_gt, lc_le, lc_ge, Classical.not_not] at *); (try simp only [i_lt, i_le, i_eq, l_lt, l_le, l_eq, Int32.toInt_toInt64, Int32.reduceToInt, Int64.reduceToInt] at *); omega)
    · refine r_aload_n (j := 4) rfl rfl dX12_order_33 ?_
      refine w_getR (b := 96) fX12_16 rfl rfl dX12_order_34 ?_
      refine r_iload (j := 0) rfl dX12_order_37 ?_
      refine w_bald rfl (by first | assumption | (rw [vp_in_iff]; ((try simp only [bI_0, bI_1, lc_lt, lc_gt, lc_le, lc_ge, Classical.not_not] at *); (try simp only [i_lt, i_le, i_eq, l_lt, l_le, l_eq, Int32.toInt_toInt64, Int32.reduceToInt, Int64.reduceToInt] at *); omega))) dX12_order_39 ?_
      refine r_sipush (v := 255) rfl dX12_order_40 ?_
      refine r_iand dX12_order_43 ?_
      refine r_bipush (v := 48) rfl dX12_order_44 ?_
      refine r_isub dX12_order_46 ?_
      refine r_istore (lv' := fun z => [(5, .int z), (4, .int x), (3, .int m), (2, .int g), (1, .int n1), (0, .ref 95)]) dX12_order_47 (Nat.le_of_ble_eq_true rfl) (fun _ => rfl) (fun x5_47 ex5_47 => ?_)
      rw [cx] at ex5_47; rw [← ex5_47]
      refine r_iload (j := 0) rfl dX12_order_49 ?_
      refine r_i2l dX12_order_51 ?_
      refine r_lconst (v := 0) rfl dX12_order_52 ?_
      refine r_aload_n (j := 5) rfl rfl dX12_order_53 ?_
      refine w_getI fX12_541 rfl dX12_order_54 ?_
      refine r_i2l dX12_order_57 ?_
      refine r_lconst (v := 1) rfl dX12_order_58 ?_
      refine r_lsub dX12_order_59 ?_
      refine w_cS3p (k_X12_in) (Nat.le_of_ble_eq_true rfl) lX12_52 mtX12_in (Nat.le_of_ble_eq_true rfl) (Nat.le_of_ble_eq_true rfl) (Nat.le_of_ble_eq_true rfl) dX12_order_60 ?_
      refine r_if_eq (tgt := 76) dX12_order_63 (by decide) (fun c63 => ?_) (fun c63 => ?_)
      · refine r_iconst (v := (-1)) rfl dX12_order_76 ?_
        refine w_iret rfl (rfl) (Nat.le_of_ble_eq_true rfl) (Nat.le_of_ble_eq_true rfl) dX12_order_77 ?_
        refine ⟨?_, rfl, rfl, rfl⟩
        have c := bI_0.mp c63
        rw [Int32.toInt_toInt64, x64_sub _ _ (by decide)] at c
        have c : ¬ (0 ≤ x5_47.toInt ∧ x5_47.toInt ≤ (I 95 83).toInt - 1) := c
        rw [if_pos]
        rcases Int.lt_or_le x5_47.toInt 0 with q | q
        · exact Or.inl (by rw [i_lt]; exact q)
        · exact Or.inr (Or.inl (by rw [i_le]; omega))
      · refine r_iload_n (j := 3) rfl rfl dX12_order_66 ?_
        refine r_iload (j := 0) rfl dX12_order_67 ?_
        refine r_ishr dX12_order_69 ?_
        refine r_iconst (v := 1) rfl dX12_order_70 ?_
        refine r_iand dX12_order_71 ?_
        refine r_iconst (v := 1) rfl dX12_order_72 ?_
        refine r_icmp_ne (tgt := 78) dX12_order_73 (by decide) (fun c73 => ?_) (fun c73 => ?_)
        · have c := bI_1.mp c63
          rw [Int32.toInt_toInt64, x64_sub _ _ (by decide)] at c
          have c : 0 ≤ x5_47.toInt ∧ x5_47.toInt ≤ (I 95 83).toInt - 1 := c
          have e5 : x5_47.toInt = (x5_47.toNatClampNeg : Int) := (i_cl c.1).symm
          have q1 := ((ouM_ok h) x5_47.toNatClampNeg (by omega)).1 m hm.1 (by omega)
          refine r_iload_n (j := 3) rfl rfl dX12_order_78 ?_
          refine r_iconst (v := 1) rfl dX12_order_79 ?_
          refine r_iload (j := 0) rfl dX12_order_80 ?_
          refine r_ishl dX12_order_82 ?_
          refine r_ior dX12_order_83 ?_
          refine r_istore_n (lv' := fun z => [(2, .int z), (5, .int x5_47), (4, .int x), (3, .int m), (1, .int n1), (0, .ref 95)]) dX12_order_84 rfl (Nat.le_of_ble_eq_true rfl) (fun _ => rfl) (fun x2_84 ex2_84 => ?_)
          refine r_aload_n (j := 5) rfl rfl dX12_order_85 ?_
          refine r_iload (j := 1) rfl dX12_order_86 ?_
          refine r_iload_n (j := 3) rfl rfl dX12_order_88 ?_
          refine w_cV2p (k_X12_outBy h e5 (by omega) h8 (by omega)) (Nat.le_of_ble_eq_true rfl) lX12_549 vmX12_outBy rfl (Nat.le_of_ble_eq_true rfl) (Nat.le_of_ble_eq_true rfl) (Nat.le_of_ble_eq_true rfl) dX12_order_89 ?_
          refine r_istore_n (lv' := fun z => [(3, .int z), (2, .int x2_84), (5, .int x5_47), (4, .int x), (1, .int n1), (0, .ref 95)]) dX12_order_92 rfl (Nat.le_of_ble_eq_true rfl) (fun _ => rfl) (fun x3_92 ex3_92 => ?_)
          refine r_iinc (j := 3) (lv' := fun z => [(4, .int z), (3, .int x3_92), (2, .int x2_84), (5, .int x5_47), (1, .int n1), (0, .ref 95)]) dX12_order_93 rfl (Nat.le_of_ble_eq_true rfl) (fun _ => rfl) (fun x4_93 ex4_93 => ?_)
          refine r_goto (tgt := 27) dX12_order_96 (by decide) ?_
          refine r_lvs [(4, .int x4_93), (3, .int x3_92), (2, .int x2_84), (1, .int n1), (0, .ref 95)] [0, 1, 2, 4, 5] rfl ?_
          rw [if_neg (by
            rintro (z | z | z)
            · rw [i_lt] at z; have z : x5_47.toInt < 0 := z; omega
            · rw [i_le] at z; omega
            · exact z (and1_n c73))]
          subst ex2_84 ex3_92
          exact ih (i + 1) (by omega) _ _ _ (by omega) (by rw [ex4_93]; exact i_inc hx (by omega))
        · refine r_iconst (v := (-1)) rfl dX12_order_76 ?_
          refine w_iret rfl (rfl) (Nat.le_of_ble_eq_true rfl) (Nat.le_of_ble_eq_true rfl) dX12_order_77 ?_
          exact ⟨by rw [if_pos (Or.inr (Or.inr (and1_y c73)))], rfl, rfl, rfl⟩
theorem k_X12_order {P N : Nat} (h : ntOk I P) (hP : I 95 83 = nI P) (h8 : P ≤ 8) (hN : I 95 1 = nI N) (h9 : N ≤ 900) : Con sc mX12_order 1 0 0 [.ref 95] (XW I L tg) (rI (if P < N then -1 else loS (fun j => I 96 j &&& 255) (I 95 83) (ouM I) N 0 0 0) (XW (up I 95 1 0) L tg)) := by
  have hPi : (I 95 83).toInt = P := by rw [hP, nI_toInt (by omega)]
  have hNi : (I 95 1).toInt = N := by rw [hN, nI_toInt (by omega)]
  have a83 : up I 95 1 0 95 83 = I 95 83 := by simp [up_eq, vu_eq]
  have a84 : up I 95 1 0 95 84 = I 95 84 := by simp [up_eq, vu_eq]
  have am : ouM (up I 95 1 0) = ouM I := by unfold ouM; rw [a84, up_n _ _ _ (by decide), up_n _ _ _ (by decide), up_n _ _ _ (by decide)]
  have h' : ntOk (up I 95 1 0) P := by
    unfold ntOk
    rw [a84, up_n _ _ _ (by decide), up_n _ _ _ (by decide), up_n _ _ _ (by decide)]
    exact h
  refine Con_of (by decide) (Nat.le_of_ble_eq_true rfl) ?_
  refine r_aload_n (j := 0) rfl rfl dX12_order_0 ?_
  refine w_getI fX12_345 rfl dX12_order_1 ?_
  refine r_istore_n (lv' := fun z => [(1, .int z), (0, .ref 95)]) dX12_order_4 rfl (Nat.le_of_ble_eq_true rfl) (fun _ => rfl) (fun x1_4 ex1_4 => ?_)
  refine r_aload_n (j := 1) rfl rfl dX12_order_5 ?_
  refine r_iconst (v := 0) rfl dX12_order_6 ?_
  refine w_putI fX12_345 rfl (rfl) (rfl) dX12_order_7 (fun J7 hJ7 => ?_)
  refine r_iconst (v := 0) rfl dX12_order_10 ?_
  refine r_istore_n (lv' := fun z => [(2, .int z), (1, .int x1_4), (0, .ref 95)]) dX12_order_11 rfl (Nat.le_of_ble_eq_true rfl) (fun _ => rfl) (fun x2_11 ex2_11 => ?_)
  refine r_iconst (v := 0) rfl dX12_order_12 ?_
  refine r_istore_n (lv' := fun z => [(3, .int z), (2, .int x2_11), (1, .int x1_4), (0, .ref 95)]) dX12_order_13 rfl (Nat.le_of_ble_eq_true rfl) (fun _ => rfl) (fun x3_13 ex3_13 => ?_)
  subst hJ7; have e1 : x1_4.toInt = N := by rw [ex1_4]; exact hNi
  refine r_iload_n (j := 2) rfl rfl dX12_order_14 ?_
  refine r_aload_n (j := 3) rfl rfl dX12_order_15 ?_
  refine w_getI fX12_541 rfl dX12_order_16 ?_
  refine r_icmp_le (tgt := 24) dX12_order_19 (by decide) (fun c19 => ?_) (fun c19 => ?_)
  · refine r_iconst (v := 0) rfl dX12_order_24 ?_
    refine r_istore (lv' := fun z => [(4, .int z), (3, .int x3_13), (2, .int x2_11), (1, .int x1_4), (0, .ref 95)]) dX12_order_25 (Nat.le_of_ble_eq_true rfl) (fun _ => rfl) (fun x4_25 ex4_25 => ?_)
    rw [a83, i_le, e1, hPi] at c19
    rw [if_neg (by omega), ← am, ← a83]
    subst ex2_11 ex3_13
    have := l_X12_order (sc := sc) (L := L) (tg := tg) h' (by rw [a83]; exact hP) h8 (by omega) e1 N 0 (Nat.zero_add _) 0 0 x4_25 ⟨by decide, by decide⟩ (by rw [ex4_25]; rfl)
    rw [up_n _ _ _ (show (96 : Nat) ≠ 95 by decide)] at this
    exact this
  · refine r_iconst (v := (-1)) rfl dX12_order_22 ?_
    refine w_iret rfl (rfl) (Nat.le_of_ble_eq_true rfl) (Nat.le_of_ble_eq_true rfl) dX12_order_23 ?_
    rw [a83, i_le, e1, hPi] at c19; exact ⟨by rw [if_pos (by omega)], rfl, rfl, rfl⟩
end
