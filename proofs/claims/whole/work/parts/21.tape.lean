/-! THE TAPE: cells 1 (length in slot 1) and 2 -/
theorem k_X10_at {sc : Sc} {I : Is} {L : Ls} {tg : Nat} {p : Int32} (h : (I 1 1).toInt ≤ 900) : Con sc mX10_at 0 0 0 [.ref 1, .int p] (XW I L tg) (rI (if 0 ≤ p ∧ p < I 1 1 then I 2 p.toNatClampNeg else -1) (XW I L tg)) := by
  refine Con_of (by decide) (Nat.le_of_ble_eq_true rfl) ?_
  refine r_iload_n (j := 1) rfl rfl dX10_at_0 ?_
  refine r_if_lt (tgt := 21) dX10_at_1 (by decide) (fun c1 => ?_) (fun c1 => ?_)
  · refine r_iconst (v := (-1)) rfl dX10_at_21 ?_
    refine w_iret rfl (rfl) (Nat.le_of_ble_eq_true rfl) (Nat.le_of_ble_eq_true rfl) dX10_at_22 ?_
    exact ⟨by simp only [i_lt, i_le, i_eq, Int32.reduceToInt] at *; (try split) <;> first | rfl | omega, rfl, rfl, rfl⟩
  · refine r_iload_n (j := 1) rfl rfl dX10_at_4 ?_
    refine r_aload_n (j := 0) rfl rfl dX10_at_5 ?_
    refine w_getI fX10_15 rfl dX10_at_6 ?_
    refine r_icmp_ge (tgt := 21) dX10_at_9 (by decide) (fun c9 => ?_) (fun c9 => ?_)
    · refine r_iconst (v := (-1)) rfl dX10_at_21 ?_
      refine w_iret rfl (rfl) (Nat.le_of_ble_eq_true rfl) (Nat.le_of_ble_eq_true rfl) dX10_at_22 ?_
      exact ⟨by simp only [i_lt, i_le, i_eq, Int32.reduceToInt] at *; (try split) <;> first | rfl | omega, rfl, rfl, rfl⟩
    · refine r_aload_n (j := 0) rfl rfl dX10_at_12 ?_
      refine w_getR (b := 2) fX10_9 rfl rfl dX10_at_13 ?_
      refine r_iload_n (j := 1) rfl rfl dX10_at_16 ?_
      refine w_iald rfl (by first | assumption | (rw [vp_in_iff]; ((try simp only [bI_0, bI_1, lc_lt, lc_gt, lc_le, lc_ge, Classical.not_not] at *); (try simp only [i_lt, i_le, i_eq, l_lt, l_le, l_eq, Int32.toInt_toInt64, Int32.reduceToInt, Int64.reduceToInt] at *); omega))) dX10_at_17 ?_
      refine r_goto (tgt := 22) dX10_at_18 (by decide) ?_
      refine w_iret rfl (rfl) (Nat.le_of_ble_eq_true rfl) (Nat.le_of_ble_eq_true rfl) dX10_at_22 ?_
      exact ⟨by simp only [i_lt, i_le, i_eq, Int32.reduceToInt] at *; (try split) <;> first | rfl | omega, rfl, rfl, rfl⟩
