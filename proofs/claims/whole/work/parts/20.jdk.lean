/-! Math, Integer, String: their contracts -/
theorem k_J9_max_7cf53 {sc : Sc} {I : Is} {L : Ls} {tg : Nat} {a b : Int32} : Con sc mJ9_max_7cf53 0 0 0 [.int a, .int b] (XW I L tg) (rI (iMax a b) (XW I L tg)) := by
  refine Con_of (by decide) (Nat.le_of_ble_eq_true rfl) ?_
  refine r_iload_n (j := 0) rfl rfl dJ9_max_7cf53_0 ?_
  refine r_iload_n (j := 1) rfl rfl dJ9_max_7cf53_1 ?_
  refine r_icmp_lt (tgt := 9) dJ9_max_7cf53_2 (by decide) (fun c2 => ?_) (fun c2 => ?_)
  · refine r_iload_n (j := 1) rfl rfl dJ9_max_7cf53_9 ?_
    refine w_iret rfl (rfl) (Nat.le_of_ble_eq_true rfl) (Nat.le_of_ble_eq_true rfl) dJ9_max_7cf53_10 ?_
    exact ⟨by simp [iMax, c2], rfl, rfl, rfl⟩
  · refine r_iload_n (j := 0) rfl rfl dJ9_max_7cf53_5 ?_
    refine r_goto (tgt := 10) dJ9_max_7cf53_6 (by decide) ?_
    refine w_iret rfl (rfl) (Nat.le_of_ble_eq_true rfl) (Nat.le_of_ble_eq_true rfl) dJ9_max_7cf53_10 ?_
    exact ⟨by simp [iMax, c2], rfl, rfl, rfl⟩
theorem k_J9_min_7cf53 {sc : Sc} {I : Is} {L : Ls} {tg : Nat} {a b : Int32} : Con sc mJ9_min_7cf53 0 0 0 [.int a, .int b] (XW I L tg) (rI (iMin a b) (XW I L tg)) := by
  refine Con_of (by decide) (Nat.le_of_ble_eq_true rfl) ?_
  refine r_iload_n (j := 0) rfl rfl dJ9_min_7cf53_0 ?_
  refine r_iload_n (j := 1) rfl rfl dJ9_min_7cf53_1 ?_
  refine r_icmp_gt (tgt := 9) dJ9_min_7cf53_2 (by decide) (fun c2 => ?_) (fun c2 => ?_)
  · refine r_iload_n (j := 1) rfl rfl dJ9_min_7cf53_9 ?_
    refine w_iret rfl (rfl) (Nat.le_of_ble_eq_true rfl) (Nat.le_of_ble_eq_true rfl) dJ9_min_7cf53_10 ?_
    exact ⟨by simp [iMin, c2], rfl, rfl, rfl⟩
  · refine r_iload_n (j := 0) rfl rfl dJ9_min_7cf53_5 ?_
    refine r_goto (tgt := 10) dJ9_min_7cf53_6 (by decide) ?_
    refine w_iret rfl (rfl) (Nat.le_of_ble_eq_true rfl) (Nat.le_of_ble_eq_true rfl) dJ9_min_7cf53_10 ?_
    exact ⟨by simp [iMin, c2], rfl, rfl, rfl⟩
theorem k_J9_abs_0f7a4 {sc : Sc} {I : Is} {L : Ls} {tg : Nat} {a : Int32} : Con sc mJ9_abs_0f7a4 0 0 0 [.int a] (XW I L tg) (rI (iAbs a) (XW I L tg)) := by
  refine Con_of (by decide) (Nat.le_of_ble_eq_true rfl) ?_
  refine r_iload_n (j := 0) rfl rfl dJ9_abs_0f7a4_0 ?_
  refine r_if_ge (tgt := 9) dJ9_abs_0f7a4_1 (by decide) (fun c1 => ?_) (fun c1 => ?_)
  · refine r_iload_n (j := 0) rfl rfl dJ9_abs_0f7a4_9 ?_
    refine w_iret rfl (rfl) (Nat.le_of_ble_eq_true rfl) (Nat.le_of_ble_eq_true rfl) dJ9_abs_0f7a4_10 ?_
    exact ⟨by simp [iAbs, c1], rfl, rfl, rfl⟩
  · refine r_iload_n (j := 0) rfl rfl dJ9_abs_0f7a4_4 ?_
    refine r_ineg dJ9_abs_0f7a4_5 ?_
    refine r_goto (tgt := 10) dJ9_abs_0f7a4_6 (by decide) ?_
    refine w_iret rfl (rfl) (Nat.le_of_ble_eq_true rfl) (Nat.le_of_ble_eq_true rfl) dJ9_abs_0f7a4_10 ?_
    exact ⟨by simp [iAbs, c1], rfl, rfl, rfl⟩
