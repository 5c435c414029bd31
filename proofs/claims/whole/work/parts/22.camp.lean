/-! the camp 'now' (cells 3 .. 17): what is asked of it -/
theorem k_X11_isWithin {sc : Sc} {I : Is} {L : Ls} {tg : Nat} {a b c : Int32} : Con sc mX11_isWithin 0 0 0 [.int a, .int b, .int c] (XW I L tg) (rI (bI (b.toInt ≤ a.toInt ∧ a.toInt ≤ c.toInt)) (XW I L tg)) := by
  refine Con_of (by decide) (Nat.le_of_ble_eq_true rfl) ?_
  refine r_iload_n (j := 0) rfl rfl dX11_isWithin_0 ?_
  refine r_iload_n (j := 1) rfl rfl dX11_isWithin_1 ?_
  refine r_icmp_lt (tgt := 14) dX11_isWithin_2 (by decide) (fun c2 => ?_) (fun c2 => ?_)
  · refine r_iconst (v := 0) rfl dX11_isWithin_14 ?_
    refine w_iret rfl (rfl) (Nat.le_of_ble_eq_true rfl) (Nat.le_of_ble_eq_true rfl) dX11_isWithin_15 ?_
    exact ⟨by first | exact (bI_t (by ((try simp only [bI_0, bI_1, lc_lt, lc_gt, lc_le, lc_ge, Classical.not_not] at *); (try simp only [i_lt, i_le, i_eq, l_lt, l_le, l_eq, Int32.toInt_toInt64, Int32.reduceToInt, Int64.reduceToInt] at *); omega))).symm | exact (bI_f (by ((try simp only [bI_0, bI_1, lc_lt, lc_gt, lc_le, lc_ge, Classical.not_not] at *); (try simp only [i_lt, i_le, i_eq, l_lt, l_le, l_eq, Int32.toInt_toInt64, Int32.reduceToInt, Int64.reduceToInt] at *); omega))).symm, rfl, rfl, rfl⟩
  · refine r_iload_n (j := 0) rfl rfl dX11_isWithin_5 ?_
    refine r_iload_n (j := 2) rfl rfl dX11_isWithin_6 ?_
    refine r_icmp_gt (tgt := 14) dX11_isWithin_7 (by decide) (fun c7 => ?_) (fun c7 => ?_)
    · refine r_iconst (v := 0) rfl dX11_isWithin_14 ?_
      refine w_iret rfl (rfl) (Nat.le_of_ble_eq_true rfl) (Nat.le_of_ble_eq_true rfl) dX11_isWithin_15 ?_
      exact ⟨by first | exact (bI_t (by ((try simp only [bI_0, bI_1, lc_lt, lc_gt, lc_le, lc_ge, Classical.not_not] at *); (try simp only [i_lt, i_le, i_eq, l_lt, l_le, l_eq, Int32.toInt_toInt64, Int32.reduceToInt, Int64.reduceToInt] at *); omega))).symm | exact (bI_f (by ((try simp only [bI_0, bI_1, lc_lt, lc_gt, lc_le, lc_ge, Classical.not_not] at *); (try simp only [i_lt, i_le, i_eq, l_lt, l_le, l_eq, Int32.toInt_toInt64, Int32.reduceToInt, Int64.reduceToInt] at *); omega))).symm, rfl, rfl, rfl⟩
    · refine r_iconst (v := 1) rfl dX11_isWithin_10 ?_
      refine r_goto (tgt := 15) dX11_isWithin_11 (by decide) ?_
      refine w_iret rfl (rfl) (Nat.le_of_ble_eq_true rfl) (Nat.le_of_ble_eq_true rfl) dX11_isWithin_15 ?_
      exact ⟨by first | exact (bI_t (by ((try simp only [bI_0, bI_1, lc_lt, lc_gt, lc_le, lc_ge, Classical.not_not] at *); (try simp only [i_lt, i_le, i_eq, l_lt, l_le, l_eq, Int32.toInt_toInt64, Int32.reduceToInt, Int64.reduceToInt] at *); omega))).symm | exact (bI_f (by ((try simp only [bI_0, bI_1, lc_lt, lc_gt, lc_le, lc_ge, Classical.not_not] at *); (try simp only [i_lt, i_le, i_eq, l_lt, l_le, l_eq, Int32.toInt_toInt64, Int32.reduceToInt, Int64.reduceToInt] at *); omega))).symm, rfl, rfl, rfl⟩
theorem k_X11_isHut {sc : Sc} {I : Is} {L : Ls} {tg : Nat} {a : Int32} : Con sc mX11_isHut 0 0 0 [.ref 0, .int a] (XW I L tg) (rI (bI (0 ≤ a.toInt ∧ a.toInt < (I 3 14).toInt)) (XW I L tg)) := by
  refine Con_of (by decide) (Nat.le_of_ble_eq_true rfl) ?_
  refine r_iload_n (j := 1) rfl rfl dX11_isHut_0 ?_
  refine r_if_lt (tgt := 19) dX11_isHut_1 (by decide) (fun c1 => ?_) (fun c1 => ?_)
  · refine r_iconst (v := 0) rfl dX11_isHut_19 ?_
    refine w_iret rfl (rfl) (Nat.le_of_ble_eq_true rfl) (Nat.le_of_ble_eq_true rfl) dX11_isHut_20 ?_
    exact ⟨by first | exact (bI_t (by ((try simp only [bI_0, bI_1, lc_lt, lc_gt, lc_le, lc_ge, Classical.not_not] at *); (try simp only [i_lt, i_le, i_eq, l_lt, l_le, l_eq, Int32.toInt_toInt64, Int32.reduceToInt, Int64.reduceToInt] at *); omega))).symm | exact (bI_f (by ((try simp only [bI_0, bI_1, lc_lt, lc_gt, lc_le, lc_ge, Classical.not_not] at *); (try simp only [i_lt, i_le, i_eq, l_lt, l_le, l_eq, Int32.toInt_toInt64, Int32.reduceToInt, Int64.reduceToInt] at *); omega))).symm, rfl, rfl, rfl⟩
  · refine r_iload_n (j := 1) rfl rfl dX11_isHut_4 ?_
    refine r_aload_n (j := 0) rfl rfl dX11_isHut_5 ?_
    refine w_getR (b := 3) fX11_19 rfl rfl dX11_isHut_6 ?_
    refine w_getI fX11_340 rfl dX11_isHut_9 ?_
    refine r_icmp_ge (tgt := 19) dX11_isHut_12 (by decide) (fun c12 => ?_) (fun c12 => ?_)
    · refine r_iconst (v := 0) rfl dX11_isHut_19 ?_
      refine w_iret rfl (rfl) (Nat.le_of_ble_eq_true rfl) (Nat.le_of_ble_eq_true rfl) dX11_isHut_20 ?_
      exact ⟨by first | exact (bI_t (by ((try simp only [bI_0, bI_1, lc_lt, lc_gt, lc_le, lc_ge, Classical.not_not] at *); (try simp only [i_lt, i_le, i_eq, l_lt, l_le, l_eq, Int32.toInt_toInt64, Int32.reduceToInt, Int64.reduceToInt] at *); omega))).symm | exact (bI_f (by ((try simp only [bI_0, bI_1, lc_lt, lc_gt, lc_le, lc_ge, Classical.not_not] at *); (try simp only [i_lt, i_le, i_eq, l_lt, l_le, l_eq, Int32.toInt_toInt64, Int32.reduceToInt, Int64.reduceToInt] at *); omega))).symm, rfl, rfl, rfl⟩
    · refine r_iconst (v := 1) rfl dX11_isHut_15 ?_
      refine r_goto (tgt := 20) dX11_isHut_16 (by decide) ?_
      refine w_iret rfl (rfl) (Nat.le_of_ble_eq_true rfl) (Nat.le_of_ble_eq_true rfl) dX11_isHut_20 ?_
      exact ⟨by first | exact (bI_t (by ((try simp only [bI_0, bI_1, lc_lt, lc_gt, lc_le, lc_ge, Classical.not_not] at *); (try simp only [i_lt, i_le, i_eq, l_lt, l_le, l_eq, Int32.toInt_toInt64, Int32.reduceToInt, Int64.reduceToInt] at *); omega))).symm | exact (bI_f (by ((try simp only [bI_0, bI_1, lc_lt, lc_gt, lc_le, lc_ge, Classical.not_not] at *); (try simp only [i_lt, i_le, i_eq, l_lt, l_le, l_eq, Int32.toInt_toInt64, Int32.reduceToInt, Int64.reduceToInt] at *); omega))).symm, rfl, rfl, rfl⟩
theorem k_X11_isGarden {sc : Sc} {I : Is} {L : Ls} {tg : Nat} {a : Int32} : Con sc mX11_isGarden 0 0 0 [.ref 0, .int a] (XW I L tg) (rI (bI (0 ≤ a.toInt ∧ a.toInt < (I 3 15).toInt)) (XW I L tg)) := by
  refine Con_of (by decide) (Nat.le_of_ble_eq_true rfl) ?_
  refine r_iload_n (j := 1) rfl rfl dX11_isGarden_0 ?_
  refine r_if_lt (tgt := 19) dX11_isGarden_1 (by decide) (fun c1 => ?_) (fun c1 => ?_)
  · refine r_iconst (v := 0) rfl dX11_isGarden_19 ?_
    refine w_iret rfl (rfl) (Nat.le_of_ble_eq_true rfl) (Nat.le_of_ble_eq_true rfl) dX11_isGarden_20 ?_
    exact ⟨by first | exact (bI_t (by ((try simp only [bI_0, bI_1, lc_lt, lc_gt, lc_le, lc_ge, Classical.not_not] at *); (try simp only [i_lt, i_le, i_eq, l_lt, l_le, l_eq, Int32.toInt_toInt64, Int32.reduceToInt, Int64.reduceToInt] at *); omega))).symm | exact (bI_f (by ((try simp only [bI_0, bI_1, lc_lt, lc_gt, lc_le, lc_ge, Classical.not_not] at *); (try simp only [i_lt, i_le, i_eq, l_lt, l_le, l_eq, Int32.toInt_toInt64, Int32.reduceToInt, Int64.reduceToInt] at *); omega))).symm, rfl, rfl, rfl⟩
  · refine r_iload_n (j := 1) rfl rfl dX11_isGarden_4 ?_
    refine r_aload_n (j := 0) rfl rfl dX11_isGarden_5 ?_
    refine w_getR (b := 3) fX11_19 rfl rfl dX11_isGarden_6 ?_
    refine w_getI fX11_343 rfl dX11_isGarden_9 ?_
    refine r_icmp_ge (tgt := 19) dX11_isGarden_12 (by decide) (fun c12 => ?_) (fun c12 => ?_)
    · refine r_iconst (v := 0) rfl dX11_isGarden_19 ?_
      refine w_iret rfl (rfl) (Nat.le_of_ble_eq_true rfl) (Nat.le_of_ble_eq_true rfl) dX11_isGarden_20 ?_
      exact ⟨by first | exact (bI_t (by ((try simp only [bI_0, bI_1, lc_lt, lc_gt, lc_le, lc_ge, Classical.not_not] at *); (try simp only [i_lt, i_le, i_eq, l_lt, l_le, l_eq, Int32.toInt_toInt64, Int32.reduceToInt, Int64.reduceToInt] at *); omega))).symm | exact (bI_f (by ((try simp only [bI_0, bI_1, lc_lt, lc_gt, lc_le, lc_ge, Classical.not_not] at *); (try simp only [i_lt, i_le, i_eq, l_lt, l_le, l_eq, Int32.toInt_toInt64, Int32.reduceToInt, Int64.reduceToInt] at *); omega))).symm, rfl, rfl, rfl⟩
    · refine r_iconst (v := 1) rfl dX11_isGarden_15 ?_
      refine r_goto (tgt := 20) dX11_isGarden_16 (by decide) ?_
      refine w_iret rfl (rfl) (Nat.le_of_ble_eq_true rfl) (Nat.le_of_ble_eq_true rfl) dX11_isGarden_20 ?_
      exact ⟨by first | exact (bI_t (by ((try simp only [bI_0, bI_1, lc_lt, lc_gt, lc_le, lc_ge, Classical.not_not] at *); (try simp only [i_lt, i_le, i_eq, l_lt, l_le, l_eq, Int32.toInt_toInt64, Int32.reduceToInt, Int64.reduceToInt] at *); omega))).symm | exact (bI_f (by ((try simp only [bI_0, bI_1, lc_lt, lc_gt, lc_le, lc_ge, Classical.not_not] at *); (try simp only [i_lt, i_le, i_eq, l_lt, l_le, l_eq, Int32.toInt_toInt64, Int32.reduceToInt, Int64.reduceToInt] at *); omega))).symm, rfl, rfl, rfl⟩
theorem k_X11_isTunnel {sc : Sc} {I : Is} {L : Ls} {tg : Nat} {a : Int32} : Con sc mX11_isTunnel 0 0 0 [.ref 0, .int a] (XW I L tg) (rI (bI (0 ≤ a.toInt ∧ a.toInt < (I 36 8).toInt)) (XW I L tg)) := by
  refine Con_of (by decide) (Nat.le_of_ble_eq_true rfl) ?_
  refine r_iload_n (j := 1) rfl rfl dX11_isTunnel_0 ?_
  refine r_if_lt (tgt := 19) dX11_isTunnel_1 (by decide) (fun c1 => ?_) (fun c1 => ?_)
  · refine r_iconst (v := 0) rfl dX11_isTunnel_19 ?_
    refine w_iret rfl (rfl) (Nat.le_of_ble_eq_true rfl) (Nat.le_of_ble_eq_true rfl) dX11_isTunnel_20 ?_
    exact ⟨by first | exact (bI_t (by ((try simp only [bI_0, bI_1, lc_lt, lc_gt, lc_le, lc_ge, Classical.not_not] at *); (try simp only [i_lt, i_le, i_eq, l_lt, l_le, l_eq, Int32.toInt_toInt64, Int32.reduceToInt, Int64.reduceToInt] at *); omega))).symm | exact (bI_f (by ((try simp only [bI_0, bI_1, lc_lt, lc_gt, lc_le, lc_ge, Classical.not_not] at *); (try simp only [i_lt, i_le, i_eq, l_lt, l_le, l_eq, Int32.toInt_toInt64, Int32.reduceToInt, Int64.reduceToInt] at *); omega))).symm, rfl, rfl, rfl⟩
  · refine r_iload_n (j := 1) rfl rfl dX11_isTunnel_4 ?_
    refine r_aload_n (j := 0) rfl rfl dX11_isTunnel_5 ?_
    refine w_getR (b := 36) fX11_38 rfl rfl dX11_isTunnel_6 ?_
    refine w_getI fX11_157 rfl dX11_isTunnel_9 ?_
    refine r_icmp_ge (tgt := 19) dX11_isTunnel_12 (by decide) (fun c12 => ?_) (fun c12 => ?_)
    · refine r_iconst (v := 0) rfl dX11_isTunnel_19 ?_
      refine w_iret rfl (rfl) (Nat.le_of_ble_eq_true rfl) (Nat.le_of_ble_eq_true rfl) dX11_isTunnel_20 ?_
      exact ⟨by first | exact (bI_t (by ((try simp only [bI_0, bI_1, lc_lt, lc_gt, lc_le, lc_ge, Classical.not_not] at *); (try simp only [i_lt, i_le, i_eq, l_lt, l_le, l_eq, Int32.toInt_toInt64, Int32.reduceToInt, Int64.reduceToInt] at *); omega))).symm | exact (bI_f (by ((try simp only [bI_0, bI_1, lc_lt, lc_gt, lc_le, lc_ge, Classical.not_not] at *); (try simp only [i_lt, i_le, i_eq, l_lt, l_le, l_eq, Int32.toInt_toInt64, Int32.reduceToInt, Int64.reduceToInt] at *); omega))).symm, rfl, rfl, rfl⟩
    · refine r_iconst (v := 1) rfl dX11_isTunnel_15 ?_
      refine r_goto (tgt := 20) dX11_isTunnel_16 (by decide) ?_
      refine w_iret rfl (rfl) (Nat.le_of_ble_eq_true rfl) (Nat.le_of_ble_eq_true rfl) dX11_isTunnel_20 ?_
      exact ⟨by first | exact (bI_t (by ((try simp only [bI_0, bI_1, lc_lt, lc_gt, lc_le, lc_ge, Classical.not_not] at *); (try simp only [i_lt, i_le, i_eq, l_lt, l_le, l_eq, Int32.toInt_toInt64, Int32.reduceToInt, Int64.reduceToInt] at *); omega))).symm | exact (bI_f (by ((try simp only [bI_0, bI_1, lc_lt, lc_gt, lc_le, lc_ge, Classical.not_not] at *); (try simp only [i_lt, i_le, i_eq, l_lt, l_le, l_eq, Int32.toInt_toInt64, Int32.reduceToInt, Int64.reduceToInt] at *); omega))).symm, rfl, rfl, rfl⟩
theorem k_X11_areLooks {sc : Sc} {I : Is} {L : Ls} {tg : Nat} {a : Int32} : Con sc mX11_areLooks 0 0 0 [.ref 0, .int a] (XW I L tg) (rI (bI (0 ≤ a.toInt ∧ a.toInt < ((1 : Int32) <<< (I 3 16 &&& 31)).toInt)) (XW I L tg)) := by
  refine Con_of (by decide) (Nat.le_of_ble_eq_true rfl) ?_
  refine r_iload_n (j := 1) rfl rfl dX11_areLooks_0 ?_
  refine r_if_lt (tgt := 21) dX11_areLooks_1 (by decide) (fun c1 => ?_) (fun c1 => ?_)
  · refine r_iconst (v := 0) rfl dX11_areLooks_21 ?_
    refine w_iret rfl (rfl) (Nat.le_of_ble_eq_true rfl) (Nat.le_of_ble_eq_true rfl) dX11_areLooks_22 ?_
    exact ⟨by first | exact (bI_t (by ((try simp only [bI_0, bI_1, lc_lt, lc_gt, lc_le, lc_ge, Classical.not_not] at *); (try simp only [i_lt, i_le, i_eq, l_lt, l_le, l_eq, Int32.toInt_toInt64, Int32.reduceToInt, Int64.reduceToInt] at *); omega))).symm | exact (bI_f (by ((try simp only [bI_0, bI_1, lc_lt, lc_gt, lc_le, lc_ge, Classical.not_not] at *); (try simp only [i_lt, i_le, i_eq, l_lt, l_le, l_eq, Int32.toInt_toInt64, Int32.reduceToInt, Int64.reduceToInt] at *); omega))).symm, rfl, rfl, rfl⟩
  · refine r_iload_n (j := 1) rfl rfl dX11_areLooks_4 ?_
    refine r_iconst (v := 1) rfl dX11_areLooks_5 ?_
    refine r_aload_n (j := 0) rfl rfl dX11_areLooks_6 ?_
    refine w_getR (b := 3) fX11_19 rfl rfl dX11_areLooks_7 ?_
    refine w_getI fX11_133 rfl dX11_areLooks_10 ?_
    refine r_ishl dX11_areLooks_13 ?_
    refine r_icmp_ge (tgt := 21) dX11_areLooks_14 (by decide) (fun c14 => ?_) (fun c14 => ?_)
    · refine r_iconst (v := 0) rfl dX11_areLooks_21 ?_
      refine w_iret rfl (rfl) (Nat.le_of_ble_eq_true rfl) (Nat.le_of_ble_eq_true rfl) dX11_areLooks_22 ?_
      exact ⟨by first | exact (bI_t (by ((try simp only [bI_0, bI_1, lc_lt, lc_gt, lc_le, lc_ge, Classical.not_not] at *); (try simp only [i_lt, i_le, i_eq, l_lt, l_le, l_eq, Int32.toInt_toInt64, Int32.reduceToInt, Int64.reduceToInt] at *); omega))).symm | exact (bI_f (by ((try simp only [bI_0, bI_1, lc_lt, lc_gt, lc_le, lc_ge, Classical.not_not] at *); (try simp only [i_lt, i_le, i_eq, l_lt, l_le, l_eq, Int32.toInt_toInt64, Int32.reduceToInt, Int64.reduceToInt] at *); omega))).symm, rfl, rfl, rfl⟩
    · refine r_iconst (v := 1) rfl dX11_areLooks_17 ?_
      refine r_goto (tgt := 22) dX11_areLooks_18 (by decide) ?_
      refine w_iret rfl (rfl) (Nat.le_of_ble_eq_true rfl) (Nat.le_of_ble_eq_true rfl) dX11_areLooks_22 ?_
      exact ⟨by first | exact (bI_t (by ((try simp only [bI_0, bI_1, lc_lt, lc_gt, lc_le, lc_ge, Classical.not_not] at *); (try simp only [i_lt, i_le, i_eq, l_lt, l_le, l_eq, Int32.toInt_toInt64, Int32.reduceToInt, Int64.reduceToInt] at *); omega))).symm | exact (bI_f (by ((try simp only [bI_0, bI_1, lc_lt, lc_gt, lc_le, lc_ge, Classical.not_not] at *); (try simp only [i_lt, i_le, i_eq, l_lt, l_le, l_eq, Int32.toInt_toInt64, Int32.reduceToInt, Int64.reduceToInt] at *); omega))).symm, rfl, rfl, rfl⟩
theorem k_X11_isStep {sc : Sc} {I : Is} {L : Ls} {tg : Nat} {a : Int32} : Con sc mX11_isStep 1 0 0 [.int a] (XW I L tg) (rI (bI (0 ≤ a.toInt ∧ a.toInt ≤ 999)) (XW I L tg)) := by
  refine Con_of (by decide) (Nat.le_of_ble_eq_true rfl) ?_
  refine r_iload_n (j := 0) rfl rfl dX11_isStep_0 ?_
  refine r_iconst (v := 0) rfl dX11_isStep_1 ?_
  refine r_sipush (v := 999) rfl dX11_isStep_2 ?_
  refine w_cS3p (k_X11_isWithin) (Nat.le_of_ble_eq_true rfl) lX11_166 mtX11_isWithin (Nat.le_of_ble_eq_true rfl) (Nat.le_of_ble_eq_true rfl) (Nat.le_of_ble_eq_true rfl) dX11_isStep_5 ?_
  refine w_iret rfl (bI_n _) (Nat.le_of_ble_eq_true rfl) (Nat.le_of_ble_eq_true rfl) dX11_isStep_8 ?_
  exact ⟨rfl, rfl, rfl, rfl⟩
theorem k_X0_setting {sc : Sc} {I : Is} {L : Ls} {tg : Nat} {a : Int32} (h0 : 0 ≤ a.toInt) (h1 : a.toInt < 14) : Con sc mX0_setting 0 0 0 [.ref 3, .int a] (XW I L tg) (rI (I 4 a.toNatClampNeg) (XW I L tg)) := by
  refine Con_of (by decide) (Nat.le_of_ble_eq_true rfl) ?_
  refine r_iload_n (j := 1) rfl rfl dX0_setting_0 ?_
  refine r_if_lt (tgt := 21) dX0_setting_1 (by decide) (fun c1 => ?_) (fun c1 => ?_)
  · exfalso; ((try simp only [bI_0, bI_1, lc_lt, lc_gt, lc_le, lc_ge, Classical.not_not] at *); (try simp only [i_lt, i_le, i_eq, l_lt, l_le, l_eq, Int32.toInt_toInt64, Int32.reduceToInt, Int64.reduceToInt] at *); omega)
  · refine r_iload_n (j := 1) rfl rfl dX0_setting_4 ?_
    refine r_gets (v := .ref 1000) (by decide +kernel) fsX0_9 dX0_setting_5 ?_
    refine r_tlen (t := tb0) oT_0 dX0_setting_8 ?_
    refine r_icmp_ge (tgt := 21) dX0_setting_9 (by decide) (fun c9 => ?_) (fun c9 => ?_)
    · exfalso; (have c9 : (14 : Int32) ≤ a := c9); ((try simp only [bI_0, bI_1, lc_lt, lc_gt, lc_le, lc_ge, Classical.not_not] at *); (try simp only [i_lt, i_le, i_eq, l_lt, l_le, l_eq, Int32.toInt_toInt64, Int32.reduceToInt, Int64.reduceToInt] at *); omega)
    · refine r_aload_n (j := 0) rfl rfl dX0_setting_12 ?_
      refine w_getR (b := 4) fX0_15 rfl rfl dX0_setting_13 ?_
      refine r_iload_n (j := 1) rfl rfl dX0_setting_16 ?_
      refine w_iald rfl (by first | assumption | (rw [vp_in_iff]; ((try simp only [bI_0, bI_1, lc_lt, lc_gt, lc_le, lc_ge, Classical.not_not] at *); (try simp only [i_lt, i_le, i_eq, l_lt, l_le, l_eq, Int32.toInt_toInt64, Int32.reduceToInt, Int64.reduceToInt] at *); omega))) dX0_setting_17 ?_
      refine r_goto (tgt := 22) dX0_setting_18 (by decide) ?_
      refine w_iret rfl (rfl) (Nat.le_of_ble_eq_true rfl) (Nat.le_of_ble_eq_true rfl) dX0_setting_22 ?_
      exact ⟨rfl, rfl, rfl, rfl⟩
/-- the place of a pair of huts -/
theorem hr_ix {a b : Int32} (ha : 0 ≤ a.toInt) (ha5 : a.toInt < 5) (hb : 0 ≤ b.toInt) (hb5 : b.toInt < 5) : (a * 5 + b).toInt = a.toInt * 5 + b.toInt := by
  have e : (a * 5).toInt = a.toInt * 5 := i_mul (b := 5) (by simp only [Int32.reduceToInt]; omega) (by simp only [Int32.reduceToInt]; omega)
  rw [i_add] <;> rw [e] <;> omega
theorem k_X0_hasRun {sc : Sc} {I : Is} {L : Ls} {tg : Nat} {a b : Int32} (ha : 0 ≤ a.toInt) (ha5 : a.toInt < 5) (hb : 0 ≤ b.toInt) (hb5 : b.toInt < 5) : Con sc mX0_hasRun 0 0 0 [.ref 3, .int a, .int b] (XW I L tg) (rI (bI (¬ I 11 (a * 5 + b).toNatClampNeg = -1)) (XW I L tg)) := by
  refine Con_of (by decide) (Nat.le_of_ble_eq_true rfl) ?_
  refine r_aload_n (j := 0) rfl rfl dX0_hasRun_0 ?_
  refine w_getR (b := 11) fX0_38 rfl rfl dX0_hasRun_1 ?_
  refine r_iload_n (j := 1) rfl rfl dX0_hasRun_4 ?_
  refine r_iconst (v := 5) rfl dX0_hasRun_5 ?_
  refine r_imul dX0_hasRun_6 ?_
  refine r_iload_n (j := 2) rfl rfl dX0_hasRun_7 ?_
  refine r_iadd dX0_hasRun_8 ?_
  refine w_iald rfl (by rw [vp_in_iff, hr_ix ha ha5 hb hb5]; omega) dX0_hasRun_9 ?_
  refine r_iconst (v := (-1)) rfl dX0_hasRun_10 ?_
  refine r_icmp_eq (tgt := 18) dX0_hasRun_11 (by decide) (fun c11 => ?_) (fun c11 => ?_)
  · refine r_iconst (v := 0) rfl dX0_hasRun_18 ?_
    refine w_iret rfl (rfl) (Nat.le_of_ble_eq_true rfl) (Nat.le_of_ble_eq_true rfl) dX0_hasRun_19 ?_
    exact ⟨by first | exact (bI_t c11).symm | exact (bI_f (fun z => z c11)).symm, rfl, rfl, rfl⟩
  · refine r_iconst (v := 1) rfl dX0_hasRun_14 ?_
    refine r_goto (tgt := 19) dX0_hasRun_15 (by decide) ?_
    refine w_iret rfl (rfl) (Nat.le_of_ble_eq_true rfl) (Nat.le_of_ble_eq_true rfl) dX0_hasRun_19 ?_
    exact ⟨by first | exact (bI_t c11).symm | exact (bI_f (fun z => z c11)).symm, rfl, rfl, rfl⟩
theorem k_X0_hasRun18 {sc : Sc} {I : Is} {L : Ls} {tg : Nat} {a b : Int32} (ha : 0 ≤ a.toInt) (ha5 : a.toInt < 5) (hb : 0 ≤ b.toInt) (hb5 : b.toInt < 5) : Con sc mX0_hasRun 0 0 0 [.ref 18, .int a, .int b] (XW I L tg) (rI (bI (¬ I 26 (a * 5 + b).toNatClampNeg = -1)) (XW I L tg)) := by
  refine Con_of (by decide) (Nat.le_of_ble_eq_true rfl) ?_
  refine r_aload_n (j := 0) rfl rfl dX0_hasRun_0 ?_
  refine w_getR (b := 26) fX0_38 rfl rfl dX0_hasRun_1 ?_
  refine r_iload_n (j := 1) rfl rfl dX0_hasRun_4 ?_
  refine r_iconst (v := 5) rfl dX0_hasRun_5 ?_
  refine r_imul dX0_hasRun_6 ?_
  refine r_iload_n (j := 2) rfl rfl dX0_hasRun_7 ?_
  refine r_iadd dX0_hasRun_8 ?_
  refine w_iald rfl (by rw [vp_in_iff, hr_ix ha ha5 hb hb5]; omega) dX0_hasRun_9 ?_
  refine r_iconst (v := (-1)) rfl dX0_hasRun_10 ?_
  refine r_icmp_eq (tgt := 18) dX0_hasRun_11 (by decide) (fun c11 => ?_) (fun c11 => ?_)
  · refine r_iconst (v := 0) rfl dX0_hasRun_18 ?_
    refine w_iret rfl (rfl) (Nat.le_of_ble_eq_true rfl) (Nat.le_of_ble_eq_true rfl) dX0_hasRun_19 ?_
    exact ⟨by first | exact (bI_t c11).symm | exact (bI_f (fun z => z c11)).symm, rfl, rfl, rfl⟩
  · refine r_iconst (v := 1) rfl dX0_hasRun_14 ?_
    refine r_goto (tgt := 19) dX0_hasRun_15 (by decide) ?_
    refine w_iret rfl (rfl) (Nat.le_of_ble_eq_true rfl) (Nat.le_of_ble_eq_true rfl) dX0_hasRun_19 ?_
    exact ⟨by first | exact (bI_t c11).symm | exact (bI_f (fun z => z c11)).symm, rfl, rfl, rfl⟩
/-- minutes between two huts, out of the told runs -/
def mbt (r : Nat → Int32) (a b : Int32) : Int32 := if a = b then 0 else if r (a * 5 + b).toNatClampNeg = -1 then 5 else r (a * 5 + b).toNatClampNeg
theorem k_X0_minutesBetween {sc : Sc} {I : Is} {L : Ls} {tg : Nat} {a b : Int32} (ha : 0 ≤ a.toInt) (ha5 : a.toInt < 5) (hb : 0 ≤ b.toInt) (hb5 : b.toInt < 5) : Con sc mX0_minutesBetween 1 0 0 [.ref 3, .int a, .int b] (XW I L tg) (rI (mbt (I 11) a b) (XW I L tg)) := by
  refine Con_of (by decide) (Nat.le_of_ble_eq_true rfl) ?_
  refine r_iload_n (j := 1) rfl rfl dX0_minutesBetween_0 ?_
  refine r_iload_n (j := 2) rfl rfl dX0_minutesBetween_1 ?_
  refine r_icmp_ne (tgt := 7) dX0_minutesBetween_2 (by decide) (fun c2 => ?_) (fun c2 => ?_)
  · refine r_aload_n (j := 0) rfl rfl dX0_minutesBetween_7 ?_
    refine r_iload_n (j := 1) rfl rfl dX0_minutesBetween_8 ?_
    refine r_iload_n (j := 2) rfl rfl dX0_minutesBetween_9 ?_
    refine w_cV2p (k_X0_hasRun ha ha5 hb hb5) (Nat.le_of_ble_eq_true rfl) lX0_87 vmX0_hasRun rfl (Nat.le_of_ble_eq_true rfl) (Nat.le_of_ble_eq_true rfl) (Nat.le_of_ble_eq_true rfl) dX0_minutesBetween_10 ?_
    refine r_if_eq (tgt := 29) dX0_minutesBetween_13 (by decide) (fun c13 => ?_) (fun c13 => ?_)
    · refine r_iconst (v := 5) rfl dX0_minutesBetween_29 ?_
      refine w_iret rfl (rfl) (Nat.le_of_ble_eq_true rfl) (Nat.le_of_ble_eq_true rfl) dX0_minutesBetween_30 ?_
      exact ⟨by unfold mbt; rw [if_neg c2]; first | rw [if_pos (Decidable.not_not.mp (bI_0.mp c13))] | rw [if_neg (bI_1.mp c13)], rfl, rfl, rfl⟩
    · refine r_aload_n (j := 0) rfl rfl dX0_minutesBetween_16 ?_
      refine w_getR (b := 11) fX0_38 rfl rfl dX0_minutesBetween_17 ?_
      refine r_iload_n (j := 1) rfl rfl dX0_minutesBetween_20 ?_
      refine r_iconst (v := 5) rfl dX0_minutesBetween_21 ?_
      refine r_imul dX0_minutesBetween_22 ?_
      refine r_iload_n (j := 2) rfl rfl dX0_minutesBetween_23 ?_
      refine r_iadd dX0_minutesBetween_24 ?_
      refine w_iald rfl (by rw [vp_in_iff, hr_ix ha ha5 hb hb5]; omega) dX0_minutesBetween_25 ?_
      refine r_goto (tgt := 30) dX0_minutesBetween_26 (by decide) ?_
      refine w_iret rfl (rfl) (Nat.le_of_ble_eq_true rfl) (Nat.le_of_ble_eq_true rfl) dX0_minutesBetween_30 ?_
      exact ⟨by unfold mbt; rw [if_neg c2]; first | rw [if_pos (Decidable.not_not.mp (bI_0.mp c13))] | rw [if_neg (bI_1.mp c13)], rfl, rfl, rfl⟩
  · refine r_iconst (v := 0) rfl dX0_minutesBetween_5 ?_
    refine w_iret rfl (rfl) (Nat.le_of_ble_eq_true rfl) (Nat.le_of_ble_eq_true rfl) dX0_minutesBetween_6 ?_
    exact ⟨by unfold mbt; rw [if_pos c2], rfl, rfl, rfl⟩
def genS (I : Is) (a : Int32) : Int32 := if a = 0 then I 3 14 else if a = 1 then I 3 15 else if a = 2 then I 3 16 else if 3 ≤ a.toInt ∧ a.toInt < 14 then I 4 a.toNatClampNeg else -1
theorem k_X0_general {sc : Sc} {I : Is} {L : Ls} {tg : Nat} {a : Int32} : Con sc mX0_general 0 0 0 [.ref 3, .int a] (XW I L tg) (rI (genS I a) (XW I L tg)) := by
  refine Con_of (by decide) (Nat.le_of_ble_eq_true rfl) ?_
  refine r_iload_n (j := 1) rfl rfl dX0_general_0 ?_
  refine w_tab (tgtD := 43) dX0_general_1 (by decide) (fun c1 => ?_) (fun i c1 l1 => ?_)
  · refine r_iload_n (j := 1) rfl rfl dX0_general_43 ?_
    refine r_iconst (v := 3) rfl dX0_general_44 ?_
    refine r_icmp_lt (tgt := 65) dX0_general_45 (by decide) (fun c45 => ?_) (fun c45 => ?_)
    · refine r_iconst (v := (-1)) rfl dX0_general_65 ?_
      refine w_iret rfl (rfl) (Nat.le_of_ble_eq_true rfl) (Nat.le_of_ble_eq_true rfl) dX0_general_66 ?_
      refine ⟨?_, rfl, rfl, rfl⟩
      unfold genS
      rw [if_neg (by ((try simp only [bI_0, bI_1, lc_lt, lc_gt, lc_le, lc_ge, Classical.not_not] at *); (try simp only [i_lt, i_le, i_eq, l_lt, l_le, l_eq, Int32.toInt_toInt64, Int32.reduceToInt, Int64.reduceToInt] at *); omega)), if_neg (by ((try simp only [bI_0, bI_1, lc_lt, lc_gt, lc_le, lc_ge, Classical.not_not] at *); (try simp only [i_lt, i_le, i_eq, l_lt, l_le, l_eq, Int32.toInt_toInt64, Int32.reduceToInt, Int64.reduceToInt] at *); omega)), if_neg (by ((try simp only [bI_0, bI_1, lc_lt, lc_gt, lc_le, lc_ge, Classical.not_not] at *); (try simp only [i_lt, i_le, i_eq, l_lt, l_le, l_eq, Int32.toInt_toInt64, Int32.reduceToInt, Int64.reduceToInt] at *); omega))]
      first | rw [if_neg (by ((try simp only [bI_0, bI_1, lc_lt, lc_gt, lc_le, lc_ge, Classical.not_not] at *); (try simp only [i_lt, i_le, i_eq, l_lt, l_le, l_eq, Int32.toInt_toInt64, Int32.reduceToInt, Int64.reduceToInt] at *); omega))] | (have c53 : (14 : Int32) ≤ a := c53; rw [if_neg (by ((try simp only [bI_0, bI_1, lc_lt, lc_gt, lc_le, lc_ge, Classical.not_not] at *); (try simp only [i_lt, i_le, i_eq, l_lt, l_le, l_eq, Int32.toInt_toInt64, Int32.reduceToInt, Int64.reduceToInt] at *); omega))]) | (have c53 : ¬ (14 : Int32) ≤ a := c53; rw [if_pos (by ((try simp only [bI_0, bI_1, lc_lt, lc_gt, lc_le, lc_ge, Classical.not_not] at *); (try simp only [i_lt, i_le, i_eq, l_lt, l_le, l_eq, Int32.toInt_toInt64, Int32.reduceToInt, Int64.reduceToInt] at *); omega))])
    · refine r_iload_n (j := 1) rfl rfl dX0_general_48 ?_
      refine r_gets (v := .ref 1000) (by decide +kernel) fsX0_9 dX0_general_49 ?_
      refine r_tlen (t := tb0) oT_0 dX0_general_52 ?_
      refine r_icmp_ge (tgt := 65) dX0_general_53 (by decide) (fun c53 => ?_) (fun c53 => ?_)
      · refine r_iconst (v := (-1)) rfl dX0_general_65 ?_
        refine w_iret rfl (rfl) (Nat.le_of_ble_eq_true rfl) (Nat.le_of_ble_eq_true rfl) dX0_general_66 ?_
        refine ⟨?_, rfl, rfl, rfl⟩
        unfold genS
        rw [if_neg (by ((try simp only [bI_0, bI_1, lc_lt, lc_gt, lc_le, lc_ge, Classical.not_not] at *); (try simp only [i_lt, i_le, i_eq, l_lt, l_le, l_eq, Int32.toInt_toInt64, Int32.reduceToInt, Int64.reduceToInt] at *); omega)), if_neg (by ((try simp only [bI_0, bI_1, lc_lt, lc_gt, lc_le, lc_ge, Classical.not_not] at *); (try simp only [i_lt, i_le, i_eq, l_lt, l_le, l_eq, Int32.toInt_toInt64, Int32.reduceToInt, Int64.reduceToInt] at *); omega)), if_neg (by ((try simp only [bI_0, bI_1, lc_lt, lc_gt, lc_le, lc_ge, Classical.not_not] at *); (try simp only [i_lt, i_le, i_eq, l_lt, l_le, l_eq, Int32.toInt_toInt64, Int32.reduceToInt, Int64.reduceToInt] at *); omega))]
        first | rw [if_neg (by ((try simp only [bI_0, bI_1, lc_lt, lc_gt, lc_le, lc_ge, Classical.not_not] at *); (try simp only [i_lt, i_le, i_eq, l_lt, l_le, l_eq, Int32.toInt_toInt64, Int32.reduceToInt, Int64.reduceToInt] at *); omega))] | (have c53 : (14 : Int32) ≤ a := c53; rw [if_neg (by ((try simp only [bI_0, bI_1, lc_lt, lc_gt, lc_le, lc_ge, Classical.not_not] at *); (try simp only [i_lt, i_le, i_eq, l_lt, l_le, l_eq, Int32.toInt_toInt64, Int32.reduceToInt, Int64.reduceToInt] at *); omega))]) | (have c53 : ¬ (14 : Int32) ≤ a := c53; rw [if_pos (by ((try simp only [bI_0, bI_1, lc_lt, lc_gt, lc_le, lc_ge, Classical.not_not] at *); (try simp only [i_lt, i_le, i_eq, l_lt, l_le, l_eq, Int32.toInt_toInt64, Int32.reduceToInt, Int64.reduceToInt] at *); omega))])
      · refine r_aload_n (j := 0) rfl rfl dX0_general_56 ?_
        refine w_getR (b := 4) fX0_15 rfl rfl dX0_general_57 ?_
        refine r_iload_n (j := 1) rfl rfl dX0_general_60 ?_
        refine w_iald rfl (by (have c53 : ¬ (14 : Int32) ≤ a := c53); rw [vp_in_iff]; ((try simp only [bI_0, bI_1, lc_lt, lc_gt, lc_le, lc_ge, Classical.not_not] at *); (try simp only [i_lt, i_le, i_eq, l_lt, l_le, l_eq, Int32.toInt_toInt64, Int32.reduceToInt, Int64.reduceToInt] at *); omega)) dX0_general_61 ?_
        refine r_goto (tgt := 66) dX0_general_62 (by decide) ?_
        refine w_iret rfl (rfl) (Nat.le_of_ble_eq_true rfl) (Nat.le_of_ble_eq_true rfl) dX0_general_66 ?_
        refine ⟨?_, rfl, rfl, rfl⟩
        unfold genS
        rw [if_neg (by ((try simp only [bI_0, bI_1, lc_lt, lc_gt, lc_le, lc_ge, Classical.not_not] at *); (try simp only [i_lt, i_le, i_eq, l_lt, l_le, l_eq, Int32.toInt_toInt64, Int32.reduceToInt, Int64.reduceToInt] at *); omega)), if_neg (by ((try simp only [bI_0, bI_1, lc_lt, lc_gt, lc_le, lc_ge, Classical.not_not] at *); (try simp only [i_lt, i_le, i_eq, l_lt, l_le, l_eq, Int32.toInt_toInt64, Int32.reduceToInt, Int64.reduceToInt] at *); omega)), if_neg (by ((try simp only [bI_0, bI_1, lc_lt, lc_gt, lc_le, lc_ge, Classical.not_not] at *); (try simp only [i_lt, i_le, i_eq, l_lt, l_le, l_eq, Int32.toInt_toInt64, Int32.reduceToInt, Int64.reduceToInt] at *); omega))]
        first | rw [if_neg (by ((try simp only [bI_0, bI_1, lc_lt, lc_gt, lc_le, lc_ge, Classical.not_not] at *); (try simp only [i_lt, i_le, i_eq, l_lt, l_le, l_eq, Int32.toInt_toInt64, Int32.reduceToInt, Int64.reduceToInt] at *); omega))] | (have c53 : (14 : Int32) ≤ a := c53; rw [if_neg (by ((try simp only [bI_0, bI_1, lc_lt, lc_gt, lc_le, lc_ge, Classical.not_not] at *); (try simp only [i_lt, i_le, i_eq, l_lt, l_le, l_eq, Int32.toInt_toInt64, Int32.reduceToInt, Int64.reduceToInt] at *); omega))]) | (have c53 : ¬ (14 : Int32) ≤ a := c53; rw [if_pos (by ((try simp only [bI_0, bI_1, lc_lt, lc_gt, lc_le, lc_ge, Classical.not_not] at *); (try simp only [i_lt, i_le, i_eq, l_lt, l_le, l_eq, Int32.toInt_toInt64, Int32.reduceToInt, Int64.reduceToInt] at *); omega))])
  · rcases (show i = 0 ∨ i = 1 ∨ i = 2 by omega) with rfl | rfl | rfl
    · refine ⟨27, 28, rfl, by decide, ?_⟩
      refine r_aload_n (j := 0) rfl rfl dX0_general_28 ?_
      refine w_getI fX0_74 rfl dX0_general_29 ?_
      refine w_iret rfl (rfl) (Nat.le_of_ble_eq_true rfl) (Nat.le_of_ble_eq_true rfl) dX0_general_32 ?_
      exact ⟨by unfold genS; rw [if_pos (by ((try simp only [bI_0, bI_1, lc_lt, lc_gt, lc_le, lc_ge, Classical.not_not] at *); (try simp only [i_lt, i_le, i_eq, l_lt, l_le, l_eq, Int32.toInt_toInt64, Int32.reduceToInt, Int64.reduceToInt] at *); omega))], rfl, rfl, rfl⟩
    · refine ⟨32, 33, rfl, by decide, ?_⟩
      refine r_aload_n (j := 0) rfl rfl dX0_general_33 ?_
      refine w_getI fX0_78 rfl dX0_general_34 ?_
      refine w_iret rfl (rfl) (Nat.le_of_ble_eq_true rfl) (Nat.le_of_ble_eq_true rfl) dX0_general_37 ?_
      exact ⟨by unfold genS; rw [if_neg (by ((try simp only [bI_0, bI_1, lc_lt, lc_gt, lc_le, lc_ge, Classical.not_not] at *); (try simp only [i_lt, i_le, i_eq, l_lt, l_le, l_eq, Int32.toInt_toInt64, Int32.reduceToInt, Int64.reduceToInt] at *); omega)), if_pos (by ((try simp only [bI_0, bI_1, lc_lt, lc_gt, lc_le, lc_ge, Classical.not_not] at *); (try simp only [i_lt, i_le, i_eq, l_lt, l_le, l_eq, Int32.toInt_toInt64, Int32.reduceToInt, Int64.reduceToInt] at *); omega))], rfl, rfl, rfl⟩
    · refine ⟨37, 38, rfl, by decide, ?_⟩
      refine r_aload_n (j := 0) rfl rfl dX0_general_38 ?_
      refine w_getI fX0_81 rfl dX0_general_39 ?_
      refine w_iret rfl (rfl) (Nat.le_of_ble_eq_true rfl) (Nat.le_of_ble_eq_true rfl) dX0_general_42 ?_
      exact ⟨by unfold genS; rw [if_neg (by ((try simp only [bI_0, bI_1, lc_lt, lc_gt, lc_le, lc_ge, Classical.not_not] at *); (try simp only [i_lt, i_le, i_eq, l_lt, l_le, l_eq, Int32.toInt_toInt64, Int32.reduceToInt, Int64.reduceToInt] at *); omega)), if_neg (by ((try simp only [bI_0, bI_1, lc_lt, lc_gt, lc_le, lc_ge, Classical.not_not] at *); (try simp only [i_lt, i_le, i_eq, l_lt, l_le, l_eq, Int32.toInt_toInt64, Int32.reduceToInt, Int64.reduceToInt] at *); omega)), if_pos (by ((try simp only [bI_0, bI_1, lc_lt, lc_gt, lc_le, lc_ge, Classical.not_not] at *); (try simp only [i_lt, i_le, i_eq, l_lt, l_le, l_eq, Int32.toInt_toInt64, Int32.reduceToInt, Int64.reduceToInt] at *); omega))], rfl, rfl, rfl⟩
def ohS (I : Is) (k h : Int32) : Int32 := if 0 ≤ h.toInt ∧ h.toInt < (I 3 14).toInt then (if k = 2 then I 7 h.toNatClampNeg else if k = 3 then I 8 h.toNatClampNeg else if k = 4 then I 9 h.toNatClampNeg else I 10 h.toNatClampNeg) else -1
theorem k_X0_ofHut {sc : Sc} {I : Is} {L : Ls} {tg : Nat} {a h : Int32} (h5 : (I 3 14).toInt ≤ 5) : Con sc mX0_ofHut 0 0 0 [.ref 3, .int a, .int h] (XW I L tg) (rI (ohS I a h) (XW I L tg)) := by
  refine Con_of (by decide) (Nat.le_of_ble_eq_true rfl) ?_
  refine r_iload_n (j := 2) rfl rfl dX0_ofHut_0 ?_
  refine r_if_lt (tgt := 12) dX0_ofHut_1 (by decide) (fun c1 => ?_) (fun c1 => ?_)
  · refine r_iconst (v := (-1)) rfl dX0_ofHut_12 ?_
    refine w_iret rfl (rfl) (Nat.le_of_ble_eq_true rfl) (Nat.le_of_ble_eq_true rfl) dX0_ofHut_13 ?_
    exact ⟨by unfold ohS; rw [if_neg (by ((try simp only [bI_0, bI_1, lc_lt, lc_gt, lc_le, lc_ge, Classical.not_not] at *); (try simp only [i_lt, i_le, i_eq, l_lt, l_le, l_eq, Int32.toInt_toInt64, Int32.reduceToInt, Int64.reduceToInt] at *); omega))], rfl, rfl, rfl⟩
  · refine r_iload_n (j := 2) rfl rfl dX0_ofHut_4 ?_
    refine r_aload_n (j := 0) rfl rfl dX0_ofHut_5 ?_
    refine w_getI fX0_74 rfl dX0_ofHut_6 ?_
    refine r_icmp_lt (tgt := 14) dX0_ofHut_9 (by decide) (fun c9 => ?_) (fun c9 => ?_)
    · refine r_iload_n (j := 1) rfl rfl dX0_ofHut_14 ?_
      refine w_tab (tgtD := 61) dX0_ofHut_15 (by decide) (fun c15 => ?_) (fun i c15 l15 => ?_)
      · refine r_aload_n (j := 0) rfl rfl dX0_ofHut_61 ?_
        refine w_getR (b := 10) fX0_35 rfl rfl dX0_ofHut_62 ?_
        refine r_iload_n (j := 2) rfl rfl dX0_ofHut_65 ?_
        refine w_iald rfl (by first | assumption | (rw [vp_in_iff]; ((try simp only [bI_0, bI_1, lc_lt, lc_gt, lc_le, lc_ge, Classical.not_not] at *); (try simp only [i_lt, i_le, i_eq, l_lt, l_le, l_eq, Int32.toInt_toInt64, Int32.reduceToInt, Int64.reduceToInt] at *); omega))) dX0_ofHut_66 ?_
        refine w_iret rfl (rfl) (Nat.le_of_ble_eq_true rfl) (Nat.le_of_ble_eq_true rfl) dX0_ofHut_67 ?_
        exact ⟨by unfold ohS; rw [if_pos (by ((try simp only [bI_0, bI_1, lc_lt, lc_gt, lc_le, lc_ge, Classical.not_not] at *); (try simp only [i_lt, i_le, i_eq, l_lt, l_le, l_eq, Int32.toInt_toInt64, Int32.reduceToInt, Int64.reduceToInt] at *); omega)), if_neg (by ((try simp only [bI_0, bI_1, lc_lt, lc_gt, lc_le, lc_ge, Classical.not_not] at *); (try simp only [i_lt, i_le, i_eq, l_lt, l_le, l_eq, Int32.toInt_toInt64, Int32.reduceToInt, Int64.reduceToInt] at *); omega)), if_neg (by ((try simp only [bI_0, bI_1, lc_lt, lc_gt, lc_le, lc_ge, Classical.not_not] at *); (try simp only [i_lt, i_le, i_eq, l_lt, l_le, l_eq, Int32.toInt_toInt64, Int32.reduceToInt, Int64.reduceToInt] at *); omega)), if_neg (by ((try simp only [bI_0, bI_1, lc_lt, lc_gt, lc_le, lc_ge, Classical.not_not] at *); (try simp only [i_lt, i_le, i_eq, l_lt, l_le, l_eq, Int32.toInt_toInt64, Int32.reduceToInt, Int64.reduceToInt] at *); omega))], rfl, rfl, rfl⟩
      · rcases (show i = 0 ∨ i = 1 ∨ i = 2 by omega) with rfl | rfl | rfl
        · refine ⟨25, 40, rfl, by decide, ?_⟩
          refine r_aload_n (j := 0) rfl rfl dX0_ofHut_40 ?_
          refine w_getR (b := 7) fX0_26 rfl rfl dX0_ofHut_41 ?_
          refine r_iload_n (j := 2) rfl rfl dX0_ofHut_44 ?_
          refine w_iald rfl (by first | assumption | (rw [vp_in_iff]; ((try simp only [bI_0, bI_1, lc_lt, lc_gt, lc_le, lc_ge, Classical.not_not] at *); (try simp only [i_lt, i_le, i_eq, l_lt, l_le, l_eq, Int32.toInt_toInt64, Int32.reduceToInt, Int64.reduceToInt] at *); omega))) dX0_ofHut_45 ?_
          refine w_iret rfl (rfl) (Nat.le_of_ble_eq_true rfl) (Nat.le_of_ble_eq_true rfl) dX0_ofHut_46 ?_
          exact ⟨by unfold ohS; rw [if_pos (by ((try simp only [bI_0, bI_1, lc_lt, lc_gt, lc_le, lc_ge, Classical.not_not] at *); (try simp only [i_lt, i_le, i_eq, l_lt, l_le, l_eq, Int32.toInt_toInt64, Int32.reduceToInt, Int64.reduceToInt] at *); omega)), if_pos (by ((try simp only [bI_0, bI_1, lc_lt, lc_gt, lc_le, lc_ge, Classical.not_not] at *); (try simp only [i_lt, i_le, i_eq, l_lt, l_le, l_eq, Int32.toInt_toInt64, Int32.reduceToInt, Int64.reduceToInt] at *); omega))], rfl, rfl, rfl⟩
        · refine ⟨32, 47, rfl, by decide, ?_⟩
          refine r_aload_n (j := 0) rfl rfl dX0_ofHut_47 ?_
          refine w_getR (b := 8) fX0_29 rfl rfl dX0_ofHut_48 ?_
          refine r_iload_n (j := 2) rfl rfl dX0_ofHut_51 ?_
          refine w_iald rfl (by first | assumption | (rw [vp_in_iff]; ((try simp only [bI_0, bI_1, lc_lt, lc_gt, lc_le, lc_ge, Classical.not_not] at *); (try simp only [i_lt, i_le, i_eq, l_lt, l_le, l_eq, Int32.toInt_toInt64, Int32.reduceToInt, Int64.reduceToInt] at *); omega))) dX0_ofHut_52 ?_
          refine w_iret rfl (rfl) (Nat.le_of_ble_eq_true rfl) (Nat.le_of_ble_eq_true rfl) dX0_ofHut_53 ?_
          exact ⟨by unfold ohS; rw [if_pos (by ((try simp only [bI_0, bI_1, lc_lt, lc_gt, lc_le, lc_ge, Classical.not_not] at *); (try simp only [i_lt, i_le, i_eq, l_lt, l_le, l_eq, Int32.toInt_toInt64, Int32.reduceToInt, Int64.reduceToInt] at *); omega)), if_neg (by ((try simp only [bI_0, bI_1, lc_lt, lc_gt, lc_le, lc_ge, Classical.not_not] at *); (try simp only [i_lt, i_le, i_eq, l_lt, l_le, l_eq, Int32.toInt_toInt64, Int32.reduceToInt, Int64.reduceToInt] at *); omega)), if_pos (by ((try simp only [bI_0, bI_1, lc_lt, lc_gt, lc_le, lc_ge, Classical.not_not] at *); (try simp only [i_lt, i_le, i_eq, l_lt, l_le, l_eq, Int32.toInt_toInt64, Int32.reduceToInt, Int64.reduceToInt] at *); omega))], rfl, rfl, rfl⟩
        · refine ⟨39, 54, rfl, by decide, ?_⟩
          refine r_aload_n (j := 0) rfl rfl dX0_ofHut_54 ?_
          refine w_getR (b := 9) fX0_32 rfl rfl dX0_ofHut_55 ?_
          refine r_iload_n (j := 2) rfl rfl dX0_ofHut_58 ?_
          refine w_iald rfl (by first | assumption | (rw [vp_in_iff]; ((try simp only [bI_0, bI_1, lc_lt, lc_gt, lc_le, lc_ge, Classical.not_not] at *); (try simp only [i_lt, i_le, i_eq, l_lt, l_le, l_eq, Int32.toInt_toInt64, Int32.reduceToInt, Int64.reduceToInt] at *); omega))) dX0_ofHut_59 ?_
          refine w_iret rfl (rfl) (Nat.le_of_ble_eq_true rfl) (Nat.le_of_ble_eq_true rfl) dX0_ofHut_60 ?_
          exact ⟨by unfold ohS; rw [if_pos (by ((try simp only [bI_0, bI_1, lc_lt, lc_gt, lc_le, lc_ge, Classical.not_not] at *); (try simp only [i_lt, i_le, i_eq, l_lt, l_le, l_eq, Int32.toInt_toInt64, Int32.reduceToInt, Int64.reduceToInt] at *); omega)), if_neg (by ((try simp only [bI_0, bI_1, lc_lt, lc_gt, lc_le, lc_ge, Classical.not_not] at *); (try simp only [i_lt, i_le, i_eq, l_lt, l_le, l_eq, Int32.toInt_toInt64, Int32.reduceToInt, Int64.reduceToInt] at *); omega)), if_neg (by ((try simp only [bI_0, bI_1, lc_lt, lc_gt, lc_le, lc_ge, Classical.not_not] at *); (try simp only [i_lt, i_le, i_eq, l_lt, l_le, l_eq, Int32.toInt_toInt64, Int32.reduceToInt, Int64.reduceToInt] at *); omega)), if_pos (by ((try simp only [bI_0, bI_1, lc_lt, lc_gt, lc_le, lc_ge, Classical.not_not] at *); (try simp only [i_lt, i_le, i_eq, l_lt, l_le, l_eq, Int32.toInt_toInt64, Int32.reduceToInt, Int64.reduceToInt] at *); omega))], rfl, rfl, rfl⟩
    · refine r_iconst (v := (-1)) rfl dX0_ofHut_12 ?_
      refine w_iret rfl (rfl) (Nat.le_of_ble_eq_true rfl) (Nat.le_of_ble_eq_true rfl) dX0_ofHut_13 ?_
      exact ⟨by unfold ohS; rw [if_neg (by ((try simp only [bI_0, bI_1, lc_lt, lc_gt, lc_le, lc_ge, Classical.not_not] at *); (try simp only [i_lt, i_le, i_eq, l_lt, l_le, l_eq, Int32.toInt_toInt64, Int32.reduceToInt, Int64.reduceToInt] at *); omega))], rfl, rfl, rfl⟩
def ogS (I : Is) (k g : Int32) : Int32 := if 0 ≤ g.toInt ∧ g.toInt < (I 3 15).toInt then (if k = 6 then I 13 g.toNatClampNeg else if k = 7 then I 14 g.toNatClampNeg else I 15 g.toNatClampNeg) else -1
