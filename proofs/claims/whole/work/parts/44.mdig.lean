/-! the model: huts, tunnels, boards, sand -/
section
theorem bI_cg {c d : Prop} [Decidable c] [Decidable d] (h : c ↔ d) : bI c = bI d := by
  unfold bI
  by_cases hc : c
  · rw [if_pos hc, if_pos (h.mp hc)]
  · rw [if_neg hc, if_neg (fun z => hc (h.mpr z))]
variable {sc : Sc} {I : Is} {L : Ls} {tg : Nat}
theorem k_X12_isHut {a : Int32} : Con sc mX12_isHut 1 0 0 [.ref 95, .int a] (XW I L tg) (rI (bI (0 ≤ a.toInt ∧ a.toInt < (I 95 10).toInt)) (XW I L tg)) := by
  refine Con_of (by decide) (Nat.le_of_ble_eq_true rfl) ?_
  refine r_iload_n (j := 1) rfl rfl dX12_isHut_0 ?_
  refine r_i2l dX12_isHut_1 ?_
  refine r_lconst (v := 0) rfl dX12_isHut_2 ?_
  refine r_aload_n (j := 0) rfl rfl dX12_isHut_3 ?_
  refine w_getI fX12_355 rfl dX12_isHut_4 ?_
  refine r_i2l dX12_isHut_7 ?_
  refine r_lconst (v := 1) rfl dX12_isHut_8 ?_
  refine r_lsub dX12_isHut_9 ?_
  refine w_cS3p (k_X12_in) (Nat.le_of_ble_eq_true rfl) lX12_52 mtX12_in (Nat.le_of_ble_eq_true rfl) (Nat.le_of_ble_eq_true rfl) (Nat.le_of_ble_eq_true rfl) dX12_isHut_10 ?_
  refine w_iret rfl (bI_n _) (Nat.le_of_ble_eq_true rfl) (Nat.le_of_ble_eq_true rfl) dX12_isHut_13 ?_
  exact ⟨bI_cg (by rw [Int32.toInt_toInt64, x64_sub _ _ (by decide)]; simp only [Int64.reduceToInt]; omega), rfl, rfl, rfl⟩
theorem k_X12_isGarden {a : Int32} : Con sc mX12_isGarden 1 0 0 [.ref 95, .int a] (XW I L tg) (rI (bI (0 ≤ a.toInt ∧ a.toInt < (I 95 11).toInt)) (XW I L tg)) := by
  refine Con_of (by decide) (Nat.le_of_ble_eq_true rfl) ?_
  refine r_iload_n (j := 1) rfl rfl dX12_isGarden_0 ?_
  refine r_i2l dX12_isGarden_1 ?_
  refine r_lconst (v := 0) rfl dX12_isGarden_2 ?_
  refine r_aload_n (j := 0) rfl rfl dX12_isGarden_3 ?_
  refine w_getI fX12_358 rfl dX12_isGarden_4 ?_
  refine r_i2l dX12_isGarden_7 ?_
  refine r_lconst (v := 1) rfl dX12_isGarden_8 ?_
  refine r_lsub dX12_isGarden_9 ?_
  refine w_cS3p (k_X12_in) (Nat.le_of_ble_eq_true rfl) lX12_52 mtX12_in (Nat.le_of_ble_eq_true rfl) (Nat.le_of_ble_eq_true rfl) (Nat.le_of_ble_eq_true rfl) dX12_isGarden_10 ?_
  refine w_iret rfl (bI_n _) (Nat.le_of_ble_eq_true rfl) (Nat.le_of_ble_eq_true rfl) dX12_isGarden_13 ?_
  exact ⟨bI_cg (by rw [Int32.toInt_toInt64, x64_sub _ _ (by decide)]; simp only [Int64.reduceToInt]; omega), rfl, rfl, rfl⟩
theorem k_X12_isTunnel {a : Int32} : Con sc mX12_isTunnel 1 0 0 [.ref 95, .int a] (XW I L tg) (rI (bI (0 ≤ a.toInt ∧ a.toInt < (I 95 48).toInt)) (XW I L tg)) := by
  refine Con_of (by decide) (Nat.le_of_ble_eq_true rfl) ?_
  refine r_iload_n (j := 1) rfl rfl dX12_isTunnel_0 ?_
  refine r_i2l dX12_isTunnel_1 ?_
  refine r_lconst (v := 0) rfl dX12_isTunnel_2 ?_
  refine r_aload_n (j := 0) rfl rfl dX12_isTunnel_3 ?_
  refine w_getI fX12_370 rfl dX12_isTunnel_4 ?_
  refine r_i2l dX12_isTunnel_7 ?_
  refine r_lconst (v := 1) rfl dX12_isTunnel_8 ?_
  refine r_lsub dX12_isTunnel_9 ?_
  refine w_cS3p (k_X12_in) (Nat.le_of_ble_eq_true rfl) lX12_52 mtX12_in (Nat.le_of_ble_eq_true rfl) (Nat.le_of_ble_eq_true rfl) (Nat.le_of_ble_eq_true rfl) dX12_isTunnel_10 ?_
  refine w_iret rfl (bI_n _) (Nat.le_of_ble_eq_true rfl) (Nat.le_of_ble_eq_true rfl) dX12_isTunnel_13 ?_
  exact ⟨bI_cg (by rw [Int32.toInt_toInt64, x64_sub _ _ (by decide)]; simp only [Int64.reduceToInt]; omega), rfl, rfl, rfl⟩
theorem hr_ix2 {a b : Int32} {x y : Nat} (ha : a.toInt = x) (ha5 : x < 5) (hb : b.toInt = y) (hb5 : y < 5) : 5 * a + b = nI (5 * x + y) := by
  rw [x_nI ha, x_nI hb, show (5 : Int32) = nI 5 from rfl, pk_mul, nI_add]
theorem k_X12_run_r {a b : Int32} (hc : ¬ ((0 ≤ a.toInt ∧ a.toInt < (I 95 10).toInt) ∧ 0 ≤ b.toInt ∧ b.toInt < (I 95 10).toInt)) : Con sc mX12_run 2 0 0 [.ref 95, .int a, .int b] (XW I L tg) (rI (-2) (XW I L tg)) := by
  refine Con_of (by decide) (Nat.le_of_ble_eq_true rfl) ?_
  refine r_aload_n (j := 0) rfl rfl dX12_run_0 ?_
  refine r_iload_n (j := 1) rfl rfl dX12_run_1 ?_
  refine w_cV1p (k_X12_isHut) (Nat.le_of_ble_eq_true rfl) lX12_408 vmX12_isHut rfl (Nat.le_of_ble_eq_true rfl) (Nat.le_of_ble_eq_true rfl) (Nat.le_of_ble_eq_true rfl) dX12_run_2 ?_
  refine r_if_eq (tgt := 29) dX12_run_5 (by decide) (fun c5 => ?_) (fun c5 => ?_)
  · refine r_bipush (v := (-2)) rfl dX12_run_29 ?_
    refine w_iret rfl (rfl) (Nat.le_of_ble_eq_true rfl) (Nat.le_of_ble_eq_true rfl) dX12_run_31 ?_
    exact ⟨rfl, rfl, rfl, rfl⟩
  · refine r_aload_n (j := 0) rfl rfl dX12_run_8 ?_
    refine r_iload_n (j := 2) rfl rfl dX12_run_9 ?_
    refine w_cV1p (k_X12_isHut) (Nat.le_of_ble_eq_true rfl) lX12_408 vmX12_isHut rfl (Nat.le_of_ble_eq_true rfl) (Nat.le_of_ble_eq_true rfl) (Nat.le_of_ble_eq_true rfl) dX12_run_10 ?_
    refine r_if_eq (tgt := 29) dX12_run_13 (by decide) (fun c13 => ?_) (fun c13 => ?_)
    · refine r_bipush (v := (-2)) rfl dX12_run_29 ?_
      refine w_iret rfl (rfl) (Nat.le_of_ble_eq_true rfl) (Nat.le_of_ble_eq_true rfl) dX12_run_31 ?_
      exact ⟨rfl, rfl, rfl, rfl⟩
    · exact absurd ⟨bI_1.mp c5, bI_1.mp c13⟩ hc
theorem k_X12_run_y {a b : Int32} {x y : Nat} (hc : (0 ≤ a.toInt ∧ a.toInt < (I 95 10).toInt) ∧ 0 ≤ b.toInt ∧ b.toInt < (I 95 10).toInt) (ha : a.toInt = x) (ha5 : x < 5) (hb : b.toInt = y) (hb5 : y < 5) : Con sc mX12_run 2 0 0 [.ref 95, .int a, .int b] (XW I L tg) (rI (I 106 (5 * x + y)) (XW I L tg)) := by
  have e := hr_ix2 ha ha5 hb hb5
  refine Con_of (by decide) (Nat.le_of_ble_eq_true rfl) ?_
  refine r_aload_n (j := 0) rfl rfl dX12_run_0 ?_
  refine r_iload_n (j := 1) rfl rfl dX12_run_1 ?_
  refine w_cV1p (k_X12_isHut) (Nat.le_of_ble_eq_true rfl) lX12_408 vmX12_isHut rfl (Nat.le_of_ble_eq_true rfl) (Nat.le_of_ble_eq_true rfl) (Nat.le_of_ble_eq_true rfl) dX12_run_2 ?_
  refine r_if_eq (tgt := 29) dX12_run_5 (by decide) (fun c5 => ?_) (fun c5 => ?_)
  · exact absurd hc.1 (bI_0.mp c5)
  · refine r_aload_n (j := 0) rfl rfl dX12_run_8 ?_
    refine r_iload_n (j := 2) rfl rfl dX12_run_9 ?_
    refine w_cV1p (k_X12_isHut) (Nat.le_of_ble_eq_true rfl) lX12_408 vmX12_isHut rfl (Nat.le_of_ble_eq_true rfl) (Nat.le_of_ble_eq_true rfl) (Nat.le_of_ble_eq_true rfl) dX12_run_10 ?_
    refine r_if_eq (tgt := 29) dX12_run_13 (by decide) (fun c13 => ?_) (fun c13 => ?_)
    · exact absurd hc.2 (bI_0.mp c13)
    · refine r_aload_n (j := 0) rfl rfl dX12_run_16 ?_
      refine w_getR (b := 106) fX12_234 rfl rfl dX12_run_17 ?_
      refine r_iconst (v := 5) rfl dX12_run_20 ?_
      refine r_iload_n (j := 1) rfl rfl dX12_run_21 ?_
      refine r_imul dX12_run_22 ?_
      refine r_iload_n (j := 2) rfl rfl dX12_run_23 ?_
      refine r_iadd dX12_run_24 ?_
      refine w_iald rfl (by rw [e]; exact vp_in_nI (by omega) (by omega)) dX12_run_25 ?_
      refine r_goto (tgt := 31) dX12_run_26 (by decide) ?_
      refine w_iret rfl (rfl) (Nat.le_of_ble_eq_true rfl) (Nat.le_of_ble_eq_true rfl) dX12_run_31 ?_
      exact ⟨by rw [e, nI_clamp (by omega)], rfl, rfl, rfl⟩
theorem k_X12_chance_n {s : Int32} (h : s.toInt < 0) : Con sc mX12_chance 0 0 0 [.ref 95, .int s] (XW I L tg) (rI (-2) (XW I L tg)) := by
  refine Con_of (by decide) (Nat.le_of_ble_eq_true rfl) ?_
  refine r_iload_n (j := 1) rfl rfl dX12_chance_0 ?_
  refine r_if_ge (tgt := 7) dX12_chance_1 (by decide) (fun c1 => ?_) (fun c1 => ?_)
  · exfalso; ((try simp only [bI_0, bI_1, lc_lt, lc_gt, lc_le, lc_ge, Classical.not_not] at *); (try simp only [i_lt, i_le, i_eq, l_lt, l_le, l_eq, Int32.toInt_toInt64, Int32.reduceToInt, Int64.reduceToInt] at *); omega)
  · refine r_bipush (v := (-2)) rfl dX12_chance_4 ?_
    refine w_iret rfl (rfl) (Nat.le_of_ble_eq_true rfl) (Nat.le_of_ble_eq_true rfl) dX12_chance_6 ?_
    exact ⟨rfl, rfl, rfl, rfl⟩
theorem k_X12_chance_y {s : Int32} (h : 0 ≤ s.toInt) : Con sc mX12_chance 0 0 0 [.ref 95, .int s] (XW I L tg) (rI 1 (XW I (up L 95 47 s.toInt64) tg)) := by
  refine Con_of (by decide) (Nat.le_of_ble_eq_true rfl) ?_
  refine r_iload_n (j := 1) rfl rfl dX12_chance_0 ?_
  refine r_if_ge (tgt := 7) dX12_chance_1 (by decide) (fun c1 => ?_) (fun c1 => ?_)
  · refine r_aload_n (j := 0) rfl rfl dX12_chance_7 ?_
    refine r_iload_n (j := 1) rfl rfl dX12_chance_8 ?_
    refine r_i2l dX12_chance_9 ?_
    refine w_putL fX12_248 rfl (rfl) (rfl) dX12_chance_10 (fun J10 hJ10 => ?_)
    refine r_iconst (v := 1) rfl dX12_chance_13 ?_
    refine w_iret rfl (rfl) (Nat.le_of_ble_eq_true rfl) (Nat.le_of_ble_eq_true rfl) dX12_chance_14 ?_
    exact ⟨rfl, rfl, hJ10, rfl⟩
  · exfalso; ((try simp only [bI_0, bI_1, lc_lt, lc_gt, lc_le, lc_ge, Classical.not_not] at *); (try simp only [i_lt, i_le, i_eq, l_lt, l_le, l_eq, Int32.toInt_toInt64, Int32.reduceToInt, Int64.reduceToInt] at *); omega)
theorem k_X12_open_r {h : Int32} (hc : ¬ (0 ≤ h.toInt ∧ h.toInt < (I 95 10).toInt)) : Con sc mX12_open 2 0 0 [.ref 95, .int h] (XW I L tg) (rI (-2) (XW I L tg)) := by
  refine Con_of (by decide) (Nat.le_of_ble_eq_true rfl) ?_
  refine r_aload_n (j := 0) rfl rfl dX12_open_0 ?_
  refine r_iload_n (j := 1) rfl rfl dX12_open_1 ?_
  refine w_cV1p (k_X12_isHut) (Nat.le_of_ble_eq_true rfl) lX12_408 vmX12_isHut rfl (Nat.le_of_ble_eq_true rfl) (Nat.le_of_ble_eq_true rfl) (Nat.le_of_ble_eq_true rfl) dX12_open_2 ?_
  refine r_if_ne (tgt := 11) dX12_open_5 (by decide) (fun c5 => ?_) (fun c5 => ?_)
  · exact absurd (bI_1.mp c5) hc
  · refine r_bipush (v := (-2)) rfl dX12_open_8 ?_
    refine w_iret rfl (rfl) (Nat.le_of_ble_eq_true rfl) (Nat.le_of_ble_eq_true rfl) dX12_open_10 ?_
    exact ⟨rfl, rfl, rfl, rfl⟩
theorem k_X12_open_f {h : Int32} (hc : 0 ≤ h.toInt ∧ h.toInt < (I 95 10).toInt) (hf : (I 95 48).toInt = 3) : Con sc mX12_open 2 0 0 [.ref 95, .int h] (XW I L tg) (rI (-3) (XW I L tg)) := by
  refine Con_of (by decide) (Nat.le_of_ble_eq_true rfl) ?_
  refine r_aload_n (j := 0) rfl rfl dX12_open_0 ?_
  refine r_iload_n (j := 1) rfl rfl dX12_open_1 ?_
  refine w_cV1p (k_X12_isHut) (Nat.le_of_ble_eq_true rfl) lX12_408 vmX12_isHut rfl (Nat.le_of_ble_eq_true rfl) (Nat.le_of_ble_eq_true rfl) (Nat.le_of_ble_eq_true rfl) dX12_open_2 ?_
  refine r_if_ne (tgt := 11) dX12_open_5 (by decide) (fun c5 => ?_) (fun c5 => ?_)
  · refine r_aload_n (j := 0) rfl rfl dX12_open_11 ?_
    refine w_getI fX12_370 rfl dX12_open_12 ?_
    refine r_iconst (v := 3) rfl dX12_open_15 ?_
    refine r_icmp_ne (tgt := 22) dX12_open_16 (by decide) (fun c16 => ?_) (fun c16 => ?_)
    · exfalso; ((try simp only [bI_0, bI_1, lc_lt, lc_gt, lc_le, lc_ge, Classical.not_not] at *); (try simp only [i_lt, i_le, i_eq, l_lt, l_le, l_eq, Int32.toInt_toInt64, Int32.reduceToInt, Int64.reduceToInt] at *); omega)
    · refine r_bipush (v := (-3)) rfl dX12_open_19 ?_
      refine w_iret rfl (rfl) (Nat.le_of_ble_eq_true rfl) (Nat.le_of_ble_eq_true rfl) dX12_open_21 ?_
      exact ⟨rfl, rfl, rfl, rfl⟩
  · exact absurd hc (bI_0.mp c5)
def begM (I : Is) (hut : Int32) (t : Nat) : Is := up (up (up (up (up (up I 120 t hut) 121 t 0) 122 t 0) 123 t 0) 124 t 0) 95 48 (I 95 48 + 1)
theorem k_X12_open_y {h : Int32} {t : Nat} (hc : 0 ≤ h.toInt ∧ h.toInt < (I 95 10).toInt) (ht : (I 95 48).toInt = t) (h3 : t < 3) : Con sc mX12_open 2 0 0 [.ref 95, .int h] (XW I L tg) (rI (I 95 48) (XW (begM I h t) L tg)) := by
  refine Con_of (by decide) (Nat.le_of_ble_eq_true rfl) ?_
  have ct := cl_of ht
  have hin := up_in ht h3
  refine r_aload_n (j := 0) rfl rfl dX12_open_0 ?_
  refine r_iload_n (j := 1) rfl rfl dX12_open_1 ?_
  refine w_cV1p (k_X12_isHut) (Nat.le_of_ble_eq_true rfl) lX12_408 vmX12_isHut rfl (Nat.le_of_ble_eq_true rfl) (Nat.le_of_ble_eq_true rfl) (Nat.le_of_ble_eq_true rfl) dX12_open_2 ?_
  refine r_if_ne (tgt := 11) dX12_open_5 (by decide) (fun c5 => ?_) (fun c5 => ?_)
  · refine r_aload_n (j := 0) rfl rfl dX12_open_11 ?_
    refine w_getI fX12_370 rfl dX12_open_12 ?_
    refine r_iconst (v := 3) rfl dX12_open_15 ?_
    refine r_icmp_ne (tgt := 22) dX12_open_16 (by decide) (fun c16 => ?_) (fun c16 => ?_)
    · refine r_aload_n (j := 0) rfl rfl dX12_open_22 ?_
      refine w_getR (b := 120) fX12_252 rfl rfl dX12_open_23 ?_
      refine r_aload_n (j := 0) rfl rfl dX12_open_26 ?_
      refine w_getI fX12_370 rfl dX12_open_27 ?_
      refine r_iload_n (j := 1) rfl rfl dX12_open_30 ?_
      refine w_iast rfl (by first | assumption | (rw [vp_in_iff]; ((try simp only [bI_0, bI_1, lc_lt, lc_gt, lc_le, lc_ge, Classical.not_not] at *); (try simp only [i_lt, i_le, i_eq, l_lt, l_le, l_eq, Int32.toInt_toInt64, Int32.reduceToInt, Int64.reduceToInt] at *); omega))) dX12_open_31 (fun J31 hJ31 => ?_)
      refine r_aload_n (j := 0) rfl rfl dX12_open_32 ?_
      refine w_getR (b := 121) fX12_255 rfl rfl dX12_open_33 ?_
      refine r_aload_n (j := 0) rfl rfl dX12_open_36 ?_
      refine w_getI fX12_370 rfl dX12_open_37 ?_
      refine r_iconst (v := 0) rfl dX12_open_40 ?_
      refine w_iast rfl (by subst hJ31; simpa [up_eq, vu_eq] using hin) dX12_open_41 (fun J41 hJ41 => ?_)
      refine r_aload_n (j := 0) rfl rfl dX12_open_42 ?_
      refine w_getR (b := 122) fX12_258 rfl rfl dX12_open_43 ?_
      refine r_aload_n (j := 0) rfl rfl dX12_open_46 ?_
      refine w_getI fX12_370 rfl dX12_open_47 ?_
      refine r_iconst (v := 0) rfl dX12_open_50 ?_
      refine w_iast rfl (by subst hJ41 hJ31; simpa [up_eq, vu_eq] using hin) dX12_open_51 (fun J51 hJ51 => ?_)
      refine r_aload_n (j := 0) rfl rfl dX12_open_52 ?_
      refine w_getR (b := 123) fX12_261 rfl rfl dX12_open_53 ?_
      refine r_aload_n (j := 0) rfl rfl dX12_open_56 ?_
      refine w_getI fX12_370 rfl dX12_open_57 ?_
      refine r_iconst (v := 0) rfl dX12_open_60 ?_
      refine w_iast rfl (by subst hJ51 hJ41 hJ31; simpa [up_eq, vu_eq] using hin) dX12_open_61 (fun J61 hJ61 => ?_)
      refine r_aload_n (j := 0) rfl rfl dX12_open_62 ?_
      refine w_getR (b := 124) fX12_264 rfl rfl dX12_open_63 ?_
      refine r_aload_n (j := 0) rfl rfl dX12_open_66 ?_
      refine w_getI fX12_370 rfl dX12_open_67 ?_
      refine r_iconst (v := 0) rfl dX12_open_70 ?_
      refine w_iast rfl (by subst hJ61 hJ51 hJ41 hJ31; simpa [up_eq, vu_eq] using hin) dX12_open_71 (fun J71 hJ71 => ?_)
      refine r_aload_n (j := 0) rfl rfl dX12_open_72 ?_
      refine r_dup rfl dX12_open_73 ?_
      refine w_getI fX12_370 rfl dX12_open_74 ?_
      refine r_iconst (v := 1) rfl dX12_open_77 ?_
      refine r_iadd dX12_open_78 ?_
      refine w_putI fX12_370 rfl (rfl) (rfl) dX12_open_79 (fun J79 hJ79 => ?_)
      refine r_aload_n (j := 0) rfl rfl dX12_open_82 ?_
      refine w_getI fX12_370 rfl dX12_open_83 ?_
      refine r_iconst (v := 1) rfl dX12_open_86 ?_
      refine r_isub dX12_open_87 ?_
      refine w_iret rfl (rfl) (Nat.le_of_ble_eq_true rfl) (Nat.le_of_ble_eq_true rfl) dX12_open_88 ?_
      subst hJ79 hJ71 hJ61 hJ51 hJ41 hJ31
      refine ⟨?_, ?_, rfl, rfl⟩
      · simp [up_eq, vu_eq]
      · unfold begM
        simp [up_eq, vu_eq, ct]
    · exfalso; ((try simp only [bI_0, bI_1, lc_lt, lc_gt, lc_le, lc_ge, Classical.not_not] at *); (try simp only [i_lt, i_le, i_eq, l_lt, l_le, l_eq, Int32.toInt_toInt64, Int32.reduceToInt, Int64.reduceToInt] at *); omega)
  · exact absurd hc (bI_0.mp c5)
def bMl (I : Is) : Nat → Int32 := sm (fun h => I 104 h * iMax 0 (I 95 14 - I 95 15))
theorem l_X12_boardsLeft {N : Nat} (hN : (I 95 10).toInt = N) (h5 : N ≤ 5) : ∀ n i : Nat, i + n = N → ∀ a x : Int32, a = bMl I i → x.toInt = i → RR sc mX12_boardsLeft 1 0 0 (rI (bMl I N - I 95 49) (XW I L tg)) 0 0 4 [(2, .int x), (1, .int a), (0, .ref 95)] [] (XW I L tg) := by
  intro n
  induction n with
  | zero =>
    intro i hi a x ea hx
    refine r_iload_n (j := 0) rfl rfl dX12_boardsLeft_4 ?_
    refine r_aload_n (j := 2) rfl rfl dX12_boardsLeft_5 ?_
    refine w_getI fX12_355 rfl dX12_boardsLeft_6 ?_
    refine r_icmp_ge (tgt := 41) dX12_boardsLeft_9 (by decide) (fun c9 => ?_) (fun c9 => ?_)
    · refine r_iload_n (j := 1) rfl rfl dX12_boardsLeft_41 ?_
      refine r_aload_n (j := 2) rfl rfl dX12_boardsLeft_42 ?_
      refine w_getI fX12_373 rfl dX12_boardsLeft_43 ?_
      refine r_isub dX12_boardsLeft_46 ?_
      refine w_iret rfl (rfl) (Nat.le_of_ble_eq_true rfl) (Nat.le_of_ble_eq_true rfl) dX12_boardsLeft_47 ?_
      exact ⟨by rw [ea, show i = N by omega], rfl, rfl, rfl⟩
    · exfalso; ((try simp only [bI_0, bI_1, lc_lt, lc_gt, lc_le, lc_ge, Classical.not_not] at *); (try simp only [i_lt, i_le, i_eq, l_lt, l_le, l_eq, Int32.toInt_toInt64, Int32.reduceToInt, Int64.reduceToInt] at *); omega)
  | succ n ih =>
    intro i hi a x ea hx
    refine r_iload_n (j := 0) rfl rfl dX12_boardsLeft_4 ?_
    refine r_aload_n (j := 2) rfl rfl dX12_boardsLeft_5 ?_
    refine w_getI fX12_355 rfl dX12_boardsLeft_6 ?_
    refine r_icmp_ge (tgt := 41) dX12_boardsLeft_9 (by decide) (fun c9 => ?_) (fun c9 => ?_)
    · exfalso; ((try simp only [bI_0, bI_1, lc_lt, lc_gt, lc_le, lc_ge, Classical.not_not] at *); (try simp only [i_lt, i_le, i_eq, l_lt, l_le, l_eq, Int32.toInt_toInt64, Int32.reduceToInt, Int64.reduceToInt] at *); omega)
    · refine r_iload_n (j := 1) rfl rfl dX12_boardsLeft_12 ?_
      refine r_aload_n (j := 2) rfl rfl dX12_boardsLeft_13 ?_
      refine w_getR (b := 104) fX12_228 rfl rfl dX12_boardsLeft_14 ?_
      refine r_iload_n (j := 0) rfl rfl dX12_boardsLeft_17 ?_
      refine w_iald rfl (by first | assumption | (rw [vp_in_iff]; ((try simp only [bI_0, bI_1, lc_lt, lc_gt, lc_le, lc_ge, Classical.not_not] at *); (try simp only [i_lt, i_le, i_eq, l_lt, l_le, l_eq, Int32.toInt_toInt64, Int32.reduceToInt, Int64.reduceToInt] at *); omega))) dX12_boardsLeft_18 ?_
      refine r_iconst (v := 0) rfl dX12_boardsLeft_19 ?_
      refine r_aload_n (j := 2) rfl rfl dX12_boardsLeft_20 ?_
      refine w_getI fX12_213 rfl dX12_boardsLeft_21 ?_
      refine r_aload_n (j := 2) rfl rfl dX12_boardsLeft_24 ?_
      refine w_getI fX12_216 rfl dX12_boardsLeft_25 ?_
      refine r_isub dX12_boardsLeft_28 ?_
      refine r_mmax lmX12_419 (Nat.le_of_ble_eq_true rfl) (Nat.le_of_ble_eq_true rfl) (Nat.le_of_ble_eq_true rfl) (Nat.le_of_ble_eq_true rfl) dX12_boardsLeft_29 ?_
      refine r_imul dX12_boardsLeft_32 ?_
      refine r_iadd dX12_boardsLeft_33 ?_
      refine r_istore_n (lv' := fun z => [(1, .int z), (2, .int x), (0, .ref 95)]) dX12_boardsLeft_34 rfl (Nat.le_of_ble_eq_true rfl) (fun _ => rfl) (fun x1_34 ex1_34 => ?_)
      refine r_iinc (j := 1) (lv' := fun z => [(2, .int z), (1, .int x1_34), (0, .ref 95)]) dX12_boardsLeft_35 rfl (Nat.le_of_ble_eq_true rfl) (fun _ => rfl) (fun x2_35 ex2_35 => ?_)
      refine r_goto (tgt := 4) dX12_boardsLeft_38 (by decide) ?_
      exact ih (i + 1) (by omega) _ _ (by rw [ex1_34, ea, cl_of hx]; rfl) (by rw [ex2_35]; exact i_inc hx (by omega))
def bMd (I : Is) : Int32 := bMl I (nN (I 95 10)) - I 95 49
theorem k_X12_boardsLeft (h0 : 0 ≤ (I 95 10).toInt) (h5 : (I 95 10).toInt ≤ 5) : Con sc mX12_boardsLeft 1 0 0 [.ref 95] (XW I L tg) (rI (bMd I) (XW I L tg)) := by
  refine Con_of (by decide) (Nat.le_of_ble_eq_true rfl) ?_
  have hN := nN_of h0
  refine r_iconst (v := 0) rfl dX12_boardsLeft_0 ?_
  refine r_istore_n (lv' := fun z => [(1, .int z), (0, .ref 95)]) dX12_boardsLeft_1 rfl (Nat.le_of_ble_eq_true rfl) (fun _ => rfl) (fun x1_1 ex1_1 => ?_)
  refine r_iconst (v := 0) rfl dX12_boardsLeft_2 ?_
  refine r_istore_n (lv' := fun z => [(2, .int z), (1, .int x1_1), (0, .ref 95)]) dX12_boardsLeft_3 rfl (Nat.le_of_ble_eq_true rfl) (fun _ => rfl) (fun x2_3 ex2_3 => ?_)
  exact l_X12_boardsLeft hN (by omega) _ 0 (Nat.zero_add _) _ _ ex1_1 (by rw [ex2_3]; rfl)
theorem k_X12_boards (h0 : 0 ≤ (I 95 10).toInt) (h5 : (I 95 10).toInt ≤ 5) : Con sc mX12_boards 2 0 0 [.ref 95] (XW I L tg) (rI (bMd I) (XW I L tg)) := by
  refine Con_of (by decide) (Nat.le_of_ble_eq_true rfl) ?_
  refine r_aload_n (j := 0) rfl rfl dX12_boards_0 ?_
  refine w_cV0p (k_X12_boardsLeft h0 h5) (Nat.le_of_ble_eq_true rfl) lX12_425 vmX12_boardsLeft rfl (Nat.le_of_ble_eq_true rfl) (Nat.le_of_ble_eq_true rfl) (Nat.le_of_ble_eq_true rfl) dX12_boards_1 ?_
  refine w_iret rfl (rfl) (Nat.le_of_ble_eq_true rfl) (Nat.le_of_ble_eq_true rfl) dX12_boards_4 ?_
  exact ⟨rfl, rfl, rfl, rfl⟩
theorem k_X12_lies_r {a : Int32} (hc : ¬ (0 ≤ a.toInt ∧ a.toInt < (I 95 10).toInt)) : Con sc mX12_lies 2 0 0 [.ref 95, .int a] (XW I L tg) (rI (-2) (XW I L tg)) := by
  refine Con_of (by decide) (Nat.le_of_ble_eq_true rfl) ?_
  refine r_aload_n (j := 0) rfl rfl dX12_lies_0 ?_
  refine r_iload_n (j := 1) rfl rfl dX12_lies_1 ?_
  refine w_cV1p (k_X12_isHut) (Nat.le_of_ble_eq_true rfl) lX12_408 vmX12_isHut rfl (Nat.le_of_ble_eq_true rfl) (Nat.le_of_ble_eq_true rfl) (Nat.le_of_ble_eq_true rfl) dX12_lies_2 ?_
  refine r_if_eq (tgt := 17) dX12_lies_5 (by decide) (fun c5 => ?_) (fun c5 => ?_)
  · refine r_bipush (v := (-2)) rfl dX12_lies_17 ?_
    refine w_iret rfl (rfl) (Nat.le_of_ble_eq_true rfl) (Nat.le_of_ble_eq_true rfl) dX12_lies_19 ?_
    exact ⟨rfl, rfl, rfl, rfl⟩
  · exact absurd (bI_1.mp c5) hc
theorem k_X12_lies_y {a : Int32} {x : Nat} (hc : 0 ≤ a.toInt ∧ a.toInt < (I 95 10).toInt) (ha : a.toInt = x) (h5 : x < 5) : Con sc mX12_lies 2 0 0 [.ref 95, .int a] (XW I L tg) (rI (I 125 x) (XW I L tg)) := by
  refine Con_of (by decide) (Nat.le_of_ble_eq_true rfl) ?_
  refine r_aload_n (j := 0) rfl rfl dX12_lies_0 ?_
  refine r_iload_n (j := 1) rfl rfl dX12_lies_1 ?_
  refine w_cV1p (k_X12_isHut) (Nat.le_of_ble_eq_true rfl) lX12_408 vmX12_isHut rfl (Nat.le_of_ble_eq_true rfl) (Nat.le_of_ble_eq_true rfl) (Nat.le_of_ble_eq_true rfl) dX12_lies_2 ?_
  refine r_if_eq (tgt := 17) dX12_lies_5 (by decide) (fun c5 => ?_) (fun c5 => ?_)
  · exact absurd hc (bI_0.mp c5)
  · refine r_aload_n (j := 0) rfl rfl dX12_lies_8 ?_
    refine w_getR (b := 125) fX12_267 rfl rfl dX12_lies_9 ?_
    refine r_iload_n (j := 1) rfl rfl dX12_lies_12 ?_
    refine w_iald rfl (up_in ha h5) dX12_lies_13 ?_
    refine r_goto (tgt := 19) dX12_lies_14 (by decide) ?_
    refine w_iret rfl (rfl) (Nat.le_of_ble_eq_true rfl) (Nat.le_of_ble_eq_true rfl) dX12_lies_19 ?_
    exact ⟨by rw [cl_of ha], rfl, rfl, rfl⟩
theorem k_X12_had_r {a : Int32} (hc : ¬ (0 ≤ a.toInt ∧ a.toInt < (I 95 11).toInt)) : Con sc mX12_had 2 0 0 [.ref 95, .int a] (XW I L tg) (rI (-2) (XW I L tg)) := by
  refine Con_of (by decide) (Nat.le_of_ble_eq_true rfl) ?_
  refine r_aload_n (j := 0) rfl rfl dX12_had_0 ?_
  refine r_iload_n (j := 1) rfl rfl dX12_had_1 ?_
  refine w_cV1p (k_X12_isGarden) (Nat.le_of_ble_eq_true rfl) lX12_444 vmX12_isGarden rfl (Nat.le_of_ble_eq_true rfl) (Nat.le_of_ble_eq_true rfl) (Nat.le_of_ble_eq_true rfl) dX12_had_2 ?_
  refine r_if_eq (tgt := 17) dX12_had_5 (by decide) (fun c5 => ?_) (fun c5 => ?_)
  · refine r_bipush (v := (-2)) rfl dX12_had_17 ?_
    refine w_iret rfl (rfl) (Nat.le_of_ble_eq_true rfl) (Nat.le_of_ble_eq_true rfl) dX12_had_19 ?_
    exact ⟨rfl, rfl, rfl, rfl⟩
  · exact absurd (bI_1.mp c5) hc
theorem k_X12_had_y {a : Int32} {x : Nat} (hc : 0 ≤ a.toInt ∧ a.toInt < (I 95 11).toInt) (ha : a.toInt = x) (h5 : x < 4) : Con sc mX12_had 2 0 0 [.ref 95, .int a] (XW I L tg) (rI (I 126 x) (XW I L tg)) := by
  refine Con_of (by decide) (Nat.le_of_ble_eq_true rfl) ?_
  refine r_aload_n (j := 0) rfl rfl dX12_had_0 ?_
  refine r_iload_n (j := 1) rfl rfl dX12_had_1 ?_
  refine w_cV1p (k_X12_isGarden) (Nat.le_of_ble_eq_true rfl) lX12_444 vmX12_isGarden rfl (Nat.le_of_ble_eq_true rfl) (Nat.le_of_ble_eq_true rfl) (Nat.le_of_ble_eq_true rfl) dX12_had_2 ?_
  refine r_if_eq (tgt := 17) dX12_had_5 (by decide) (fun c5 => ?_) (fun c5 => ?_)
  · exact absurd hc (bI_0.mp c5)
  · refine r_aload_n (j := 0) rfl rfl dX12_had_8 ?_
    refine w_getR (b := 126) fX12_269 rfl rfl dX12_had_9 ?_
    refine r_iload_n (j := 1) rfl rfl dX12_had_12 ?_
    refine w_iald rfl (up_in ha h5) dX12_had_13 ?_
    refine r_goto (tgt := 19) dX12_had_14 (by decide) ?_
    refine w_iret rfl (rfl) (Nat.le_of_ble_eq_true rfl) (Nat.le_of_ble_eq_true rfl) dX12_had_19 ?_
    exact ⟨by rw [cl_of ha], rfl, rfl, rfl⟩
abbrev mRc (I : Is) (h g : Nat) : Prop := iAbs (I 102 h - I 107 g) + I 103 h ≤ I 97 4
theorem k_X12_reaches {h g : Int32} {hn gn : Nat} (eh : h.toInt = hn) (eg : g.toInt = gn) (h5 : hn < 5) (g4 : gn < 4) : Con sc mX12_reaches 1 0 0 [.ref 95, .int h, .int g] (XW I L tg) (rI (bI (iAbs (I 102 hn - I 107 gn) + I 103 hn ≤ I 97 4)) (XW I L tg)) := by
  refine Con_of (by decide) (Nat.le_of_ble_eq_true rfl) ?_
  have ch := cl_of eh
  have cg := cl_of eg
  refine r_aload_n (j := 0) rfl rfl dX12_reaches_0 ?_
  refine w_getR (b := 102) fX12_222 rfl rfl dX12_reaches_1 ?_
  refine r_iload_n (j := 1) rfl rfl dX12_reaches_4 ?_
  refine w_iald rfl (up_in eh h5) dX12_reaches_5 ?_
  refine r_aload_n (j := 0) rfl rfl dX12_reaches_6 ?_
  refine w_getR (b := 107) fX12_236 rfl rfl dX12_reaches_7 ?_
  refine r_iload_n (j := 2) rfl rfl dX12_reaches_10 ?_
  refine w_iald rfl (up_in eg g4) dX12_reaches_11 ?_
  refine r_isub dX12_reaches_12 ?_
  refine r_mabs lmX12_441 (Nat.le_of_ble_eq_true rfl) (Nat.le_of_ble_eq_true rfl) (Nat.le_of_ble_eq_true rfl) (Nat.le_of_ble_eq_true rfl) dX12_reaches_13 ?_
  refine r_aload_n (j := 0) rfl rfl dX12_reaches_16 ?_
  refine w_getR (b := 103) fX12_225 rfl rfl dX12_reaches_17 ?_
  refine r_iload_n (j := 1) rfl rfl dX12_reaches_20 ?_
  refine w_iald rfl (up_in eh h5) dX12_reaches_21 ?_
  refine r_iadd dX12_reaches_22 ?_
  refine r_aload_n (j := 0) rfl rfl dX12_reaches_23 ?_
  refine w_getR (b := 97) fX12_219 rfl rfl dX12_reaches_24 ?_
  refine r_iconst (v := 4) rfl dX12_reaches_27 ?_
  refine w_iald rfl (by first | assumption | (rw [vp_in_iff]; ((try simp only [bI_0, bI_1, lc_lt, lc_gt, lc_le, lc_ge, Classical.not_not] at *); (try simp only [i_lt, i_le, i_eq, l_lt, l_le, l_eq, Int32.toInt_toInt64, Int32.reduceToInt, Int64.reduceToInt] at *); omega))) dX12_reaches_28 ?_
  refine r_icmp_gt (tgt := 36) dX12_reaches_29 (by decide) (fun c29 => ?_) (fun c29 => ?_)
  · refine r_iconst (v := 0) rfl dX12_reaches_36 ?_
    refine w_iret rfl (rfl) (Nat.le_of_ble_eq_true rfl) (Nat.le_of_ble_eq_true rfl) dX12_reaches_37 ?_
    rw [ch, cg] at c29; exact ⟨by first | exact (bI_t (Int32.not_lt.mp c29)).symm | exact (bI_f (Int32.not_le.mpr c29)).symm, rfl, rfl, rfl⟩
  · refine r_iconst (v := 1) rfl dX12_reaches_32 ?_
    refine r_goto (tgt := 37) dX12_reaches_33 (by decide) ?_
    refine w_iret rfl (rfl) (Nat.le_of_ble_eq_true rfl) (Nat.le_of_ble_eq_true rfl) dX12_reaches_37 ?_
    rw [ch, cg] at c29; exact ⟨by first | exact (bI_t (Int32.not_lt.mp c29)).symm | exact (bI_f (Int32.not_le.mpr c29)).symm, rfl, rfl, rfl⟩
def caC (I : Is) (h g n : Int32) : Prop := (0 ≤ h.toInt ∧ h.toInt < (I 95 10).toInt) ∧ (0 ≤ g.toInt ∧ g.toInt < (I 95 11).toInt) ∧ 1 ≤ n.toInt ∧ n.toInt ≤ 9999
theorem k_X12_carry_r {h g n : Int32} (hc : ¬ caC I h g n) : Con sc mX12_carry 2 0 0 [.ref 95, .int h, .int g, .int n] (XW I L tg) (rI (-2) (XW I L tg)) := by
  refine Con_of (by decide) (Nat.le_of_ble_eq_true rfl) ?_
  refine r_aload_n (j := 0) rfl rfl dX12_carry_0 ?_
  refine r_iload_n (j := 1) rfl rfl dX12_carry_1 ?_
  refine w_cV1p (k_X12_isHut) (Nat.le_of_ble_eq_true rfl) lX12_408 vmX12_isHut rfl (Nat.le_of_ble_eq_true rfl) (Nat.le_of_ble_eq_true rfl) (Nat.le_of_ble_eq_true rfl) dX12_carry_2 ?_
  refine r_if_eq (tgt := 28) dX12_carry_5 (by decide) (fun c5 => ?_) (fun c5 => ?_)
  · refine r_bipush (v := (-2)) rfl dX12_carry_28 ?_
    refine w_iret rfl (rfl) (Nat.le_of_ble_eq_true rfl) (Nat.le_of_ble_eq_true rfl) dX12_carry_30 ?_
    exact ⟨rfl, rfl, rfl, rfl⟩
  · refine r_aload_n (j := 0) rfl rfl dX12_carry_8 ?_
    refine r_iload_n (j := 2) rfl rfl dX12_carry_9 ?_
    refine w_cV1p (k_X12_isGarden) (Nat.le_of_ble_eq_true rfl) lX12_444 vmX12_isGarden rfl (Nat.le_of_ble_eq_true rfl) (Nat.le_of_ble_eq_true rfl) (Nat.le_of_ble_eq_true rfl) dX12_carry_10 ?_
    refine r_if_eq (tgt := 28) dX12_carry_13 (by decide) (fun c13 => ?_) (fun c13 => ?_)
    · refine r_bipush (v := (-2)) rfl dX12_carry_28 ?_
      refine w_iret rfl (rfl) (Nat.le_of_ble_eq_true rfl) (Nat.le_of_ble_eq_true rfl) dX12_carry_30 ?_
      exact ⟨rfl, rfl, rfl, rfl⟩
    · refine r_iload_n (j := 3) rfl rfl dX12_carry_16 ?_
      refine r_i2l dX12_carry_17 ?_
      refine r_lconst (v := 1) rfl dX12_carry_18 ?_
      refine r_ldc2 kX12_447 dX12_carry_19 ?_
      refine w_cS3p (k_X12_in) (Nat.le_of_ble_eq_true rfl) lX12_52 mtX12_in (Nat.le_of_ble_eq_true rfl) (Nat.le_of_ble_eq_true rfl) (Nat.le_of_ble_eq_true rfl) dX12_carry_22 ?_
      refine r_if_ne (tgt := 31) dX12_carry_25 (by decide) (fun c25 => ?_) (fun c25 => ?_)
      · exact absurd ⟨bI_1.mp c5, bI_1.mp c13, by have := bI_1.mp c25; rw [Int32.toInt_toInt64] at this; exact this⟩ hc
      · refine r_bipush (v := (-2)) rfl dX12_carry_28 ?_
        refine w_iret rfl (rfl) (Nat.le_of_ble_eq_true rfl) (Nat.le_of_ble_eq_true rfl) dX12_carry_30 ?_
        exact ⟨rfl, rfl, rfl, rfl⟩
def mkC (I : Is) (h g : Nat) (n : Int32) : Prop := mRc I h g ∧ n ≤ I 125 h ∧ n ≤ I 109 g - I 126 g
theorem k_X12_carry_n {h g n : Int32} {hn gn : Nat} (hc : caC I h g n) (eh : h.toInt = hn) (eg : g.toInt = gn) (h5 : hn < 5) (g4 : gn < 4) (hk : ¬ mkC I hn gn n) : Con sc mX12_carry 2 0 0 [.ref 95, .int h, .int g, .int n] (XW I L tg) (rI (-4) (XW I L tg)) := by
  refine Con_of (by decide) (Nat.le_of_ble_eq_true rfl) ?_
  have ch := cl_of eh
  have cg := cl_of eg
  have ih := up_in eh h5
  have ig := up_in eg g4
  obtain ⟨q1, q2, q3⟩ := hc
  refine r_aload_n (j := 0) rfl rfl dX12_carry_0 ?_
  refine r_iload_n (j := 1) rfl rfl dX12_carry_1 ?_
  refine w_cV1p (k_X12_isHut) (Nat.le_of_ble_eq_true rfl) lX12_408 vmX12_isHut rfl (Nat.le_of_ble_eq_true rfl) (Nat.le_of_ble_eq_true rfl) (Nat.le_of_ble_eq_true rfl) dX12_carry_2 ?_
  refine r_if_eq (tgt := 28) dX12_carry_5 (by decide) (fun c5 => ?_) (fun c5 => ?_)
  · exact absurd q1 (bI_0.mp c5)
  · refine r_aload_n (j := 0) rfl rfl dX12_carry_8 ?_
    refine r_iload_n (j := 2) rfl rfl dX12_carry_9 ?_
    refine w_cV1p (k_X12_isGarden) (Nat.le_of_ble_eq_true rfl) lX12_444 vmX12_isGarden rfl (Nat.le_of_ble_eq_true rfl) (Nat.le_of_ble_eq_true rfl) (Nat.le_of_ble_eq_true rfl) dX12_carry_10 ?_
    refine r_if_eq (tgt := 28) dX12_carry_13 (by decide) (fun c13 => ?_) (fun c13 => ?_)
    · exact absurd q2 (bI_0.mp c13)
    · refine r_iload_n (j := 3) rfl rfl dX12_carry_16 ?_
      refine r_i2l dX12_carry_17 ?_
      refine r_lconst (v := 1) rfl dX12_carry_18 ?_
      refine r_ldc2 kX12_447 dX12_carry_19 ?_
      refine w_cS3p (k_X12_in) (Nat.le_of_ble_eq_true rfl) lX12_52 mtX12_in (Nat.le_of_ble_eq_true rfl) (Nat.le_of_ble_eq_true rfl) (Nat.le_of_ble_eq_true rfl) dX12_carry_22 ?_
      refine r_if_ne (tgt := 31) dX12_carry_25 (by decide) (fun c25 => ?_) (fun c25 => ?_)
      · refine r_aload_n (j := 0) rfl rfl dX12_carry_31 ?_
        refine r_iload_n (j := 1) rfl rfl dX12_carry_32 ?_
        refine r_iload_n (j := 2) rfl rfl dX12_carry_33 ?_
        refine w_cV2p (k_X12_reaches eh eg h5 g4) (Nat.le_of_ble_eq_true rfl) lX12_449 vmX12_reaches rfl (Nat.le_of_ble_eq_true rfl) (Nat.le_of_ble_eq_true rfl) (Nat.le_of_ble_eq_true rfl) dX12_carry_34 ?_
        refine r_if_eq (tgt := 67) dX12_carry_37 (by decide) (fun c37 => ?_) (fun c37 => ?_)
        · refine r_bipush (v := (-4)) rfl dX12_carry_67 ?_
          refine w_iret rfl (rfl) (Nat.le_of_ble_eq_true rfl) (Nat.le_of_ble_eq_true rfl) dX12_carry_69 ?_
          exact ⟨rfl, rfl, rfl, rfl⟩
        · refine r_iload_n (j := 3) rfl rfl dX12_carry_40 ?_
          refine r_aload_n (j := 0) rfl rfl dX12_carry_41 ?_
          refine w_getR (b := 125) fX12_267 rfl rfl dX12_carry_42 ?_
          refine r_iload_n (j := 1) rfl rfl dX12_carry_45 ?_
          refine w_iald rfl (by first | assumption | (rw [vp_in_iff]; ((try simp only [bI_0, bI_1, lc_lt, lc_gt, lc_le, lc_ge, Classical.not_not] at *); (try simp only [i_lt, i_le, i_eq, l_lt, l_le, l_eq, Int32.toInt_toInt64, Int32.reduceToInt, Int64.reduceToInt] at *); omega))) dX12_carry_46 ?_
          refine r_icmp_gt (tgt := 67) dX12_carry_47 (by decide) (fun c47 => ?_) (fun c47 => ?_)
          · refine r_bipush (v := (-4)) rfl dX12_carry_67 ?_
            refine w_iret rfl (rfl) (Nat.le_of_ble_eq_true rfl) (Nat.le_of_ble_eq_true rfl) dX12_carry_69 ?_
            exact ⟨rfl, rfl, rfl, rfl⟩
          · refine r_iload_n (j := 3) rfl rfl dX12_carry_50 ?_
            refine r_aload_n (j := 0) rfl rfl dX12_carry_51 ?_
            refine w_getR (b := 109) fX12_242 rfl rfl dX12_carry_52 ?_
            refine r_iload_n (j := 2) rfl rfl dX12_carry_55 ?_
            refine w_iald rfl (by first | assumption | (rw [vp_in_iff]; ((try simp only [bI_0, bI_1, lc_lt, lc_gt, lc_le, lc_ge, Classical.not_not] at *); (try simp only [i_lt, i_le, i_eq, l_lt, l_le, l_eq, Int32.toInt_toInt64, Int32.reduceToInt, Int64.reduceToInt] at *); omega))) dX12_carry_56 ?_
            refine r_aload_n (j := 0) rfl rfl dX12_carry_57 ?_
            refine w_getR (b := 126) fX12_269 rfl rfl dX12_carry_58 ?_
            refine r_iload_n (j := 2) rfl rfl dX12_carry_61 ?_
            refine w_iald rfl (by first | assumption | (rw [vp_in_iff]; ((try simp only [bI_0, bI_1, lc_lt, lc_gt, lc_le, lc_ge, Classical.not_not] at *); (try simp only [i_lt, i_le, i_eq, l_lt, l_le, l_eq, Int32.toInt_toInt64, Int32.reduceToInt, Int64.reduceToInt] at *); omega))) dX12_carry_62 ?_
            refine r_isub dX12_carry_63 ?_
            refine r_icmp_le (tgt := 70) dX12_carry_64 (by decide) (fun c64 => ?_) (fun c64 => ?_)
            · rw [ch] at c47; rw [cg] at c64; exact absurd ⟨bI_1.mp c37, Int32.not_lt.mp c47, c64⟩ hk
            · refine r_bipush (v := (-4)) rfl dX12_carry_67 ?_
              refine w_iret rfl (rfl) (Nat.le_of_ble_eq_true rfl) (Nat.le_of_ble_eq_true rfl) dX12_carry_69 ?_
              exact ⟨rfl, rfl, rfl, rfl⟩
      · refine absurd ?_ (bI_0.mp c25); rw [Int32.toInt_toInt64]; exact q3
def wkM (I : Is) (h g : Nat) (n : Int32) : Is := up (up I 125 h (I 125 h - n)) 126 g (I 126 g + n)
theorem k_X12_carry_y {h g n : Int32} {hn gn : Nat} (hc : caC I h g n) (eh : h.toInt = hn) (eg : g.toInt = gn) (h5 : hn < 5) (g4 : gn < 4) (hk : mkC I hn gn n) : Con sc mX12_carry 2 0 0 [.ref 95, .int h, .int g, .int n] (XW I L tg) (rI (I 125 hn - n) (XW (wkM I hn gn n) L tg)) := by
  refine Con_of (by decide) (Nat.le_of_ble_eq_true rfl) ?_
  have ch := cl_of eh
  have cg := cl_of eg
  have ih := up_in eh h5
  have ig := up_in eg g4
  obtain ⟨q1, q2, q3⟩ := hc
  refine r_aload_n (j := 0) rfl rfl dX12_carry_0 ?_
  refine r_iload_n (j := 1) rfl rfl dX12_carry_1 ?_
  refine w_cV1p (k_X12_isHut) (Nat.le_of_ble_eq_true rfl) lX12_408 vmX12_isHut rfl (Nat.le_of_ble_eq_true rfl) (Nat.le_of_ble_eq_true rfl) (Nat.le_of_ble_eq_true rfl) dX12_carry_2 ?_
  refine r_if_eq (tgt := 28) dX12_carry_5 (by decide) (fun c5 => ?_) (fun c5 => ?_)
  · exact absurd q1 (bI_0.mp c5)
  · refine r_aload_n (j := 0) rfl rfl dX12_carry_8 ?_
    refine r_iload_n (j := 2) rfl rfl dX12_carry_9 ?_
    refine w_cV1p (k_X12_isGarden) (Nat.le_of_ble_eq_true rfl) lX12_444 vmX12_isGarden rfl (Nat.le_of_ble_eq_true rfl) (Nat.le_of_ble_eq_true rfl) (Nat.le_of_ble_eq_true rfl) dX12_carry_10 ?_
    refine r_if_eq (tgt := 28) dX12_carry_13 (by decide) (fun c13 => ?_) (fun c13 => ?_)
    · exact absurd q2 (bI_0.mp c13)
    · refine r_iload_n (j := 3) rfl rfl dX12_carry_16 ?_
      refine r_i2l dX12_carry_17 ?_
      refine r_lconst (v := 1) rfl dX12_carry_18 ?_
      refine r_ldc2 kX12_447 dX12_carry_19 ?_
      refine w_cS3p (k_X12_in) (Nat.le_of_ble_eq_true rfl) lX12_52 mtX12_in (Nat.le_of_ble_eq_true rfl) (Nat.le_of_ble_eq_true rfl) (Nat.le_of_ble_eq_true rfl) dX12_carry_22 ?_
      refine r_if_ne (tgt := 31) dX12_carry_25 (by decide) (fun c25 => ?_) (fun c25 => ?_)
      · refine r_aload_n (j := 0) rfl rfl dX12_carry_31 ?_
        refine r_iload_n (j := 1) rfl rfl dX12_carry_32 ?_
        refine r_iload_n (j := 2) rfl rfl dX12_carry_33 ?_
        refine w_cV2p (k_X12_reaches eh eg h5 g4) (Nat.le_of_ble_eq_true rfl) lX12_449 vmX12_reaches rfl (Nat.le_of_ble_eq_true rfl) (Nat.le_of_ble_eq_true rfl) (Nat.le_of_ble_eq_true rfl) dX12_carry_34 ?_
        refine r_if_eq (tgt := 67) dX12_carry_37 (by decide) (fun c37 => ?_) (fun c37 => ?_)
        · exact absurd hk.1 (bI_0.mp c37)
        · refine r_iload_n (j := 3) rfl rfl dX12_carry_40 ?_
          refine r_aload_n (j := 0) rfl rfl dX12_carry_41 ?_
          refine w_getR (b := 125) fX12_267 rfl rfl dX12_carry_42 ?_
          refine r_iload_n (j := 1) rfl rfl dX12_carry_45 ?_
          refine w_iald rfl (by first | assumption | (rw [vp_in_iff]; ((try simp only [bI_0, bI_1, lc_lt, lc_gt, lc_le, lc_ge, Classical.not_not] at *); (try simp only [i_lt, i_le, i_eq, l_lt, l_le, l_eq, Int32.toInt_toInt64, Int32.reduceToInt, Int64.reduceToInt] at *); omega))) dX12_carry_46 ?_
          refine r_icmp_gt (tgt := 67) dX12_carry_47 (by decide) (fun c47 => ?_) (fun c47 => ?_)
          · rw [ch] at c47; exact absurd hk.2.1 (Int32.not_le.mpr c47)
          · refine r_iload_n (j := 3) rfl rfl dX12_carry_50 ?_
            refine r_aload_n (j := 0) rfl rfl dX12_carry_51 ?_
            refine w_getR (b := 109) fX12_242 rfl rfl dX12_carry_52 ?_
            refine r_iload_n (j := 2) rfl rfl dX12_carry_55 ?_
            refine w_iald rfl (by first | assumption | (rw [vp_in_iff]; ((try simp only [bI_0, bI_1, lc_lt, lc_gt, lc_le, lc_ge, Classical.not_not] at *); (try simp only [i_lt, i_le, i_eq, l_lt, l_le, l_eq, Int32.toInt_toInt64, Int32.reduceToInt, Int64.reduceToInt] at *); omega))) dX12_carry_56 ?_
            refine r_aload_n (j := 0) rfl rfl dX12_carry_57 ?_
            refine w_getR (b := 126) fX12_269 rfl rfl dX12_carry_58 ?_
            refine r_iload_n (j := 2) rfl rfl dX12_carry_61 ?_
            refine w_iald rfl (by first | assumption | (rw [vp_in_iff]; ((try simp only [bI_0, bI_1, lc_lt, lc_gt, lc_le, lc_ge, Classical.not_not] at *); (try simp only [i_lt, i_le, i_eq, l_lt, l_le, l_eq, Int32.toInt_toInt64, Int32.reduceToInt, Int64.reduceToInt] at *); omega))) dX12_carry_62 ?_
            refine r_isub dX12_carry_63 ?_
            refine r_icmp_le (tgt := 70) dX12_carry_64 (by decide) (fun c64 => ?_) (fun c64 => ?_)
            · refine r_aload_n (j := 0) rfl rfl dX12_carry_70 ?_
              refine w_getR (b := 125) fX12_267 rfl rfl dX12_carry_71 ?_
              refine r_iload_n (j := 1) rfl rfl dX12_carry_74 ?_
              refine r_dup2 rfl rfl dX12_carry_75 ?_
              refine w_iald rfl (by first | assumption | (rw [vp_in_iff]; ((try simp only [bI_0, bI_1, lc_lt, lc_gt, lc_le, lc_ge, Classical.not_not] at *); (try simp only [i_lt, i_le, i_eq, l_lt, l_le, l_eq, Int32.toInt_toInt64, Int32.reduceToInt, Int64.reduceToInt] at *); omega))) dX12_carry_76 ?_
              refine r_iload_n (j := 3) rfl rfl dX12_carry_77 ?_
              refine r_isub dX12_carry_78 ?_
              refine w_iast rfl (by first | assumption | (rw [vp_in_iff]; ((try simp only [bI_0, bI_1, lc_lt, lc_gt, lc_le, lc_ge, Classical.not_not] at *); (try simp only [i_lt, i_le, i_eq, l_lt, l_le, l_eq, Int32.toInt_toInt64, Int32.reduceToInt, Int64.reduceToInt] at *); omega))) dX12_carry_79 (fun J79 hJ79 => ?_)
              refine r_aload_n (j := 0) rfl rfl dX12_carry_80 ?_
              refine w_getR (b := 126) fX12_269 rfl rfl dX12_carry_81 ?_
              refine r_iload_n (j := 2) rfl rfl dX12_carry_84 ?_
              refine r_dup2 rfl rfl dX12_carry_85 ?_
              refine w_iald rfl (by first | assumption | (rw [vp_in_iff]; ((try simp only [bI_0, bI_1, lc_lt, lc_gt, lc_le, lc_ge, Classical.not_not] at *); (try simp only [i_lt, i_le, i_eq, l_lt, l_le, l_eq, Int32.toInt_toInt64, Int32.reduceToInt, Int64.reduceToInt] at *); omega))) dX12_carry_86 ?_
              refine r_iload_n (j := 3) rfl rfl dX12_carry_87 ?_
              refine r_iadd dX12_carry_88 ?_
              refine w_iast rfl (by first | assumption | (rw [vp_in_iff]; ((try simp only [bI_0, bI_1, lc_lt, lc_gt, lc_le, lc_ge, Classical.not_not] at *); (try simp only [i_lt, i_le, i_eq, l_lt, l_le, l_eq, Int32.toInt_toInt64, Int32.reduceToInt, Int64.reduceToInt] at *); omega))) dX12_carry_89 (fun J89 hJ89 => ?_)
              refine r_aload_n (j := 0) rfl rfl dX12_carry_90 ?_
              refine w_getR (b := 125) fX12_267 rfl rfl dX12_carry_91 ?_
              refine r_iload_n (j := 1) rfl rfl dX12_carry_94 ?_
              refine w_iald rfl (by first | assumption | (rw [vp_in_iff]; ((try simp only [bI_0, bI_1, lc_lt, lc_gt, lc_le, lc_ge, Classical.not_not] at *); (try simp only [i_lt, i_le, i_eq, l_lt, l_le, l_eq, Int32.toInt_toInt64, Int32.reduceToInt, Int64.reduceToInt] at *); omega))) dX12_carry_95 ?_
              refine w_iret rfl (rfl) (Nat.le_of_ble_eq_true rfl) (Nat.le_of_ble_eq_true rfl) dX12_carry_96 ?_
              subst hJ89 hJ79
              refine ⟨?_, ?_, rfl, rfl⟩
              · simp [up_eq, vu_eq, ch]
              · unfold wkM
                simp [up_eq, vu_eq, ch, cg]
            · rw [cg] at c64; exact absurd hk.2.2 c64
      · refine absurd ?_ (bI_0.mp c25); rw [Int32.toInt_toInt64]; exact q3
theorem l_X12_allFeet {N : Nat} (hN : (I 95 48).toInt = N) (h5 : N ≤ 3) : ∀ n i : Nat, i + n = N → ∀ a x : Int32, a = sm (I 121) i → x.toInt = i → RR sc mX12_allFeet 0 0 0 (rI (sm (I 121) N) (XW I L tg)) 0 0 4 [(2, .int x), (1, .int a), (0, .ref 95)] [] (XW I L tg) := by
  intro n
  induction n with
  | zero =>
    intro i hi a x ea hx
    refine r_iload_n (j := 0) rfl rfl dX12_allFeet_4 ?_
    refine r_aload_n (j := 2) rfl rfl dX12_allFeet_5 ?_
    refine w_getI fX12_370 rfl dX12_allFeet_6 ?_
    refine r_icmp_ge (tgt := 27) dX12_allFeet_9 (by decide) (fun c9 => ?_) (fun c9 => ?_)
    · refine r_iload_n (j := 1) rfl rfl dX12_allFeet_27 ?_
      refine w_iret rfl (rfl) (Nat.le_of_ble_eq_true rfl) (Nat.le_of_ble_eq_true rfl) dX12_allFeet_28 ?_
      exact ⟨by rw [ea, show i = N by omega], rfl, rfl, rfl⟩
    · exfalso; ((try simp only [bI_0, bI_1, lc_lt, lc_gt, lc_le, lc_ge, Classical.not_not] at *); (try simp only [i_lt, i_le, i_eq, l_lt, l_le, l_eq, Int32.toInt_toInt64, Int32.reduceToInt, Int64.reduceToInt] at *); omega)
  | succ n ih =>
    intro i hi a x ea hx
    refine r_iload_n (j := 0) rfl rfl dX12_allFeet_4 ?_
    refine r_aload_n (j := 2) rfl rfl dX12_allFeet_5 ?_
    refine w_getI fX12_370 rfl dX12_allFeet_6 ?_
    refine r_icmp_ge (tgt := 27) dX12_allFeet_9 (by decide) (fun c9 => ?_) (fun c9 => ?_)
    · exfalso; ((try simp only [bI_0, bI_1, lc_lt, lc_gt, lc_le, lc_ge, Classical.not_not] at *); (try simp only [i_lt, i_le, i_eq, l_lt, l_le, l_eq, Int32.toInt_toInt64, Int32.reduceToInt, Int64.reduceToInt] at *); omega)
    · refine r_iload_n (j := 1) rfl rfl dX12_allFeet_12 ?_
      refine r_aload_n (j := 2) rfl rfl dX12_allFeet_13 ?_
      refine w_getR (b := 121) fX12_255 rfl rfl dX12_allFeet_14 ?_
      refine r_iload_n (j := 0) rfl rfl dX12_allFeet_17 ?_
      refine w_iald rfl (by first | assumption | (rw [vp_in_iff]; ((try simp only [bI_0, bI_1, lc_lt, lc_gt, lc_le, lc_ge, Classical.not_not] at *); (try simp only [i_lt, i_le, i_eq, l_lt, l_le, l_eq, Int32.toInt_toInt64, Int32.reduceToInt, Int64.reduceToInt] at *); omega))) dX12_allFeet_18 ?_
      refine r_iadd dX12_allFeet_19 ?_
      refine r_istore_n (lv' := fun z => [(1, .int z), (2, .int x), (0, .ref 95)]) dX12_allFeet_20 rfl (Nat.le_of_ble_eq_true rfl) (fun _ => rfl) (fun x1_20 ex1_20 => ?_)
      refine r_iinc (j := 1) (lv' := fun z => [(2, .int z), (1, .int x1_20), (0, .ref 95)]) dX12_allFeet_21 rfl (Nat.le_of_ble_eq_true rfl) (fun _ => rfl) (fun x2_21 ex2_21 => ?_)
      refine r_goto (tgt := 4) dX12_allFeet_24 (by decide) ?_
      exact ih (i + 1) (by omega) _ _ (by rw [ex1_20, ea, cl_of hx]; rfl) (by rw [ex2_21]; exact i_inc hx (by omega))
theorem k_X12_allFeet (h0 : 0 ≤ (I 95 48).toInt) (h5 : (I 95 48).toInt ≤ 3) : Con sc mX12_allFeet 0 0 0 [.ref 95] (XW I L tg) (rI (sm (I 121) (nN (I 95 48))) (XW I L tg)) := by
  refine Con_of (by decide) (Nat.le_of_ble_eq_true rfl) ?_
  have hN := nN_of h0
  refine r_iconst (v := 0) rfl dX12_allFeet_0 ?_
  refine r_istore_n (lv' := fun z => [(1, .int z), (0, .ref 95)]) dX12_allFeet_1 rfl (Nat.le_of_ble_eq_true rfl) (fun _ => rfl) (fun x1_1 ex1_1 => ?_)
  refine r_iconst (v := 0) rfl dX12_allFeet_2 ?_
  refine r_istore_n (lv' := fun z => [(2, .int z), (1, .int x1_1), (0, .ref 95)]) dX12_allFeet_3 rfl (Nat.le_of_ble_eq_true rfl) (fun _ => rfl) (fun x2_3 ex2_3 => ?_)
  exact l_X12_allFeet hN (by omega) _ 0 (Nat.zero_add _) _ _ ex1_1 (by rw [ex2_3]; rfl)
def tuC (I : Is) (t w : Int32) : Prop := (0 ≤ t.toInt ∧ t.toInt < (I 95 48).toInt) ∧ 0 ≤ w.toInt ∧ w.toInt ≤ 5
theorem k_X12_tunnel_r {t w : Int32} (hc : ¬ tuC I t w) : Con sc mX12_tunnel 2 0 0 [.ref 95, .int t, .int w] (XW I L tg) (rI (-2) (XW I L tg)) := by
  refine Con_of (by decide) (Nat.le_of_ble_eq_true rfl) ?_
  refine r_aload_n (j := 0) rfl rfl dX12_tunnel_0 ?_
  refine r_iload_n (j := 1) rfl rfl dX12_tunnel_1 ?_
  refine w_cV1p (k_X12_isTunnel) (Nat.le_of_ble_eq_true rfl) lX12_428 vmX12_isTunnel rfl (Nat.le_of_ble_eq_true rfl) (Nat.le_of_ble_eq_true rfl) (Nat.le_of_ble_eq_true rfl) dX12_tunnel_2 ?_
  refine r_if_eq (tgt := 20) dX12_tunnel_5 (by decide) (fun c5 => ?_) (fun c5 => ?_)
  · refine r_bipush (v := (-2)) rfl dX12_tunnel_20 ?_
    refine w_iret rfl (rfl) (Nat.le_of_ble_eq_true rfl) (Nat.le_of_ble_eq_true rfl) dX12_tunnel_22 ?_
    exact ⟨rfl, rfl, rfl, rfl⟩
  · refine r_iload_n (j := 2) rfl rfl dX12_tunnel_8 ?_
    refine r_i2l dX12_tunnel_9 ?_
    refine r_lconst (v := 0) rfl dX12_tunnel_10 ?_
    refine r_ldc2 kX12_439 dX12_tunnel_11 ?_
    refine w_cS3p (k_X12_in) (Nat.le_of_ble_eq_true rfl) lX12_52 mtX12_in (Nat.le_of_ble_eq_true rfl) (Nat.le_of_ble_eq_true rfl) (Nat.le_of_ble_eq_true rfl) dX12_tunnel_14 ?_
    refine r_if_ne (tgt := 23) dX12_tunnel_17 (by decide) (fun c17 => ?_) (fun c17 => ?_)
    · exact absurd ⟨bI_1.mp c5, by have := bI_1.mp c17; rw [Int32.toInt_toInt64] at this; exact this⟩ hc
    · refine r_bipush (v := (-2)) rfl dX12_tunnel_20 ?_
      refine w_iret rfl (rfl) (Nat.le_of_ble_eq_true rfl) (Nat.le_of_ble_eq_true rfl) dX12_tunnel_22 ?_
      exact ⟨rfl, rfl, rfl, rfl⟩
def otM (I : Is) (t : Nat) (w : Int32) : Int32 := if w = 0 then I 120 t else if w = 1 then I 121 t else if w = 2 then I 122 t else if w = 3 then I 123 t else if w = 4 then I 124 t else I 121 t / I 97 6
theorem k_X12_tunnel_y {t w : Int32} {tn : Nat} (hc : tuC I t w) (et : t.toInt = tn) (h3 : tn < 3) (ha : ¬ I 97 6 = 0) : Con sc mX12_tunnel 2 0 0 [.ref 95, .int t, .int w] (XW I L tg) (rI (otM I tn w) (XW I L tg)) := by
  refine Con_of (by decide) (Nat.le_of_ble_eq_true rfl) ?_
  have ct := cl_of et
  have hin := up_in et h3
  obtain ⟨q1, q2⟩ := hc
  refine r_aload_n (j := 0) rfl rfl dX12_tunnel_0 ?_
  refine r_iload_n (j := 1) rfl rfl dX12_tunnel_1 ?_
  refine w_cV1p (k_X12_isTunnel) (Nat.le_of_ble_eq_true rfl) lX12_428 vmX12_isTunnel rfl (Nat.le_of_ble_eq_true rfl) (Nat.le_of_ble_eq_true rfl) (Nat.le_of_ble_eq_true rfl) dX12_tunnel_2 ?_
  refine r_if_eq (tgt := 20) dX12_tunnel_5 (by decide) (fun c5 => ?_) (fun c5 => ?_)
  · exact absurd q1 (bI_0.mp c5)
  · refine r_iload_n (j := 2) rfl rfl dX12_tunnel_8 ?_
    refine r_i2l dX12_tunnel_9 ?_
    refine r_lconst (v := 0) rfl dX12_tunnel_10 ?_
    refine r_ldc2 kX12_439 dX12_tunnel_11 ?_
    refine w_cS3p (k_X12_in) (Nat.le_of_ble_eq_true rfl) lX12_52 mtX12_in (Nat.le_of_ble_eq_true rfl) (Nat.le_of_ble_eq_true rfl) (Nat.le_of_ble_eq_true rfl) dX12_tunnel_14 ?_
    refine r_if_ne (tgt := 23) dX12_tunnel_17 (by decide) (fun c17 => ?_) (fun c17 => ?_)
    · refine r_iload_n (j := 2) rfl rfl dX12_tunnel_23 ?_
      refine w_tab (tgtD := 95) dX12_tunnel_24 (by decide) (fun c24 => ?_) (fun i c24 l24 => ?_)
      · refine r_aload_n (j := 0) rfl rfl dX12_tunnel_95 ?_
        refine w_getR (b := 121) fX12_255 rfl rfl dX12_tunnel_96 ?_
        refine r_iload_n (j := 1) rfl rfl dX12_tunnel_99 ?_
        refine w_iald rfl (by first | assumption | (rw [vp_in_iff]; ((try simp only [bI_0, bI_1, lc_lt, lc_gt, lc_le, lc_ge, Classical.not_not] at *); (try simp only [i_lt, i_le, i_eq, l_lt, l_le, l_eq, Int32.toInt_toInt64, Int32.reduceToInt, Int64.reduceToInt] at *); omega))) dX12_tunnel_100 ?_
        refine r_aload_n (j := 0) rfl rfl dX12_tunnel_101 ?_
        refine w_getR (b := 97) fX12_219 rfl rfl dX12_tunnel_102 ?_
        refine r_bipush (v := 6) rfl dX12_tunnel_105 ?_
        refine w_iald rfl (by first | assumption | (rw [vp_in_iff]; ((try simp only [bI_0, bI_1, lc_lt, lc_gt, lc_le, lc_ge, Classical.not_not] at *); (try simp only [i_lt, i_le, i_eq, l_lt, l_le, l_eq, Int32.toInt_toInt64, Int32.reduceToInt, Int64.reduceToInt] at *); omega))) dX12_tunnel_107 ?_
        refine r_idiv (by exact ha) dX12_tunnel_108 ?_
        refine w_iret rfl (rfl) (Nat.le_of_ble_eq_true rfl) (Nat.le_of_ble_eq_true rfl) dX12_tunnel_109 ?_
        exact ⟨by unfold otM; rw [ct, if_neg (by ((try simp only [bI_0, bI_1, lc_lt, lc_gt, lc_le, lc_ge, Classical.not_not] at *); (try simp only [i_lt, i_le, i_eq, l_lt, l_le, l_eq, Int32.toInt_toInt64, Int32.reduceToInt, Int64.reduceToInt] at *); omega)), if_neg (by ((try simp only [bI_0, bI_1, lc_lt, lc_gt, lc_le, lc_ge, Classical.not_not] at *); (try simp only [i_lt, i_le, i_eq, l_lt, l_le, l_eq, Int32.toInt_toInt64, Int32.reduceToInt, Int64.reduceToInt] at *); omega)), if_neg (by ((try simp only [bI_0, bI_1, lc_lt, lc_gt, lc_le, lc_ge, Classical.not_not] at *); (try simp only [i_lt, i_le, i_eq, l_lt, l_le, l_eq, Int32.toInt_toInt64, Int32.reduceToInt, Int64.reduceToInt] at *); omega)), if_neg (by ((try simp only [bI_0, bI_1, lc_lt, lc_gt, lc_le, lc_ge, Classical.not_not] at *); (try simp only [i_lt, i_le, i_eq, l_lt, l_le, l_eq, Int32.toInt_toInt64, Int32.reduceToInt, Int64.reduceToInt] at *); omega)), if_neg (by ((try simp only [bI_0, bI_1, lc_lt, lc_gt, lc_le, lc_ge, Classical.not_not] at *); (try simp only [i_lt, i_le, i_eq, l_lt, l_le, l_eq, Int32.toInt_toInt64, Int32.reduceToInt, Int64.reduceToInt] at *); omega))]; rfl, rfl, rfl, rfl⟩
      · rcases (show i = 0 ∨ i = 1 ∨ i = 2 ∨ i = 3 ∨ i = 4 by omega) with rfl | rfl | rfl | rfl | rfl
        · refine ⟨36, 60, rfl, by decide, ?_⟩
          refine r_aload_n (j := 0) rfl rfl dX12_tunnel_60 ?_
          refine w_getR (b := 120) fX12_252 rfl rfl dX12_tunnel_61 ?_
          refine r_iload_n (j := 1) rfl rfl dX12_tunnel_64 ?_
          refine w_iald rfl (by first | assumption | (rw [vp_in_iff]; ((try simp only [bI_0, bI_1, lc_lt, lc_gt, lc_le, lc_ge, Classical.not_not] at *); (try simp only [i_lt, i_le, i_eq, l_lt, l_le, l_eq, Int32.toInt_toInt64, Int32.reduceToInt, Int64.reduceToInt] at *); omega))) dX12_tunnel_65 ?_
          refine w_iret rfl (rfl) (Nat.le_of_ble_eq_true rfl) (Nat.le_of_ble_eq_true rfl) dX12_tunnel_66 ?_
          exact ⟨by unfold otM; rw [ct, if_pos (by ((try simp only [bI_0, bI_1, lc_lt, lc_gt, lc_le, lc_ge, Classical.not_not] at *); (try simp only [i_lt, i_le, i_eq, l_lt, l_le, l_eq, Int32.toInt_toInt64, Int32.reduceToInt, Int64.reduceToInt] at *); omega))], rfl, rfl, rfl⟩
        · refine ⟨43, 67, rfl, by decide, ?_⟩
          refine r_aload_n (j := 0) rfl rfl dX12_tunnel_67 ?_
          refine w_getR (b := 121) fX12_255 rfl rfl dX12_tunnel_68 ?_
          refine r_iload_n (j := 1) rfl rfl dX12_tunnel_71 ?_
          refine w_iald rfl (by first | assumption | (rw [vp_in_iff]; ((try simp only [bI_0, bI_1, lc_lt, lc_gt, lc_le, lc_ge, Classical.not_not] at *); (try simp only [i_lt, i_le, i_eq, l_lt, l_le, l_eq, Int32.toInt_toInt64, Int32.reduceToInt, Int64.reduceToInt] at *); omega))) dX12_tunnel_72 ?_
          refine w_iret rfl (rfl) (Nat.le_of_ble_eq_true rfl) (Nat.le_of_ble_eq_true rfl) dX12_tunnel_73 ?_
          exact ⟨by unfold otM; rw [ct, if_neg (by ((try simp only [bI_0, bI_1, lc_lt, lc_gt, lc_le, lc_ge, Classical.not_not] at *); (try simp only [i_lt, i_le, i_eq, l_lt, l_le, l_eq, Int32.toInt_toInt64, Int32.reduceToInt, Int64.reduceToInt] at *); omega)), if_pos (by ((try simp only [bI_0, bI_1, lc_lt, lc_gt, lc_le, lc_ge, Classical.not_not] at *); (try simp only [i_lt, i_le, i_eq, l_lt, l_le, l_eq, Int32.toInt_toInt64, Int32.reduceToInt, Int64.reduceToInt] at *); omega))], rfl, rfl, rfl⟩
        · refine ⟨50, 74, rfl, by decide, ?_⟩
          refine r_aload_n (j := 0) rfl rfl dX12_tunnel_74 ?_
          refine w_getR (b := 122) fX12_258 rfl rfl dX12_tunnel_75 ?_
          refine r_iload_n (j := 1) rfl rfl dX12_tunnel_78 ?_
          refine w_iald rfl (by first | assumption | (rw [vp_in_iff]; ((try simp only [bI_0, bI_1, lc_lt, lc_gt, lc_le, lc_ge, Classical.not_not] at *); (try simp only [i_lt, i_le, i_eq, l_lt, l_le, l_eq, Int32.toInt_toInt64, Int32.reduceToInt, Int64.reduceToInt] at *); omega))) dX12_tunnel_79 ?_
          refine w_iret rfl (rfl) (Nat.le_of_ble_eq_true rfl) (Nat.le_of_ble_eq_true rfl) dX12_tunnel_80 ?_
          exact ⟨by unfold otM; rw [ct, if_neg (by ((try simp only [bI_0, bI_1, lc_lt, lc_gt, lc_le, lc_ge, Classical.not_not] at *); (try simp only [i_lt, i_le, i_eq, l_lt, l_le, l_eq, Int32.toInt_toInt64, Int32.reduceToInt, Int64.reduceToInt] at *); omega)), if_neg (by ((try simp only [bI_0, bI_1, lc_lt, lc_gt, lc_le, lc_ge, Classical.not_not] at *); (try simp only [i_lt, i_le, i_eq, l_lt, l_le, l_eq, Int32.toInt_toInt64, Int32.reduceToInt, Int64.reduceToInt] at *); omega)), if_pos (by ((try simp only [bI_0, bI_1, lc_lt, lc_gt, lc_le, lc_ge, Classical.not_not] at *); (try simp only [i_lt, i_le, i_eq, l_lt, l_le, l_eq, Int32.toInt_toInt64, Int32.reduceToInt, Int64.reduceToInt] at *); omega))], rfl, rfl, rfl⟩
        · refine ⟨57, 81, rfl, by decide, ?_⟩
          refine r_aload_n (j := 0) rfl rfl dX12_tunnel_81 ?_
          refine w_getR (b := 123) fX12_261 rfl rfl dX12_tunnel_82 ?_
          refine r_iload_n (j := 1) rfl rfl dX12_tunnel_85 ?_
          refine w_iald rfl (by first | assumption | (rw [vp_in_iff]; ((try simp only [bI_0, bI_1, lc_lt, lc_gt, lc_le, lc_ge, Classical.not_not] at *); (try simp only [i_lt, i_le, i_eq, l_lt, l_le, l_eq, Int32.toInt_toInt64, Int32.reduceToInt, Int64.reduceToInt] at *); omega))) dX12_tunnel_86 ?_
          refine w_iret rfl (rfl) (Nat.le_of_ble_eq_true rfl) (Nat.le_of_ble_eq_true rfl) dX12_tunnel_87 ?_
          exact ⟨by unfold otM; rw [ct, if_neg (by ((try simp only [bI_0, bI_1, lc_lt, lc_gt, lc_le, lc_ge, Classical.not_not] at *); (try simp only [i_lt, i_le, i_eq, l_lt, l_le, l_eq, Int32.toInt_toInt64, Int32.reduceToInt, Int64.reduceToInt] at *); omega)), if_neg (by ((try simp only [bI_0, bI_1, lc_lt, lc_gt, lc_le, lc_ge, Classical.not_not] at *); (try simp only [i_lt, i_le, i_eq, l_lt, l_le, l_eq, Int32.toInt_toInt64, Int32.reduceToInt, Int64.reduceToInt] at *); omega)), if_neg (by ((try simp only [bI_0, bI_1, lc_lt, lc_gt, lc_le, lc_ge, Classical.not_not] at *); (try simp only [i_lt, i_le, i_eq, l_lt, l_le, l_eq, Int32.toInt_toInt64, Int32.reduceToInt, Int64.reduceToInt] at *); omega)), if_pos (by ((try simp only [bI_0, bI_1, lc_lt, lc_gt, lc_le, lc_ge, Classical.not_not] at *); (try simp only [i_lt, i_le, i_eq, l_lt, l_le, l_eq, Int32.toInt_toInt64, Int32.reduceToInt, Int64.reduceToInt] at *); omega))], rfl, rfl, rfl⟩
        · refine ⟨64, 88, rfl, by decide, ?_⟩
          refine r_aload_n (j := 0) rfl rfl dX12_tunnel_88 ?_
          refine w_getR (b := 124) fX12_264 rfl rfl dX12_tunnel_89 ?_
          refine r_iload_n (j := 1) rfl rfl dX12_tunnel_92 ?_
          refine w_iald rfl (by first | assumption | (rw [vp_in_iff]; ((try simp only [bI_0, bI_1, lc_lt, lc_gt, lc_le, lc_ge, Classical.not_not] at *); (try simp only [i_lt, i_le, i_eq, l_lt, l_le, l_eq, Int32.toInt_toInt64, Int32.reduceToInt, Int64.reduceToInt] at *); omega))) dX12_tunnel_93 ?_
          refine w_iret rfl (rfl) (Nat.le_of_ble_eq_true rfl) (Nat.le_of_ble_eq_true rfl) dX12_tunnel_94 ?_
          exact ⟨by unfold otM; rw [ct, if_neg (by ((try simp only [bI_0, bI_1, lc_lt, lc_gt, lc_le, lc_ge, Classical.not_not] at *); (try simp only [i_lt, i_le, i_eq, l_lt, l_le, l_eq, Int32.toInt_toInt64, Int32.reduceToInt, Int64.reduceToInt] at *); omega)), if_neg (by ((try simp only [bI_0, bI_1, lc_lt, lc_gt, lc_le, lc_ge, Classical.not_not] at *); (try simp only [i_lt, i_le, i_eq, l_lt, l_le, l_eq, Int32.toInt_toInt64, Int32.reduceToInt, Int64.reduceToInt] at *); omega)), if_neg (by ((try simp only [bI_0, bI_1, lc_lt, lc_gt, lc_le, lc_ge, Classical.not_not] at *); (try simp only [i_lt, i_le, i_eq, l_lt, l_le, l_eq, Int32.toInt_toInt64, Int32.reduceToInt, Int64.reduceToInt] at *); omega)), if_neg (by ((try simp only [bI_0, bI_1, lc_lt, lc_gt, lc_le, lc_ge, Classical.not_not] at *); (try simp only [i_lt, i_le, i_eq, l_lt, l_le, l_eq, Int32.toInt_toInt64, Int32.reduceToInt, Int64.reduceToInt] at *); omega)), if_pos (by ((try simp only [bI_0, bI_1, lc_lt, lc_gt, lc_le, lc_ge, Classical.not_not] at *); (try simp only [i_lt, i_le, i_eq, l_lt, l_le, l_eq, Int32.toInt_toInt64, Int32.reduceToInt, Int64.reduceToInt] at *); omega))], rfl, rfl, rfl⟩
    · refine absurd ?_ (bI_0.mp c17); rw [Int32.toInt_toInt64]; exact q2
end
