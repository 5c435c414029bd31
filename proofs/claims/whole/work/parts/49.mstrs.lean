/-! the model: strings -/
section
variable {sc : Sc} {I : Is} {L : Ls} {tg NS NR : Nat}
theorem k_X12_drift_r {t : Int32} (hc : ¬ (0 ≤ t.toInt ∧ t.toInt ≤ 20)) : Con sc mX12_drift 1 0 0 [.ref 95, .int t] (XW I L tg) (rI (-2) (XW I L tg)) := by
  refine Con_of (by decide) (Nat.le_of_ble_eq_true rfl) ?_
  refine r_iload_n (j := 1) rfl rfl dX12_drift_0 ?_
  refine r_i2l dX12_drift_1 ?_
  refine r_lconst (v := 0) rfl dX12_drift_2 ?_
  refine r_ldc2 kX12_394 dX12_drift_3 ?_
  refine w_cS3p (k_X12_in) (Nat.le_of_ble_eq_true rfl) lX12_52 mtX12_in (Nat.le_of_ble_eq_true rfl) (Nat.le_of_ble_eq_true rfl) (Nat.le_of_ble_eq_true rfl) dX12_drift_6 ?_
  refine r_if_ne (tgt := 15) dX12_drift_9 (by decide) (fun c9 => ?_) (fun c9 => ?_)
  · exact absurd (by have := bI_1.mp c9; rw [Int32.toInt_toInt64] at this; exact this) hc
  · refine r_bipush (v := (-2)) rfl dX12_drift_12 ?_
    refine w_iret rfl (rfl) (Nat.le_of_ble_eq_true rfl) (Nat.le_of_ble_eq_true rfl) dX12_drift_14 ?_
    exact ⟨rfl, rfl, rfl, rfl⟩
theorem k_X12_drift_y {t : Int32} (hc : 0 ≤ t.toInt ∧ t.toInt ≤ 20) : Con sc mX12_drift 1 0 0 [.ref 95, .int t] (XW I L tg) (rI (I 95 72) (XW (up I 95 72 t) L tg)) := by
  refine Con_of (by decide) (Nat.le_of_ble_eq_true rfl) ?_
  refine r_iload_n (j := 1) rfl rfl dX12_drift_0 ?_
  refine r_i2l dX12_drift_1 ?_
  refine r_lconst (v := 0) rfl dX12_drift_2 ?_
  refine r_ldc2 kX12_394 dX12_drift_3 ?_
  refine w_cS3p (k_X12_in) (Nat.le_of_ble_eq_true rfl) lX12_52 mtX12_in (Nat.le_of_ble_eq_true rfl) (Nat.le_of_ble_eq_true rfl) (Nat.le_of_ble_eq_true rfl) dX12_drift_6 ?_
  refine r_if_ne (tgt := 15) dX12_drift_9 (by decide) (fun c9 => ?_) (fun c9 => ?_)
  · refine r_aload_n (j := 0) rfl rfl dX12_drift_15 ?_
    refine w_getI fX12_385 rfl dX12_drift_16 ?_
    refine r_istore_n (lv' := fun z => [(2, .int z), (0, .ref 95), (1, .int t)]) dX12_drift_19 rfl (Nat.le_of_ble_eq_true rfl) (fun _ => rfl) (fun x2_19 ex2_19 => ?_)
    refine r_aload_n (j := 1) rfl rfl dX12_drift_20 ?_
    refine r_iload_n (j := 2) rfl rfl dX12_drift_21 ?_
    refine w_putI fX12_385 rfl (rfl) (rfl) dX12_drift_22 (fun J22 hJ22 => ?_)
    refine r_iload_n (j := 0) rfl rfl dX12_drift_25 ?_
    refine w_iret rfl (rfl) (Nat.le_of_ble_eq_true rfl) (Nat.le_of_ble_eq_true rfl) dX12_drift_26 ?_
    exact ⟨ex2_19, hJ22, rfl, rfl⟩
  · refine absurd ?_ (bI_0.mp c9); rw [Int32.toInt_toInt64]; exact hc
def stC (I : Is) (t f h s : Int32) : Prop := ((I 95 71).toInt ≤ t.toInt ∧ t.toInt ≤ 999) ∧ (1 ≤ f.toInt ∧ f.toInt ≤ 99) ∧ (0 ≤ h.toInt ∧ h.toInt ≤ 7) ∧ 0 ≤ s.toInt ∧ s.toInt ≤ 9
theorem k_X12_string_r {t f h s : Int32} (hc : ¬ stC I t f h s) : Con sc mX12_string 1 0 0 [.ref 95, .int t, .int f, .int h, .int s] (XW I L tg) (rI (-2) (XW I L tg)) := by
  refine Con_of (by decide) (Nat.le_of_ble_eq_true rfl) ?_
  refine r_iload_n (j := 1) rfl rfl dX12_string_0 ?_
  refine r_i2l dX12_string_1 ?_
  refine r_aload_n (j := 0) rfl rfl dX12_string_2 ?_
  refine w_getI fX12_382 rfl dX12_string_3 ?_
  refine r_i2l dX12_string_6 ?_
  refine r_ldc2 kX12_500 dX12_string_7 ?_
  refine w_cS3p (k_X12_in) (Nat.le_of_ble_eq_true rfl) lX12_52 mtX12_in (Nat.le_of_ble_eq_true rfl) (Nat.le_of_ble_eq_true rfl) (Nat.le_of_ble_eq_true rfl) dX12_string_10 ?_
  refine r_if_eq (tgt := 53) dX12_string_13 (by decide) (fun c13 => ?_) (fun c13 => ?_)
  · refine r_bipush (v := (-2)) rfl dX12_string_53 ?_
    refine w_iret rfl (rfl) (Nat.le_of_ble_eq_true rfl) (Nat.le_of_ble_eq_true rfl) dX12_string_55 ?_
    exact ⟨rfl, rfl, rfl, rfl⟩
  · refine r_iload_n (j := 2) rfl rfl dX12_string_16 ?_
    refine r_i2l dX12_string_17 ?_
    refine r_lconst (v := 1) rfl dX12_string_18 ?_
    refine r_ldc2 kX12_431 dX12_string_19 ?_
    refine w_cS3p (k_X12_in) (Nat.le_of_ble_eq_true rfl) lX12_52 mtX12_in (Nat.le_of_ble_eq_true rfl) (Nat.le_of_ble_eq_true rfl) (Nat.le_of_ble_eq_true rfl) dX12_string_22 ?_
    refine r_if_eq (tgt := 53) dX12_string_25 (by decide) (fun c25 => ?_) (fun c25 => ?_)
    · refine r_bipush (v := (-2)) rfl dX12_string_53 ?_
      refine w_iret rfl (rfl) (Nat.le_of_ble_eq_true rfl) (Nat.le_of_ble_eq_true rfl) dX12_string_55 ?_
      exact ⟨rfl, rfl, rfl, rfl⟩
    · refine r_iload_n (j := 3) rfl rfl dX12_string_28 ?_
      refine r_i2l dX12_string_29 ?_
      refine r_lconst (v := 0) rfl dX12_string_30 ?_
      refine r_ldc2 kX12_516 dX12_string_31 ?_
      refine w_cS3p (k_X12_in) (Nat.le_of_ble_eq_true rfl) lX12_52 mtX12_in (Nat.le_of_ble_eq_true rfl) (Nat.le_of_ble_eq_true rfl) (Nat.le_of_ble_eq_true rfl) dX12_string_34 ?_
      refine r_if_eq (tgt := 53) dX12_string_37 (by decide) (fun c37 => ?_) (fun c37 => ?_)
      · refine r_bipush (v := (-2)) rfl dX12_string_53 ?_
        refine w_iret rfl (rfl) (Nat.le_of_ble_eq_true rfl) (Nat.le_of_ble_eq_true rfl) dX12_string_55 ?_
        exact ⟨rfl, rfl, rfl, rfl⟩
      · refine r_iload (j := 4) rfl dX12_string_40 ?_
        refine r_i2l dX12_string_42 ?_
        refine r_lconst (v := 0) rfl dX12_string_43 ?_
        refine r_ldc2 kX12_518 dX12_string_44 ?_
        refine w_cS3p (k_X12_in) (Nat.le_of_ble_eq_true rfl) lX12_52 mtX12_in (Nat.le_of_ble_eq_true rfl) (Nat.le_of_ble_eq_true rfl) (Nat.le_of_ble_eq_true rfl) dX12_string_47 ?_
        refine r_if_ne (tgt := 56) dX12_string_50 (by decide) (fun c50 => ?_) (fun c50 => ?_)
        · exact absurd ⟨by have := bI_1.mp c13; rw [Int32.toInt_toInt64, Int32.toInt_toInt64] at this; exact this, by have := bI_1.mp c25; rw [Int32.toInt_toInt64] at this; exact this, by have := bI_1.mp c37; rw [Int32.toInt_toInt64] at this; exact this, by have := bI_1.mp c50; rw [Int32.toInt_toInt64] at this; exact this⟩ hc
        · refine r_bipush (v := (-2)) rfl dX12_string_53 ?_
          refine w_iret rfl (rfl) (Nat.le_of_ble_eq_true rfl) (Nat.le_of_ble_eq_true rfl) dX12_string_55 ?_
          exact ⟨rfl, rfl, rfl, rfl⟩
theorem k_X12_string_f {t f h s : Int32} (hc : stC I t f h s) (hn : (I 95 69).toInt = 16) : Con sc mX12_string 1 0 0 [.ref 95, .int t, .int f, .int h, .int s] (XW I L tg) (rI (-3) (XW I L tg)) := by
  obtain ⟨q1, q2, q3, q4⟩ := hc
  refine Con_of (by decide) (Nat.le_of_ble_eq_true rfl) ?_
  refine r_iload_n (j := 1) rfl rfl dX12_string_0 ?_
  refine r_i2l dX12_string_1 ?_
  refine r_aload_n (j := 0) rfl rfl dX12_string_2 ?_
  refine w_getI fX12_382 rfl dX12_string_3 ?_
  refine r_i2l dX12_string_6 ?_
  refine r_ldc2 kX12_500 dX12_string_7 ?_
  refine w_cS3p (k_X12_in) (Nat.le_of_ble_eq_true rfl) lX12_52 mtX12_in (Nat.le_of_ble_eq_true rfl) (Nat.le_of_ble_eq_true rfl) (Nat.le_of_ble_eq_true rfl) dX12_string_10 ?_
  refine r_if_eq (tgt := 53) dX12_string_13 (by decide) (fun c13 => ?_) (fun c13 => ?_)
  · refine absurd ?_ (bI_0.mp c13); rw [Int32.toInt_toInt64, Int32.toInt_toInt64]; exact q1
  · refine r_iload_n (j := 2) rfl rfl dX12_string_16 ?_
    refine r_i2l dX12_string_17 ?_
    refine r_lconst (v := 1) rfl dX12_string_18 ?_
    refine r_ldc2 kX12_431 dX12_string_19 ?_
    refine w_cS3p (k_X12_in) (Nat.le_of_ble_eq_true rfl) lX12_52 mtX12_in (Nat.le_of_ble_eq_true rfl) (Nat.le_of_ble_eq_true rfl) (Nat.le_of_ble_eq_true rfl) dX12_string_22 ?_
    refine r_if_eq (tgt := 53) dX12_string_25 (by decide) (fun c25 => ?_) (fun c25 => ?_)
    · refine absurd ?_ (bI_0.mp c25); rw [Int32.toInt_toInt64]; exact q2
    · refine r_iload_n (j := 3) rfl rfl dX12_string_28 ?_
      refine r_i2l dX12_string_29 ?_
      refine r_lconst (v := 0) rfl dX12_string_30 ?_
      refine r_ldc2 kX12_516 dX12_string_31 ?_
      refine w_cS3p (k_X12_in) (Nat.le_of_ble_eq_true rfl) lX12_52 mtX12_in (Nat.le_of_ble_eq_true rfl) (Nat.le_of_ble_eq_true rfl) (Nat.le_of_ble_eq_true rfl) dX12_string_34 ?_
      refine r_if_eq (tgt := 53) dX12_string_37 (by decide) (fun c37 => ?_) (fun c37 => ?_)
      · refine absurd ?_ (bI_0.mp c37); rw [Int32.toInt_toInt64]; exact q3
      · refine r_iload (j := 4) rfl dX12_string_40 ?_
        refine r_i2l dX12_string_42 ?_
        refine r_lconst (v := 0) rfl dX12_string_43 ?_
        refine r_ldc2 kX12_518 dX12_string_44 ?_
        refine w_cS3p (k_X12_in) (Nat.le_of_ble_eq_true rfl) lX12_52 mtX12_in (Nat.le_of_ble_eq_true rfl) (Nat.le_of_ble_eq_true rfl) (Nat.le_of_ble_eq_true rfl) dX12_string_47 ?_
        refine r_if_ne (tgt := 56) dX12_string_50 (by decide) (fun c50 => ?_) (fun c50 => ?_)
        · refine r_aload_n (j := 0) rfl rfl dX12_string_56 ?_
          refine w_getI fX12_376 rfl dX12_string_57 ?_
          refine r_bipush (v := 16) rfl dX12_string_60 ?_
          refine r_icmp_ne (tgt := 68) dX12_string_62 (by decide) (fun c62 => ?_) (fun c62 => ?_)
          · exfalso; ((try simp only [bI_0, bI_1, lc_lt, lc_gt, lc_le, lc_ge, Classical.not_not] at *); (try simp only [i_lt, i_le, i_eq, l_lt, l_le, l_eq, Int32.toInt_toInt64, Int32.reduceToInt, Int64.reduceToInt] at *); omega)
          · refine r_bipush (v := (-3)) rfl dX12_string_65 ?_
            refine w_iret rfl (rfl) (Nat.le_of_ble_eq_true rfl) (Nat.le_of_ble_eq_true rfl) dX12_string_67 ?_
            exact ⟨rfl, rfl, rfl, rfl⟩
        · refine absurd ?_ (bI_0.mp c50); rw [Int32.toInt_toInt64]; exact q4
def sadM (I : Is) (n : Nat) (t f h s : Int32) : Is := up (up (up (up (up (up I 95 71 t) 137 n f) 138 n h) 139 n s) 140 n t) 95 69 (I 95 69 + 1)
theorem k_X12_string_y {t f h s : Int32} {n : Nat} (hc : stC I t f h s) (hn : (I 95 69).toInt = n) (h16 : n < 16) : Con sc mX12_string 1 0 0 [.ref 95, .int t, .int f, .int h, .int s] (XW I L tg) (rI (I 95 69) (XW (sadM I n t f h s) L tg)) := by
  obtain ⟨q1, q2, q3, q4⟩ := hc
  refine Con_of (by decide) (Nat.le_of_ble_eq_true rfl) ?_
  have ct := cl_of hn
  have hin := up_in hn h16
  refine r_iload_n (j := 1) rfl rfl dX12_string_0 ?_
  refine r_i2l dX12_string_1 ?_
  refine r_aload_n (j := 0) rfl rfl dX12_string_2 ?_
  refine w_getI fX12_382 rfl dX12_string_3 ?_
  refine r_i2l dX12_string_6 ?_
  refine r_ldc2 kX12_500 dX12_string_7 ?_
  refine w_cS3p (k_X12_in) (Nat.le_of_ble_eq_true rfl) lX12_52 mtX12_in (Nat.le_of_ble_eq_true rfl) (Nat.le_of_ble_eq_true rfl) (Nat.le_of_ble_eq_true rfl) dX12_string_10 ?_
  refine r_if_eq (tgt := 53) dX12_string_13 (by decide) (fun c13 => ?_) (fun c13 => ?_)
  · refine absurd ?_ (bI_0.mp c13); rw [Int32.toInt_toInt64, Int32.toInt_toInt64]; exact q1
  · refine r_iload_n (j := 2) rfl rfl dX12_string_16 ?_
    refine r_i2l dX12_string_17 ?_
    refine r_lconst (v := 1) rfl dX12_string_18 ?_
    refine r_ldc2 kX12_431 dX12_string_19 ?_
    refine w_cS3p (k_X12_in) (Nat.le_of_ble_eq_true rfl) lX12_52 mtX12_in (Nat.le_of_ble_eq_true rfl) (Nat.le_of_ble_eq_true rfl) (Nat.le_of_ble_eq_true rfl) dX12_string_22 ?_
    refine r_if_eq (tgt := 53) dX12_string_25 (by decide) (fun c25 => ?_) (fun c25 => ?_)
    · refine absurd ?_ (bI_0.mp c25); rw [Int32.toInt_toInt64]; exact q2
    · refine r_iload_n (j := 3) rfl rfl dX12_string_28 ?_
      refine r_i2l dX12_string_29 ?_
      refine r_lconst (v := 0) rfl dX12_string_30 ?_
      refine r_ldc2 kX12_516 dX12_string_31 ?_
      refine w_cS3p (k_X12_in) (Nat.le_of_ble_eq_true rfl) lX12_52 mtX12_in (Nat.le_of_ble_eq_true rfl) (Nat.le_of_ble_eq_true rfl) (Nat.le_of_ble_eq_true rfl) dX12_string_34 ?_
      refine r_if_eq (tgt := 53) dX12_string_37 (by decide) (fun c37 => ?_) (fun c37 => ?_)
      · refine absurd ?_ (bI_0.mp c37); rw [Int32.toInt_toInt64]; exact q3
      · refine r_iload (j := 4) rfl dX12_string_40 ?_
        refine r_i2l dX12_string_42 ?_
        refine r_lconst (v := 0) rfl dX12_string_43 ?_
        refine r_ldc2 kX12_518 dX12_string_44 ?_
        refine w_cS3p (k_X12_in) (Nat.le_of_ble_eq_true rfl) lX12_52 mtX12_in (Nat.le_of_ble_eq_true rfl) (Nat.le_of_ble_eq_true rfl) (Nat.le_of_ble_eq_true rfl) dX12_string_47 ?_
        refine r_if_ne (tgt := 56) dX12_string_50 (by decide) (fun c50 => ?_) (fun c50 => ?_)
        · refine r_aload_n (j := 0) rfl rfl dX12_string_56 ?_
          refine w_getI fX12_376 rfl dX12_string_57 ?_
          refine r_bipush (v := 16) rfl dX12_string_60 ?_
          refine r_icmp_ne (tgt := 68) dX12_string_62 (by decide) (fun c62 => ?_) (fun c62 => ?_)
          · refine r_aload_n (j := 0) rfl rfl dX12_string_68 ?_
            refine r_iload_n (j := 1) rfl rfl dX12_string_69 ?_
            refine w_putI fX12_382 rfl (rfl) (rfl) dX12_string_70 (fun J70 hJ70 => ?_)
            refine r_aload_n (j := 0) rfl rfl dX12_string_73 ?_
            refine w_getR (b := 137) fX12_303 rfl rfl dX12_string_74 ?_
            refine r_aload_n (j := 0) rfl rfl dX12_string_77 ?_
            refine w_getI fX12_376 rfl dX12_string_78 ?_
            refine r_iload_n (j := 2) rfl rfl dX12_string_81 ?_
            refine w_iast rfl (by subst hJ70; simpa [up_eq, vu_eq] using hin) dX12_string_82 (fun J82 hJ82 => ?_)
            refine r_aload_n (j := 0) rfl rfl dX12_string_83 ?_
            refine w_getR (b := 138) fX12_306 rfl rfl dX12_string_84 ?_
            refine r_aload_n (j := 0) rfl rfl dX12_string_87 ?_
            refine w_getI fX12_376 rfl dX12_string_88 ?_
            refine r_iload_n (j := 3) rfl rfl dX12_string_91 ?_
            refine w_iast rfl (by subst hJ82 hJ70; simpa [up_eq, vu_eq] using hin) dX12_string_92 (fun J92 hJ92 => ?_)
            refine r_aload_n (j := 0) rfl rfl dX12_string_93 ?_
            refine w_getR (b := 139) fX12_309 rfl rfl dX12_string_94 ?_
            refine r_aload_n (j := 0) rfl rfl dX12_string_97 ?_
            refine w_getI fX12_376 rfl dX12_string_98 ?_
            refine r_iload (j := 4) rfl dX12_string_101 ?_
            refine w_iast rfl (by subst hJ92 hJ82 hJ70; simpa [up_eq, vu_eq] using hin) dX12_string_103 (fun J103 hJ103 => ?_)
            refine r_aload_n (j := 0) rfl rfl dX12_string_104 ?_
            refine w_getR (b := 140) fX12_312 rfl rfl dX12_string_105 ?_
            refine r_aload_n (j := 0) rfl rfl dX12_string_108 ?_
            refine w_getI fX12_376 rfl dX12_string_109 ?_
            refine r_iload_n (j := 1) rfl rfl dX12_string_112 ?_
            refine w_iast rfl (by subst hJ103 hJ92 hJ82 hJ70; simpa [up_eq, vu_eq] using hin) dX12_string_113 (fun J113 hJ113 => ?_)
            refine r_aload_n (j := 0) rfl rfl dX12_string_114 ?_
            refine r_dup rfl dX12_string_115 ?_
            refine w_getI fX12_376 rfl dX12_string_116 ?_
            refine r_iconst (v := 1) rfl dX12_string_119 ?_
            refine r_iadd dX12_string_120 ?_
            refine w_putI fX12_376 rfl (rfl) (rfl) dX12_string_121 (fun J121 hJ121 => ?_)
            refine r_aload_n (j := 0) rfl rfl dX12_string_124 ?_
            refine w_getI fX12_376 rfl dX12_string_125 ?_
            refine r_iconst (v := 1) rfl dX12_string_128 ?_
            refine r_isub dX12_string_129 ?_
            refine w_iret rfl (rfl) (Nat.le_of_ble_eq_true rfl) (Nat.le_of_ble_eq_true rfl) dX12_string_130 ?_
            subst hJ121 hJ113 hJ103 hJ92 hJ82 hJ70
            refine ⟨?_, ?_, rfl, rfl⟩
            · simp [up_eq, vu_eq]
            · unfold sadM
              simp [up_eq, vu_eq, ct]
          · exfalso; ((try simp only [bI_0, bI_1, lc_lt, lc_gt, lc_le, lc_ge, Classical.not_not] at *); (try simp only [i_lt, i_le, i_eq, l_lt, l_le, l_eq, Int32.toInt_toInt64, Int32.reduceToInt, Int64.reduceToInt] at *); omega)
        · refine absurd ?_ (bI_0.mp c50); rw [Int32.toInt_toInt64]; exact q4
def riC (I : Is) (t k f : Int32) : Prop := ((I 95 71).toInt ≤ t.toInt ∧ t.toInt ≤ 999) ∧ (0 ≤ k.toInt ∧ k.toInt < (I 95 69).toInt) ∧ 1 ≤ f.toInt ∧ f.toInt ≤ 99
theorem k_X12_right_r {t k f : Int32} (hc : ¬ riC I t k f) : Con sc mX12_right 1 0 0 [.ref 95, .int t, .int k, .int f] (XW I L tg) (rI (-2) (XW I L tg)) := by
  refine Con_of (by decide) (Nat.le_of_ble_eq_true rfl) ?_
  refine r_iload_n (j := 1) rfl rfl dX12_right_0 ?_
  refine r_i2l dX12_right_1 ?_
  refine r_aload_n (j := 0) rfl rfl dX12_right_2 ?_
  refine w_getI fX12_382 rfl dX12_right_3 ?_
  refine r_i2l dX12_right_6 ?_
  refine r_ldc2 kX12_500 dX12_right_7 ?_
  refine w_cS3p (k_X12_in) (Nat.le_of_ble_eq_true rfl) lX12_52 mtX12_in (Nat.le_of_ble_eq_true rfl) (Nat.le_of_ble_eq_true rfl) (Nat.le_of_ble_eq_true rfl) dX12_right_10 ?_
  refine r_if_eq (tgt := 44) dX12_right_13 (by decide) (fun c13 => ?_) (fun c13 => ?_)
  · refine r_bipush (v := (-2)) rfl dX12_right_44 ?_
    refine w_iret rfl (rfl) (Nat.le_of_ble_eq_true rfl) (Nat.le_of_ble_eq_true rfl) dX12_right_46 ?_
    exact ⟨rfl, rfl, rfl, rfl⟩
  · refine r_iload_n (j := 2) rfl rfl dX12_right_16 ?_
    refine r_i2l dX12_right_17 ?_
    refine r_lconst (v := 0) rfl dX12_right_18 ?_
    refine r_aload_n (j := 0) rfl rfl dX12_right_19 ?_
    refine w_getI fX12_376 rfl dX12_right_20 ?_
    refine r_i2l dX12_right_23 ?_
    refine r_lconst (v := 1) rfl dX12_right_24 ?_
    refine r_lsub dX12_right_25 ?_
    refine w_cS3p (k_X12_in) (Nat.le_of_ble_eq_true rfl) lX12_52 mtX12_in (Nat.le_of_ble_eq_true rfl) (Nat.le_of_ble_eq_true rfl) (Nat.le_of_ble_eq_true rfl) dX12_right_26 ?_
    refine r_if_eq (tgt := 44) dX12_right_29 (by decide) (fun c29 => ?_) (fun c29 => ?_)
    · refine r_bipush (v := (-2)) rfl dX12_right_44 ?_
      refine w_iret rfl (rfl) (Nat.le_of_ble_eq_true rfl) (Nat.le_of_ble_eq_true rfl) dX12_right_46 ?_
      exact ⟨rfl, rfl, rfl, rfl⟩
    · refine r_iload_n (j := 3) rfl rfl dX12_right_32 ?_
      refine r_i2l dX12_right_33 ?_
      refine r_lconst (v := 1) rfl dX12_right_34 ?_
      refine r_ldc2 kX12_431 dX12_right_35 ?_
      refine w_cS3p (k_X12_in) (Nat.le_of_ble_eq_true rfl) lX12_52 mtX12_in (Nat.le_of_ble_eq_true rfl) (Nat.le_of_ble_eq_true rfl) (Nat.le_of_ble_eq_true rfl) dX12_right_38 ?_
      refine r_if_ne (tgt := 47) dX12_right_41 (by decide) (fun c41 => ?_) (fun c41 => ?_)
      · have h1 := bI_1.mp c13
        have h2 := bI_1.mp c29
        have h3 := bI_1.mp c41
        rw [Int32.toInt_toInt64, Int32.toInt_toInt64] at h1
        rw [Int32.toInt_toInt64, x64_sub _ _ (by decide)] at h2
        rw [Int32.toInt_toInt64] at h3
        have h2 : 0 ≤ k.toInt ∧ k.toInt ≤ (I 95 69).toInt - 1 := h2
        exact absurd ⟨h1, ⟨h2.1, by omega⟩, h3⟩ hc
      · refine r_bipush (v := (-2)) rfl dX12_right_44 ?_
        refine w_iret rfl (rfl) (Nat.le_of_ble_eq_true rfl) (Nat.le_of_ble_eq_true rfl) dX12_right_46 ?_
        exact ⟨rfl, rfl, rfl, rfl⟩
theorem k_X12_right_f {t k f : Int32} (hc : riC I t k f) (hn : (I 95 70).toInt = 20) : Con sc mX12_right 1 0 0 [.ref 95, .int t, .int k, .int f] (XW I L tg) (rI (-3) (XW I L tg)) := by
  obtain ⟨q1, q2, q3⟩ := hc
  refine Con_of (by decide) (Nat.le_of_ble_eq_true rfl) ?_
  refine r_iload_n (j := 1) rfl rfl dX12_right_0 ?_
  refine r_i2l dX12_right_1 ?_
  refine r_aload_n (j := 0) rfl rfl dX12_right_2 ?_
  refine w_getI fX12_382 rfl dX12_right_3 ?_
  refine r_i2l dX12_right_6 ?_
  refine r_ldc2 kX12_500 dX12_right_7 ?_
  refine w_cS3p (k_X12_in) (Nat.le_of_ble_eq_true rfl) lX12_52 mtX12_in (Nat.le_of_ble_eq_true rfl) (Nat.le_of_ble_eq_true rfl) (Nat.le_of_ble_eq_true rfl) dX12_right_10 ?_
  refine r_if_eq (tgt := 44) dX12_right_13 (by decide) (fun c13 => ?_) (fun c13 => ?_)
  · refine absurd ?_ (bI_0.mp c13); rw [Int32.toInt_toInt64, Int32.toInt_toInt64]; exact q1
  · refine r_iload_n (j := 2) rfl rfl dX12_right_16 ?_
    refine r_i2l dX12_right_17 ?_
    refine r_lconst (v := 0) rfl dX12_right_18 ?_
    refine r_aload_n (j := 0) rfl rfl dX12_right_19 ?_
    refine w_getI fX12_376 rfl dX12_right_20 ?_
    refine r_i2l dX12_right_23 ?_
    refine r_lconst (v := 1) rfl dX12_right_24 ?_
    refine r_lsub dX12_right_25 ?_
    refine w_cS3p (k_X12_in) (Nat.le_of_ble_eq_true rfl) lX12_52 mtX12_in (Nat.le_of_ble_eq_true rfl) (Nat.le_of_ble_eq_true rfl) (Nat.le_of_ble_eq_true rfl) dX12_right_26 ?_
    refine r_if_eq (tgt := 44) dX12_right_29 (by decide) (fun c29 => ?_) (fun c29 => ?_)
    · refine absurd ?_ (bI_0.mp c29); rw [Int32.toInt_toInt64, x64_sub _ _ (by decide)]; exact ⟨q2.1, by show _ ≤ (I 95 69).toInt - 1; omega⟩
    · refine r_iload_n (j := 3) rfl rfl dX12_right_32 ?_
      refine r_i2l dX12_right_33 ?_
      refine r_lconst (v := 1) rfl dX12_right_34 ?_
      refine r_ldc2 kX12_431 dX12_right_35 ?_
      refine w_cS3p (k_X12_in) (Nat.le_of_ble_eq_true rfl) lX12_52 mtX12_in (Nat.le_of_ble_eq_true rfl) (Nat.le_of_ble_eq_true rfl) (Nat.le_of_ble_eq_true rfl) dX12_right_38 ?_
      refine r_if_ne (tgt := 47) dX12_right_41 (by decide) (fun c41 => ?_) (fun c41 => ?_)
      · refine r_aload_n (j := 0) rfl rfl dX12_right_47 ?_
        refine w_getI fX12_379 rfl dX12_right_48 ?_
        refine r_bipush (v := 20) rfl dX12_right_51 ?_
        refine r_icmp_ne (tgt := 59) dX12_right_53 (by decide) (fun c53 => ?_) (fun c53 => ?_)
        · exfalso; ((try simp only [bI_0, bI_1, lc_lt, lc_gt, lc_le, lc_ge, Classical.not_not] at *); (try simp only [i_lt, i_le, i_eq, l_lt, l_le, l_eq, Int32.toInt_toInt64, Int32.reduceToInt, Int64.reduceToInt] at *); omega)
        · refine r_bipush (v := (-3)) rfl dX12_right_56 ?_
          refine w_iret rfl (rfl) (Nat.le_of_ble_eq_true rfl) (Nat.le_of_ble_eq_true rfl) dX12_right_58 ?_
          exact ⟨rfl, rfl, rfl, rfl⟩
      · refine absurd ?_ (bI_0.mp c41); rw [Int32.toInt_toInt64]; exact q3
def scoM (I : Is) (n : Nat) (t k f : Int32) : Is := up (up (up (up (up I 95 71 t) 141 n k) 142 n f) 143 n t) 95 70 (I 95 70 + 1)
def ctR (r : Nat → Int32) (k : Int32) : Nat → Int32 := sm (fun i => if r i = k then 1 else 0)
theorem l_X12_right {t k f : Int32} {n : Nat} (hR : (I 95 70).toInt = n) (h20 : n ≤ 20) : ∀ m i : Nat, i + m = n → ∀ a x : Int32, a = ctR (I 141) k i → x.toInt = i → RR sc mX12_right 1 0 0 (rI (ctR (I 141) k n) (XW I L tg)) 0 0 110 [(5, .int x), (4, .int a), (0, .ref 95), (1, .int t), (2, .int k), (3, .int f)] [] (XW I L tg) := by
  intro m
  induction m with
  | zero =>
    intro i hi a x ea hx
    refine r_iload (j := 0) rfl dX12_right_110 ?_
    refine r_aload_n (j := 2) rfl rfl dX12_right_112 ?_
    refine w_getI fX12_379 rfl dX12_right_113 ?_
    refine r_icmp_ge (tgt := 146) dX12_right_116 (by decide) (fun c116 => ?_) (fun c116 => ?_)
    · refine r_iload (j := 1) rfl dX12_right_146 ?_
      refine w_iret rfl (rfl) (Nat.le_of_ble_eq_true rfl) (Nat.le_of_ble_eq_true rfl) dX12_right_148 ?_
      exact ⟨by rw [ea, show i = n by omega], rfl, rfl, rfl⟩
    · exfalso; ((try simp only [bI_0, bI_1, lc_lt, lc_gt, lc_le, lc_ge, Classical.not_not] at *); (try simp only [i_lt, i_le, i_eq, l_lt, l_le, l_eq, Int32.toInt_toInt64, Int32.reduceToInt, Int64.reduceToInt] at *); omega)
  | succ m ih =>
    intro i hi a x ea hx
    have cx := cl_of hx
    have hin := up_in (N := 20) hx (by omega)
    refine r_iload (j := 0) rfl dX12_right_110 ?_
    refine r_aload_n (j := 2) rfl rfl dX12_right_112 ?_
    refine w_getI fX12_379 rfl dX12_right_113 ?_
    refine r_icmp_ge (tgt := 146) dX12_right_116 (by decide) (fun c116 => ?_) (fun c116 => ?_)
    · exfalso; ((try simp only [bI_0, bI_1, lc_lt, lc_gt, lc_le, lc_ge, Classical.not_not] at *); (try simp only [i_lt, i_le, i_eq, l_lt, l_le, l_eq, Int32.toInt_toInt64, Int32.reduceToInt, Int64.reduceToInt] at *); omega)
    · refine r_iload (j := 1) rfl dX12_right_119 ?_
      refine r_aload_n (j := 2) rfl rfl dX12_right_121 ?_
      refine w_getR (b := 141) fX12_315 rfl rfl dX12_right_122 ?_
      refine r_iload (j := 0) rfl dX12_right_125 ?_
      refine w_iald rfl (by first | assumption | (rw [vp_in_iff]; ((try simp only [bI_0, bI_1, lc_lt, lc_gt, lc_le, lc_ge, Classical.not_not] at *); (try simp only [i_lt, i_le, i_eq, l_lt, l_le, l_eq, Int32.toInt_toInt64, Int32.reduceToInt, Int64.reduceToInt] at *); omega))) dX12_right_127 ?_
      refine r_iload_n (j := 4) rfl rfl dX12_right_128 ?_
      refine r_icmp_ne (tgt := 136) dX12_right_129 (by decide) (fun c129 => ?_) (fun c129 => ?_)
      · refine r_iconst (v := 0) rfl dX12_right_136 ?_
        refine r_iadd dX12_right_137 ?_
        refine r_istore (lv' := fun z => [(4, .int z), (5, .int x), (0, .ref 95), (1, .int t), (2, .int k), (3, .int f)]) dX12_right_138 (Nat.le_of_ble_eq_true rfl) (fun _ => rfl) (fun x4_138 ex4_138 => ?_)
        refine r_iinc (j := 1) (lv' := fun z => [(5, .int z), (4, .int x4_138), (0, .ref 95), (1, .int t), (2, .int k), (3, .int f)]) dX12_right_140 rfl (Nat.le_of_ble_eq_true rfl) (fun _ => rfl) (fun x5_140 ex5_140 => ?_)
        refine r_goto (tgt := 110) dX12_right_143 (by decide) ?_
        rw [cx] at c129; exact ih (i + 1) (by omega) _ _ (by rw [ex4_138, ea]; show _ = ctR (I 141) k i + (if I 141 i = k then 1 else 0); rw [if_neg c129]) (by rw [ex5_140]; exact i_inc hx (by omega))
      · refine r_iconst (v := 1) rfl dX12_right_132 ?_
        refine r_goto (tgt := 137) dX12_right_133 (by decide) ?_
        refine r_iadd dX12_right_137 ?_
        refine r_istore (lv' := fun z => [(4, .int z), (5, .int x), (0, .ref 95), (1, .int t), (2, .int k), (3, .int f)]) dX12_right_138 (Nat.le_of_ble_eq_true rfl) (fun _ => rfl) (fun x4_138 ex4_138 => ?_)
        refine r_iinc (j := 1) (lv' := fun z => [(5, .int z), (4, .int x4_138), (0, .ref 95), (1, .int t), (2, .int k), (3, .int f)]) dX12_right_140 rfl (Nat.le_of_ble_eq_true rfl) (fun _ => rfl) (fun x5_140 ex5_140 => ?_)
        refine r_goto (tgt := 110) dX12_right_143 (by decide) ?_
        rw [cx] at c129; exact ih (i + 1) (by omega) _ _ (by rw [ex4_138, ea]; show _ = ctR (I 141) k i + (if I 141 i = k then 1 else 0); rw [if_pos c129]) (by rw [ex5_140]; exact i_inc hx (by omega))
theorem k_X12_right_y {t k f : Int32} {n : Nat} (hc : riC I t k f) (hn : (I 95 70).toInt = n) (h20 : n < 20) : Con sc mX12_right 1 0 0 [.ref 95, .int t, .int k, .int f] (XW I L tg) (rI (ctR (scoM I n t k f 141) k (n + 1)) (XW (scoM I n t k f) L tg)) := by
  obtain ⟨q1, q2, q3⟩ := hc
  refine Con_of (by decide) (Nat.le_of_ble_eq_true rfl) ?_
  have ct := cl_of hn
  have hin := up_in hn h20
  refine r_iload_n (j := 1) rfl rfl dX12_right_0 ?_
  refine r_i2l dX12_right_1 ?_
  refine r_aload_n (j := 0) rfl rfl dX12_right_2 ?_
  refine w_getI fX12_382 rfl dX12_right_3 ?_
  refine r_i2l dX12_right_6 ?_
  refine r_ldc2 kX12_500 dX12_right_7 ?_
  refine w_cS3p (k_X12_in) (Nat.le_of_ble_eq_true rfl) lX12_52 mtX12_in (Nat.le_of_ble_eq_true rfl) (Nat.le_of_ble_eq_true rfl) (Nat.le_of_ble_eq_true rfl) dX12_right_10 ?_
  refine r_if_eq (tgt := 44) dX12_right_13 (by decide) (fun c13 => ?_) (fun c13 => ?_)
  · refine absurd ?_ (bI_0.mp c13); rw [Int32.toInt_toInt64, Int32.toInt_toInt64]; exact q1
  · refine r_iload_n (j := 2) rfl rfl dX12_right_16 ?_
    refine r_i2l dX12_right_17 ?_
    refine r_lconst (v := 0) rfl dX12_right_18 ?_
    refine r_aload_n (j := 0) rfl rfl dX12_right_19 ?_
    refine w_getI fX12_376 rfl dX12_right_20 ?_
    refine r_i2l dX12_right_23 ?_
    refine r_lconst (v := 1) rfl dX12_right_24 ?_
    refine r_lsub dX12_right_25 ?_
    refine w_cS3p (k_X12_in) (Nat.le_of_ble_eq_true rfl) lX12_52 mtX12_in (Nat.le_of_ble_eq_true rfl) (Nat.le_of_ble_eq_true rfl) (Nat.le_of_ble_eq_true rfl) dX12_right_26 ?_
    refine r_if_eq (tgt := 44) dX12_right_29 (by decide) (fun c29 => ?_) (fun c29 => ?_)
    · refine absurd ?_ (bI_0.mp c29); rw [Int32.toInt_toInt64, x64_sub _ _ (by decide)]; exact ⟨q2.1, by show _ ≤ (I 95 69).toInt - 1; omega⟩
    · refine r_iload_n (j := 3) rfl rfl dX12_right_32 ?_
      refine r_i2l dX12_right_33 ?_
      refine r_lconst (v := 1) rfl dX12_right_34 ?_
      refine r_ldc2 kX12_431 dX12_right_35 ?_
      refine w_cS3p (k_X12_in) (Nat.le_of_ble_eq_true rfl) lX12_52 mtX12_in (Nat.le_of_ble_eq_true rfl) (Nat.le_of_ble_eq_true rfl) (Nat.le_of_ble_eq_true rfl) dX12_right_38 ?_
      refine r_if_ne (tgt := 47) dX12_right_41 (by decide) (fun c41 => ?_) (fun c41 => ?_)
      · refine r_aload_n (j := 0) rfl rfl dX12_right_47 ?_
        refine w_getI fX12_379 rfl dX12_right_48 ?_
        refine r_bipush (v := 20) rfl dX12_right_51 ?_
        refine r_icmp_ne (tgt := 59) dX12_right_53 (by decide) (fun c53 => ?_) (fun c53 => ?_)
        · refine r_aload_n (j := 0) rfl rfl dX12_right_59 ?_
          refine r_iload_n (j := 1) rfl rfl dX12_right_60 ?_
          refine w_putI fX12_382 rfl (rfl) (rfl) dX12_right_61 (fun J61 hJ61 => ?_)
          refine r_aload_n (j := 0) rfl rfl dX12_right_64 ?_
          refine w_getR (b := 141) fX12_315 rfl rfl dX12_right_65 ?_
          refine r_aload_n (j := 0) rfl rfl dX12_right_68 ?_
          refine w_getI fX12_379 rfl dX12_right_69 ?_
          refine r_iload_n (j := 2) rfl rfl dX12_right_72 ?_
          refine w_iast rfl (by subst hJ61; simpa [up_eq, vu_eq] using hin) dX12_right_73 (fun J73 hJ73 => ?_)
          refine r_aload_n (j := 0) rfl rfl dX12_right_74 ?_
          refine w_getR (b := 142) fX12_318 rfl rfl dX12_right_75 ?_
          refine r_aload_n (j := 0) rfl rfl dX12_right_78 ?_
          refine w_getI fX12_379 rfl dX12_right_79 ?_
          refine r_iload_n (j := 3) rfl rfl dX12_right_82 ?_
          refine w_iast rfl (by subst hJ73 hJ61; simpa [up_eq, vu_eq] using hin) dX12_right_83 (fun J83 hJ83 => ?_)
          refine r_aload_n (j := 0) rfl rfl dX12_right_84 ?_
          refine w_getR (b := 143) fX12_321 rfl rfl dX12_right_85 ?_
          refine r_aload_n (j := 0) rfl rfl dX12_right_88 ?_
          refine w_getI fX12_379 rfl dX12_right_89 ?_
          refine r_iload_n (j := 1) rfl rfl dX12_right_92 ?_
          refine w_iast rfl (by subst hJ83 hJ73 hJ61; simpa [up_eq, vu_eq] using hin) dX12_right_93 (fun J93 hJ93 => ?_)
          refine r_aload_n (j := 0) rfl rfl dX12_right_94 ?_
          refine r_dup rfl dX12_right_95 ?_
          refine w_getI fX12_379 rfl dX12_right_96 ?_
          refine r_iconst (v := 1) rfl dX12_right_99 ?_
          refine r_iadd dX12_right_100 ?_
          refine w_putI fX12_379 rfl (rfl) (rfl) dX12_right_101 (fun J101 hJ101 => ?_)
          have eJ : J101 = scoM I n t k f := by
            subst hJ101 hJ93 hJ83 hJ73 hJ61
            unfold scoM
            simp [up_eq, vu_eq, ct]
          have e70 : (J101 95 70).toInt = ((n + 1 : Nat) : Int) := by
            have : J101 95 70 = I 95 70 + 1 := by rw [eJ]; unfold scoM; rw [up_s, vu_s]
            rw [this]
            exact i_inc hn (by omega)
          refine r_iconst (v := 0) rfl dX12_right_104 ?_
          refine r_istore (lv' := fun z => [(4, .int z), (0, .ref 95), (1, .int t), (2, .int k), (3, .int f)]) dX12_right_105 (Nat.le_of_ble_eq_true rfl) (fun _ => rfl) (fun x4_105 ex4_105 => ?_)
          refine r_iconst (v := 0) rfl dX12_right_107 ?_
          refine r_istore (lv' := fun z => [(5, .int z), (4, .int x4_105), (0, .ref 95), (1, .int t), (2, .int k), (3, .int f)]) dX12_right_108 (Nat.le_of_ble_eq_true rfl) (fun _ => rfl) (fun x5_108 ex5_108 => ?_)
          rw [← eJ]; exact l_X12_right e70 (by omega) _ 0 (Nat.zero_add _) _ _ (by rw [ex4_105]; rfl) (by rw [ex5_108]; rfl)
        · exfalso; ((try simp only [bI_0, bI_1, lc_lt, lc_gt, lc_le, lc_ge, Classical.not_not] at *); (try simp only [i_lt, i_le, i_eq, l_lt, l_le, l_eq, Int32.toInt_toInt64, Int32.reduceToInt, Int64.reduceToInt] at *); omega)
      · refine absurd ?_ (bI_0.mp c41); rw [Int32.toInt_toInt64]; exact q3
def alS (h : Int32) : Int32 := if h = 0 then 10 else if h = 4 then -10 else if h = 2 ∨ h = 6 then 0 else if h = 1 ∨ h = 7 then 7 else -7
theorem k_X12_along {h : Int32} : Con sc mX12_along 0 0 0 [.int h] (XW I L tg) (rI (alS h) (XW I L tg)) := by
  refine Con_of (by decide) (Nat.le_of_ble_eq_true rfl) ?_
  refine r_iload_n (j := 0) rfl rfl dX12_along_0 ?_
  refine r_if_ne (tgt := 9) dX12_along_1 (by decide) (fun c1 => ?_) (fun c1 => ?_)
  · refine r_iload_n (j := 0) rfl rfl dX12_along_9 ?_
    refine r_iconst (v := 4) rfl dX12_along_10 ?_
    refine r_icmp_ne (tgt := 19) dX12_along_11 (by decide) (fun c11 => ?_) (fun c11 => ?_)
    · refine r_iload_n (j := 0) rfl rfl dX12_along_19 ?_
      refine r_iconst (v := 2) rfl dX12_along_20 ?_
      refine r_icmp_eq (tgt := 30) dX12_along_21 (by decide) (fun c21 => ?_) (fun c21 => ?_)
      · refine r_iconst (v := 0) rfl dX12_along_30 ?_
        refine r_goto (tgt := 52) dX12_along_31 (by decide) ?_
        refine w_iret rfl (rfl) (Nat.le_of_ble_eq_true rfl) (Nat.le_of_ble_eq_true rfl) dX12_along_52 ?_
        exact ⟨by unfold alS; simp [*], rfl, rfl, rfl⟩
      · refine r_iload_n (j := 0) rfl rfl dX12_along_24 ?_
        refine r_bipush (v := 6) rfl dX12_along_25 ?_
        refine r_icmp_ne (tgt := 34) dX12_along_27 (by decide) (fun c27 => ?_) (fun c27 => ?_)
        · refine r_iload_n (j := 0) rfl rfl dX12_along_34 ?_
          refine r_iconst (v := 1) rfl dX12_along_35 ?_
          refine r_icmp_eq (tgt := 45) dX12_along_36 (by decide) (fun c36 => ?_) (fun c36 => ?_)
          · refine r_bipush (v := 7) rfl dX12_along_45 ?_
            refine r_goto (tgt := 52) dX12_along_47 (by decide) ?_
            refine w_iret rfl (rfl) (Nat.le_of_ble_eq_true rfl) (Nat.le_of_ble_eq_true rfl) dX12_along_52 ?_
            exact ⟨by unfold alS; simp [*], rfl, rfl, rfl⟩
          · refine r_iload_n (j := 0) rfl rfl dX12_along_39 ?_
            refine r_bipush (v := 7) rfl dX12_along_40 ?_
            refine r_icmp_ne (tgt := 50) dX12_along_42 (by decide) (fun c42 => ?_) (fun c42 => ?_)
            · refine r_bipush (v := (-7)) rfl dX12_along_50 ?_
              refine w_iret rfl (rfl) (Nat.le_of_ble_eq_true rfl) (Nat.le_of_ble_eq_true rfl) dX12_along_52 ?_
              exact ⟨by unfold alS; simp [*], rfl, rfl, rfl⟩
            · refine r_bipush (v := 7) rfl dX12_along_45 ?_
              refine r_goto (tgt := 52) dX12_along_47 (by decide) ?_
              refine w_iret rfl (rfl) (Nat.le_of_ble_eq_true rfl) (Nat.le_of_ble_eq_true rfl) dX12_along_52 ?_
              exact ⟨by unfold alS; simp [*], rfl, rfl, rfl⟩
        · refine r_iconst (v := 0) rfl dX12_along_30 ?_
          refine r_goto (tgt := 52) dX12_along_31 (by decide) ?_
          refine w_iret rfl (rfl) (Nat.le_of_ble_eq_true rfl) (Nat.le_of_ble_eq_true rfl) dX12_along_52 ?_
          exact ⟨by unfold alS; simp [*], rfl, rfl, rfl⟩
    · refine r_bipush (v := (-10)) rfl dX12_along_14 ?_
      refine r_goto (tgt := 52) dX12_along_16 (by decide) ?_
      refine w_iret rfl (rfl) (Nat.le_of_ble_eq_true rfl) (Nat.le_of_ble_eq_true rfl) dX12_along_52 ?_
      exact ⟨by unfold alS; simp [*], rfl, rfl, rfl⟩
  · refine r_bipush (v := 10) rfl dX12_along_4 ?_
    refine r_goto (tgt := 52) dX12_along_6 (by decide) ?_
    refine w_iret rfl (rfl) (Nat.le_of_ble_eq_true rfl) (Nat.le_of_ble_eq_true rfl) dX12_along_52 ?_
    exact ⟨by unfold alS; simp [*], rfl, rfl, rfl⟩
theorem k_X12_isStep {a : Int32} : Con sc mX12_isStep 1 0 0 [.int a] (XW I L tg) (rI (bI (0 ≤ a.toInt ∧ a.toInt ≤ 999)) (XW I L tg)) := by
  refine Con_of (by decide) (Nat.le_of_ble_eq_true rfl) ?_
  refine r_iload_n (j := 0) rfl rfl dX12_isStep_0 ?_
  refine r_i2l dX12_isStep_1 ?_
  refine r_lconst (v := 0) rfl dX12_isStep_2 ?_
  refine r_ldc2 kX12_500 dX12_isStep_3 ?_
  refine w_cS3p (k_X12_in) (Nat.le_of_ble_eq_true rfl) lX12_52 mtX12_in (Nat.le_of_ble_eq_true rfl) (Nat.le_of_ble_eq_true rfl) (Nat.le_of_ble_eq_true rfl) dX12_isStep_6 ?_
  refine w_iret rfl (bI_n _) (Nat.le_of_ble_eq_true rfl) (Nat.le_of_ble_eq_true rfl) dX12_isStep_9 ?_
  exact ⟨bI_cg (by rw [Int32.toInt_toInt64]; exact Iff.rfl), rfl, rfl, rfl⟩
/-- where it ends: along, across, off, how many were ahead -/
def feF (I : Is) (kn : Int32) (k : Nat) : Int32 := fkn (I 137 k) (I 141) (I 143) (I 142) (nI k) kn (nN (I 95 70))
def feS (I : Is) (kn : Int32) : Nat → (Int32 × Int32 × Int32) × Int32
  | 0 => ((0, 0, 0), 0)
  | k + 1 => if I 140 k ≤ kn then (((feS I kn k).1.1 + feF I kn k * alS (I 138 k), (feS I kn k).1.2.1 + feF I kn k * alS ((I 138 k + 6) - (I 138 k + 6) / 8 * 8), (feS I kn k).1.2.2 + (10 * I 139 k + I 95 72 * (feS I kn k).2)), (feS I kn k).2 + 1) else feS I kn k
def feI (I : Is) (q : Int32 × Int32 × Int32) : Is := up (up (up I 95 80 q.1) 95 81 q.2.1) 95 82 q.2.2
theorem feI_n (I : Is) (q : Int32 × Int32 × Int32) {a : Nat} (h : a ≠ 95) : feI I q a = I a := by simp [feI, up_eq, h]
theorem feI_95 (I : Is) (q : Int32 × Int32 × Int32) {j : Nat} (h0 : j ≠ 80) (h1 : j ≠ 81) (h2 : j ≠ 82) : feI I q 95 j = I 95 j := by simp [feI, up_eq, vu_eq, h0, h1, h2]
theorem feI_0 (I : Is) (q : Int32 × Int32 × Int32) : feI I q 95 80 = q.1 := by simp [feI, up_eq, vu_eq]
theorem feI_1 (I : Is) (q : Int32 × Int32 × Int32) : feI I q 95 81 = q.2.1 := by simp [feI, up_eq, vu_eq]
theorem feI_2 (I : Is) (q : Int32 × Int32 × Int32) : feI I q 95 82 = q.2.2 := by simp [feI, up_eq, vu_eq]
theorem feI_s (I : Is) (q r : Int32 × Int32 × Int32) : up (up (up (feI I q) 95 80 r.1) 95 81 r.2.1) 95 82 r.2.2 = feI I r := by
  unfold feI
  funext a
  by_cases h : a = 95
  · subst h
    funext j
    by_cases h0 : j = 80
    · subst h0; simp [up_eq, vu_eq]
    · by_cases h1 : j = 81
      · subst h1; simp [up_eq, vu_eq]
      · by_cases h2 : j = 82
        · subst h2; simp [up_eq, vu_eq]
        · simp [up_eq, vu_eq, h0, h1, h2]
  · simp [up_eq, h]
theorem l_X12_fe2 {kn x2 : Int32} {k : Nat} {q : Int32 × Int32 × Int32} (hR : (I 95 70).toInt = NR) (h20 : NR ≤ 20) {Q : Po}
    (K : ∀ x5 : Int32, RR sc mX12_findEnd 1 0 0 Q 0 0 97 [(5, .int x5), (4, .int (fkn (I 137 k) (I 141) (I 143) (I 142) (nI k) kn NR)), (3, .int (nI k)), (2, .int x2), (0, .ref 95), (1, .int kn)] [] (XW (feI I q) L tg)) : ∀ n i : Nat, i + n = NR → ∀ a x : Int32, a = fkn (I 137 k) (I 141) (I 143) (I 142) (nI k) kn i → x.toInt = i → RR sc mX12_findEnd 1 0 0 Q 0 0 51 [(5, .int x), (4, .int a), (3, .int (nI k)), (2, .int x2), (0, .ref 95), (1, .int kn)] [] (XW (feI I q) L tg) := by
  have hRJ : (feI I q 95 70).toInt = NR := by rw [feI_95 _ _ (by decide) (by decide) (by decide)]; exact hR
  have j1 : feI I q 141 = I 141 := feI_n _ _ (by decide)
  have j2 : feI I q 142 = I 142 := feI_n _ _ (by decide)
  have j3 : feI I q 143 = I 143 := feI_n _ _ (by decide)
  intro n
  induction n with
  | zero =>
    intro i hi a x ea hx
    refine r_iload (j := 0) rfl dX12_findEnd_51 ?_
    refine r_aload_n (j := 4) rfl rfl dX12_findEnd_53 ?_
    refine w_getI fX12_379 rfl dX12_findEnd_54 ?_
    refine r_icmp_ge (tgt := 97) dX12_findEnd_57 (by decide) (fun c57 => ?_) (fun c57 => ?_)
    · rw [ea, show i = NR by omega]; exact K _
    · exfalso; ((try simp only [bI_0, bI_1, lc_lt, lc_gt, lc_le, lc_ge, Classical.not_not] at *); (try simp only [i_lt, i_le, i_eq, l_lt, l_le, l_eq, Int32.toInt_toInt64, Int32.reduceToInt, Int64.reduceToInt] at *); omega)
  | succ n ih =>
    intro i hi a x ea hx
    have cx := cl_of hx
    have hin := up_in (N := 20) hx (by omega)
    refine r_iload (j := 0) rfl dX12_findEnd_51 ?_
    refine r_aload_n (j := 4) rfl rfl dX12_findEnd_53 ?_
    refine w_getI fX12_379 rfl dX12_findEnd_54 ?_
    refine r_icmp_ge (tgt := 97) dX12_findEnd_57 (by decide) (fun c57 => ?_) (fun c57 => ?_)
    · exfalso; ((try simp only [bI_0, bI_1, lc_lt, lc_gt, lc_le, lc_ge, Classical.not_not] at *); (try simp only [i_lt, i_le, i_eq, l_lt, l_le, l_eq, Int32.toInt_toInt64, Int32.reduceToInt, Int64.reduceToInt] at *); omega)
    · refine r_aload_n (j := 4) rfl rfl dX12_findEnd_60 ?_
      refine w_getR (b := 141) fX12_315 rfl rfl dX12_findEnd_61 ?_
      refine r_iload (j := 0) rfl dX12_findEnd_64 ?_
      refine w_iald rfl (by first | assumption | (rw [vp_in_iff]; ((try simp only [bI_0, bI_1, lc_lt, lc_gt, lc_le, lc_ge, Classical.not_not] at *); (try simp only [i_lt, i_le, i_eq, l_lt, l_le, l_eq, Int32.toInt_toInt64, Int32.reduceToInt, Int64.reduceToInt] at *); omega))) dX12_findEnd_66 ?_
      refine r_iload_n (j := 2) rfl rfl dX12_findEnd_67 ?_
      refine r_icmp_ne (tgt := 91) dX12_findEnd_68 (by decide) (fun c68 => ?_) (fun c68 => ?_)
      · refine r_iinc (j := 0) (lv' := fun z => [(5, .int z), (4, .int a), (3, .int (nI k)), (2, .int x2), (0, .ref 95), (1, .int kn)]) dX12_findEnd_91 rfl (Nat.le_of_ble_eq_true rfl) (fun _ => rfl) (fun x5_91 ex5_91 => ?_)
        refine r_goto (tgt := 51) dX12_findEnd_94 (by decide) ?_
        rw [cx, j1] at c68; exact ih (i + 1) (by omega) _ _ (by rw [fkn, if_neg (fun z => c68 z.1)]; exact ea) (by rw [ex5_91]; exact i_inc hx (by omega))
      · refine r_aload_n (j := 4) rfl rfl dX12_findEnd_71 ?_
        refine w_getR (b := 143) fX12_321 rfl rfl dX12_findEnd_72 ?_
        refine r_iload (j := 0) rfl dX12_findEnd_75 ?_
        refine w_iald rfl (by first | assumption | (rw [vp_in_iff]; ((try simp only [bI_0, bI_1, lc_lt, lc_gt, lc_le, lc_ge, Classical.not_not] at *); (try simp only [i_lt, i_le, i_eq, l_lt, l_le, l_eq, Int32.toInt_toInt64, Int32.reduceToInt, Int64.reduceToInt] at *); omega))) dX12_findEnd_77 ?_
        refine r_iload_n (j := 5) rfl rfl dX12_findEnd_78 ?_
        refine r_icmp_gt (tgt := 91) dX12_findEnd_79 (by decide) (fun c79 => ?_) (fun c79 => ?_)
        · refine r_iinc (j := 0) (lv' := fun z => [(5, .int z), (4, .int a), (3, .int (nI k)), (2, .int x2), (0, .ref 95), (1, .int kn)]) dX12_findEnd_91 rfl (Nat.le_of_ble_eq_true rfl) (fun _ => rfl) (fun x5_91 ex5_91 => ?_)
          refine r_goto (tgt := 51) dX12_findEnd_94 (by decide) ?_
          rw [cx, j3] at c79; exact ih (i + 1) (by omega) _ _ (by rw [fkn, if_neg (fun z => absurd z.2 (Int32.not_le.mpr c79))]; exact ea) (by rw [ex5_91]; exact i_inc hx (by omega))
        · refine r_aload_n (j := 4) rfl rfl dX12_findEnd_82 ?_
          refine w_getR (b := 142) fX12_318 rfl rfl dX12_findEnd_83 ?_
          refine r_iload (j := 0) rfl dX12_findEnd_86 ?_
          refine w_iald rfl (by first | assumption | (rw [vp_in_iff]; ((try simp only [bI_0, bI_1, lc_lt, lc_gt, lc_le, lc_ge, Classical.not_not] at *); (try simp only [i_lt, i_le, i_eq, l_lt, l_le, l_eq, Int32.toInt_toInt64, Int32.reduceToInt, Int64.reduceToInt] at *); omega))) dX12_findEnd_88 ?_
          refine r_istore (lv' := fun z => [(4, .int z), (5, .int x), (3, .int (nI k)), (2, .int x2), (0, .ref 95), (1, .int kn)]) dX12_findEnd_89 (Nat.le_of_ble_eq_true rfl) (fun _ => rfl) (fun x4_89 ex4_89 => ?_)
          refine r_iinc (j := 1) (lv' := fun z => [(5, .int z), (4, .int x4_89), (3, .int (nI k)), (2, .int x2), (0, .ref 95), (1, .int kn)]) dX12_findEnd_91 rfl (Nat.le_of_ble_eq_true rfl) (fun _ => rfl) (fun x5_91 ex5_91 => ?_)
          refine r_goto (tgt := 51) dX12_findEnd_94 (by decide) ?_
          rw [cx, j1] at c68; rw [cx, j3] at c79; exact ih (i + 1) (by omega) _ _ (by rw [fkn, if_pos ⟨c68, Int32.not_lt.mp c79⟩, ex4_89, cx, j2]) (by rw [ex5_91]; exact i_inc hx (by omega))
theorem l_X12_fe1 {kn : Int32} (hS : (I 95 69).toInt = NS) (h16 : NS ≤ 16) (r0 : 0 ≤ (I 95 70).toInt) (r20 : (I 95 70).toInt ≤ 20) : ∀ n i : Nat, i + n = NS → ∀ (J : Is) (x2 x : Int32), J = feI I (feS I kn i).1 → x2 = (feS I kn i).2 → x.toInt = i → RR sc mX12_findEnd 1 0 0 (rV (XW (feI I (feS I kn NS).1) L tg)) 0 0 19 [(3, .int x), (2, .int x2), (0, .ref 95), (1, .int kn)] [] (XW J L tg) := by
  have hR := nN_of r0
  intro n
  induction n with
  | zero =>
    intro i hi J x2 x eJ e2 hx
    have hSJ : (J 95 69).toInt = NS := by rw [eJ, feI_95 _ _ (by decide) (by decide) (by decide)]; exact hS
    refine r_iload_n (j := 0) rfl rfl dX12_findEnd_19 ?_
    refine r_aload_n (j := 2) rfl rfl dX12_findEnd_20 ?_
    refine w_getI fX12_376 rfl dX12_findEnd_21 ?_
    refine r_icmp_ge (tgt := 179) dX12_findEnd_24 (by decide) (fun c24 => ?_) (fun c24 => ?_)
    · refine w_vret rfl (Nat.le_of_ble_eq_true rfl) (Nat.le_of_ble_eq_true rfl) dX12_findEnd_179 ?_
      exact ⟨by rw [eJ, show i = NS by omega], rfl, rfl⟩
    · exfalso; ((try simp only [bI_0, bI_1, lc_lt, lc_gt, lc_le, lc_ge, Classical.not_not] at *); (try simp only [i_lt, i_le, i_eq, l_lt, l_le, l_eq, Int32.toInt_toInt64, Int32.reduceToInt, Int64.reduceToInt] at *); omega)
  | succ n ih =>
    intro i hi J x2 x eJ e2 hx
    have cx := cl_of hx
    have hin := up_in (N := 16) hx (by omega)
    have hSJ : (J 95 69).toInt = NS := by rw [eJ, feI_95 _ _ (by decide) (by decide) (by decide)]; exact hS
    obtain rfl := x_nI hx
    subst eJ e2
    have q140 : feI I (feS I kn i).1 140 = I 140 := feI_n _ _ (by decide)
    have q137 : feI I (feS I kn i).1 137 = I 137 := feI_n _ _ (by decide)
    have q138 : feI I (feS I kn i).1 138 = I 138 := feI_n _ _ (by decide)
    have q139 : feI I (feS I kn i).1 139 = I 139 := feI_n _ _ (by decide)
    have q72 : feI I (feS I kn i).1 95 72 = I 95 72 := feI_95 _ _ (by decide) (by decide) (by decide)
    refine r_iload_n (j := 0) rfl rfl dX12_findEnd_19 ?_
    refine r_aload_n (j := 2) rfl rfl dX12_findEnd_20 ?_
    refine w_getI fX12_376 rfl dX12_findEnd_21 ?_
    refine r_icmp_ge (tgt := 179) dX12_findEnd_24 (by decide) (fun c24 => ?_) (fun c24 => ?_)
    · exfalso; ((try simp only [bI_0, bI_1, lc_lt, lc_gt, lc_le, lc_ge, Classical.not_not] at *); (try simp only [i_lt, i_le, i_eq, l_lt, l_le, l_eq, Int32.toInt_toInt64, Int32.reduceToInt, Int64.reduceToInt] at *); omega)
    · refine r_aload_n (j := 2) rfl rfl dX12_findEnd_27 ?_
      refine w_getR (b := 140) fX12_312 rfl rfl dX12_findEnd_28 ?_
      refine r_iload_n (j := 0) rfl rfl dX12_findEnd_31 ?_
      refine w_iald rfl (by first | assumption | (rw [vp_in_iff]; ((try simp only [bI_0, bI_1, lc_lt, lc_gt, lc_le, lc_ge, Classical.not_not] at *); (try simp only [i_lt, i_le, i_eq, l_lt, l_le, l_eq, Int32.toInt_toInt64, Int32.reduceToInt, Int64.reduceToInt] at *); omega))) dX12_findEnd_32 ?_
      refine r_iload_n (j := 3) rfl rfl dX12_findEnd_33 ?_
      refine r_icmp_le (tgt := 40) dX12_findEnd_34 (by decide) (fun c34 => ?_) (fun c34 => ?_)
      · refine r_aload_n (j := 2) rfl rfl dX12_findEnd_40 ?_
        refine w_getR (b := 137) fX12_303 rfl rfl dX12_findEnd_41 ?_
        refine r_iload_n (j := 0) rfl rfl dX12_findEnd_44 ?_
        refine w_iald rfl (by first | assumption | (rw [vp_in_iff]; ((try simp only [bI_0, bI_1, lc_lt, lc_gt, lc_le, lc_ge, Classical.not_not] at *); (try simp only [i_lt, i_le, i_eq, l_lt, l_le, l_eq, Int32.toInt_toInt64, Int32.reduceToInt, Int64.reduceToInt] at *); omega))) dX12_findEnd_45 ?_
        refine r_istore (lv' := fun z => [(4, .int z), (3, .int (nI i)), (2, .int (feS I kn i).2), (0, .ref 95), (1, .int kn)]) dX12_findEnd_46 (Nat.le_of_ble_eq_true rfl) (fun _ => rfl) (fun x4_46 ex4_46 => ?_)
        refine r_iconst (v := 0) rfl dX12_findEnd_48 ?_
        refine r_istore (lv' := fun z => [(5, .int z), (4, .int x4_46), (3, .int (nI i)), (2, .int (feS I kn i).2), (0, .ref 95), (1, .int kn)]) dX12_findEnd_49 (Nat.le_of_ble_eq_true rfl) (fun _ => rfl) (fun x5_49 ex5_49 => ?_)
        rw [cx, q140] at c34
        rw [cx, q137] at ex4_46
        refine l_X12_fe2 (k := i) hR (by omega) ?_ _ 0 (Nat.zero_add _) _ _ ex4_46 (by rw [ex5_49]; rfl)
        intro x5
        refine r_lvs [(4, .int (feF I kn i)), (3, .int (nI i)), (2, .int (feS I kn i).2), (0, .ref 95), (1, .int kn)] [1, 2, 3, 4, 5] rfl ?_
        refine r_aload_n (j := 3) rfl rfl dX12_findEnd_97 ?_
        refine r_dup rfl dX12_findEnd_98 ?_
        refine w_getI fX12_520 rfl dX12_findEnd_99 ?_
        refine r_iload (j := 0) rfl dX12_findEnd_102 ?_
        refine r_aload_n (j := 3) rfl rfl dX12_findEnd_104 ?_
        refine w_getR (b := 138) fX12_306 rfl rfl dX12_findEnd_105 ?_
        refine r_iload_n (j := 1) rfl rfl dX12_findEnd_108 ?_
        refine w_iald rfl (by first | assumption | (rw [vp_in_iff]; ((try simp only [bI_0, bI_1, lc_lt, lc_gt, lc_le, lc_ge, Classical.not_not] at *); (try simp only [i_lt, i_le, i_eq, l_lt, l_le, l_eq, Int32.toInt_toInt64, Int32.reduceToInt, Int64.reduceToInt] at *); omega))) dX12_findEnd_109 ?_
        refine w_cS1p (k_X12_along) (Nat.le_of_ble_eq_true rfl) lX12_529 mtX12_along (Nat.le_of_ble_eq_true rfl) (Nat.le_of_ble_eq_true rfl) (Nat.le_of_ble_eq_true rfl) dX12_findEnd_110 ?_
        refine r_imul dX12_findEnd_113 ?_
        refine r_iadd dX12_findEnd_114 ?_
        refine w_putI fX12_520 rfl (rfl) (rfl) dX12_findEnd_115 (fun J115 hJ115 => ?_)
        refine r_aload_n (j := 3) rfl rfl dX12_findEnd_118 ?_
        refine r_dup rfl dX12_findEnd_119 ?_
        refine w_getI fX12_523 rfl dX12_findEnd_120 ?_
        refine r_iload (j := 0) rfl dX12_findEnd_123 ?_
        refine r_aload_n (j := 3) rfl rfl dX12_findEnd_125 ?_
        refine w_getR (b := 138) fX12_306 rfl rfl dX12_findEnd_126 ?_
        refine r_iload_n (j := 1) rfl rfl dX12_findEnd_129 ?_
        refine w_iald rfl (by first | assumption | (rw [vp_in_iff]; ((try simp only [bI_0, bI_1, lc_lt, lc_gt, lc_le, lc_ge, Classical.not_not] at *); (try simp only [i_lt, i_le, i_eq, l_lt, l_le, l_eq, Int32.toInt_toInt64, Int32.reduceToInt, Int64.reduceToInt] at *); omega))) dX12_findEnd_130 ?_
        refine r_bipush (v := 6) rfl dX12_findEnd_131 ?_
        refine r_iadd dX12_findEnd_133 ?_
        refine r_bipush (v := 8) rfl dX12_findEnd_134 ?_
        refine r_irem (by first | assumption | decide) dX12_findEnd_136 ?_
        refine w_cS1p (k_X12_along) (Nat.le_of_ble_eq_true rfl) lX12_529 mtX12_along (Nat.le_of_ble_eq_true rfl) (Nat.le_of_ble_eq_true rfl) (Nat.le_of_ble_eq_true rfl) dX12_findEnd_137 ?_
        refine r_imul dX12_findEnd_140 ?_
        refine r_iadd dX12_findEnd_141 ?_
        refine w_putI fX12_523 rfl (rfl) (rfl) dX12_findEnd_142 (fun J142 hJ142 => ?_)
        refine r_aload_n (j := 3) rfl rfl dX12_findEnd_145 ?_
        refine r_dup rfl dX12_findEnd_146 ?_
        refine w_getI fX12_526 rfl dX12_findEnd_147 ?_
        refine r_bipush (v := 10) rfl dX12_findEnd_150 ?_
        refine r_aload_n (j := 3) rfl rfl dX12_findEnd_152 ?_
        refine w_getR (b := 139) fX12_309 rfl rfl dX12_findEnd_153 ?_
        refine r_iload_n (j := 1) rfl rfl dX12_findEnd_156 ?_
        refine w_iald rfl (by first | assumption | (rw [vp_in_iff]; ((try simp only [bI_0, bI_1, lc_lt, lc_gt, lc_le, lc_ge, Classical.not_not] at *); (try simp only [i_lt, i_le, i_eq, l_lt, l_le, l_eq, Int32.toInt_toInt64, Int32.reduceToInt, Int64.reduceToInt] at *); omega))) dX12_findEnd_157 ?_
        refine r_imul dX12_findEnd_158 ?_
        refine r_aload_n (j := 3) rfl rfl dX12_findEnd_159 ?_
        refine w_getI fX12_385 rfl dX12_findEnd_160 ?_
        refine r_iload_n (j := 2) rfl rfl dX12_findEnd_163 ?_
        refine r_imul dX12_findEnd_164 ?_
        refine r_iadd dX12_findEnd_165 ?_
        refine r_iadd dX12_findEnd_166 ?_
        refine w_putI fX12_526 rfl (rfl) (rfl) dX12_findEnd_167 (fun J167 hJ167 => ?_)
        refine r_iinc (j := 2) (lv' := fun z => [(2, .int z), (4, .int (feF I kn i)), (3, .int (nI i)), (0, .ref 95), (1, .int kn)]) dX12_findEnd_170 rfl (Nat.le_of_ble_eq_true rfl) (fun _ => rfl) (fun x2_170 ex2_170 => ?_)
        refine r_iinc (j := 2) (lv' := fun z => [(3, .int z), (2, .int x2_170), (4, .int (feF I kn i)), (0, .ref 95), (1, .int kn)]) dX12_findEnd_173 rfl (Nat.le_of_ble_eq_true rfl) (fun _ => rfl) (fun x3_173 ex3_173 => ?_)
        refine r_goto (tgt := 19) dX12_findEnd_176 (by decide) ?_
        refine r_lvs [(3, .int x3_173), (2, .int x2_170), (0, .ref 95), (1, .int kn)] [0, 1, 3, 4] rfl ?_
        have e : feS I kn (i + 1) = (((feS I kn i).1.1 + feF I kn i * alS (I 138 i), (feS I kn i).1.2.1 + feF I kn i * alS ((I 138 i + 6) - (I 138 i + 6) / 8 * 8), (feS I kn i).1.2.2 + (10 * I 139 i + I 95 72 * (feS I kn i).2)), (feS I kn i).2 + 1) := by
          rw [feS, if_pos c34]
        refine ih (i + 1) (by omega) _ _ _ ?_ (by rw [e, ex2_170]; rfl) (by rw [ex3_173]; exact i_inc hx (by omega))
        rw [e, ← feI_s I (feS I kn i).1]
        have a1 : J115 = up (feI I (feS I kn i).1) 95 80 ((feS I kn i).1.1 + feF I kn i * alS (I 138 i)) := by rw [hJ115, feI_0, cx, q138]
        have a2 : J142 = up J115 95 81 ((feS I kn i).1.2.1 + feF I kn i * alS ((I 138 i + 6) - (I 138 i + 6) / 8 * 8)) := by
          rw [hJ142, show J115 95 81 = (feS I kn i).1.2.1 by rw [a1, up_s, vu_n _ _ (by decide), feI_1], show J115 138 = I 138 by rw [a1, up_n _ _ _ (by decide), q138], cx]
        have a3 : J167 = up J142 95 82 ((feS I kn i).1.2.2 + (10 * I 139 i + I 95 72 * (feS I kn i).2)) := by
          rw [hJ167, show J142 95 82 = (feS I kn i).1.2.2 by rw [a2, up_s, vu_n _ _ (by decide), a1, up_s, vu_n _ _ (by decide), feI_2], show J142 139 = I 139 by rw [a2, up_n _ _ _ (by decide), a1, up_n _ _ _ (by decide), q139], show J142 95 72 = I 95 72 by rw [a2, up_s, vu_n _ _ (by decide), a1, up_s, vu_n _ _ (by decide), q72], cx]
        rw [a3, a2, a1]
      · refine r_goto (tgt := 173) dX12_findEnd_37 (by decide) ?_
        refine r_iinc (j := 0) (lv' := fun z => [(3, .int z), (2, .int (feS I kn i).2), (0, .ref 95), (1, .int kn)]) dX12_findEnd_173 rfl (Nat.le_of_ble_eq_true rfl) (fun _ => rfl) (fun x3_173 ex3_173 => ?_)
        refine r_goto (tgt := 19) dX12_findEnd_176 (by decide) ?_
        rw [cx, q140] at c34
        have e : feS I kn (i + 1) = feS I kn i := by rw [feS, if_neg c34]
        exact ih (i + 1) (by omega) _ _ _ (by rw [e]) (by rw [e]) (by rw [ex3_173]; exact i_inc hx (by omega))
theorem k_X12_findEnd {kn : Int32} (s0 : 0 ≤ (I 95 69).toInt) (s16 : (I 95 69).toInt ≤ 16) (r0 : 0 ≤ (I 95 70).toInt) (r20 : (I 95 70).toInt ≤ 20) : Con sc mX12_findEnd 1 0 0 [.ref 95, .int kn] (XW I L tg) (rV (XW (feI I (feS I kn (nN (I 95 69))).1) L tg)) := by
  have hS := nN_of s0
  refine Con_of (by decide) (Nat.le_of_ble_eq_true rfl) ?_
  refine r_aload_n (j := 0) rfl rfl dX12_findEnd_0 ?_
  refine r_iconst (v := 0) rfl dX12_findEnd_1 ?_
  refine w_putI fX12_520 rfl (rfl) (rfl) dX12_findEnd_2 (fun J2 hJ2 => ?_)
  refine r_aload_n (j := 0) rfl rfl dX12_findEnd_5 ?_
  refine r_iconst (v := 0) rfl dX12_findEnd_6 ?_
  refine w_putI fX12_523 rfl (rfl) (rfl) dX12_findEnd_7 (fun J7 hJ7 => ?_)
  refine r_aload_n (j := 0) rfl rfl dX12_findEnd_10 ?_
  refine r_iconst (v := 0) rfl dX12_findEnd_11 ?_
  refine w_putI fX12_526 rfl (rfl) (rfl) dX12_findEnd_12 (fun J12 hJ12 => ?_)
  refine r_iconst (v := 0) rfl dX12_findEnd_15 ?_
  refine r_istore_n (lv' := fun z => [(2, .int z), (0, .ref 95), (1, .int kn)]) dX12_findEnd_16 rfl (Nat.le_of_ble_eq_true rfl) (fun _ => rfl) (fun x2_16 ex2_16 => ?_)
  refine r_iconst (v := 0) rfl dX12_findEnd_17 ?_
  refine r_istore_n (lv' := fun z => [(3, .int z), (2, .int x2_16), (0, .ref 95), (1, .int kn)]) dX12_findEnd_18 rfl (Nat.le_of_ble_eq_true rfl) (fun _ => rfl) (fun x3_18 ex3_18 => ?_)
  exact l_X12_fe1 hS (by omega) r0 r20 _ 0 (Nat.zero_add _) _ _ _ (by rw [hJ12, hJ7, hJ2]; rfl) (by rw [ex2_16]; rfl) (by rw [ex3_18]; rfl)
def feE (I : Is) (kn : Int32) : Int32 × Int32 × Int32 := (feS I kn (nN (I 95 69))).1
def whC (k w : Int32) : Prop := (0 ≤ k.toInt ∧ k.toInt ≤ 999) ∧ 0 ≤ w.toInt ∧ w.toInt ≤ 2
theorem k_X12_where_r {k w : Int32} (hc : ¬ whC k w) : Con sc mX12_where 2 0 0 [.ref 95, .int k, .int w] (XW I L tg) (rI (-1000000) (XW I L tg)) := by
  refine Con_of (by decide) (Nat.le_of_ble_eq_true rfl) ?_
  refine r_iload_n (j := 1) rfl rfl dX12_where_0 ?_
  refine w_cS1p (k_X12_isStep) (Nat.le_of_ble_eq_true rfl) lX12_532 mtX12_isStep (Nat.le_of_ble_eq_true rfl) (Nat.le_of_ble_eq_true rfl) (Nat.le_of_ble_eq_true rfl) dX12_where_1 ?_
  refine r_if_eq (tgt := 19) dX12_where_4 (by decide) (fun c4 => ?_) (fun c4 => ?_)
  · refine r_ldcw kX12_537 dX12_where_19 ?_
    refine w_iret rfl (rfl) (Nat.le_of_ble_eq_true rfl) (Nat.le_of_ble_eq_true rfl) dX12_where_22 ?_
    exact ⟨rfl, rfl, rfl, rfl⟩
  · refine r_iload_n (j := 2) rfl rfl dX12_where_7 ?_
    refine r_i2l dX12_where_8 ?_
    refine r_lconst (v := 0) rfl dX12_where_9 ?_
    refine r_ldc2 kX12_535 dX12_where_10 ?_
    refine w_cS3p (k_X12_in) (Nat.le_of_ble_eq_true rfl) lX12_52 mtX12_in (Nat.le_of_ble_eq_true rfl) (Nat.le_of_ble_eq_true rfl) (Nat.le_of_ble_eq_true rfl) dX12_where_13 ?_
    refine r_if_ne (tgt := 23) dX12_where_16 (by decide) (fun c16 => ?_) (fun c16 => ?_)
    · exact absurd ⟨bI_1.mp c4, by have := bI_1.mp c16; rw [Int32.toInt_toInt64] at this; exact this⟩ hc
    · refine r_ldcw kX12_537 dX12_where_19 ?_
      refine w_iret rfl (rfl) (Nat.le_of_ble_eq_true rfl) (Nat.le_of_ble_eq_true rfl) dX12_where_22 ?_
      exact ⟨rfl, rfl, rfl, rfl⟩
theorem k_X12_where_y {k w : Int32} (hc : whC k w) (s0 : 0 ≤ (I 95 69).toInt) (s16 : (I 95 69).toInt ≤ 16) (r0 : 0 ≤ (I 95 70).toInt) (r20 : (I 95 70).toInt ≤ 20) : Con sc mX12_where 2 0 0 [.ref 95, .int k, .int w] (XW I L tg) (rI (if w = 0 then (feE I k).1 else if w = 1 then (feE I k).2.1 else (feE I k).2.2) (XW (feI I (feE I k)) L tg)) := by
  obtain ⟨q1, q2⟩ := hc
  refine Con_of (by decide) (Nat.le_of_ble_eq_true rfl) ?_
  refine r_iload_n (j := 1) rfl rfl dX12_where_0 ?_
  refine w_cS1p (k_X12_isStep) (Nat.le_of_ble_eq_true rfl) lX12_532 mtX12_isStep (Nat.le_of_ble_eq_true rfl) (Nat.le_of_ble_eq_true rfl) (Nat.le_of_ble_eq_true rfl) dX12_where_1 ?_
  refine r_if_eq (tgt := 19) dX12_where_4 (by decide) (fun c4 => ?_) (fun c4 => ?_)
  · exact absurd q1 (bI_0.mp c4)
  · refine r_iload_n (j := 2) rfl rfl dX12_where_7 ?_
    refine r_i2l dX12_where_8 ?_
    refine r_lconst (v := 0) rfl dX12_where_9 ?_
    refine r_ldc2 kX12_535 dX12_where_10 ?_
    refine w_cS3p (k_X12_in) (Nat.le_of_ble_eq_true rfl) lX12_52 mtX12_in (Nat.le_of_ble_eq_true rfl) (Nat.le_of_ble_eq_true rfl) (Nat.le_of_ble_eq_true rfl) dX12_where_13 ?_
    refine r_if_ne (tgt := 23) dX12_where_16 (by decide) (fun c16 => ?_) (fun c16 => ?_)
    · refine r_aload_n (j := 0) rfl rfl dX12_where_23 ?_
      refine r_iload_n (j := 1) rfl rfl dX12_where_24 ?_
      refine w_cV1v (k_X12_findEnd s0 s16 r0 r20) (Nat.le_of_ble_eq_true rfl) lX12_538 vmX12_findEnd rfl (Nat.le_of_ble_eq_true rfl) (Nat.le_of_ble_eq_true rfl) (Nat.le_of_ble_eq_true rfl) dX12_where_25 (fun J25 K25 hJ25 hK25 => ?_)
      subst hK25
      refine r_iload_n (j := 2) rfl rfl dX12_where_28 ?_
      refine r_if_ne (tgt := 39) dX12_where_29 (by decide) (fun c29 => ?_) (fun c29 => ?_)
      · refine r_iload_n (j := 2) rfl rfl dX12_where_39 ?_
        refine r_iconst (v := 1) rfl dX12_where_40 ?_
        refine r_icmp_ne (tgt := 51) dX12_where_41 (by decide) (fun c41 => ?_) (fun c41 => ?_)
        · refine r_aload_n (j := 0) rfl rfl dX12_where_51 ?_
          refine w_getI fX12_526 rfl dX12_where_52 ?_
          refine w_iret rfl (rfl) (Nat.le_of_ble_eq_true rfl) (Nat.le_of_ble_eq_true rfl) dX12_where_55 ?_
          subst hJ25; exact ⟨by first | (rw [if_pos c29, feI_0]; rfl) | (rw [if_neg c29, if_pos c41, feI_1]; rfl) | (rw [if_neg c29, if_neg c41, feI_2]; rfl), rfl, rfl, rfl⟩
        · refine r_aload_n (j := 0) rfl rfl dX12_where_44 ?_
          refine w_getI fX12_523 rfl dX12_where_45 ?_
          refine r_goto (tgt := 55) dX12_where_48 (by decide) ?_
          refine w_iret rfl (rfl) (Nat.le_of_ble_eq_true rfl) (Nat.le_of_ble_eq_true rfl) dX12_where_55 ?_
          subst hJ25; exact ⟨by first | (rw [if_pos c29, feI_0]; rfl) | (rw [if_neg c29, if_pos c41, feI_1]; rfl) | (rw [if_neg c29, if_neg c41, feI_2]; rfl), rfl, rfl, rfl⟩
      · refine r_aload_n (j := 0) rfl rfl dX12_where_32 ?_
        refine w_getI fX12_520 rfl dX12_where_33 ?_
        refine r_goto (tgt := 55) dX12_where_36 (by decide) ?_
        refine w_iret rfl (rfl) (Nat.le_of_ble_eq_true rfl) (Nat.le_of_ble_eq_true rfl) dX12_where_55 ?_
        subst hJ25; exact ⟨by first | (rw [if_pos c29, feI_0]; rfl) | (rw [if_neg c29, if_pos c41, feI_1]; rfl) | (rw [if_neg c29, if_neg c41, feI_2]; rfl), rfl, rfl, rfl⟩
    · refine absurd ?_ (bI_0.mp c16); rw [Int32.toInt_toInt64]; exact q2
def upC (I : Is) (h k : Int32) : Prop := (0 ≤ h.toInt ∧ h.toInt < (I 95 10).toInt) ∧ 0 ≤ k.toInt ∧ k.toInt ≤ 999
theorem k_X12_up_r {h k : Int32} (hc : ¬ upC I h k) : Con sc mX12_up 2 0 0 [.ref 95, .int h, .int k] (XW I L tg) (rI (-2) (XW I L tg)) := by
  refine Con_of (by decide) (Nat.le_of_ble_eq_true rfl) ?_
  refine r_aload_n (j := 0) rfl rfl dX12_up_0 ?_
  refine r_iload_n (j := 1) rfl rfl dX12_up_1 ?_
  refine w_cV1p (k_X12_isHut) (Nat.le_of_ble_eq_true rfl) lX12_408 vmX12_isHut rfl (Nat.le_of_ble_eq_true rfl) (Nat.le_of_ble_eq_true rfl) (Nat.le_of_ble_eq_true rfl) dX12_up_2 ?_
  refine r_if_eq (tgt := 15) dX12_up_5 (by decide) (fun c5 => ?_) (fun c5 => ?_)
  · refine r_bipush (v := (-2)) rfl dX12_up_15 ?_
    refine w_iret rfl (rfl) (Nat.le_of_ble_eq_true rfl) (Nat.le_of_ble_eq_true rfl) dX12_up_17 ?_
    exact ⟨rfl, rfl, rfl, rfl⟩
  · refine r_iload_n (j := 2) rfl rfl dX12_up_8 ?_
    refine w_cS1p (k_X12_isStep) (Nat.le_of_ble_eq_true rfl) lX12_532 mtX12_isStep (Nat.le_of_ble_eq_true rfl) (Nat.le_of_ble_eq_true rfl) (Nat.le_of_ble_eq_true rfl) dX12_up_9 ?_
    refine r_if_ne (tgt := 18) dX12_up_12 (by decide) (fun c12 => ?_) (fun c12 => ?_)
    · exact absurd ⟨bI_1.mp c5, bI_1.mp c12⟩ hc
    · refine r_bipush (v := (-2)) rfl dX12_up_15 ?_
      refine w_iret rfl (rfl) (Nat.le_of_ble_eq_true rfl) (Nat.le_of_ble_eq_true rfl) dX12_up_17 ?_
      exact ⟨rfl, rfl, rfl, rfl⟩
def upM (lo hi wood : Int32) : Int32 := if hi ≤ 0 then 0 else if wood ≤ lo then 2 else if 0 < lo ∧ hi < wood then 1 else 3
theorem k_X12_up_y {h k : Int32} {hn : Nat} (hc : upC I h k) (eh : h.toInt = hn) (h5 : hn < 5) (s0 : 0 ≤ (I 95 69).toInt) (s16 : (I 95 69).toInt ≤ 16) (r0 : 0 ≤ (I 95 70).toInt) (r20 : (I 95 70).toInt ≤ 20) : Con sc mX12_up 2 0 0 [.ref 95, .int h, .int k] (XW I L tg) (rI (upM ((feE I k).2.1 - 10 * I 103 hn - (feE I k).2.2) ((feE I k).2.1 - 10 * I 103 hn + (feE I k).2.2) (10 * I 97 1)) (XW (feI I (feE I k)) L tg)) := by
  obtain ⟨q1, q2⟩ := hc
  have ch := cl_of eh
  have hin := up_in eh h5
  refine Con_of (by decide) (Nat.le_of_ble_eq_true rfl) ?_
  refine r_aload_n (j := 0) rfl rfl dX12_up_0 ?_
  refine r_iload_n (j := 1) rfl rfl dX12_up_1 ?_
  refine w_cV1p (k_X12_isHut) (Nat.le_of_ble_eq_true rfl) lX12_408 vmX12_isHut rfl (Nat.le_of_ble_eq_true rfl) (Nat.le_of_ble_eq_true rfl) (Nat.le_of_ble_eq_true rfl) dX12_up_2 ?_
  refine r_if_eq (tgt := 15) dX12_up_5 (by decide) (fun c5 => ?_) (fun c5 => ?_)
  · exact absurd q1 (bI_0.mp c5)
  · refine r_iload_n (j := 2) rfl rfl dX12_up_8 ?_
    refine w_cS1p (k_X12_isStep) (Nat.le_of_ble_eq_true rfl) lX12_532 mtX12_isStep (Nat.le_of_ble_eq_true rfl) (Nat.le_of_ble_eq_true rfl) (Nat.le_of_ble_eq_true rfl) dX12_up_9 ?_
    refine r_if_ne (tgt := 18) dX12_up_12 (by decide) (fun c12 => ?_) (fun c12 => ?_)
    · refine r_aload_n (j := 0) rfl rfl dX12_up_18 ?_
      refine r_iload_n (j := 2) rfl rfl dX12_up_19 ?_
      refine w_cV1v (k_X12_findEnd s0 s16 r0 r20) (Nat.le_of_ble_eq_true rfl) lX12_538 vmX12_findEnd rfl (Nat.le_of_ble_eq_true rfl) (Nat.le_of_ble_eq_true rfl) (Nat.le_of_ble_eq_true rfl) dX12_up_20 (fun J20 K20 hJ20 hK20 => ?_)
      subst hK20
      refine r_aload_n (j := 0) rfl rfl dX12_up_23 ?_
      refine w_getI fX12_523 rfl dX12_up_24 ?_
      refine r_bipush (v := 10) rfl dX12_up_27 ?_
      refine r_aload_n (j := 0) rfl rfl dX12_up_29 ?_
      refine w_getR (b := 103) fX12_225 rfl rfl dX12_up_30 ?_
      refine r_iload_n (j := 1) rfl rfl dX12_up_33 ?_
      refine w_iald rfl (by first | assumption | (rw [vp_in_iff]; ((try simp only [bI_0, bI_1, lc_lt, lc_gt, lc_le, lc_ge, Classical.not_not] at *); (try simp only [i_lt, i_le, i_eq, l_lt, l_le, l_eq, Int32.toInt_toInt64, Int32.reduceToInt, Int64.reduceToInt] at *); omega))) dX12_up_34 ?_
      refine r_imul dX12_up_35 ?_
      refine r_isub dX12_up_36 ?_
      refine r_aload_n (j := 0) rfl rfl dX12_up_37 ?_
      refine w_getI fX12_526 rfl dX12_up_38 ?_
      refine r_isub dX12_up_41 ?_
      refine r_istore_n (lv' := fun z => [(3, .int z), (0, .ref 95), (1, .int h), (2, .int k)]) dX12_up_42 rfl (Nat.le_of_ble_eq_true rfl) (fun _ => rfl) (fun x3_42 ex3_42 => ?_)
      refine r_aload_n (j := 1) rfl rfl dX12_up_43 ?_
      refine w_getI fX12_523 rfl dX12_up_44 ?_
      refine r_bipush (v := 10) rfl dX12_up_47 ?_
      refine r_aload_n (j := 1) rfl rfl dX12_up_49 ?_
      refine w_getR (b := 103) fX12_225 rfl rfl dX12_up_50 ?_
      refine r_iload_n (j := 2) rfl rfl dX12_up_53 ?_
      refine w_iald rfl (by first | assumption | (rw [vp_in_iff]; ((try simp only [bI_0, bI_1, lc_lt, lc_gt, lc_le, lc_ge, Classical.not_not] at *); (try simp only [i_lt, i_le, i_eq, l_lt, l_le, l_eq, Int32.toInt_toInt64, Int32.reduceToInt, Int64.reduceToInt] at *); omega))) dX12_up_54 ?_
      refine r_imul dX12_up_55 ?_
      refine r_isub dX12_up_56 ?_
      refine r_aload_n (j := 1) rfl rfl dX12_up_57 ?_
      refine w_getI fX12_526 rfl dX12_up_58 ?_
      refine r_iadd dX12_up_61 ?_
      refine r_istore (lv' := fun z => [(4, .int z), (3, .int x3_42), (0, .ref 95), (1, .int h), (2, .int k)]) dX12_up_62 (Nat.le_of_ble_eq_true rfl) (fun _ => rfl) (fun x4_62 ex4_62 => ?_)
      have eJ : J20 = feI I (feE I k) := hJ20
      have e3 : x3_42 = (feE I k).2.1 - 10 * I 103 hn - (feE I k).2.2 := by rw [ex3_42, eJ, feI_1, feI_2, feI_n _ _ (by decide), ch]
      have e4 : x4_62 = (feE I k).2.1 - 10 * I 103 hn + (feE I k).2.2 := by rw [ex4_62, eJ, feI_1, feI_2, feI_n _ _ (by decide), ch]
      have e9 : J20 97 (Int32.toNatClampNeg 1) = I 97 1 := by rw [eJ, feI_n _ _ (by decide)]; rfl
      refine r_iload (j := 0) rfl dX12_up_64 ?_
      refine r_if_gt (tgt := 73) dX12_up_66 (by decide) (fun c66 => ?_) (fun c66 => ?_)
      · refine r_iload_n (j := 1) rfl rfl dX12_up_73 ?_
        refine r_bipush (v := 10) rfl dX12_up_74 ?_
        refine r_aload_n (j := 2) rfl rfl dX12_up_76 ?_
        refine w_getR (b := 97) fX12_219 rfl rfl dX12_up_77 ?_
        refine r_iconst (v := 1) rfl dX12_up_80 ?_
        refine w_iald rfl (by first | assumption | (rw [vp_in_iff]; ((try simp only [bI_0, bI_1, lc_lt, lc_gt, lc_le, lc_ge, Classical.not_not] at *); (try simp only [i_lt, i_le, i_eq, l_lt, l_le, l_eq, Int32.toInt_toInt64, Int32.reduceToInt, Int64.reduceToInt] at *); omega))) dX12_up_81 ?_
        refine r_imul dX12_up_82 ?_
        refine r_icmp_lt (tgt := 90) dX12_up_83 (by decide) (fun c83 => ?_) (fun c83 => ?_)
        · refine r_iload_n (j := 1) rfl rfl dX12_up_90 ?_
          refine r_if_le (tgt := 112) dX12_up_91 (by decide) (fun c91 => ?_) (fun c91 => ?_)
          · refine r_iconst (v := 3) rfl dX12_up_112 ?_
            refine w_iret rfl (rfl) (Nat.le_of_ble_eq_true rfl) (Nat.le_of_ble_eq_true rfl) dX12_up_113 ?_
            (try rw [e9] at c83)
            (try rw [e9] at c105)
            rw [← e3, ← e4]
            refine ⟨?_, eJ, rfl, rfl⟩
            unfold upM
            first
            | (rw [if_pos (Int32.not_lt.mp c66)])
            | (rw [if_neg (Int32.not_le.mpr c66), if_pos (Int32.not_lt.mp c83)])
            | (rw [if_neg (Int32.not_le.mpr c66), if_neg (Int32.not_le.mpr c83), if_neg (fun z => absurd z.1 (Int32.not_lt.mpr c91))])
            | (rw [if_neg (Int32.not_le.mpr c66), if_neg (Int32.not_le.mpr c83), if_neg (fun z => absurd z.2 (Int32.not_lt.mpr c105))])
            | (rw [if_neg (Int32.not_le.mpr c66), if_neg (Int32.not_le.mpr c83), if_pos ⟨Int32.not_le.mp c91, Int32.not_le.mp c105⟩])
          · refine r_iload (j := 0) rfl dX12_up_94 ?_
            refine r_bipush (v := 10) rfl dX12_up_96 ?_
            refine r_aload_n (j := 2) rfl rfl dX12_up_98 ?_
            refine w_getR (b := 97) fX12_219 rfl rfl dX12_up_99 ?_
            refine r_iconst (v := 1) rfl dX12_up_102 ?_
            refine w_iald rfl (by first | assumption | (rw [vp_in_iff]; ((try simp only [bI_0, bI_1, lc_lt, lc_gt, lc_le, lc_ge, Classical.not_not] at *); (try simp only [i_lt, i_le, i_eq, l_lt, l_le, l_eq, Int32.toInt_toInt64, Int32.reduceToInt, Int64.reduceToInt] at *); omega))) dX12_up_103 ?_
            refine r_imul dX12_up_104 ?_
            refine r_icmp_ge (tgt := 112) dX12_up_105 (by decide) (fun c105 => ?_) (fun c105 => ?_)
            · refine r_iconst (v := 3) rfl dX12_up_112 ?_
              refine w_iret rfl (rfl) (Nat.le_of_ble_eq_true rfl) (Nat.le_of_ble_eq_true rfl) dX12_up_113 ?_
              (try rw [e9] at c83)
              (try rw [e9] at c105)
              rw [← e3, ← e4]
              refine ⟨?_, eJ, rfl, rfl⟩
              unfold upM
              first
              | (rw [if_pos (Int32.not_lt.mp c66)])
              | (rw [if_neg (Int32.not_le.mpr c66), if_pos (Int32.not_lt.mp c83)])
              | (rw [if_neg (Int32.not_le.mpr c66), if_neg (Int32.not_le.mpr c83), if_neg (fun z => absurd z.1 (Int32.not_lt.mpr c91))])
              | (rw [if_neg (Int32.not_le.mpr c66), if_neg (Int32.not_le.mpr c83), if_neg (fun z => absurd z.2 (Int32.not_lt.mpr c105))])
              | (rw [if_neg (Int32.not_le.mpr c66), if_neg (Int32.not_le.mpr c83), if_pos ⟨Int32.not_le.mp c91, Int32.not_le.mp c105⟩])
            · refine r_iconst (v := 1) rfl dX12_up_108 ?_
              refine r_goto (tgt := 113) dX12_up_109 (by decide) ?_
              refine w_iret rfl (rfl) (Nat.le_of_ble_eq_true rfl) (Nat.le_of_ble_eq_true rfl) dX12_up_113 ?_
              (try rw [e9] at c83)
              (try rw [e9] at c105)
              rw [← e3, ← e4]
              refine ⟨?_, eJ, rfl, rfl⟩
              unfold upM
              first
              | (rw [if_pos (Int32.not_lt.mp c66)])
              | (rw [if_neg (Int32.not_le.mpr c66), if_pos (Int32.not_lt.mp c83)])
              | (rw [if_neg (Int32.not_le.mpr c66), if_neg (Int32.not_le.mpr c83), if_neg (fun z => absurd z.1 (Int32.not_lt.mpr c91))])
              | (rw [if_neg (Int32.not_le.mpr c66), if_neg (Int32.not_le.mpr c83), if_neg (fun z => absurd z.2 (Int32.not_lt.mpr c105))])
              | (rw [if_neg (Int32.not_le.mpr c66), if_neg (Int32.not_le.mpr c83), if_pos ⟨Int32.not_le.mp c91, Int32.not_le.mp c105⟩])
        · refine r_iconst (v := 2) rfl dX12_up_86 ?_
          refine r_goto (tgt := 113) dX12_up_87 (by decide) ?_
          refine w_iret rfl (rfl) (Nat.le_of_ble_eq_true rfl) (Nat.le_of_ble_eq_true rfl) dX12_up_113 ?_
          (try rw [e9] at c83)
          (try rw [e9] at c105)
          rw [← e3, ← e4]
          refine ⟨?_, eJ, rfl, rfl⟩
          unfold upM
          first
          | (rw [if_pos (Int32.not_lt.mp c66)])
          | (rw [if_neg (Int32.not_le.mpr c66), if_pos (Int32.not_lt.mp c83)])
          | (rw [if_neg (Int32.not_le.mpr c66), if_neg (Int32.not_le.mpr c83), if_neg (fun z => absurd z.1 (Int32.not_lt.mpr c91))])
          | (rw [if_neg (Int32.not_le.mpr c66), if_neg (Int32.not_le.mpr c83), if_neg (fun z => absurd z.2 (Int32.not_lt.mpr c105))])
          | (rw [if_neg (Int32.not_le.mpr c66), if_neg (Int32.not_le.mpr c83), if_pos ⟨Int32.not_le.mp c91, Int32.not_le.mp c105⟩])
      · refine r_iconst (v := 0) rfl dX12_up_69 ?_
        refine r_goto (tgt := 113) dX12_up_70 (by decide) ?_
        refine w_iret rfl (rfl) (Nat.le_of_ble_eq_true rfl) (Nat.le_of_ble_eq_true rfl) dX12_up_113 ?_
        (try rw [e9] at c83)
        (try rw [e9] at c105)
        rw [← e3, ← e4]
        refine ⟨?_, eJ, rfl, rfl⟩
        unfold upM
        first
        | (rw [if_pos (Int32.not_lt.mp c66)])
        | (rw [if_neg (Int32.not_le.mpr c66), if_pos (Int32.not_lt.mp c83)])
        | (rw [if_neg (Int32.not_le.mpr c66), if_neg (Int32.not_le.mpr c83), if_neg (fun z => absurd z.1 (Int32.not_lt.mpr c91))])
        | (rw [if_neg (Int32.not_le.mpr c66), if_neg (Int32.not_le.mpr c83), if_neg (fun z => absurd z.2 (Int32.not_lt.mpr c105))])
        | (rw [if_neg (Int32.not_le.mpr c66), if_neg (Int32.not_le.mpr c83), if_pos ⟨Int32.not_le.mp c91, Int32.not_le.mp c105⟩])
    · exact absurd q2 (bI_0.mp c12)
end
