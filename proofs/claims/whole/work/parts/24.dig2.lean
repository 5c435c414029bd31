/-! digging: begin, dig, carry -/
theorem up_in {x : Int32} {i N : Nat} (h : x.toInt = i) (hi : i < N) : vp_in x N := by rw [vp_in_iff]; omega
def begS (I : Is) (hut : Int32) (t : Nat) : Is := up (up (up (up (up (up I 37 t hut) 38 t 0) 39 t 0) 40 t 0) 41 t 0) 36 8 (I 36 8 + 1)
theorem k_X3_begin {sc : Sc} {I : Is} {L : Ls} {tg t : Nat} {hut : Int32} (ht : (I 36 8).toInt = t) (h3 : t < 3) : Con sc mX3_begin 0 0 0 [.ref 36, .int hut] (XW I L tg) (rI (I 36 8) (XW (begS I hut t) L tg)) := by
  refine Con_of (by decide) (Nat.le_of_ble_eq_true rfl) ?_
  have ct := cl_of ht
  have hin := up_in ht h3
  refine r_aload_n (j := 0) rfl rfl dX3_begin_0 ?_
  refine w_getI fX3_40 rfl dX3_begin_1 ?_
  refine r_iconst (v := 3) rfl dX3_begin_4 ?_
  refine r_icmp_lt (tgt := 11) dX3_begin_5 (by decide) (fun c5 => ?_) (fun c5 => ?_)
  · refine r_aload_n (j := 0) rfl rfl dX3_begin_11 ?_
    refine w_getR (b := 37) fX3_9 rfl rfl dX3_begin_12 ?_
    refine r_aload_n (j := 0) rfl rfl dX3_begin_15 ?_
    refine w_getI fX3_40 rfl dX3_begin_16 ?_
    refine r_iload_n (j := 1) rfl rfl dX3_begin_19 ?_
    refine w_iast rfl (by first | assumption | (rw [vp_in_iff]; ((try simp only [bI_0, bI_1, lc_lt, lc_gt, lc_le, lc_ge, Classical.not_not] at *); (try simp only [i_lt, i_le, i_eq, l_lt, l_le, l_eq, Int32.toInt_toInt64, Int32.reduceToInt, Int64.reduceToInt] at *); omega))) dX3_begin_20 (fun J20 hJ20 => ?_)
    refine r_aload_n (j := 0) rfl rfl dX3_begin_21 ?_
    refine w_getR (b := 38) fX3_15 rfl rfl dX3_begin_22 ?_
    refine r_aload_n (j := 0) rfl rfl dX3_begin_25 ?_
    refine w_getI fX3_40 rfl dX3_begin_26 ?_
    refine r_iconst (v := 0) rfl dX3_begin_29 ?_
    refine w_iast rfl (by subst hJ20; simpa [up_eq, vu_eq] using hin) dX3_begin_30 (fun J30 hJ30 => ?_)
    refine r_aload_n (j := 0) rfl rfl dX3_begin_31 ?_
    refine w_getR (b := 39) fX3_18 rfl rfl dX3_begin_32 ?_
    refine r_aload_n (j := 0) rfl rfl dX3_begin_35 ?_
    refine w_getI fX3_40 rfl dX3_begin_36 ?_
    refine r_iconst (v := 0) rfl dX3_begin_39 ?_
    refine w_iast rfl (by subst hJ30 hJ20; simpa [up_eq, vu_eq] using hin) dX3_begin_40 (fun J40 hJ40 => ?_)
    refine r_aload_n (j := 0) rfl rfl dX3_begin_41 ?_
    refine w_getR (b := 40) fX3_21 rfl rfl dX3_begin_42 ?_
    refine r_aload_n (j := 0) rfl rfl dX3_begin_45 ?_
    refine w_getI fX3_40 rfl dX3_begin_46 ?_
    refine r_iconst (v := 0) rfl dX3_begin_49 ?_
    refine w_iast rfl (by subst hJ40 hJ30 hJ20; simpa [up_eq, vu_eq] using hin) dX3_begin_50 (fun J50 hJ50 => ?_)
    refine r_aload_n (j := 0) rfl rfl dX3_begin_51 ?_
    refine w_getR (b := 41) fX3_24 rfl rfl dX3_begin_52 ?_
    refine r_aload_n (j := 0) rfl rfl dX3_begin_55 ?_
    refine w_getI fX3_40 rfl dX3_begin_56 ?_
    refine r_iconst (v := 0) rfl dX3_begin_59 ?_
    refine w_iast rfl (by subst hJ50 hJ40 hJ30 hJ20; simpa [up_eq, vu_eq] using hin) dX3_begin_60 (fun J60 hJ60 => ?_)
    refine r_aload_n (j := 0) rfl rfl dX3_begin_61 ?_
    refine r_dup rfl dX3_begin_62 ?_
    refine w_getI fX3_40 rfl dX3_begin_63 ?_
    refine r_iconst (v := 1) rfl dX3_begin_66 ?_
    refine r_iadd dX3_begin_67 ?_
    refine w_putI fX3_40 rfl (rfl) (rfl) dX3_begin_68 (fun J68 hJ68 => ?_)
    refine r_aload_n (j := 0) rfl rfl dX3_begin_71 ?_
    refine w_getI fX3_40 rfl dX3_begin_72 ?_
    refine r_iconst (v := 1) rfl dX3_begin_75 ?_
    refine r_isub dX3_begin_76 ?_
    refine w_iret rfl (rfl) (Nat.le_of_ble_eq_true rfl) (Nat.le_of_ble_eq_true rfl) dX3_begin_77 ?_
    subst hJ68 hJ60 hJ50 hJ40 hJ30 hJ20
    refine ⟨?_, ?_, rfl, rfl⟩
    · simp [up_eq, vu_eq]
    · unfold begS
      simp [up_eq, vu_eq, ct]
  · exfalso; ((try simp only [bI_0, bI_1, lc_lt, lc_gt, lc_le, lc_ge, Classical.not_not] at *); (try simp only [i_lt, i_le, i_eq, l_lt, l_le, l_eq, Int32.toInt_toInt64, Int32.reduceToInt, Int64.reduceToInt] at *); omega)
/-- what a shift does -/
def dgA (I : Is) (t : Nat) (men : Int32) : Int32 := I 39 t + tdg (I 4 9) (I 4 10) (I 38 t) men
def dgD (I : Is) (t : Nat) (men : Int32) : Int32 := bdd I (dgA I t men / 10)
def dg0 (I : Is) (t : Nat) (men : Int32) : Is := up (up (up (up I 39 t (dgA I t men - dgA I t men / 10 * 10)) 36 9 (I 36 9 + dgD I t men * I 4 8)) 42 (I 37 t).toNatClampNeg (I 42 (I 37 t).toNatClampNeg + dgD I t men * I 4 5)) 40 t (I 40 t + 1)
def dgF (I : Is) (L : Ls) : Prop := 0 < I 4 11 ∧ dvl (dnx (L 44 0)) 100 < I 4 11
def dgI (I : Is) (L : Ls) (t : Nat) (men : Int32) (f : Bool) : Is := if f then up (dg0 I t men) 41 t (I 41 t + 1) else up (dg0 I t men) 38 t (I 38 t + dgD I t men)
def dgL (I : Is) (L : Ls) : Ls := if 0 < I 4 11 then up L 44 0 (dnx (L 44 0)) else L
theorem k_X3_dig {sc : Sc} {I : Is} {L : Ls} {tg tn hn : Nat} {t men : Int32} (h0 : 0 ≤ (I 3 14).toInt) (h5 : (I 3 14).toInt ≤ 5) (et : t.toInt = tn) (h3 : tn < 3) (eh : (I 37 tn).toInt = hn) (hh : hn < 5) {f : Bool} (hf : f = true ↔ dgF I L) : Con sc mX3_dig 4 0 0 [.ref 36, .ref 3, .int t, .int men] (XW I L tg) (rI (dgI I L tn men f 38 tn) (XW (dgI I L tn men f) (dgL I L) tg)) := by
  refine Con_of (by decide) (Nat.le_of_ble_eq_true rfl) ?_
  have ct := cl_of et
  have hin := up_in et h3
  have hih := up_in eh hh
  refine r_aload_n (j := 0) rfl rfl dX3_dig_0 ?_
  refine w_getR (b := 39) fX3_18 rfl rfl dX3_dig_1 ?_
  refine r_iload_n (j := 2) rfl rfl dX3_dig_4 ?_
  refine w_iald rfl (by first | assumption | (rw [vp_in_iff]; ((try simp only [bI_0, bI_1, lc_lt, lc_gt, lc_le, lc_ge, Classical.not_not] at *); (try simp only [i_lt, i_le, i_eq, l_lt, l_le, l_eq, Int32.toInt_toInt64, Int32.reduceToInt, Int64.reduceToInt] at *); omega))) dX3_dig_5 ?_
  refine r_aload_n (j := 1) rfl rfl dX3_dig_6 ?_
  refine r_aload_n (j := 0) rfl rfl dX3_dig_7 ?_
  refine w_getR (b := 38) fX3_15 rfl rfl dX3_dig_8 ?_
  refine r_iload_n (j := 2) rfl rfl dX3_dig_11 ?_
  refine w_iald rfl (by first | assumption | (rw [vp_in_iff]; ((try simp only [bI_0, bI_1, lc_lt, lc_gt, lc_le, lc_ge, Classical.not_not] at *); (try simp only [i_lt, i_le, i_eq, l_lt, l_le, l_eq, Int32.toInt_toInt64, Int32.reduceToInt, Int64.reduceToInt] at *); omega))) dX3_dig_12 ?_
  refine r_iload_n (j := 3) rfl rfl dX3_dig_13 ?_
  refine w_cV2p (k_X0_tenthsDug) (Nat.le_of_ble_eq_true rfl) lX3_63 vmX0_tenthsDug rfl (Nat.le_of_ble_eq_true rfl) (Nat.le_of_ble_eq_true rfl) (Nat.le_of_ble_eq_true rfl) dX3_dig_14 ?_
  refine r_iadd dX3_dig_17 ?_
  refine r_istore (lv' := fun z => [(4, .int z), (0, .ref 36), (1, .ref 3), (2, .int t), (3, .int men)]) dX3_dig_18 (Nat.le_of_ble_eq_true rfl) (fun _ => rfl) (fun x4_18 ex4_18 => ?_)
  have e4 : x4_18 = dgA I tn men := by rw [ex4_18, ct]; rfl
  refine r_aload_n (j := 1) rfl rfl dX3_dig_20 ?_
  refine w_getR (b := 39) fX3_18 rfl rfl dX3_dig_21 ?_
  refine r_iload_n (j := 3) rfl rfl dX3_dig_24 ?_
  refine r_iload (j := 0) rfl dX3_dig_25 ?_
  refine r_bipush (v := 10) rfl dX3_dig_27 ?_
  refine r_irem (by first | assumption | decide) dX3_dig_29 ?_
  refine w_iast rfl (by first | assumption | (rw [vp_in_iff]; ((try simp only [bI_0, bI_1, lc_lt, lc_gt, lc_le, lc_ge, Classical.not_not] at *); (try simp only [i_lt, i_le, i_eq, l_lt, l_le, l_eq, Int32.toInt_toInt64, Int32.reduceToInt, Int64.reduceToInt] at *); omega))) dX3_dig_30 (fun J30 hJ30 => ?_)
  refine r_aload_n (j := 1) rfl rfl dX3_dig_31 ?_
  refine r_aload_n (j := 2) rfl rfl dX3_dig_32 ?_
  refine r_iload (j := 0) rfl dX3_dig_33 ?_
  refine r_bipush (v := 10) rfl dX3_dig_35 ?_
  refine r_idiv (by first | assumption | decide) dX3_dig_37 ?_
  refine w_cV2p (k_X3_boarded (by subst hJ30; simpa [up_eq] using h0) (by subst hJ30; simpa [up_eq] using h5)) (Nat.le_of_ble_eq_true rfl) lX3_69 vmX3_boarded rfl (Nat.le_of_ble_eq_true rfl) (Nat.le_of_ble_eq_true rfl) (Nat.le_of_ble_eq_true rfl) dX3_dig_38 ?_
  refine r_istore (lv' := fun z => [(5, .int z), (4, .int x4_18), (0, .ref 36), (1, .ref 3), (2, .int t), (3, .int men)]) dX3_dig_41 (Nat.le_of_ble_eq_true rfl) (fun _ => rfl) (fun x5_41 ex5_41 => ?_)
  have e5 : x5_41 = dgD I tn men := by subst ex5_41 hJ30; rw [e4]; simp [dgD, bdd, bAll, up_eq]
  refine r_aload_n (j := 2) rfl rfl dX3_dig_43 ?_
  refine r_dup rfl dX3_dig_44 ?_
  refine w_getI fX3_44 rfl dX3_dig_45 ?_
  refine r_iload (j := 0) rfl dX3_dig_48 ?_
  refine r_aload_n (j := 3) rfl rfl dX3_dig_50 ?_
  refine r_bipush (v := 8) rfl dX3_dig_51 ?_
  refine w_cV1p (k_X0_setting (by decide) (by decide)) (Nat.le_of_ble_eq_true rfl) lX3_73 vmX0_setting rfl (Nat.le_of_ble_eq_true rfl) (Nat.le_of_ble_eq_true rfl) (Nat.le_of_ble_eq_true rfl) dX3_dig_53 ?_
  refine r_imul dX3_dig_56 ?_
  refine r_iadd dX3_dig_57 ?_
  refine w_putI fX3_44 rfl (rfl) (rfl) dX3_dig_58 (fun J58 hJ58 => ?_)
  refine r_aload_n (j := 2) rfl rfl dX3_dig_61 ?_
  refine w_getR (b := 42) fX3_27 rfl rfl dX3_dig_62 ?_
  refine r_aload_n (j := 2) rfl rfl dX3_dig_65 ?_
  refine w_getR (b := 37) fX3_9 rfl rfl dX3_dig_66 ?_
  refine r_iload_n (j := 4) rfl rfl dX3_dig_69 ?_
  refine w_iald rfl (by first | assumption | (rw [vp_in_iff]; ((try simp only [bI_0, bI_1, lc_lt, lc_gt, lc_le, lc_ge, Classical.not_not] at *); (try simp only [i_lt, i_le, i_eq, l_lt, l_le, l_eq, Int32.toInt_toInt64, Int32.reduceToInt, Int64.reduceToInt] at *); omega))) dX3_dig_70 ?_
  refine r_dup2 rfl rfl dX3_dig_71 ?_
  refine w_iald rfl (by subst hJ58 hJ30; simpa [up_eq, vu_eq, ct] using hih) dX3_dig_72 ?_
  refine r_iload (j := 0) rfl dX3_dig_73 ?_
  refine r_aload_n (j := 3) rfl rfl dX3_dig_75 ?_
  refine r_iconst (v := 5) rfl dX3_dig_76 ?_
  refine w_cV1p (k_X0_setting (by decide) (by decide)) (Nat.le_of_ble_eq_true rfl) lX3_73 vmX0_setting rfl (Nat.le_of_ble_eq_true rfl) (Nat.le_of_ble_eq_true rfl) (Nat.le_of_ble_eq_true rfl) dX3_dig_77 ?_
  refine r_imul dX3_dig_80 ?_
  refine r_iadd dX3_dig_81 ?_
  refine w_iast rfl (by subst hJ58 hJ30; simpa [up_eq, vu_eq, ct] using hih) dX3_dig_82 (fun J82 hJ82 => ?_)
  refine r_aload_n (j := 2) rfl rfl dX3_dig_83 ?_
  refine w_getR (b := 40) fX3_21 rfl rfl dX3_dig_84 ?_
  refine r_iload_n (j := 4) rfl rfl dX3_dig_87 ?_
  refine r_dup2 rfl rfl dX3_dig_88 ?_
  refine w_iald rfl (by first | assumption | (rw [vp_in_iff]; ((try simp only [bI_0, bI_1, lc_lt, lc_gt, lc_le, lc_ge, Classical.not_not] at *); (try simp only [i_lt, i_le, i_eq, l_lt, l_le, l_eq, Int32.toInt_toInt64, Int32.reduceToInt, Int64.reduceToInt] at *); omega))) dX3_dig_89 ?_
  refine r_iconst (v := 1) rfl dX3_dig_90 ?_
  refine r_iadd dX3_dig_91 ?_
  refine w_iast rfl (by first | assumption | (rw [vp_in_iff]; ((try simp only [bI_0, bI_1, lc_lt, lc_gt, lc_le, lc_ge, Classical.not_not] at *); (try simp only [i_lt, i_le, i_eq, l_lt, l_le, l_eq, Int32.toInt_toInt64, Int32.reduceToInt, Int64.reduceToInt] at *); omega))) dX3_dig_92 (fun J92 hJ92 => ?_)
  refine r_aload_n (j := 3) rfl rfl dX3_dig_93 ?_
  refine r_bipush (v := 11) rfl dX3_dig_94 ?_
  refine w_cV1p (k_X0_setting (by decide) (by decide)) (Nat.le_of_ble_eq_true rfl) lX3_73 vmX0_setting rfl (Nat.le_of_ble_eq_true rfl) (Nat.le_of_ble_eq_true rfl) (Nat.le_of_ble_eq_true rfl) dX3_dig_96 ?_
  refine r_istore (lv' := fun z => [(6, .int z), (5, .int x5_41), (4, .int x4_18), (0, .ref 36), (1, .ref 3), (2, .int t), (3, .int men)]) dX3_dig_99 (Nat.le_of_ble_eq_true rfl) (fun _ => rfl) (fun x6_99 ex6_99 => ?_)
  have e6 : x6_99 = I 4 11 := by subst ex6_99 hJ92 hJ82 hJ58 hJ30; simp [up_eq]
  refine r_iload (j := 0) rfl dX3_dig_101 ?_
  refine r_if_le (tgt := 133) dX3_dig_103 (by decide) (fun c103 => ?_) (fun c103 => ?_)
  · refine r_aload_n (j := 3) rfl rfl dX3_dig_133 ?_
    refine w_getR (b := 38) fX3_15 rfl rfl dX3_dig_134 ?_
    refine r_iload_n (j := 5) rfl rfl dX3_dig_137 ?_
    refine r_dup2 rfl rfl dX3_dig_138 ?_
    refine w_iald rfl (by first | assumption | (rw [vp_in_iff]; ((try simp only [bI_0, bI_1, lc_lt, lc_gt, lc_le, lc_ge, Classical.not_not] at *); (try simp only [i_lt, i_le, i_eq, l_lt, l_le, l_eq, Int32.toInt_toInt64, Int32.reduceToInt, Int64.reduceToInt] at *); omega))) dX3_dig_139 ?_
    refine r_iload (j := 1) rfl dX3_dig_140 ?_
    refine r_iadd dX3_dig_142 ?_
    refine w_iast rfl (by first | assumption | (rw [vp_in_iff]; ((try simp only [bI_0, bI_1, lc_lt, lc_gt, lc_le, lc_ge, Classical.not_not] at *); (try simp only [i_lt, i_le, i_eq, l_lt, l_le, l_eq, Int32.toInt_toInt64, Int32.reduceToInt, Int64.reduceToInt] at *); omega))) dX3_dig_143 (fun J143 hJ143 => ?_)
    refine r_aload_n (j := 3) rfl rfl dX3_dig_144 ?_
    refine w_getR (b := 38) fX3_15 rfl rfl dX3_dig_145 ?_
    refine r_iload_n (j := 5) rfl rfl dX3_dig_148 ?_
    refine w_iald rfl (by first | assumption | (rw [vp_in_iff]; ((try simp only [bI_0, bI_1, lc_lt, lc_gt, lc_le, lc_ge, Classical.not_not] at *); (try simp only [i_lt, i_le, i_eq, l_lt, l_le, l_eq, Int32.toInt_toInt64, Int32.reduceToInt, Int64.reduceToInt] at *); omega))) dX3_dig_149 ?_
    refine w_iret rfl (rfl) (Nat.le_of_ble_eq_true rfl) (Nat.le_of_ble_eq_true rfl) dX3_dig_150 ?_
    have hq : ¬ dgF I L := fun z => absurd z.1 (Int32.not_lt.mpr (e6 ▸ c103))
    have hf2 : f = false := by cases f with | false => rfl | true => exact absurd (hf.mp rfl) hq
    subst hf2
    have hL : dgL I L = L := if_neg (Int32.not_lt.mpr (e6 ▸ c103))
    subst hJ143 hJ92 hJ82 hJ58 hJ30
    refine ⟨?_, ?_, hL.symm, rfl⟩
    · simp [up_eq, vu_eq, ct, e5, e4, dgI, dg0]
    · simp [up_eq, vu_eq, ct, e5, e4, dgI, dg0]
  · refine r_aload_n (j := 3) rfl rfl dX3_dig_106 ?_
    refine w_getR (b := 44) fX3_36 rfl rfl dX3_dig_107 ?_
    refine r_bipush (v := 100) rfl dX3_dig_110 ?_
    refine w_cV1s (k_X1_draw rfl (by decide)) (Nat.le_of_ble_eq_true rfl) lX3_77 vmX1_draw rfl (Nat.le_of_ble_eq_true rfl) (Nat.le_of_ble_eq_true rfl) (Nat.le_of_ble_eq_true rfl) dX3_dig_112 (fun J112 K112 hJ112 hK112 => ?_)
    subst hK112
    refine r_iload (j := 0) rfl dX3_dig_115 ?_
    refine r_icmp_ge (tgt := 133) dX3_dig_117 (by decide) (fun c117 => ?_) (fun c117 => ?_)
    · refine r_aload_n (j := 3) rfl rfl dX3_dig_133 ?_
      refine w_getR (b := 38) fX3_15 rfl rfl dX3_dig_134 ?_
      refine r_iload_n (j := 5) rfl rfl dX3_dig_137 ?_
      refine r_dup2 rfl rfl dX3_dig_138 ?_
      refine w_iald rfl (by first | assumption | (rw [vp_in_iff]; ((try simp only [bI_0, bI_1, lc_lt, lc_gt, lc_le, lc_ge, Classical.not_not] at *); (try simp only [i_lt, i_le, i_eq, l_lt, l_le, l_eq, Int32.toInt_toInt64, Int32.reduceToInt, Int64.reduceToInt] at *); omega))) dX3_dig_139 ?_
      refine r_iload (j := 1) rfl dX3_dig_140 ?_
      refine r_iadd dX3_dig_142 ?_
      refine w_iast rfl (by first | assumption | (rw [vp_in_iff]; ((try simp only [bI_0, bI_1, lc_lt, lc_gt, lc_le, lc_ge, Classical.not_not] at *); (try simp only [i_lt, i_le, i_eq, l_lt, l_le, l_eq, Int32.toInt_toInt64, Int32.reduceToInt, Int64.reduceToInt] at *); omega))) dX3_dig_143 (fun J143 hJ143 => ?_)
      refine r_aload_n (j := 3) rfl rfl dX3_dig_144 ?_
      refine w_getR (b := 38) fX3_15 rfl rfl dX3_dig_145 ?_
      refine r_iload_n (j := 5) rfl rfl dX3_dig_148 ?_
      refine w_iald rfl (by first | assumption | (rw [vp_in_iff]; ((try simp only [bI_0, bI_1, lc_lt, lc_gt, lc_le, lc_ge, Classical.not_not] at *); (try simp only [i_lt, i_le, i_eq, l_lt, l_le, l_eq, Int32.toInt_toInt64, Int32.reduceToInt, Int64.reduceToInt] at *); omega))) dX3_dig_149 ?_
      refine w_iret rfl (rfl) (Nat.le_of_ble_eq_true rfl) (Nat.le_of_ble_eq_true rfl) dX3_dig_150 ?_
      have hp : 0 < I 4 11 := e6 ▸ Int32.not_le.mp c103
      have hq : ¬ dgF I L := fun z => absurd z.2 (Int32.not_lt.mpr (e6 ▸ c117))
      have hf2 : f = false := by cases f with | false => rfl | true => exact absurd (hf.mp rfl) hq
      subst hf2
      have hL : dgL I L = up L 44 0 (dnx (L 44 0)) := if_pos hp
      subst hJ143 hJ112 hJ92 hJ82 hJ58 hJ30
      refine ⟨?_, ?_, hL.symm, rfl⟩
      · simp [up_eq, vu_eq, ct, e5, e4, dgI, dg0]
      · simp [up_eq, vu_eq, ct, e5, e4, dgI, dg0]
    · refine r_aload_n (j := 3) rfl rfl dX3_dig_120 ?_
      refine w_getR (b := 41) fX3_24 rfl rfl dX3_dig_121 ?_
      refine r_iload_n (j := 5) rfl rfl dX3_dig_124 ?_
      refine r_dup2 rfl rfl dX3_dig_125 ?_
      refine w_iald rfl (by first | assumption | (rw [vp_in_iff]; ((try simp only [bI_0, bI_1, lc_lt, lc_gt, lc_le, lc_ge, Classical.not_not] at *); (try simp only [i_lt, i_le, i_eq, l_lt, l_le, l_eq, Int32.toInt_toInt64, Int32.reduceToInt, Int64.reduceToInt] at *); omega))) dX3_dig_126 ?_
      refine r_iconst (v := 1) rfl dX3_dig_127 ?_
      refine r_iadd dX3_dig_128 ?_
      refine w_iast rfl (by first | assumption | (rw [vp_in_iff]; ((try simp only [bI_0, bI_1, lc_lt, lc_gt, lc_le, lc_ge, Classical.not_not] at *); (try simp only [i_lt, i_le, i_eq, l_lt, l_le, l_eq, Int32.toInt_toInt64, Int32.reduceToInt, Int64.reduceToInt] at *); omega))) dX3_dig_129 (fun J129 hJ129 => ?_)
      refine r_goto (tgt := 144) dX3_dig_130 (by decide) ?_
      refine r_aload_n (j := 3) rfl rfl dX3_dig_144 ?_
      refine w_getR (b := 38) fX3_15 rfl rfl dX3_dig_145 ?_
      refine r_iload_n (j := 5) rfl rfl dX3_dig_148 ?_
      refine w_iald rfl (by first | assumption | (rw [vp_in_iff]; ((try simp only [bI_0, bI_1, lc_lt, lc_gt, lc_le, lc_ge, Classical.not_not] at *); (try simp only [i_lt, i_le, i_eq, l_lt, l_le, l_eq, Int32.toInt_toInt64, Int32.reduceToInt, Int64.reduceToInt] at *); omega))) dX3_dig_149 ?_
      refine w_iret rfl (rfl) (Nat.le_of_ble_eq_true rfl) (Nat.le_of_ble_eq_true rfl) dX3_dig_150 ?_
      have hp : 0 < I 4 11 := e6 ▸ Int32.not_le.mp c103
      have hq : dgF I L := ⟨hp, e6 ▸ Int32.not_le.mp c117⟩
      have hf2 : f = true := hf.mpr hq
      subst hf2
      have hL : dgL I L = up L 44 0 (dnx (L 44 0)) := if_pos hp
      subst hJ129 hJ112 hJ92 hJ82 hJ58 hJ30
      refine ⟨?_, ?_, hL.symm, rfl⟩
      · simp [up_eq, vu_eq, ct, e5, e4, dgI, dg0]
      · simp [up_eq, vu_eq, ct, e5, e4, dgI, dg0]
def otS (I : Is) (t : Nat) (w : Int32) : Int32 := if w = 0 then I 37 t else if w = 1 then I 38 t else if w = 2 then I 39 t else if w = 3 then I 40 t else if w = 4 then I 41 t else if w = 5 then pmp (I 4 9) (I 38 t) else -2
theorem k_X3_ofTunnel {sc : Sc} {I : Is} {L : Ls} {tg tn : Nat} {t w : Int32} (et : t.toInt = tn) (h3 : tn < 3) : Con sc mX3_ofTunnel 1 0 0 [.ref 36, .ref 3, .int t, .int w] (XW I L tg) (rI (otS I tn w) (XW I L tg)) := by
  refine Con_of (by decide) (Nat.le_of_ble_eq_true rfl) ?_
  have ct := cl_of et
  have hin := up_in et h3
  refine r_iload_n (j := 3) rfl rfl dX3_ofTunnel_0 ?_
  refine w_tab (tgtD := 86) dX3_ofTunnel_1 (by decide) (fun c1 => ?_) (fun i c1 l1 => ?_)
  · refine r_bipush (v := (-2)) rfl dX3_ofTunnel_86 ?_
    refine w_iret rfl (rfl) (Nat.le_of_ble_eq_true rfl) (Nat.le_of_ble_eq_true rfl) dX3_ofTunnel_88 ?_
    exact ⟨by unfold otS; rw [if_neg (by ((try simp only [bI_0, bI_1, lc_lt, lc_gt, lc_le, lc_ge, Classical.not_not] at *); (try simp only [i_lt, i_le, i_eq, l_lt, l_le, l_eq, Int32.toInt_toInt64, Int32.reduceToInt, Int64.reduceToInt] at *); omega)), if_neg (by ((try simp only [bI_0, bI_1, lc_lt, lc_gt, lc_le, lc_ge, Classical.not_not] at *); (try simp only [i_lt, i_le, i_eq, l_lt, l_le, l_eq, Int32.toInt_toInt64, Int32.reduceToInt, Int64.reduceToInt] at *); omega)), if_neg (by ((try simp only [bI_0, bI_1, lc_lt, lc_gt, lc_le, lc_ge, Classical.not_not] at *); (try simp only [i_lt, i_le, i_eq, l_lt, l_le, l_eq, Int32.toInt_toInt64, Int32.reduceToInt, Int64.reduceToInt] at *); omega)), if_neg (by ((try simp only [bI_0, bI_1, lc_lt, lc_gt, lc_le, lc_ge, Classical.not_not] at *); (try simp only [i_lt, i_le, i_eq, l_lt, l_le, l_eq, Int32.toInt_toInt64, Int32.reduceToInt, Int64.reduceToInt] at *); omega)), if_neg (by ((try simp only [bI_0, bI_1, lc_lt, lc_gt, lc_le, lc_ge, Classical.not_not] at *); (try simp only [i_lt, i_le, i_eq, l_lt, l_le, l_eq, Int32.toInt_toInt64, Int32.reduceToInt, Int64.reduceToInt] at *); omega)), if_neg (by ((try simp only [bI_0, bI_1, lc_lt, lc_gt, lc_le, lc_ge, Classical.not_not] at *); (try simp only [i_lt, i_le, i_eq, l_lt, l_le, l_eq, Int32.toInt_toInt64, Int32.reduceToInt, Int64.reduceToInt] at *); omega))], rfl, rfl, rfl⟩
  · rcases (show i = 0 ∨ i = 1 ∨ i = 2 ∨ i = 3 ∨ i = 4 ∨ i = 5 by omega) with rfl | rfl | rfl | rfl | rfl | rfl
    · refine ⟨39, 40, rfl, by decide, ?_⟩
      refine r_aload_n (j := 0) rfl rfl dX3_ofTunnel_40 ?_
      refine w_getR (b := 37) fX3_9 rfl rfl dX3_ofTunnel_41 ?_
      refine r_iload_n (j := 2) rfl rfl dX3_ofTunnel_44 ?_
      refine w_iald rfl (by first | assumption | (rw [vp_in_iff]; ((try simp only [bI_0, bI_1, lc_lt, lc_gt, lc_le, lc_ge, Classical.not_not] at *); (try simp only [i_lt, i_le, i_eq, l_lt, l_le, l_eq, Int32.toInt_toInt64, Int32.reduceToInt, Int64.reduceToInt] at *); omega))) dX3_ofTunnel_45 ?_
      refine w_iret rfl (rfl) (Nat.le_of_ble_eq_true rfl) (Nat.le_of_ble_eq_true rfl) dX3_ofTunnel_46 ?_
      exact ⟨by unfold otS; rw [ct, if_pos (by ((try simp only [bI_0, bI_1, lc_lt, lc_gt, lc_le, lc_ge, Classical.not_not] at *); (try simp only [i_lt, i_le, i_eq, l_lt, l_le, l_eq, Int32.toInt_toInt64, Int32.reduceToInt, Int64.reduceToInt] at *); omega))], rfl, rfl, rfl⟩
    · refine ⟨46, 47, rfl, by decide, ?_⟩
      refine r_aload_n (j := 0) rfl rfl dX3_ofTunnel_47 ?_
      refine w_getR (b := 38) fX3_15 rfl rfl dX3_ofTunnel_48 ?_
      refine r_iload_n (j := 2) rfl rfl dX3_ofTunnel_51 ?_
      refine w_iald rfl (by first | assumption | (rw [vp_in_iff]; ((try simp only [bI_0, bI_1, lc_lt, lc_gt, lc_le, lc_ge, Classical.not_not] at *); (try simp only [i_lt, i_le, i_eq, l_lt, l_le, l_eq, Int32.toInt_toInt64, Int32.reduceToInt, Int64.reduceToInt] at *); omega))) dX3_ofTunnel_52 ?_
      refine w_iret rfl (rfl) (Nat.le_of_ble_eq_true rfl) (Nat.le_of_ble_eq_true rfl) dX3_ofTunnel_53 ?_
      exact ⟨by unfold otS; rw [ct, if_neg (by ((try simp only [bI_0, bI_1, lc_lt, lc_gt, lc_le, lc_ge, Classical.not_not] at *); (try simp only [i_lt, i_le, i_eq, l_lt, l_le, l_eq, Int32.toInt_toInt64, Int32.reduceToInt, Int64.reduceToInt] at *); omega)), if_pos (by ((try simp only [bI_0, bI_1, lc_lt, lc_gt, lc_le, lc_ge, Classical.not_not] at *); (try simp only [i_lt, i_le, i_eq, l_lt, l_le, l_eq, Int32.toInt_toInt64, Int32.reduceToInt, Int64.reduceToInt] at *); omega))], rfl, rfl, rfl⟩
    · refine ⟨53, 54, rfl, by decide, ?_⟩
      refine r_aload_n (j := 0) rfl rfl dX3_ofTunnel_54 ?_
      refine w_getR (b := 39) fX3_18 rfl rfl dX3_ofTunnel_55 ?_
      refine r_iload_n (j := 2) rfl rfl dX3_ofTunnel_58 ?_
      refine w_iald rfl (by first | assumption | (rw [vp_in_iff]; ((try simp only [bI_0, bI_1, lc_lt, lc_gt, lc_le, lc_ge, Classical.not_not] at *); (try simp only [i_lt, i_le, i_eq, l_lt, l_le, l_eq, Int32.toInt_toInt64, Int32.reduceToInt, Int64.reduceToInt] at *); omega))) dX3_ofTunnel_59 ?_
      refine w_iret rfl (rfl) (Nat.le_of_ble_eq_true rfl) (Nat.le_of_ble_eq_true rfl) dX3_ofTunnel_60 ?_
      exact ⟨by unfold otS; rw [ct, if_neg (by ((try simp only [bI_0, bI_1, lc_lt, lc_gt, lc_le, lc_ge, Classical.not_not] at *); (try simp only [i_lt, i_le, i_eq, l_lt, l_le, l_eq, Int32.toInt_toInt64, Int32.reduceToInt, Int64.reduceToInt] at *); omega)), if_neg (by ((try simp only [bI_0, bI_1, lc_lt, lc_gt, lc_le, lc_ge, Classical.not_not] at *); (try simp only [i_lt, i_le, i_eq, l_lt, l_le, l_eq, Int32.toInt_toInt64, Int32.reduceToInt, Int64.reduceToInt] at *); omega)), if_pos (by ((try simp only [bI_0, bI_1, lc_lt, lc_gt, lc_le, lc_ge, Classical.not_not] at *); (try simp only [i_lt, i_le, i_eq, l_lt, l_le, l_eq, Int32.toInt_toInt64, Int32.reduceToInt, Int64.reduceToInt] at *); omega))], rfl, rfl, rfl⟩
    · refine ⟨60, 61, rfl, by decide, ?_⟩
      refine r_aload_n (j := 0) rfl rfl dX3_ofTunnel_61 ?_
      refine w_getR (b := 40) fX3_21 rfl rfl dX3_ofTunnel_62 ?_
      refine r_iload_n (j := 2) rfl rfl dX3_ofTunnel_65 ?_
      refine w_iald rfl (by first | assumption | (rw [vp_in_iff]; ((try simp only [bI_0, bI_1, lc_lt, lc_gt, lc_le, lc_ge, Classical.not_not] at *); (try simp only [i_lt, i_le, i_eq, l_lt, l_le, l_eq, Int32.toInt_toInt64, Int32.reduceToInt, Int64.reduceToInt] at *); omega))) dX3_ofTunnel_66 ?_
      refine w_iret rfl (rfl) (Nat.le_of_ble_eq_true rfl) (Nat.le_of_ble_eq_true rfl) dX3_ofTunnel_67 ?_
      exact ⟨by unfold otS; rw [ct, if_neg (by ((try simp only [bI_0, bI_1, lc_lt, lc_gt, lc_le, lc_ge, Classical.not_not] at *); (try simp only [i_lt, i_le, i_eq, l_lt, l_le, l_eq, Int32.toInt_toInt64, Int32.reduceToInt, Int64.reduceToInt] at *); omega)), if_neg (by ((try simp only [bI_0, bI_1, lc_lt, lc_gt, lc_le, lc_ge, Classical.not_not] at *); (try simp only [i_lt, i_le, i_eq, l_lt, l_le, l_eq, Int32.toInt_toInt64, Int32.reduceToInt, Int64.reduceToInt] at *); omega)), if_neg (by ((try simp only [bI_0, bI_1, lc_lt, lc_gt, lc_le, lc_ge, Classical.not_not] at *); (try simp only [i_lt, i_le, i_eq, l_lt, l_le, l_eq, Int32.toInt_toInt64, Int32.reduceToInt, Int64.reduceToInt] at *); omega)), if_pos (by ((try simp only [bI_0, bI_1, lc_lt, lc_gt, lc_le, lc_ge, Classical.not_not] at *); (try simp only [i_lt, i_le, i_eq, l_lt, l_le, l_eq, Int32.toInt_toInt64, Int32.reduceToInt, Int64.reduceToInt] at *); omega))], rfl, rfl, rfl⟩
    · refine ⟨67, 68, rfl, by decide, ?_⟩
      refine r_aload_n (j := 0) rfl rfl dX3_ofTunnel_68 ?_
      refine w_getR (b := 41) fX3_24 rfl rfl dX3_ofTunnel_69 ?_
      refine r_iload_n (j := 2) rfl rfl dX3_ofTunnel_72 ?_
      refine w_iald rfl (by first | assumption | (rw [vp_in_iff]; ((try simp only [bI_0, bI_1, lc_lt, lc_gt, lc_le, lc_ge, Classical.not_not] at *); (try simp only [i_lt, i_le, i_eq, l_lt, l_le, l_eq, Int32.toInt_toInt64, Int32.reduceToInt, Int64.reduceToInt] at *); omega))) dX3_ofTunnel_73 ?_
      refine w_iret rfl (rfl) (Nat.le_of_ble_eq_true rfl) (Nat.le_of_ble_eq_true rfl) dX3_ofTunnel_74 ?_
      exact ⟨by unfold otS; rw [ct, if_neg (by ((try simp only [bI_0, bI_1, lc_lt, lc_gt, lc_le, lc_ge, Classical.not_not] at *); (try simp only [i_lt, i_le, i_eq, l_lt, l_le, l_eq, Int32.toInt_toInt64, Int32.reduceToInt, Int64.reduceToInt] at *); omega)), if_neg (by ((try simp only [bI_0, bI_1, lc_lt, lc_gt, lc_le, lc_ge, Classical.not_not] at *); (try simp only [i_lt, i_le, i_eq, l_lt, l_le, l_eq, Int32.toInt_toInt64, Int32.reduceToInt, Int64.reduceToInt] at *); omega)), if_neg (by ((try simp only [bI_0, bI_1, lc_lt, lc_gt, lc_le, lc_ge, Classical.not_not] at *); (try simp only [i_lt, i_le, i_eq, l_lt, l_le, l_eq, Int32.toInt_toInt64, Int32.reduceToInt, Int64.reduceToInt] at *); omega)), if_neg (by ((try simp only [bI_0, bI_1, lc_lt, lc_gt, lc_le, lc_ge, Classical.not_not] at *); (try simp only [i_lt, i_le, i_eq, l_lt, l_le, l_eq, Int32.toInt_toInt64, Int32.reduceToInt, Int64.reduceToInt] at *); omega)), if_pos (by ((try simp only [bI_0, bI_1, lc_lt, lc_gt, lc_le, lc_ge, Classical.not_not] at *); (try simp only [i_lt, i_le, i_eq, l_lt, l_le, l_eq, Int32.toInt_toInt64, Int32.reduceToInt, Int64.reduceToInt] at *); omega))], rfl, rfl, rfl⟩
    · refine ⟨74, 75, rfl, by decide, ?_⟩
      refine r_aload_n (j := 1) rfl rfl dX3_ofTunnel_75 ?_
      refine r_aload_n (j := 0) rfl rfl dX3_ofTunnel_76 ?_
      refine w_getR (b := 38) fX3_15 rfl rfl dX3_ofTunnel_77 ?_
      refine r_iload_n (j := 2) rfl rfl dX3_ofTunnel_80 ?_
      refine w_iald rfl (by first | assumption | (rw [vp_in_iff]; ((try simp only [bI_0, bI_1, lc_lt, lc_gt, lc_le, lc_ge, Classical.not_not] at *); (try simp only [i_lt, i_le, i_eq, l_lt, l_le, l_eq, Int32.toInt_toInt64, Int32.reduceToInt, Int64.reduceToInt] at *); omega))) dX3_ofTunnel_81 ?_
      refine w_cV1p (k_X0_pumpMen) (Nat.le_of_ble_eq_true rfl) lX3_93 vmX0_pumpMen rfl (Nat.le_of_ble_eq_true rfl) (Nat.le_of_ble_eq_true rfl) (Nat.le_of_ble_eq_true rfl) dX3_ofTunnel_82 ?_
      refine w_iret rfl (rfl) (Nat.le_of_ble_eq_true rfl) (Nat.le_of_ble_eq_true rfl) dX3_ofTunnel_85 ?_
      exact ⟨by unfold otS; rw [ct, if_neg (by ((try simp only [bI_0, bI_1, lc_lt, lc_gt, lc_le, lc_ge, Classical.not_not] at *); (try simp only [i_lt, i_le, i_eq, l_lt, l_le, l_eq, Int32.toInt_toInt64, Int32.reduceToInt, Int64.reduceToInt] at *); omega)), if_neg (by ((try simp only [bI_0, bI_1, lc_lt, lc_gt, lc_le, lc_ge, Classical.not_not] at *); (try simp only [i_lt, i_le, i_eq, l_lt, l_le, l_eq, Int32.toInt_toInt64, Int32.reduceToInt, Int64.reduceToInt] at *); omega)), if_neg (by ((try simp only [bI_0, bI_1, lc_lt, lc_gt, lc_le, lc_ge, Classical.not_not] at *); (try simp only [i_lt, i_le, i_eq, l_lt, l_le, l_eq, Int32.toInt_toInt64, Int32.reduceToInt, Int64.reduceToInt] at *); omega)), if_neg (by ((try simp only [bI_0, bI_1, lc_lt, lc_gt, lc_le, lc_ge, Classical.not_not] at *); (try simp only [i_lt, i_le, i_eq, l_lt, l_le, l_eq, Int32.toInt_toInt64, Int32.reduceToInt, Int64.reduceToInt] at *); omega)), if_neg (by ((try simp only [bI_0, bI_1, lc_lt, lc_gt, lc_le, lc_ge, Classical.not_not] at *); (try simp only [i_lt, i_le, i_eq, l_lt, l_le, l_eq, Int32.toInt_toInt64, Int32.reduceToInt, Int64.reduceToInt] at *); omega)), if_pos (by ((try simp only [bI_0, bI_1, lc_lt, lc_gt, lc_le, lc_ge, Classical.not_not] at *); (try simp only [i_lt, i_le, i_eq, l_lt, l_le, l_eq, Int32.toInt_toInt64, Int32.reduceToInt, Int64.reduceToInt] at *); omega))], rfl, rfl, rfl⟩
theorem l_X3_allFeet {sc : Sc} {I : Is} {L : Ls} {tg N : Nat} (hN : (I 36 8).toInt = N) (h5 : N ≤ 3) : ∀ n i : Nat, i + n = N → ∀ a x : Int32, a = sm (I 38) i → x.toInt = i → RR sc mX3_allFeet 0 0 0 (rI (sm (I 38) N) (XW I L tg)) 0 0 4 [(2, .int x), (1, .int a), (0, .ref 36)] [] (XW I L tg) := by
  intro n
  induction n with
  | zero =>
    intro i hi a x ea hx
    refine r_iload_n (j := 0) rfl rfl dX3_allFeet_4 ?_
    refine r_aload_n (j := 2) rfl rfl dX3_allFeet_5 ?_
    refine w_getI fX3_40 rfl dX3_allFeet_6 ?_
    refine r_icmp_ge (tgt := 27) dX3_allFeet_9 (by decide) (fun c9 => ?_) (fun c9 => ?_)
    · refine r_iload_n (j := 1) rfl rfl dX3_allFeet_27 ?_
      refine w_iret rfl (rfl) (Nat.le_of_ble_eq_true rfl) (Nat.le_of_ble_eq_true rfl) dX3_allFeet_28 ?_
      exact ⟨by rw [ea, show i = N by omega], rfl, rfl, rfl⟩
    · exfalso; ((try simp only [bI_0, bI_1, lc_lt, lc_gt, lc_le, lc_ge, Classical.not_not] at *); (try simp only [i_lt, i_le, i_eq, l_lt, l_le, l_eq, Int32.toInt_toInt64, Int32.reduceToInt, Int64.reduceToInt] at *); omega)
  | succ n ih =>
    intro i hi a x ea hx
    refine r_iload_n (j := 0) rfl rfl dX3_allFeet_4 ?_
    refine r_aload_n (j := 2) rfl rfl dX3_allFeet_5 ?_
    refine w_getI fX3_40 rfl dX3_allFeet_6 ?_
    refine r_icmp_ge (tgt := 27) dX3_allFeet_9 (by decide) (fun c9 => ?_) (fun c9 => ?_)
    · exfalso; ((try simp only [bI_0, bI_1, lc_lt, lc_gt, lc_le, lc_ge, Classical.not_not] at *); (try simp only [i_lt, i_le, i_eq, l_lt, l_le, l_eq, Int32.toInt_toInt64, Int32.reduceToInt, Int64.reduceToInt] at *); omega)
    · refine r_iload_n (j := 1) rfl rfl dX3_allFeet_12 ?_
      refine r_aload_n (j := 2) rfl rfl dX3_allFeet_13 ?_
      refine w_getR (b := 38) fX3_15 rfl rfl dX3_allFeet_14 ?_
      refine r_iload_n (j := 0) rfl rfl dX3_allFeet_17 ?_
      refine w_iald rfl (by first | assumption | (rw [vp_in_iff]; ((try simp only [bI_0, bI_1, lc_lt, lc_gt, lc_le, lc_ge, Classical.not_not] at *); (try simp only [i_lt, i_le, i_eq, l_lt, l_le, l_eq, Int32.toInt_toInt64, Int32.reduceToInt, Int64.reduceToInt] at *); omega))) dX3_allFeet_18 ?_
      refine r_iadd dX3_allFeet_19 ?_
      refine r_istore_n (lv' := fun z => [(1, .int z), (2, .int x), (0, .ref 36)]) dX3_allFeet_20 rfl (Nat.le_of_ble_eq_true rfl) (fun _ => rfl) (fun x1_20 ex1_20 => ?_)
      refine r_iinc (j := 1) (lv' := fun z => [(2, .int z), (1, .int x1_20), (0, .ref 36)]) dX3_allFeet_21 rfl (Nat.le_of_ble_eq_true rfl) (fun _ => rfl) (fun x2_21 ex2_21 => ?_)
      refine r_goto (tgt := 4) dX3_allFeet_24 (by decide) ?_
      exact ih (i + 1) (by omega) _ _ (by rw [ex1_20, ea, cl_of hx]; rfl) (by rw [ex2_21]; exact i_inc hx (by omega))
theorem k_X3_allFeet {sc : Sc} {I : Is} {L : Ls} {tg : Nat} (h0 : 0 ≤ (I 36 8).toInt) (h5 : (I 36 8).toInt ≤ 3) : Con sc mX3_allFeet 0 0 0 [.ref 36] (XW I L tg) (rI (sm (I 38) (nN (I 36 8))) (XW I L tg)) := by
  refine Con_of (by decide) (Nat.le_of_ble_eq_true rfl) ?_
  have hN := nN_of h0
  refine r_iconst (v := 0) rfl dX3_allFeet_0 ?_
  refine r_istore_n (lv' := fun z => [(1, .int z), (0, .ref 36)]) dX3_allFeet_1 rfl (Nat.le_of_ble_eq_true rfl) (fun _ => rfl) (fun x1_1 ex1_1 => ?_)
  refine r_iconst (v := 0) rfl dX3_allFeet_2 ?_
  refine r_istore_n (lv' := fun z => [(2, .int z), (1, .int x1_1), (0, .ref 36)]) dX3_allFeet_3 rfl (Nat.le_of_ble_eq_true rfl) (fun _ => rfl) (fun x2_3 ex2_3 => ?_)
  exact l_X3_allFeet hN (by omega) _ 0 (Nat.zero_add _) _ _ ex1_1 (by rw [ex2_3]; rfl)
theorem k_X3_roomLeft {sc : Sc} {I : Is} {L : Ls} {tg gn : Nat} {g : Int32} (eg : g.toInt = gn) (g4 : gn < 4) : Con sc mX3_roomLeft 0 0 0 [.ref 36, .ref 3, .int g] (XW I L tg) (rI (I 15 gn - I 43 gn) (XW I L tg)) := by
  refine Con_of (by decide) (Nat.le_of_ble_eq_true rfl) ?_
  have cg := cl_of eg
  refine r_aload_n (j := 1) rfl rfl dX3_roomLeft_0 ?_
  refine w_getR (b := 15) fX3_103 rfl rfl dX3_roomLeft_1 ?_
  refine r_iload_n (j := 2) rfl rfl dX3_roomLeft_4 ?_
  refine w_iald rfl (by first | assumption | (rw [vp_in_iff]; ((try simp only [bI_0, bI_1, lc_lt, lc_gt, lc_le, lc_ge, Classical.not_not] at *); (try simp only [i_lt, i_le, i_eq, l_lt, l_le, l_eq, Int32.toInt_toInt64, Int32.reduceToInt, Int64.reduceToInt] at *); omega))) dX3_roomLeft_5 ?_
  refine r_aload_n (j := 0) rfl rfl dX3_roomLeft_6 ?_
  refine w_getR (b := 43) fX3_30 rfl rfl dX3_roomLeft_7 ?_
  refine r_iload_n (j := 2) rfl rfl dX3_roomLeft_10 ?_
  refine w_iald rfl (by first | assumption | (rw [vp_in_iff]; ((try simp only [bI_0, bI_1, lc_lt, lc_gt, lc_le, lc_ge, Classical.not_not] at *); (try simp only [i_lt, i_le, i_eq, l_lt, l_le, l_eq, Int32.toInt_toInt64, Int32.reduceToInt, Int64.reduceToInt] at *); omega))) dX3_roomLeft_11 ?_
  refine r_isub dX3_roomLeft_12 ?_
  refine w_iret rfl (rfl) (Nat.le_of_ble_eq_true rfl) (Nat.le_of_ble_eq_true rfl) dX3_roomLeft_13 ?_
  exact ⟨by rw [cg], rfl, rfl, rfl⟩
def wkC (I : Is) (h g : Nat) (n : Int32) : Prop := iAbs (I 13 g - I 7 h) + I 8 h ≤ I 4 7 ∧ n ≤ I 42 h ∧ n ≤ I 15 g - I 43 g
def wkI (I : Is) (h g : Nat) (n : Int32) : Is := up (up I 42 h (I 42 h - n)) 43 g (I 43 g + n)
theorem k_X3_walkOut_y {sc : Sc} {I : Is} {L : Ls} {tg hn gn : Nat} {h g n : Int32} (eh : h.toInt = hn) (eg : g.toInt = gn) (h5 : hn < 5) (g4 : gn < 4) (hc : wkC I hn gn n) : Con sc mX3_walkOut 2 0 0 [.ref 36, .ref 3, .int h, .int g, .int n] (XW I L tg) (rI (I 42 hn - n) (XW (wkI I hn gn n) L tg)) := by
  refine Con_of (by decide) (Nat.le_of_ble_eq_true rfl) ?_
  have cg := cl_of eg
  have ch := cl_of eh
  have hih := up_in eh h5
  have hig := up_in eg g4
  refine r_aload_n (j := 1) rfl rfl dX3_walkOut_0 ?_
  refine r_iload_n (j := 2) rfl rfl dX3_walkOut_1 ?_
  refine r_iload_n (j := 3) rfl rfl dX3_walkOut_2 ?_
  refine w_cV2p (k_X0_isInReach eh eg h5 g4) (Nat.le_of_ble_eq_true rfl) lX3_96 vmX0_isInReach rfl (Nat.le_of_ble_eq_true rfl) (Nat.le_of_ble_eq_true rfl) (Nat.le_of_ble_eq_true rfl) dX3_walkOut_3 ?_
  refine r_if_eq (tgt := 31) dX3_walkOut_6 (by decide) (fun c6 => ?_) (fun c6 => ?_)
  · exact absurd hc.1 (bI_0.mp c6)
  · refine r_aload_n (j := 0) rfl rfl dX3_walkOut_9 ?_
    refine w_getR (b := 42) fX3_27 rfl rfl dX3_walkOut_10 ?_
    refine r_iload_n (j := 2) rfl rfl dX3_walkOut_13 ?_
    refine w_iald rfl (by first | assumption | (rw [vp_in_iff]; ((try simp only [bI_0, bI_1, lc_lt, lc_gt, lc_le, lc_ge, Classical.not_not] at *); (try simp only [i_lt, i_le, i_eq, l_lt, l_le, l_eq, Int32.toInt_toInt64, Int32.reduceToInt, Int64.reduceToInt] at *); omega))) dX3_walkOut_14 ?_
    refine r_iload (j := 4) rfl dX3_walkOut_15 ?_
    refine r_icmp_lt (tgt := 31) dX3_walkOut_17 (by decide) (fun c17 => ?_) (fun c17 => ?_)
    · rw [ch] at c17; exact absurd hc.2.1 (Int32.not_le.mpr c17)
    · refine r_aload_n (j := 0) rfl rfl dX3_walkOut_20 ?_
      refine r_aload_n (j := 1) rfl rfl dX3_walkOut_21 ?_
      refine r_iload_n (j := 3) rfl rfl dX3_walkOut_22 ?_
      refine w_cV2p (k_X3_roomLeft eg g4) (Nat.le_of_ble_eq_true rfl) lX3_100 vmX3_roomLeft rfl (Nat.le_of_ble_eq_true rfl) (Nat.le_of_ble_eq_true rfl) (Nat.le_of_ble_eq_true rfl) dX3_walkOut_23 ?_
      refine r_iload (j := 4) rfl dX3_walkOut_26 ?_
      refine r_icmp_ge (tgt := 34) dX3_walkOut_28 (by decide) (fun c28 => ?_) (fun c28 => ?_)
      · refine r_aload_n (j := 0) rfl rfl dX3_walkOut_34 ?_
        refine w_getR (b := 42) fX3_27 rfl rfl dX3_walkOut_35 ?_
        refine r_iload_n (j := 2) rfl rfl dX3_walkOut_38 ?_
        refine r_dup2 rfl rfl dX3_walkOut_39 ?_
        refine w_iald rfl (by first | assumption | (rw [vp_in_iff]; ((try simp only [bI_0, bI_1, lc_lt, lc_gt, lc_le, lc_ge, Classical.not_not] at *); (try simp only [i_lt, i_le, i_eq, l_lt, l_le, l_eq, Int32.toInt_toInt64, Int32.reduceToInt, Int64.reduceToInt] at *); omega))) dX3_walkOut_40 ?_
        refine r_iload (j := 4) rfl dX3_walkOut_41 ?_
        refine r_isub dX3_walkOut_43 ?_
        refine w_iast rfl (by first | assumption | (rw [vp_in_iff]; ((try simp only [bI_0, bI_1, lc_lt, lc_gt, lc_le, lc_ge, Classical.not_not] at *); (try simp only [i_lt, i_le, i_eq, l_lt, l_le, l_eq, Int32.toInt_toInt64, Int32.reduceToInt, Int64.reduceToInt] at *); omega))) dX3_walkOut_44 (fun J44 hJ44 => ?_)
        refine r_aload_n (j := 0) rfl rfl dX3_walkOut_45 ?_
        refine w_getR (b := 43) fX3_30 rfl rfl dX3_walkOut_46 ?_
        refine r_iload_n (j := 3) rfl rfl dX3_walkOut_49 ?_
        refine r_dup2 rfl rfl dX3_walkOut_50 ?_
        refine w_iald rfl (by first | assumption | (rw [vp_in_iff]; ((try simp only [bI_0, bI_1, lc_lt, lc_gt, lc_le, lc_ge, Classical.not_not] at *); (try simp only [i_lt, i_le, i_eq, l_lt, l_le, l_eq, Int32.toInt_toInt64, Int32.reduceToInt, Int64.reduceToInt] at *); omega))) dX3_walkOut_51 ?_
        refine r_iload (j := 4) rfl dX3_walkOut_52 ?_
        refine r_iadd dX3_walkOut_54 ?_
        refine w_iast rfl (by first | assumption | (rw [vp_in_iff]; ((try simp only [bI_0, bI_1, lc_lt, lc_gt, lc_le, lc_ge, Classical.not_not] at *); (try simp only [i_lt, i_le, i_eq, l_lt, l_le, l_eq, Int32.toInt_toInt64, Int32.reduceToInt, Int64.reduceToInt] at *); omega))) dX3_walkOut_55 (fun J55 hJ55 => ?_)
        refine r_aload_n (j := 0) rfl rfl dX3_walkOut_56 ?_
        refine w_getR (b := 42) fX3_27 rfl rfl dX3_walkOut_57 ?_
        refine r_iload_n (j := 2) rfl rfl dX3_walkOut_60 ?_
        refine w_iald rfl (by first | assumption | (rw [vp_in_iff]; ((try simp only [bI_0, bI_1, lc_lt, lc_gt, lc_le, lc_ge, Classical.not_not] at *); (try simp only [i_lt, i_le, i_eq, l_lt, l_le, l_eq, Int32.toInt_toInt64, Int32.reduceToInt, Int64.reduceToInt] at *); omega))) dX3_walkOut_61 ?_
        refine w_iret rfl (rfl) (Nat.le_of_ble_eq_true rfl) (Nat.le_of_ble_eq_true rfl) dX3_walkOut_62 ?_
        subst hJ55 hJ44; exact ⟨by simp [up_eq, vu_eq, ch], by simp [up_eq, vu_eq, ch, cg, wkI], rfl, rfl⟩
      · exact absurd hc.2.2 c28
theorem k_X3_walkOut_n {sc : Sc} {I : Is} {L : Ls} {tg hn gn : Nat} {h g n : Int32} (eh : h.toInt = hn) (eg : g.toInt = gn) (h5 : hn < 5) (g4 : gn < 4) (hc : ¬ wkC I hn gn n) : Con sc mX3_walkOut 2 0 0 [.ref 36, .ref 3, .int h, .int g, .int n] (XW I L tg) (rI (-4) (XW I L tg)) := by
  refine Con_of (by decide) (Nat.le_of_ble_eq_true rfl) ?_
  have cg := cl_of eg
  have ch := cl_of eh
  have hih := up_in eh h5
  have hig := up_in eg g4
  refine r_aload_n (j := 1) rfl rfl dX3_walkOut_0 ?_
  refine r_iload_n (j := 2) rfl rfl dX3_walkOut_1 ?_
  refine r_iload_n (j := 3) rfl rfl dX3_walkOut_2 ?_
  refine w_cV2p (k_X0_isInReach eh eg h5 g4) (Nat.le_of_ble_eq_true rfl) lX3_96 vmX0_isInReach rfl (Nat.le_of_ble_eq_true rfl) (Nat.le_of_ble_eq_true rfl) (Nat.le_of_ble_eq_true rfl) dX3_walkOut_3 ?_
  refine r_if_eq (tgt := 31) dX3_walkOut_6 (by decide) (fun c6 => ?_) (fun c6 => ?_)
  · refine r_bipush (v := (-4)) rfl dX3_walkOut_31 ?_
    refine w_iret rfl (rfl) (Nat.le_of_ble_eq_true rfl) (Nat.le_of_ble_eq_true rfl) dX3_walkOut_33 ?_
    exact ⟨rfl, rfl, rfl, rfl⟩
  · refine r_aload_n (j := 0) rfl rfl dX3_walkOut_9 ?_
    refine w_getR (b := 42) fX3_27 rfl rfl dX3_walkOut_10 ?_
    refine r_iload_n (j := 2) rfl rfl dX3_walkOut_13 ?_
    refine w_iald rfl (by first | assumption | (rw [vp_in_iff]; ((try simp only [bI_0, bI_1, lc_lt, lc_gt, lc_le, lc_ge, Classical.not_not] at *); (try simp only [i_lt, i_le, i_eq, l_lt, l_le, l_eq, Int32.toInt_toInt64, Int32.reduceToInt, Int64.reduceToInt] at *); omega))) dX3_walkOut_14 ?_
    refine r_iload (j := 4) rfl dX3_walkOut_15 ?_
    refine r_icmp_lt (tgt := 31) dX3_walkOut_17 (by decide) (fun c17 => ?_) (fun c17 => ?_)
    · refine r_bipush (v := (-4)) rfl dX3_walkOut_31 ?_
      refine w_iret rfl (rfl) (Nat.le_of_ble_eq_true rfl) (Nat.le_of_ble_eq_true rfl) dX3_walkOut_33 ?_
      exact ⟨rfl, rfl, rfl, rfl⟩
    · refine r_aload_n (j := 0) rfl rfl dX3_walkOut_20 ?_
      refine r_aload_n (j := 1) rfl rfl dX3_walkOut_21 ?_
      refine r_iload_n (j := 3) rfl rfl dX3_walkOut_22 ?_
      refine w_cV2p (k_X3_roomLeft eg g4) (Nat.le_of_ble_eq_true rfl) lX3_100 vmX3_roomLeft rfl (Nat.le_of_ble_eq_true rfl) (Nat.le_of_ble_eq_true rfl) (Nat.le_of_ble_eq_true rfl) dX3_walkOut_23 ?_
      refine r_iload (j := 4) rfl dX3_walkOut_26 ?_
      refine r_icmp_ge (tgt := 34) dX3_walkOut_28 (by decide) (fun c28 => ?_) (fun c28 => ?_)
      · rw [ch] at c17; exact absurd ⟨bI_1.mp c6, Int32.not_lt.mp c17, c28⟩ hc
      · refine r_bipush (v := (-4)) rfl dX3_walkOut_31 ?_
        refine w_iret rfl (rfl) (Nat.le_of_ble_eq_true rfl) (Nat.le_of_ble_eq_true rfl) dX3_walkOut_33 ?_
        exact ⟨rfl, rfl, rfl, rfl⟩
/-- a row filled -/
def fillr (f : Nat → Int32) (n : Nat) (v : Int32) : Nat → Int32 := fun j => if j < n then v else f j
theorem l_J7_fill {sc : Sc} {I0 : Is} {L : Ls} {tg a N : Nat} {v : Int32} (ha : SHW a = (50, N)) (hN : N ≤ 1000) : ∀ n i : Nat, i + n = N → ∀ (I : Is) (x : Int32), I = upr I0 a (fillr (I0 a) i v) → x.toInt = i → RR sc mJ7_fill_53178 0 0 0 (rV (XW (upr I0 a (fillr (I0 a) N v)) L tg)) 0 0 5 [(3, .int (Int32.ofNat N)), (2, .int x), (0, .ref a), (1, .int v)] [] (XW I L tg) := by
  have hz : (Int32.ofNat N).toInt = (N : Int) := nI_toInt (n := N) (by omega)
  intro n
  induction n with
  | zero =>
    intro i hi I x eI hx
    refine r_iload_n (j := 1) rfl rfl dJ7_fill_53178_5 ?_
    refine r_iload_n (j := 0) rfl rfl dJ7_fill_53178_6 ?_
    refine r_icmp_ge (tgt := 20) dJ7_fill_53178_7 (by decide) (fun c7 => ?_) (fun c7 => ?_)
    · refine w_vret rfl (Nat.le_of_ble_eq_true rfl) (Nat.le_of_ble_eq_true rfl) dJ7_fill_53178_20 ?_
      exact ⟨by rw [eI, show i = N by omega], rfl, rfl⟩
    · exfalso; ((try simp only [bI_0, bI_1, lc_lt, lc_gt, lc_le, lc_ge, Classical.not_not] at *); (try simp only [i_lt, i_le, i_eq, l_lt, l_le, l_eq, Int32.toInt_toInt64, Int32.reduceToInt, Int64.reduceToInt] at *); omega)
  | succ n ih =>
    intro i hi I x eI hx
    refine r_iload_n (j := 1) rfl rfl dJ7_fill_53178_5 ?_
    refine r_iload_n (j := 0) rfl rfl dJ7_fill_53178_6 ?_
    refine r_icmp_ge (tgt := 20) dJ7_fill_53178_7 (by decide) (fun c7 => ?_) (fun c7 => ?_)
    · exfalso; ((try simp only [bI_0, bI_1, lc_lt, lc_gt, lc_le, lc_ge, Classical.not_not] at *); (try simp only [i_lt, i_le, i_eq, l_lt, l_le, l_eq, Int32.toInt_toInt64, Int32.reduceToInt, Int64.reduceToInt] at *); omega)
    · refine r_aload_n (j := 2) rfl rfl dJ7_fill_53178_10 ?_
      refine r_iload_n (j := 1) rfl rfl dJ7_fill_53178_11 ?_
      refine r_iload_n (j := 3) rfl rfl dJ7_fill_53178_12 ?_
      refine w_iast ha (up_in hx (by omega)) dJ7_fill_53178_13 (fun J13 hJ13 => ?_)
      refine r_iinc (j := 1) (lv' := fun z => [(2, .int z), (3, .int (Int32.ofNat N)), (0, .ref a), (1, .int v)]) dJ7_fill_53178_14 rfl (Nat.le_of_ble_eq_true rfl) (fun _ => rfl) (fun x2_14 ex2_14 => ?_)
      refine r_goto (tgt := 5) dJ7_fill_53178_17 (by decide) ?_
      refine r_lvs [(3, .int (Int32.ofNat N)), (2, .int x2_14), (0, .ref a), (1, .int v)] [1, 0, 2, 3] rfl ?_
      refine ih (i + 1) (by omega) _ _ ?_ (by rw [ex2_14]; exact i_inc hx (by omega))
      rw [hJ13, eI, cl_of hx]
      funext b j
      by_cases hb : b = a
      · subst hb
        simp only [up_eq, upr_eq, if_true, vu_eq, fillr]
        by_cases hj : j = i
        · subst hj; simp
        · rw [if_neg hj]
          by_cases h2 : j < i
          · rw [if_pos h2, if_pos (by omega)]
          · rw [if_neg h2, if_neg (by omega)]
      · rw [up_n _ _ _ hb, upr_n _ _ hb, upr_n _ _ hb]
theorem k_J7_fill_53178 {sc : Sc} {I : Is} {L : Ls} {tg a N : Nat} {v : Int32} (ha : SHW a = (50, N)) (hN : N ≤ 1000) : Con sc mJ7_fill_53178 0 0 0 [.ref a, .int v] (XW I L tg) (rV (XW (upr I a (fillr (I a) N v)) L tg)) := by
  refine Con_of (by decide) (Nat.le_of_ble_eq_true rfl) ?_
  refine r_iconst (v := 0) rfl dJ7_fill_53178_0 ?_
  refine r_istore_n (lv' := fun z => [(2, .int z), (0, .ref a), (1, .int v)]) dJ7_fill_53178_1 rfl (Nat.le_of_ble_eq_true rfl) (fun _ => rfl) (fun x2_1 ex2_1 => ?_)
  refine r_aload_n (j := 1) rfl rfl dJ7_fill_53178_2 ?_
  refine w_alen50 ha dJ7_fill_53178_3 ?_
  refine r_istore_n (lv' := fun z => [(3, .int z), (2, .int x2_1), (0, .ref a), (1, .int v)]) dJ7_fill_53178_4 rfl (Nat.le_of_ble_eq_true rfl) (fun _ => rfl) (fun x3_4 ex3_4 => ?_)
  subst ex3_4
  refine l_J7_fill ha hN N 0 (Nat.zero_add _) _ _ ?_ (by rw [ex2_1]; rfl)
  funext b j
  by_cases hb : b = a
  · subst hb; simp [upr_eq, fillr]
  · rw [upr_n _ _ hb]
