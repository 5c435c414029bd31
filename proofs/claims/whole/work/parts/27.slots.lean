/-! digging: slots; what the camp class answers -/
theorem cpy_prf (f g : Nat → Int32) (n : Nat) : va_cpy f g 0 0 n = prf f n g := by
  funext j
  simp [va_cpy, prf]
theorem cl3 : (3 : Int32).toNatClampNeg = 3 := rfl
theorem cl4 : (4 : Int32).toNatClampNeg = 4 := rfl
theorem cl5 : (5 : Int32).toNatClampNeg = 5 := rfl
theorem cl0 : (0 : Int32).toNatClampNeg = 0 := rfl
/-- Digging D becomes as Digging S -/
def cpI (I : Is) (D S : Nat) : Is := up (up (upr (upr (upr (upr (upr (upr (upr I (D + 1) (prf (I (S + 1)) 3 (I (D + 1)))) (D + 2) (prf (I (S + 2)) 3 (I (D + 2)))) (D + 3) (prf (I (S + 3)) 3 (I (D + 3)))) (D + 4) (prf (I (S + 4)) 3 (I (D + 4)))) (D + 5) (prf (I (S + 5)) 3 (I (D + 5)))) (D + 6) (prf (I (S + 6)) 5 (I (D + 6)))) (D + 7) (prf (I (S + 7)) 4 (I (D + 7)))) D 8 (I S 8)) D 9 (I S 9)
def cpL (L : Ls) (D S : Nat) : Ls := up L (D + 8) 0 (L (S + 8) 0)
theorem k_X3_copyFrom_46_36 {sc : Sc} {I : Is} {L : Ls} {tg : Nat} : Con sc mX3_copyFrom 1 0 0 [.ref 46, .ref 36] (XW I L tg) (rV (XW (cpI I 46 36) (cpL L 46 36) tg)) := by
  refine Con_of (by decide) (Nat.le_of_ble_eq_true rfl) ?_
  refine r_aload_n (j := 1) rfl rfl dX3_copyFrom_0 ?_
  refine w_getR (b := 37) fX3_9 rfl rfl dX3_copyFrom_1 ?_
  refine r_iconst (v := 0) rfl dX3_copyFrom_4 ?_
  refine r_aload_n (j := 0) rfl rfl dX3_copyFrom_5 ?_
  refine w_getR (b := 47) fX3_9 rfl rfl dX3_copyFrom_6 ?_
  refine r_iconst (v := 0) rfl dX3_copyFrom_9 ?_
  refine r_iconst (v := 3) rfl dX3_copyFrom_10 ?_
  refine w_copy rfl rfl (by decide +kernel) (by decide +kernel) (by decide +kernel) (by decide +kernel) (by decide +kernel) aX3_53 (Nat.le_of_ble_eq_true rfl) (Nat.le_of_ble_eq_true rfl) dX3_copyFrom_11 (fun J11 hJ11 => ?_)
  refine r_aload_n (j := 1) rfl rfl dX3_copyFrom_14 ?_
  refine w_getR (b := 38) fX3_15 rfl rfl dX3_copyFrom_15 ?_
  refine r_iconst (v := 0) rfl dX3_copyFrom_18 ?_
  refine r_aload_n (j := 0) rfl rfl dX3_copyFrom_19 ?_
  refine w_getR (b := 48) fX3_15 rfl rfl dX3_copyFrom_20 ?_
  refine r_iconst (v := 0) rfl dX3_copyFrom_23 ?_
  refine r_iconst (v := 3) rfl dX3_copyFrom_24 ?_
  refine w_copy rfl rfl (by decide +kernel) (by decide +kernel) (by decide +kernel) (by decide +kernel) (by decide +kernel) aX3_53 (Nat.le_of_ble_eq_true rfl) (Nat.le_of_ble_eq_true rfl) dX3_copyFrom_25 (fun J25 hJ25 => ?_)
  refine r_aload_n (j := 1) rfl rfl dX3_copyFrom_28 ?_
  refine w_getR (b := 39) fX3_18 rfl rfl dX3_copyFrom_29 ?_
  refine r_iconst (v := 0) rfl dX3_copyFrom_32 ?_
  refine r_aload_n (j := 0) rfl rfl dX3_copyFrom_33 ?_
  refine w_getR (b := 49) fX3_18 rfl rfl dX3_copyFrom_34 ?_
  refine r_iconst (v := 0) rfl dX3_copyFrom_37 ?_
  refine r_iconst (v := 3) rfl dX3_copyFrom_38 ?_
  refine w_copy rfl rfl (by decide +kernel) (by decide +kernel) (by decide +kernel) (by decide +kernel) (by decide +kernel) aX3_53 (Nat.le_of_ble_eq_true rfl) (Nat.le_of_ble_eq_true rfl) dX3_copyFrom_39 (fun J39 hJ39 => ?_)
  refine r_aload_n (j := 1) rfl rfl dX3_copyFrom_42 ?_
  refine w_getR (b := 40) fX3_21 rfl rfl dX3_copyFrom_43 ?_
  refine r_iconst (v := 0) rfl dX3_copyFrom_46 ?_
  refine r_aload_n (j := 0) rfl rfl dX3_copyFrom_47 ?_
  refine w_getR (b := 50) fX3_21 rfl rfl dX3_copyFrom_48 ?_
  refine r_iconst (v := 0) rfl dX3_copyFrom_51 ?_
  refine r_iconst (v := 3) rfl dX3_copyFrom_52 ?_
  refine w_copy rfl rfl (by decide +kernel) (by decide +kernel) (by decide +kernel) (by decide +kernel) (by decide +kernel) aX3_53 (Nat.le_of_ble_eq_true rfl) (Nat.le_of_ble_eq_true rfl) dX3_copyFrom_53 (fun J53 hJ53 => ?_)
  refine r_aload_n (j := 1) rfl rfl dX3_copyFrom_56 ?_
  refine w_getR (b := 41) fX3_24 rfl rfl dX3_copyFrom_57 ?_
  refine r_iconst (v := 0) rfl dX3_copyFrom_60 ?_
  refine r_aload_n (j := 0) rfl rfl dX3_copyFrom_61 ?_
  refine w_getR (b := 51) fX3_24 rfl rfl dX3_copyFrom_62 ?_
  refine r_iconst (v := 0) rfl dX3_copyFrom_65 ?_
  refine r_iconst (v := 3) rfl dX3_copyFrom_66 ?_
  refine w_copy rfl rfl (by decide +kernel) (by decide +kernel) (by decide +kernel) (by decide +kernel) (by decide +kernel) aX3_53 (Nat.le_of_ble_eq_true rfl) (Nat.le_of_ble_eq_true rfl) dX3_copyFrom_67 (fun J67 hJ67 => ?_)
  refine r_aload_n (j := 1) rfl rfl dX3_copyFrom_70 ?_
  refine w_getR (b := 42) fX3_27 rfl rfl dX3_copyFrom_71 ?_
  refine r_iconst (v := 0) rfl dX3_copyFrom_74 ?_
  refine r_aload_n (j := 0) rfl rfl dX3_copyFrom_75 ?_
  refine w_getR (b := 52) fX3_27 rfl rfl dX3_copyFrom_76 ?_
  refine r_iconst (v := 0) rfl dX3_copyFrom_79 ?_
  refine r_iconst (v := 5) rfl dX3_copyFrom_80 ?_
  refine w_copy rfl rfl (by decide +kernel) (by decide +kernel) (by decide +kernel) (by decide +kernel) (by decide +kernel) aX3_53 (Nat.le_of_ble_eq_true rfl) (Nat.le_of_ble_eq_true rfl) dX3_copyFrom_81 (fun J81 hJ81 => ?_)
  refine r_aload_n (j := 1) rfl rfl dX3_copyFrom_84 ?_
  refine w_getR (b := 43) fX3_30 rfl rfl dX3_copyFrom_85 ?_
  refine r_iconst (v := 0) rfl dX3_copyFrom_88 ?_
  refine r_aload_n (j := 0) rfl rfl dX3_copyFrom_89 ?_
  refine w_getR (b := 53) fX3_30 rfl rfl dX3_copyFrom_90 ?_
  refine r_iconst (v := 0) rfl dX3_copyFrom_93 ?_
  refine r_iconst (v := 4) rfl dX3_copyFrom_94 ?_
  refine w_copy rfl rfl (by decide +kernel) (by decide +kernel) (by decide +kernel) (by decide +kernel) (by decide +kernel) aX3_53 (Nat.le_of_ble_eq_true rfl) (Nat.le_of_ble_eq_true rfl) dX3_copyFrom_95 (fun J95 hJ95 => ?_)
  refine r_aload_n (j := 0) rfl rfl dX3_copyFrom_98 ?_
  refine w_getR (b := 54) fX3_36 rfl rfl dX3_copyFrom_99 ?_
  refine r_aload_n (j := 1) rfl rfl dX3_copyFrom_102 ?_
  refine w_getR (b := 44) fX3_36 rfl rfl dX3_copyFrom_103 ?_
  refine w_getL fX3_59 rfl dX3_copyFrom_106 ?_
  refine w_putL fX3_59 rfl (rfl) (rfl) dX3_copyFrom_109 (fun J109 hJ109 => ?_)
  refine r_aload_n (j := 0) rfl rfl dX3_copyFrom_112 ?_
  refine r_aload_n (j := 1) rfl rfl dX3_copyFrom_113 ?_
  refine w_getI fX3_40 rfl dX3_copyFrom_114 ?_
  refine w_putI fX3_40 rfl (rfl) (rfl) dX3_copyFrom_117 (fun J117 hJ117 => ?_)
  refine r_aload_n (j := 0) rfl rfl dX3_copyFrom_120 ?_
  refine r_aload_n (j := 1) rfl rfl dX3_copyFrom_121 ?_
  refine w_getI fX3_44 rfl dX3_copyFrom_122 ?_
  refine w_putI fX3_44 rfl (rfl) (rfl) dX3_copyFrom_125 (fun J125 hJ125 => ?_)
  refine w_vret rfl (Nat.le_of_ble_eq_true rfl) (Nat.le_of_ble_eq_true rfl) dX3_copyFrom_128 ?_
  subst hJ125 hJ117 hJ109 hJ95 hJ81 hJ67 hJ53 hJ39 hJ25 hJ11
  refine ⟨?_, rfl, rfl⟩
  simp [cl0, cl3, cl4, cl5, cpy_prf, cpI, upr_eq, up_eq, vu_eq]
theorem k_X3_copyFrom_55_36 {sc : Sc} {I : Is} {L : Ls} {tg : Nat} : Con sc mX3_copyFrom 1 0 0 [.ref 55, .ref 36] (XW I L tg) (rV (XW (cpI I 55 36) (cpL L 55 36) tg)) := by
  refine Con_of (by decide) (Nat.le_of_ble_eq_true rfl) ?_
  refine r_aload_n (j := 1) rfl rfl dX3_copyFrom_0 ?_
  refine w_getR (b := 37) fX3_9 rfl rfl dX3_copyFrom_1 ?_
  refine r_iconst (v := 0) rfl dX3_copyFrom_4 ?_
  refine r_aload_n (j := 0) rfl rfl dX3_copyFrom_5 ?_
  refine w_getR (b := 56) fX3_9 rfl rfl dX3_copyFrom_6 ?_
  refine r_iconst (v := 0) rfl dX3_copyFrom_9 ?_
  refine r_iconst (v := 3) rfl dX3_copyFrom_10 ?_
  refine w_copy rfl rfl (by decide +kernel) (by decide +kernel) (by decide +kernel) (by decide +kernel) (by decide +kernel) aX3_53 (Nat.le_of_ble_eq_true rfl) (Nat.le_of_ble_eq_true rfl) dX3_copyFrom_11 (fun J11 hJ11 => ?_)
  refine r_aload_n (j := 1) rfl rfl dX3_copyFrom_14 ?_
  refine w_getR (b := 38) fX3_15 rfl rfl dX3_copyFrom_15 ?_
  refine r_iconst (v := 0) rfl dX3_copyFrom_18 ?_
  refine r_aload_n (j := 0) rfl rfl dX3_copyFrom_19 ?_
  refine w_getR (b := 57) fX3_15 rfl rfl dX3_copyFrom_20 ?_
  refine r_iconst (v := 0) rfl dX3_copyFrom_23 ?_
  refine r_iconst (v := 3) rfl dX3_copyFrom_24 ?_
  refine w_copy rfl rfl (by decide +kernel) (by decide +kernel) (by decide +kernel) (by decide +kernel) (by decide +kernel) aX3_53 (Nat.le_of_ble_eq_true rfl) (Nat.le_of_ble_eq_true rfl) dX3_copyFrom_25 (fun J25 hJ25 => ?_)
  refine r_aload_n (j := 1) rfl rfl dX3_copyFrom_28 ?_
  refine w_getR (b := 39) fX3_18 rfl rfl dX3_copyFrom_29 ?_
  refine r_iconst (v := 0) rfl dX3_copyFrom_32 ?_
  refine r_aload_n (j := 0) rfl rfl dX3_copyFrom_33 ?_
  refine w_getR (b := 58) fX3_18 rfl rfl dX3_copyFrom_34 ?_
  refine r_iconst (v := 0) rfl dX3_copyFrom_37 ?_
  refine r_iconst (v := 3) rfl dX3_copyFrom_38 ?_
  refine w_copy rfl rfl (by decide +kernel) (by decide +kernel) (by decide +kernel) (by decide +kernel) (by decide +kernel) aX3_53 (Nat.le_of_ble_eq_true rfl) (Nat.le_of_ble_eq_true rfl) dX3_copyFrom_39 (fun J39 hJ39 => ?_)
  refine r_aload_n (j := 1) rfl rfl dX3_copyFrom_42 ?_
  refine w_getR (b := 40) fX3_21 rfl rfl dX3_copyFrom_43 ?_
  refine r_iconst (v := 0) rfl dX3_copyFrom_46 ?_
  refine r_aload_n (j := 0) rfl rfl dX3_copyFrom_47 ?_
  refine w_getR (b := 59) fX3_21 rfl rfl dX3_copyFrom_48 ?_
  refine r_iconst (v := 0) rfl dX3_copyFrom_51 ?_
  refine r_iconst (v := 3) rfl dX3_copyFrom_52 ?_
  refine w_copy rfl rfl (by decide +kernel) (by decide +kernel) (by decide +kernel) (by decide +kernel) (by decide +kernel) aX3_53 (Nat.le_of_ble_eq_true rfl) (Nat.le_of_ble_eq_true rfl) dX3_copyFrom_53 (fun J53 hJ53 => ?_)
  refine r_aload_n (j := 1) rfl rfl dX3_copyFrom_56 ?_
  refine w_getR (b := 41) fX3_24 rfl rfl dX3_copyFrom_57 ?_
  refine r_iconst (v := 0) rfl dX3_copyFrom_60 ?_
  refine r_aload_n (j := 0) rfl rfl dX3_copyFrom_61 ?_
  refine w_getR (b := 60) fX3_24 rfl rfl dX3_copyFrom_62 ?_
  refine r_iconst (v := 0) rfl dX3_copyFrom_65 ?_
  refine r_iconst (v := 3) rfl dX3_copyFrom_66 ?_
  refine w_copy rfl rfl (by decide +kernel) (by decide +kernel) (by decide +kernel) (by decide +kernel) (by decide +kernel) aX3_53 (Nat.le_of_ble_eq_true rfl) (Nat.le_of_ble_eq_true rfl) dX3_copyFrom_67 (fun J67 hJ67 => ?_)
  refine r_aload_n (j := 1) rfl rfl dX3_copyFrom_70 ?_
  refine w_getR (b := 42) fX3_27 rfl rfl dX3_copyFrom_71 ?_
  refine r_iconst (v := 0) rfl dX3_copyFrom_74 ?_
  refine r_aload_n (j := 0) rfl rfl dX3_copyFrom_75 ?_
  refine w_getR (b := 61) fX3_27 rfl rfl dX3_copyFrom_76 ?_
  refine r_iconst (v := 0) rfl dX3_copyFrom_79 ?_
  refine r_iconst (v := 5) rfl dX3_copyFrom_80 ?_
  refine w_copy rfl rfl (by decide +kernel) (by decide +kernel) (by decide +kernel) (by decide +kernel) (by decide +kernel) aX3_53 (Nat.le_of_ble_eq_true rfl) (Nat.le_of_ble_eq_true rfl) dX3_copyFrom_81 (fun J81 hJ81 => ?_)
  refine r_aload_n (j := 1) rfl rfl dX3_copyFrom_84 ?_
  refine w_getR (b := 43) fX3_30 rfl rfl dX3_copyFrom_85 ?_
  refine r_iconst (v := 0) rfl dX3_copyFrom_88 ?_
  refine r_aload_n (j := 0) rfl rfl dX3_copyFrom_89 ?_
  refine w_getR (b := 62) fX3_30 rfl rfl dX3_copyFrom_90 ?_
  refine r_iconst (v := 0) rfl dX3_copyFrom_93 ?_
  refine r_iconst (v := 4) rfl dX3_copyFrom_94 ?_
  refine w_copy rfl rfl (by decide +kernel) (by decide +kernel) (by decide +kernel) (by decide +kernel) (by decide +kernel) aX3_53 (Nat.le_of_ble_eq_true rfl) (Nat.le_of_ble_eq_true rfl) dX3_copyFrom_95 (fun J95 hJ95 => ?_)
  refine r_aload_n (j := 0) rfl rfl dX3_copyFrom_98 ?_
  refine w_getR (b := 63) fX3_36 rfl rfl dX3_copyFrom_99 ?_
  refine r_aload_n (j := 1) rfl rfl dX3_copyFrom_102 ?_
  refine w_getR (b := 44) fX3_36 rfl rfl dX3_copyFrom_103 ?_
  refine w_getL fX3_59 rfl dX3_copyFrom_106 ?_
  refine w_putL fX3_59 rfl (rfl) (rfl) dX3_copyFrom_109 (fun J109 hJ109 => ?_)
  refine r_aload_n (j := 0) rfl rfl dX3_copyFrom_112 ?_
  refine r_aload_n (j := 1) rfl rfl dX3_copyFrom_113 ?_
  refine w_getI fX3_40 rfl dX3_copyFrom_114 ?_
  refine w_putI fX3_40 rfl (rfl) (rfl) dX3_copyFrom_117 (fun J117 hJ117 => ?_)
  refine r_aload_n (j := 0) rfl rfl dX3_copyFrom_120 ?_
  refine r_aload_n (j := 1) rfl rfl dX3_copyFrom_121 ?_
  refine w_getI fX3_44 rfl dX3_copyFrom_122 ?_
  refine w_putI fX3_44 rfl (rfl) (rfl) dX3_copyFrom_125 (fun J125 hJ125 => ?_)
  refine w_vret rfl (Nat.le_of_ble_eq_true rfl) (Nat.le_of_ble_eq_true rfl) dX3_copyFrom_128 ?_
  subst hJ125 hJ117 hJ109 hJ95 hJ81 hJ67 hJ53 hJ39 hJ25 hJ11
  refine ⟨?_, rfl, rfl⟩
  simp [cl0, cl3, cl4, cl5, cpy_prf, cpI, upr_eq, up_eq, vu_eq]
theorem k_X3_copyFrom_36_46 {sc : Sc} {I : Is} {L : Ls} {tg : Nat} : Con sc mX3_copyFrom 1 0 0 [.ref 36, .ref 46] (XW I L tg) (rV (XW (cpI I 36 46) (cpL L 36 46) tg)) := by
  refine Con_of (by decide) (Nat.le_of_ble_eq_true rfl) ?_
  refine r_aload_n (j := 1) rfl rfl dX3_copyFrom_0 ?_
  refine w_getR (b := 47) fX3_9 rfl rfl dX3_copyFrom_1 ?_
  refine r_iconst (v := 0) rfl dX3_copyFrom_4 ?_
  refine r_aload_n (j := 0) rfl rfl dX3_copyFrom_5 ?_
  refine w_getR (b := 37) fX3_9 rfl rfl dX3_copyFrom_6 ?_
  refine r_iconst (v := 0) rfl dX3_copyFrom_9 ?_
  refine r_iconst (v := 3) rfl dX3_copyFrom_10 ?_
  refine w_copy rfl rfl (by decide +kernel) (by decide +kernel) (by decide +kernel) (by decide +kernel) (by decide +kernel) aX3_53 (Nat.le_of_ble_eq_true rfl) (Nat.le_of_ble_eq_true rfl) dX3_copyFrom_11 (fun J11 hJ11 => ?_)
  refine r_aload_n (j := 1) rfl rfl dX3_copyFrom_14 ?_
  refine w_getR (b := 48) fX3_15 rfl rfl dX3_copyFrom_15 ?_
  refine r_iconst (v := 0) rfl dX3_copyFrom_18 ?_
  refine r_aload_n (j := 0) rfl rfl dX3_copyFrom_19 ?_
  refine w_getR (b := 38) fX3_15 rfl rfl dX3_copyFrom_20 ?_
  refine r_iconst (v := 0) rfl dX3_copyFrom_23 ?_
  refine r_iconst (v := 3) rfl dX3_copyFrom_24 ?_
  refine w_copy rfl rfl (by decide +kernel) (by decide +kernel) (by decide +kernel) (by decide +kernel) (by decide +kernel) aX3_53 (Nat.le_of_ble_eq_true rfl) (Nat.le_of_ble_eq_true rfl) dX3_copyFrom_25 (fun J25 hJ25 => ?_)
  refine r_aload_n (j := 1) rfl rfl dX3_copyFrom_28 ?_
  refine w_getR (b := 49) fX3_18 rfl rfl dX3_copyFrom_29 ?_
  refine r_iconst (v := 0) rfl dX3_copyFrom_32 ?_
  refine r_aload_n (j := 0) rfl rfl dX3_copyFrom_33 ?_
  refine w_getR (b := 39) fX3_18 rfl rfl dX3_copyFrom_34 ?_
  refine r_iconst (v := 0) rfl dX3_copyFrom_37 ?_
  refine r_iconst (v := 3) rfl dX3_copyFrom_38 ?_
  refine w_copy rfl rfl (by decide +kernel) (by decide +kernel) (by decide +kernel) (by decide +kernel) (by decide +kernel) aX3_53 (Nat.le_of_ble_eq_true rfl) (Nat.le_of_ble_eq_true rfl) dX3_copyFrom_39 (fun J39 hJ39 => ?_)
  refine r_aload_n (j := 1) rfl rfl dX3_copyFrom_42 ?_
  refine w_getR (b := 50) fX3_21 rfl rfl dX3_copyFrom_43 ?_
  refine r_iconst (v := 0) rfl dX3_copyFrom_46 ?_
  refine r_aload_n (j := 0) rfl rfl dX3_copyFrom_47 ?_
  refine w_getR (b := 40) fX3_21 rfl rfl dX3_copyFrom_48 ?_
  refine r_iconst (v := 0) rfl dX3_copyFrom_51 ?_
  refine r_iconst (v := 3) rfl dX3_copyFrom_52 ?_
  refine w_copy rfl rfl (by decide +kernel) (by decide +kernel) (by decide +kernel) (by decide +kernel) (by decide +kernel) aX3_53 (Nat.le_of_ble_eq_true rfl) (Nat.le_of_ble_eq_true rfl) dX3_copyFrom_53 (fun J53 hJ53 => ?_)
  refine r_aload_n (j := 1) rfl rfl dX3_copyFrom_56 ?_
  refine w_getR (b := 51) fX3_24 rfl rfl dX3_copyFrom_57 ?_
  refine r_iconst (v := 0) rfl dX3_copyFrom_60 ?_
  refine r_aload_n (j := 0) rfl rfl dX3_copyFrom_61 ?_
  refine w_getR (b := 41) fX3_24 rfl rfl dX3_copyFrom_62 ?_
  refine r_iconst (v := 0) rfl dX3_copyFrom_65 ?_
  refine r_iconst (v := 3) rfl dX3_copyFrom_66 ?_
  refine w_copy rfl rfl (by decide +kernel) (by decide +kernel) (by decide +kernel) (by decide +kernel) (by decide +kernel) aX3_53 (Nat.le_of_ble_eq_true rfl) (Nat.le_of_ble_eq_true rfl) dX3_copyFrom_67 (fun J67 hJ67 => ?_)
  refine r_aload_n (j := 1) rfl rfl dX3_copyFrom_70 ?_
  refine w_getR (b := 52) fX3_27 rfl rfl dX3_copyFrom_71 ?_
  refine r_iconst (v := 0) rfl dX3_copyFrom_74 ?_
  refine r_aload_n (j := 0) rfl rfl dX3_copyFrom_75 ?_
  refine w_getR (b := 42) fX3_27 rfl rfl dX3_copyFrom_76 ?_
  refine r_iconst (v := 0) rfl dX3_copyFrom_79 ?_
  refine r_iconst (v := 5) rfl dX3_copyFrom_80 ?_
  refine w_copy rfl rfl (by decide +kernel) (by decide +kernel) (by decide +kernel) (by decide +kernel) (by decide +kernel) aX3_53 (Nat.le_of_ble_eq_true rfl) (Nat.le_of_ble_eq_true rfl) dX3_copyFrom_81 (fun J81 hJ81 => ?_)
  refine r_aload_n (j := 1) rfl rfl dX3_copyFrom_84 ?_
  refine w_getR (b := 53) fX3_30 rfl rfl dX3_copyFrom_85 ?_
  refine r_iconst (v := 0) rfl dX3_copyFrom_88 ?_
  refine r_aload_n (j := 0) rfl rfl dX3_copyFrom_89 ?_
  refine w_getR (b := 43) fX3_30 rfl rfl dX3_copyFrom_90 ?_
  refine r_iconst (v := 0) rfl dX3_copyFrom_93 ?_
  refine r_iconst (v := 4) rfl dX3_copyFrom_94 ?_
  refine w_copy rfl rfl (by decide +kernel) (by decide +kernel) (by decide +kernel) (by decide +kernel) (by decide +kernel) aX3_53 (Nat.le_of_ble_eq_true rfl) (Nat.le_of_ble_eq_true rfl) dX3_copyFrom_95 (fun J95 hJ95 => ?_)
  refine r_aload_n (j := 0) rfl rfl dX3_copyFrom_98 ?_
  refine w_getR (b := 44) fX3_36 rfl rfl dX3_copyFrom_99 ?_
  refine r_aload_n (j := 1) rfl rfl dX3_copyFrom_102 ?_
  refine w_getR (b := 54) fX3_36 rfl rfl dX3_copyFrom_103 ?_
  refine w_getL fX3_59 rfl dX3_copyFrom_106 ?_
  refine w_putL fX3_59 rfl (rfl) (rfl) dX3_copyFrom_109 (fun J109 hJ109 => ?_)
  refine r_aload_n (j := 0) rfl rfl dX3_copyFrom_112 ?_
  refine r_aload_n (j := 1) rfl rfl dX3_copyFrom_113 ?_
  refine w_getI fX3_40 rfl dX3_copyFrom_114 ?_
  refine w_putI fX3_40 rfl (rfl) (rfl) dX3_copyFrom_117 (fun J117 hJ117 => ?_)
  refine r_aload_n (j := 0) rfl rfl dX3_copyFrom_120 ?_
  refine r_aload_n (j := 1) rfl rfl dX3_copyFrom_121 ?_
  refine w_getI fX3_44 rfl dX3_copyFrom_122 ?_
  refine w_putI fX3_44 rfl (rfl) (rfl) dX3_copyFrom_125 (fun J125 hJ125 => ?_)
  refine w_vret rfl (Nat.le_of_ble_eq_true rfl) (Nat.le_of_ble_eq_true rfl) dX3_copyFrom_128 ?_
  subst hJ125 hJ117 hJ109 hJ95 hJ81 hJ67 hJ53 hJ39 hJ25 hJ11
  refine ⟨?_, rfl, rfl⟩
  simp [cl0, cl3, cl4, cl5, cpy_prf, cpI, upr_eq, up_eq, vu_eq]
theorem k_X3_copyFrom_36_55 {sc : Sc} {I : Is} {L : Ls} {tg : Nat} : Con sc mX3_copyFrom 1 0 0 [.ref 36, .ref 55] (XW I L tg) (rV (XW (cpI I 36 55) (cpL L 36 55) tg)) := by
  refine Con_of (by decide) (Nat.le_of_ble_eq_true rfl) ?_
  refine r_aload_n (j := 1) rfl rfl dX3_copyFrom_0 ?_
  refine w_getR (b := 56) fX3_9 rfl rfl dX3_copyFrom_1 ?_
  refine r_iconst (v := 0) rfl dX3_copyFrom_4 ?_
  refine r_aload_n (j := 0) rfl rfl dX3_copyFrom_5 ?_
  refine w_getR (b := 37) fX3_9 rfl rfl dX3_copyFrom_6 ?_
  refine r_iconst (v := 0) rfl dX3_copyFrom_9 ?_
  refine r_iconst (v := 3) rfl dX3_copyFrom_10 ?_
  refine w_copy rfl rfl (by decide +kernel) (by decide +kernel) (by decide +kernel) (by decide +kernel) (by decide +kernel) aX3_53 (Nat.le_of_ble_eq_true rfl) (Nat.le_of_ble_eq_true rfl) dX3_copyFrom_11 (fun J11 hJ11 => ?_)
  refine r_aload_n (j := 1) rfl rfl dX3_copyFrom_14 ?_
  refine w_getR (b := 57) fX3_15 rfl rfl dX3_copyFrom_15 ?_
  refine r_iconst (v := 0) rfl dX3_copyFrom_18 ?_
  refine r_aload_n (j := 0) rfl rfl dX3_copyFrom_19 ?_
  refine w_getR (b := 38) fX3_15 rfl rfl dX3_copyFrom_20 ?_
  refine r_iconst (v := 0) rfl dX3_copyFrom_23 ?_
  refine r_iconst (v := 3) rfl dX3_copyFrom_24 ?_
  refine w_copy rfl rfl (by decide +kernel) (by decide +kernel) (by decide +kernel) (by decide +kernel) (by decide +kernel) aX3_53 (Nat.le_of_ble_eq_true rfl) (Nat.le_of_ble_eq_true rfl) dX3_copyFrom_25 (fun J25 hJ25 => ?_)
  refine r_aload_n (j := 1) rfl rfl dX3_copyFrom_28 ?_
  refine w_getR (b := 58) fX3_18 rfl rfl dX3_copyFrom_29 ?_
  refine r_iconst (v := 0) rfl dX3_copyFrom_32 ?_
  refine r_aload_n (j := 0) rfl rfl dX3_copyFrom_33 ?_
  refine w_getR (b := 39) fX3_18 rfl rfl dX3_copyFrom_34 ?_
  refine r_iconst (v := 0) rfl dX3_copyFrom_37 ?_
  refine r_iconst (v := 3) rfl dX3_copyFrom_38 ?_
  refine w_copy rfl rfl (by decide +kernel) (by decide +kernel) (by decide +kernel) (by decide +kernel) (by decide +kernel) aX3_53 (Nat.le_of_ble_eq_true rfl) (Nat.le_of_ble_eq_true rfl) dX3_copyFrom_39 (fun J39 hJ39 => ?_)
  refine r_aload_n (j := 1) rfl rfl dX3_copyFrom_42 ?_
  refine w_getR (b := 59) fX3_21 rfl rfl dX3_copyFrom_43 ?_
  refine r_iconst (v := 0) rfl dX3_copyFrom_46 ?_
  refine r_aload_n (j := 0) rfl rfl dX3_copyFrom_47 ?_
  refine w_getR (b := 40) fX3_21 rfl rfl dX3_copyFrom_48 ?_
  refine r_iconst (v := 0) rfl dX3_copyFrom_51 ?_
  refine r_iconst (v := 3) rfl dX3_copyFrom_52 ?_
  refine w_copy rfl rfl (by decide +kernel) (by decide +kernel) (by decide +kernel) (by decide +kernel) (by decide +kernel) aX3_53 (Nat.le_of_ble_eq_true rfl) (Nat.le_of_ble_eq_true rfl) dX3_copyFrom_53 (fun J53 hJ53 => ?_)
  refine r_aload_n (j := 1) rfl rfl dX3_copyFrom_56 ?_
  refine w_getR (b := 60) fX3_24 rfl rfl dX3_copyFrom_57 ?_
  refine r_iconst (v := 0) rfl dX3_copyFrom_60 ?_
  refine r_aload_n (j := 0) rfl rfl dX3_copyFrom_61 ?_
  refine w_getR (b := 41) fX3_24 rfl rfl dX3_copyFrom_62 ?_
  refine r_iconst (v := 0) rfl dX3_copyFrom_65 ?_
  refine r_iconst (v := 3) rfl dX3_copyFrom_66 ?_
  refine w_copy rfl rfl (by decide +kernel) (by decide +kernel) (by decide +kernel) (by decide +kernel) (by decide +kernel) aX3_53 (Nat.le_of_ble_eq_true rfl) (Nat.le_of_ble_eq_true rfl) dX3_copyFrom_67 (fun J67 hJ67 => ?_)
  refine r_aload_n (j := 1) rfl rfl dX3_copyFrom_70 ?_
  refine w_getR (b := 61) fX3_27 rfl rfl dX3_copyFrom_71 ?_
  refine r_iconst (v := 0) rfl dX3_copyFrom_74 ?_
  refine r_aload_n (j := 0) rfl rfl dX3_copyFrom_75 ?_
  refine w_getR (b := 42) fX3_27 rfl rfl dX3_copyFrom_76 ?_
  refine r_iconst (v := 0) rfl dX3_copyFrom_79 ?_
  refine r_iconst (v := 5) rfl dX3_copyFrom_80 ?_
  refine w_copy rfl rfl (by decide +kernel) (by decide +kernel) (by decide +kernel) (by decide +kernel) (by decide +kernel) aX3_53 (Nat.le_of_ble_eq_true rfl) (Nat.le_of_ble_eq_true rfl) dX3_copyFrom_81 (fun J81 hJ81 => ?_)
  refine r_aload_n (j := 1) rfl rfl dX3_copyFrom_84 ?_
  refine w_getR (b := 62) fX3_30 rfl rfl dX3_copyFrom_85 ?_
  refine r_iconst (v := 0) rfl dX3_copyFrom_88 ?_
  refine r_aload_n (j := 0) rfl rfl dX3_copyFrom_89 ?_
  refine w_getR (b := 43) fX3_30 rfl rfl dX3_copyFrom_90 ?_
  refine r_iconst (v := 0) rfl dX3_copyFrom_93 ?_
  refine r_iconst (v := 4) rfl dX3_copyFrom_94 ?_
  refine w_copy rfl rfl (by decide +kernel) (by decide +kernel) (by decide +kernel) (by decide +kernel) (by decide +kernel) aX3_53 (Nat.le_of_ble_eq_true rfl) (Nat.le_of_ble_eq_true rfl) dX3_copyFrom_95 (fun J95 hJ95 => ?_)
  refine r_aload_n (j := 0) rfl rfl dX3_copyFrom_98 ?_
  refine w_getR (b := 44) fX3_36 rfl rfl dX3_copyFrom_99 ?_
  refine r_aload_n (j := 1) rfl rfl dX3_copyFrom_102 ?_
  refine w_getR (b := 63) fX3_36 rfl rfl dX3_copyFrom_103 ?_
  refine w_getL fX3_59 rfl dX3_copyFrom_106 ?_
  refine w_putL fX3_59 rfl (rfl) (rfl) dX3_copyFrom_109 (fun J109 hJ109 => ?_)
  refine r_aload_n (j := 0) rfl rfl dX3_copyFrom_112 ?_
  refine r_aload_n (j := 1) rfl rfl dX3_copyFrom_113 ?_
  refine w_getI fX3_40 rfl dX3_copyFrom_114 ?_
  refine w_putI fX3_40 rfl (rfl) (rfl) dX3_copyFrom_117 (fun J117 hJ117 => ?_)
  refine r_aload_n (j := 0) rfl rfl dX3_copyFrom_120 ?_
  refine r_aload_n (j := 1) rfl rfl dX3_copyFrom_121 ?_
  refine w_getI fX3_44 rfl dX3_copyFrom_122 ?_
  refine w_putI fX3_44 rfl (rfl) (rfl) dX3_copyFrom_125 (fun J125 hJ125 => ?_)
  refine w_vret rfl (Nat.le_of_ble_eq_true rfl) (Nat.le_of_ble_eq_true rfl) dX3_copyFrom_128 ?_
  subst hJ125 hJ117 hJ109 hJ95 hJ81 hJ67 hJ53 hJ39 hJ25 hJ11
  refine ⟨?_, rfl, rfl⟩
  simp [cl0, cl3, cl4, cl5, cpy_prf, cpI, upr_eq, up_eq, vu_eq]
/-- nothing dug -/
def clI (I : Is) : Is := upr (upr (up (up I 36 8 0) 36 9 0) 42 (fillr (I 42) 5 0)) 43 (fillr (I 43) 4 0)
theorem k_X3_clear {sc : Sc} {I : Is} {L : Ls} {tg : Nat} : Con sc mX3_clear 1 0 0 [.ref 36] (XW I L tg) (rV (XW (clI I) L tg)) := by
  refine Con_of (by decide) (Nat.le_of_ble_eq_true rfl) ?_
  refine r_aload_n (j := 0) rfl rfl dX3_clear_0 ?_
  refine r_iconst (v := 0) rfl dX3_clear_1 ?_
  refine w_putI fX3_40 rfl (rfl) (rfl) dX3_clear_2 (fun J2 hJ2 => ?_)
  refine r_aload_n (j := 0) rfl rfl dX3_clear_5 ?_
  refine r_iconst (v := 0) rfl dX3_clear_6 ?_
  refine w_putI fX3_44 rfl (rfl) (rfl) dX3_clear_7 (fun J7 hJ7 => ?_)
  refine r_aload_n (j := 0) rfl rfl dX3_clear_10 ?_
  refine w_getR (b := 42) fX3_27 rfl rfl dX3_clear_11 ?_
  refine r_iconst (v := 0) rfl dX3_clear_14 ?_
  refine w_cS2v (k_J7_fill_53178 (N := 5) rfl (by decide)) (Nat.le_of_ble_eq_true rfl) lX3_47 mtJ7_fill_53178 (Nat.le_of_ble_eq_true rfl) (Nat.le_of_ble_eq_true rfl) (Nat.le_of_ble_eq_true rfl) dX3_clear_15 (fun J15 K15 hJ15 hK15 => ?_)
  subst hK15
  refine r_aload_n (j := 0) rfl rfl dX3_clear_18 ?_
  refine w_getR (b := 43) fX3_30 rfl rfl dX3_clear_19 ?_
  refine r_iconst (v := 0) rfl dX3_clear_22 ?_
  refine w_cS2v (k_J7_fill_53178 (N := 4) rfl (by decide)) (Nat.le_of_ble_eq_true rfl) lX3_47 mtJ7_fill_53178 (Nat.le_of_ble_eq_true rfl) (Nat.le_of_ble_eq_true rfl) (Nat.le_of_ble_eq_true rfl) dX3_clear_23 (fun J23 K23 hJ23 hK23 => ?_)
  subst hK23
  refine w_vret rfl (Nat.le_of_ble_eq_true rfl) (Nat.le_of_ble_eq_true rfl) dX3_clear_26 ?_
  subst hJ23 hJ15 hJ7 hJ2; exact ⟨by simp [clI, upr_eq, up_eq], rfl, rfl⟩
/-- rows outside S are as they were -/
def SB (S : List Nat) (I J : Is) : Prop := ∀ q, q ∉ S → J q = I q
theorem SB.rf {S : List Nat} {I : Is} : SB S I I := fun _ _ => rfl
theorem SB.tr {S : List Nat} {I J K : Is} (h : SB S I J) (g : SB S J K) : SB S I K := fun q hq => (g q hq).trans (h q hq)
theorem SB.up {S : List Nat} {I J : Is} (h : SB S I J) {a k : Nat} {v : Int32} (ha : a ∈ S) : SB S I (up J a k v) := fun q hq => by
  rw [up_n J k v (fun e : q = a => hq (by rw [e]; exact ha))]
  exact h q hq
theorem SB.upr {S : List Nat} {I J : Is} (h : SB S I J) {a : Nat} {f : Nat → Int32} (ha : a ∈ S) : SB S I (upr J a f) := fun q hq => by
  rw [upr_n J f (fun e : q = a => hq (by rw [e]; exact ha))]
  exact h q hq
theorem SB.mono {S T : List Nat} {I J : Is} (h : SB S I J) (hs : ∀ q ∈ S, q ∈ T) : SB T I J := fun q hq => h q (fun z => hq (hs q z))
theorem W3_SB (I : Is) (a b c : Nat → Int32) : SB [65, 66, 67] I (W3 I a b c) := ((SB.rf.upr (by decide)).upr (by decide)).upr (by decide)
theorem ct1_cg {fr fr' wy wy' : Nat → Int32} {s : Int32} : ∀ n, (∀ i, i < n → fr i = fr' i ∧ wy i = wy' i) → ct1 fr wy s n = ct1 fr' wy' s n := by
  intro n
  induction n with
  | zero => intro _; rfl
  | succ n ih =>
    intro h
    rw [ct1, ct1, ih (fun i hi => h i (by omega)), (h n (by omega)).1, (h n (by omega)).2]
theorem ct2_cg {to to' : Nat → Int32} {r c : Int32} : ∀ n, (∀ i, i < n → to i = to' i) → ct2 to r c n = ct2 to' r c n := by
  intro n
  induction n with
  | zero => intro _; rfl
  | succ n ih =>
    intro h
    rw [ct2, ct2, ih (fun i hi => h i (by omega)), h n (by omega)]
theorem cut_cg {fr fr' to to' wy wy' : Nat → Int32} {s : Int32} (h1 : ∀ i, i < 5 → fr i = fr' i) (h2 : ∀ i, i < 5 → to i = to' i) (h3 : ∀ i, i < 5 → wy i = wy' i) : cut fr to wy s = cut fr' to' wy' s := by
  unfold cut
  rw [ct1_cg 5 (fun i hi => ⟨h1 i hi, h3 i hi⟩), ct2_cg 5 h2]
theorem lst_cg {f g : Nat → Int32} : ∀ n, (∀ i, i ≤ n → f i = g i) → lst f n = lst g n := by
  intro n
  induction n with
  | zero => intro h; exact h 0 (Nat.le_refl 0)
  | succ n ih => intro h; rw [lst, lst, ih (fun i hi => h i (by omega)), h (n + 1) (Nat.le_refl _)]
theorem grt_cg {I J : Is} (h1 : ∀ i, i < 5 → I 65 i = J 65 i) (h2 : ∀ i, i < 5 → I 66 i = J 66 i) (h3 : ∀ i, i < 5 → I 67 i = J 67 i) : grt I = grt J := lst_cg 31 (fun _ _ => cut_cg h1 h2 h3)
theorem mJ_SB {I J : Is} (h : SB [65, 66, 67] I J) (d : Int32) : grt (mJ J d) = grt (mJ I d) := by
  have e : ∀ q, q ≠ 65 → q ≠ 66 → q ≠ 67 → J q = I q := fun q h5 h6 h7 => h q (by simp [h5, h6, h7])
  have a1 : mF J d = mF I d := by funext x; simp only [mF, e 42 (by decide) (by decide) (by decide), e 9 (by decide) (by decide) (by decide), e 4 (by decide) (by decide) (by decide)]
  have a2 : mT J d = mT I d := by funext x; simp only [mT, e 14 (by decide) (by decide) (by decide), e 15 (by decide) (by decide) (by decide), e 43 (by decide) (by decide) (by decide)]
  have a3 : mW J = mW I := by
    funext x
    have : mR J x = mR I x := by funext y; simp only [mR, e 13 (by decide) (by decide) (by decide), e 7 (by decide) (by decide) (by decide), e 8 (by decide) (by decide) (by decide), e 4 (by decide) (by decide) (by decide)]
    simp only [mW, this, e 3 (by decide) (by decide) (by decide)]
  unfold mJ
  rw [a1, a2, a3, e 3 (by decide) (by decide) (by decide)]
  refine grt_cg (fun i hi => ?_) (fun i hi => ?_) (fun i hi => ?_)
  · rw [W3_5, W3_5]; simp [prf, fillr, hi]
  · rw [W3_6, W3_6]; simp [prf, fillr, hi]
  · rw [W3_7, W3_7]; simp [prf, fillr, hi]
theorem mJ_keep (I : Is) (d : Int32) : SB [65, 66, 67] I (mJ I d) := W3_SB _ _ _ _
section Until
variable {sc : Sc} {I : Is} {L : Ls} {tg NH NG : Nat}
def uAll (I : Is) : Int32 := sm (I 42) (nN (I 3 14))
def uS (I : Is) : Int32 := if uAll I = 0 then 0 else fsk (fun k => decide (grt (mJ I (nI k)) = uAll I)) 99 1
def uPh (I : Is) (L : Ls) (tg : Nat) : Int32 → Is → Ls → Nat → Prop := fun v J K t => v = uS I ∧ SB [65, 66, 67] I J ∧ K = L ∧ t = tg
theorem l_X3_fd2 (h0 : 0 ≤ (I 3 14).toInt) (h5 : (I 3 14).toInt ≤ 5) (g0 : 0 ≤ (I 3 15).toInt) (g4 : (I 3 15).toInt ≤ 4) (ha : ¬ uAll I = 0) : ∀ n k : Nat, k + n = 100 → ∀ (J : Is) (x : Int32), SB [65, 66, 67] I J → x.toInt = k → uS I = fsk (fun k => decide (grt (mJ I (nI k)) = uAll I)) n k → RR sc mX3_fewestDays 3 0 0 (gI (uPh I L tg)) 0 0 39 [(4, .int x), (3, .int (uAll I)), (0, .ref 36), (1, .ref 3), (2, .ref 64)] [] (XW J L tg) := by
  intro n
  induction n with
  | zero =>
    intro k hk J x hJ hx hu
    refine r_iload (j := 0) rfl dX3_fewestDays_39 ?_
    refine r_bipush (v := 99) rfl dX3_fewestDays_41 ?_
    refine r_icmp_gt (tgt := 67) dX3_fewestDays_43 (by decide) (fun c43 => ?_) (fun c43 => ?_)
    · refine r_iconst (v := (-1)) rfl dX3_fewestDays_67 ?_
      refine w_iretG rfl (rfl) (Nat.le_of_ble_eq_true rfl) (Nat.le_of_ble_eq_true rfl) dX3_fewestDays_68 ?_
      exact ⟨hu.symm, hJ, rfl, rfl⟩
    · exfalso; ((try simp only [bI_0, bI_1, lc_lt, lc_gt, lc_le, lc_ge, Classical.not_not] at *); (try simp only [i_lt, i_le, i_eq, l_lt, l_le, l_eq, Int32.toInt_toInt64, Int32.reduceToInt, Int64.reduceToInt] at *); omega)
  | succ n ih =>
    intro k hk J x hJ hx hu
    have e3 : J 3 = I 3 := hJ 3 (by decide)
    obtain rfl := x_nI hx
    refine r_iload (j := 0) rfl dX3_fewestDays_39 ?_
    refine r_bipush (v := 99) rfl dX3_fewestDays_41 ?_
    refine r_icmp_gt (tgt := 67) dX3_fewestDays_43 (by decide) (fun c43 => ?_) (fun c43 => ?_)
    · exfalso; ((try simp only [bI_0, bI_1, lc_lt, lc_gt, lc_le, lc_ge, Classical.not_not] at *); (try simp only [i_lt, i_le, i_eq, l_lt, l_le, l_eq, Int32.toInt_toInt64, Int32.reduceToInt, Int64.reduceToInt] at *); omega)
    · refine r_aload_n (j := 2) rfl rfl dX3_fewestDays_46 ?_
      refine r_aload_n (j := 3) rfl rfl dX3_fewestDays_47 ?_
      refine r_aload_n (j := 4) rfl rfl dX3_fewestDays_48 ?_
      refine r_iload (j := 0) rfl dX3_fewestDays_49 ?_
      refine w_cV3s (k_X3_mostIn (by rw [e3]; exact h0) (by rw [e3]; exact h5) (by rw [e3]; exact g0) (by rw [e3]; exact g4)) (Nat.le_of_ble_eq_true rfl) lX3_135 vmX3_mostIn rfl (Nat.le_of_ble_eq_true rfl) (Nat.le_of_ble_eq_true rfl) (Nat.le_of_ble_eq_true rfl) dX3_fewestDays_51 (fun J51 K51 hJ51 hK51 => ?_)
      subst hK51
      refine r_iload_n (j := 1) rfl rfl dX3_fewestDays_54 ?_
      rw [mJ_SB hJ]
      refine r_icmp_ne (tgt := 61) dX3_fewestDays_55 (by decide) (fun c55 => ?_) (fun c55 => ?_)
      · refine r_iinc (j := 0) (lv' := fun z => [(4, .int z), (3, .int (uAll I)), (0, .ref 36), (1, .ref 3), (2, .ref 64)]) dX3_fewestDays_61 rfl (Nat.le_of_ble_eq_true rfl) (fun _ => rfl) (fun x4_61 ex4_61 => ?_)
        refine r_goto (tgt := 39) dX3_fewestDays_64 (by decide) ?_
        refine ih (k + 1) (by omega) _ _ (by rw [hJ51]; exact hJ.tr (mJ_keep _ _)) (by rw [ex4_61]; exact i_inc hx (by omega)) ?_
        rw [hu, fsk, if_neg (by simpa using c55)]
      · refine r_iload (j := 0) rfl dX3_fewestDays_58 ?_
        refine w_iretG rfl (rfl) (Nat.le_of_ble_eq_true rfl) (Nat.le_of_ble_eq_true rfl) dX3_fewestDays_60 ?_
        refine ⟨?_, by rw [hJ51]; exact hJ.tr (mJ_keep _ _), rfl, rfl⟩
        rw [hu, fsk, if_pos (by simpa using c55)]
theorem l_X3_fd1 (hN : (I 3 14).toInt = NH) (h5 : NH ≤ 5) (g0 : 0 ≤ (I 3 15).toInt) (g4 : (I 3 15).toInt ≤ 4) : ∀ n i : Nat, i + n = NH → ∀ a x : Int32, a = sm (I 42) i → x.toInt = i → RR sc mX3_fewestDays 3 0 0 (gI (uPh I L tg)) 0 0 5 [(4, .int x), (3, .int a), (0, .ref 36), (1, .ref 3), (2, .ref 64)] [] (XW I L tg) := by
  have eN : nN (I 3 14) = NH := cl_of hN
  intro n
  induction n with
  | zero =>
    intro i hi a x ea hx
    have ea2 : a = uAll I := by unfold uAll; rw [eN, ea, show i = NH by omega]
    subst ea2
    refine r_iload (j := 0) rfl dX3_fewestDays_5 ?_
    refine r_aload_n (j := 3) rfl rfl dX3_fewestDays_7 ?_
    refine w_getI fX3_111 rfl dX3_fewestDays_8 ?_
    refine r_icmp_ge (tgt := 30) dX3_fewestDays_11 (by decide) (fun c11 => ?_) (fun c11 => ?_)
    · refine r_iload_n (j := 1) rfl rfl dX3_fewestDays_30 ?_
      refine r_if_ne (tgt := 36) dX3_fewestDays_31 (by decide) (fun c31 => ?_) (fun c31 => ?_)
      · refine r_iconst (v := 1) rfl dX3_fewestDays_36 ?_
        refine r_istore (lv' := fun z => [(4, .int z), (3, .int (uAll I)), (0, .ref 36), (1, .ref 3), (2, .ref 64)]) dX3_fewestDays_37 (Nat.le_of_ble_eq_true rfl) (fun _ => rfl) (fun x4_37 ex4_37 => ?_)
        exact l_X3_fd2 (by omega) (by omega) g0 g4 c31 99 1 rfl _ _ SB.rf (by rw [ex4_37]; rfl) (by unfold uS; rw [if_neg c31])
      · refine r_iconst (v := 0) rfl dX3_fewestDays_34 ?_
        refine w_iretG rfl (rfl) (Nat.le_of_ble_eq_true rfl) (Nat.le_of_ble_eq_true rfl) dX3_fewestDays_35 ?_
        exact ⟨by unfold uS; rw [if_pos c31], SB.rf, rfl, rfl⟩
    · exfalso; ((try simp only [bI_0, bI_1, lc_lt, lc_gt, lc_le, lc_ge, Classical.not_not] at *); (try simp only [i_lt, i_le, i_eq, l_lt, l_le, l_eq, Int32.toInt_toInt64, Int32.reduceToInt, Int64.reduceToInt] at *); omega)
  | succ n ih =>
    intro i hi a x ea hx
    refine r_iload (j := 0) rfl dX3_fewestDays_5 ?_
    refine r_aload_n (j := 3) rfl rfl dX3_fewestDays_7 ?_
    refine w_getI fX3_111 rfl dX3_fewestDays_8 ?_
    refine r_icmp_ge (tgt := 30) dX3_fewestDays_11 (by decide) (fun c11 => ?_) (fun c11 => ?_)
    · exfalso; ((try simp only [bI_0, bI_1, lc_lt, lc_gt, lc_le, lc_ge, Classical.not_not] at *); (try simp only [i_lt, i_le, i_eq, l_lt, l_le, l_eq, Int32.toInt_toInt64, Int32.reduceToInt, Int64.reduceToInt] at *); omega)
    · refine r_iload_n (j := 1) rfl rfl dX3_fewestDays_14 ?_
      refine r_aload_n (j := 2) rfl rfl dX3_fewestDays_15 ?_
      refine w_getR (b := 42) fX3_27 rfl rfl dX3_fewestDays_16 ?_
      refine r_iload (j := 0) rfl dX3_fewestDays_19 ?_
      refine w_iald rfl (up_in hx (by omega)) dX3_fewestDays_21 ?_
      refine r_iadd dX3_fewestDays_22 ?_
      refine r_istore_n (lv' := fun z => [(3, .int z), (4, .int x), (0, .ref 36), (1, .ref 3), (2, .ref 64)]) dX3_fewestDays_23 rfl (Nat.le_of_ble_eq_true rfl) (fun _ => rfl) (fun x3_23 ex3_23 => ?_)
      refine r_iinc (j := 1) (lv' := fun z => [(4, .int z), (3, .int x3_23), (0, .ref 36), (1, .ref 3), (2, .ref 64)]) dX3_fewestDays_24 rfl (Nat.le_of_ble_eq_true rfl) (fun _ => rfl) (fun x4_24 ex4_24 => ?_)
      refine r_goto (tgt := 5) dX3_fewestDays_27 (by decide) ?_
      exact ih (i + 1) (by omega) _ _ (by rw [ex3_23, ea, cl_of hx]; rfl) (by rw [ex4_24]; exact i_inc hx (by omega))
theorem k_X3_fewestDays (h0 : 0 ≤ (I 3 14).toInt) (h5 : (I 3 14).toInt ≤ 5) (g0 : 0 ≤ (I 3 15).toInt) (g4 : (I 3 15).toInt ≤ 4) : Con sc mX3_fewestDays 3 0 0 [.ref 36, .ref 3, .ref 64] (XW I L tg) (gI (uPh I L tg)) := by
  refine Con_of (by decide) (Nat.le_of_ble_eq_true rfl) ?_
  have hN := nN_of h0
  refine r_iconst (v := 0) rfl dX3_fewestDays_0 ?_
  refine r_istore_n (lv' := fun z => [(3, .int z), (0, .ref 36), (1, .ref 3), (2, .ref 64)]) dX3_fewestDays_1 rfl (Nat.le_of_ble_eq_true rfl) (fun _ => rfl) (fun x3_1 ex3_1 => ?_)
  refine r_iconst (v := 0) rfl dX3_fewestDays_2 ?_
  refine r_istore (lv' := fun z => [(4, .int z), (3, .int x3_1), (0, .ref 36), (1, .ref 3), (2, .ref 64)]) dX3_fewestDays_3 (Nat.le_of_ble_eq_true rfl) (fun _ => rfl) (fun x4_3 ex4_3 => ?_)
  exact l_X3_fd1 hN (by omega) g0 g4 _ 0 (Nat.zero_add _) _ _ ex3_1 (by rw [ex4_3]; rfl)
end Until

