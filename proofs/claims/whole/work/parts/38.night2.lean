/-! across; the night's public face -/
section Night2
variable {sc : Sc} {I : Is} {L : Ls} {tg : Nat}
theorem k_X11_across_r {f s w : Int32} (hc : ¬ acC I f s w) : Con sc mX11_across 3 0 0 [.ref 0, .int f, .int s, .int w] (XW I L tg) (rI (-2) (XW I L tg)) := by
  refine Con_of (by decide) (Nat.le_of_ble_eq_true rfl) ?_
  refine r_iload_n (j := 1) rfl rfl dX11_across_0 ?_
  refine r_iconst (v := 0) rfl dX11_across_1 ?_
  refine r_aload_n (j := 0) rfl rfl dX11_across_2 ?_
  refine w_getR (b := 3) fX11_19 rfl rfl dX11_across_3 ?_
  refine r_iconst (v := 3) rfl dX11_across_6 ?_
  refine w_cV1p (k_X0_setting (by decide) (by decide)) (Nat.le_of_ble_eq_true rfl) lX11_325 vmX0_setting rfl (Nat.le_of_ble_eq_true rfl) (Nat.le_of_ble_eq_true rfl) (Nat.le_of_ble_eq_true rfl) dX11_across_7 ?_
  refine w_cS3p (k_X11_isWithin) (Nat.le_of_ble_eq_true rfl) lX11_166 mtX11_isWithin (Nat.le_of_ble_eq_true rfl) (Nat.le_of_ble_eq_true rfl) (Nat.le_of_ble_eq_true rfl) dX11_across_10 ?_
  refine r_if_eq (tgt := 36) dX11_across_13 (by decide) (fun c13 => ?_) (fun c13 => ?_)
  · refine r_bipush (v := (-2)) rfl dX11_across_36 ?_
    refine w_iret rfl (rfl) (Nat.le_of_ble_eq_true rfl) (Nat.le_of_ble_eq_true rfl) dX11_across_38 ?_
    exact ⟨rfl, rfl, rfl, rfl⟩
  · refine r_iload_n (j := 2) rfl rfl dX11_across_16 ?_
    refine r_iconst (v := 0) rfl dX11_across_17 ?_
    refine r_sipush (v := 200) rfl dX11_across_18 ?_
    refine w_cS3p (k_X11_isWithin) (Nat.le_of_ble_eq_true rfl) lX11_166 mtX11_isWithin (Nat.le_of_ble_eq_true rfl) (Nat.le_of_ble_eq_true rfl) (Nat.le_of_ble_eq_true rfl) dX11_across_21 ?_
    refine r_if_eq (tgt := 36) dX11_across_24 (by decide) (fun c24 => ?_) (fun c24 => ?_)
    · refine r_bipush (v := (-2)) rfl dX11_across_36 ?_
      refine w_iret rfl (rfl) (Nat.le_of_ble_eq_true rfl) (Nat.le_of_ble_eq_true rfl) dX11_across_38 ?_
      exact ⟨rfl, rfl, rfl, rfl⟩
    · refine r_iload_n (j := 3) rfl rfl dX11_across_27 ?_
      refine r_iconst (v := 0) rfl dX11_across_28 ?_
      refine r_iconst (v := 1) rfl dX11_across_29 ?_
      refine w_cS3p (k_X11_isWithin) (Nat.le_of_ble_eq_true rfl) lX11_166 mtX11_isWithin (Nat.le_of_ble_eq_true rfl) (Nat.le_of_ble_eq_true rfl) (Nat.le_of_ble_eq_true rfl) dX11_across_30 ?_
      refine r_if_ne (tgt := 39) dX11_across_33 (by decide) (fun c33 => ?_) (fun c33 => ?_)
      · exact absurd ⟨bI_1.mp c13, bI_1.mp c24, bI_1.mp c33⟩ hc
      · refine r_bipush (v := (-2)) rfl dX11_across_36 ?_
        refine w_iret rfl (rfl) (Nat.le_of_ble_eq_true rfl) (Nat.le_of_ble_eq_true rfl) dX11_across_38 ?_
        exact ⟨rfl, rfl, rfl, rfl⟩
def acS (I : Is) (f s : Int32) (M : Nat) : Int32 := (amx (fun x => mtf (I 7) (I 9) (nN (I 3 14)) (nI x) f s) (M + 1)).1
theorem k_X11_across_y {f s w : Int32} {M : Nat} (hc : acC I f s w) (h0 : 0 ≤ (I 3 14).toInt) (h5 : (I 3 14).toInt ≤ 5) (hM : (I 4 3 - f).toInt = M) (hM2 : M ≤ 1000) : Con sc mX11_across 3 0 0 [.ref 0, .int f, .int s, .int w] (XW I L tg) (rI (if w = 0 then acS I f s M else mtf (I 7) (I 9) (nN (I 3 14)) (acS I f s M) f s) (XW I L tg)) := by
  refine Con_of (by decide) (Nat.le_of_ble_eq_true rfl) ?_
  refine r_iload_n (j := 1) rfl rfl dX11_across_0 ?_
  refine r_iconst (v := 0) rfl dX11_across_1 ?_
  refine r_aload_n (j := 0) rfl rfl dX11_across_2 ?_
  refine w_getR (b := 3) fX11_19 rfl rfl dX11_across_3 ?_
  refine r_iconst (v := 3) rfl dX11_across_6 ?_
  refine w_cV1p (k_X0_setting (by decide) (by decide)) (Nat.le_of_ble_eq_true rfl) lX11_325 vmX0_setting rfl (Nat.le_of_ble_eq_true rfl) (Nat.le_of_ble_eq_true rfl) (Nat.le_of_ble_eq_true rfl) dX11_across_7 ?_
  refine w_cS3p (k_X11_isWithin) (Nat.le_of_ble_eq_true rfl) lX11_166 mtX11_isWithin (Nat.le_of_ble_eq_true rfl) (Nat.le_of_ble_eq_true rfl) (Nat.le_of_ble_eq_true rfl) dX11_across_10 ?_
  refine r_if_eq (tgt := 36) dX11_across_13 (by decide) (fun c13 => ?_) (fun c13 => ?_)
  · exact absurd hc.1 (bI_0.mp c13)
  · refine r_iload_n (j := 2) rfl rfl dX11_across_16 ?_
    refine r_iconst (v := 0) rfl dX11_across_17 ?_
    refine r_sipush (v := 200) rfl dX11_across_18 ?_
    refine w_cS3p (k_X11_isWithin) (Nat.le_of_ble_eq_true rfl) lX11_166 mtX11_isWithin (Nat.le_of_ble_eq_true rfl) (Nat.le_of_ble_eq_true rfl) (Nat.le_of_ble_eq_true rfl) dX11_across_21 ?_
    refine r_if_eq (tgt := 36) dX11_across_24 (by decide) (fun c24 => ?_) (fun c24 => ?_)
    · exact absurd hc.2.1 (bI_0.mp c24)
    · refine r_iload_n (j := 3) rfl rfl dX11_across_27 ?_
      refine r_iconst (v := 0) rfl dX11_across_28 ?_
      refine r_iconst (v := 1) rfl dX11_across_29 ?_
      refine w_cS3p (k_X11_isWithin) (Nat.le_of_ble_eq_true rfl) lX11_166 mtX11_isWithin (Nat.le_of_ble_eq_true rfl) (Nat.le_of_ble_eq_true rfl) (Nat.le_of_ble_eq_true rfl) dX11_across_30 ?_
      refine r_if_ne (tgt := 39) dX11_across_33 (by decide) (fun c33 => ?_) (fun c33 => ?_)
      · refine r_aload_n (j := 0) rfl rfl dX11_across_39 ?_
        refine w_getR (b := 3) fX11_19 rfl rfl dX11_across_40 ?_
        refine r_iload_n (j := 1) rfl rfl dX11_across_43 ?_
        refine r_iload_n (j := 2) rfl rfl dX11_across_44 ?_
        refine w_cV2p (k_X0_bestCrossing h0 h5 hM hM2) (Nat.le_of_ble_eq_true rfl) lX11_328 vmX0_bestCrossing rfl (Nat.le_of_ble_eq_true rfl) (Nat.le_of_ble_eq_true rfl) (Nat.le_of_ble_eq_true rfl) dX11_across_45 ?_
        refine r_istore (lv' := fun z => [(4, .int z), (0, .ref 0), (1, .int f), (2, .int s), (3, .int w)]) dX11_across_48 (Nat.le_of_ble_eq_true rfl) (fun _ => rfl) (fun x4_48 ex4_48 => ?_)
        refine r_iload_n (j := 4) rfl rfl dX11_across_50 ?_
        refine r_if_ne (tgt := 59) dX11_across_51 (by decide) (fun c51 => ?_) (fun c51 => ?_)
        · refine r_aload_n (j := 1) rfl rfl dX11_across_59 ?_
          refine w_getR (b := 3) fX11_19 rfl rfl dX11_across_60 ?_
          refine r_iload (j := 0) rfl dX11_across_63 ?_
          refine r_iload_n (j := 2) rfl rfl dX11_across_65 ?_
          refine r_iload_n (j := 3) rfl rfl dX11_across_66 ?_
          refine w_cV3p (k_X0_metFrom h0 h5) (Nat.le_of_ble_eq_true rfl) lX11_331 vmX0_metFrom rfl (Nat.le_of_ble_eq_true rfl) (Nat.le_of_ble_eq_true rfl) (Nat.le_of_ble_eq_true rfl) dX11_across_67 ?_
          refine w_iret rfl (rfl) (Nat.le_of_ble_eq_true rfl) (Nat.le_of_ble_eq_true rfl) dX11_across_70 ?_
          exact ⟨by first | (rw [if_pos c51]; exact ex4_48) | (rw [if_neg c51, ex4_48]; rfl), rfl, rfl, rfl⟩
        · refine r_iload (j := 0) rfl dX11_across_54 ?_
          refine r_goto (tgt := 70) dX11_across_56 (by decide) ?_
          refine w_iret rfl (rfl) (Nat.le_of_ble_eq_true rfl) (Nat.le_of_ble_eq_true rfl) dX11_across_70 ?_
          exact ⟨by first | (rw [if_pos c51]; exact ex4_48) | (rw [if_neg c51, ex4_48]; rfl), rfl, rfl, rfl⟩
      · exact absurd hc.2.2 (bI_0.mp c33)
def pad (I : Is) (n : Nat) (m : Int32) : Is := up (up I 85 n m) 84 7 (I 84 7 + 1)
theorem k_X7_addPerson_y {n : Nat} {m : Int32} (hn : (I 84 7).toInt = n) (h8 : n < 8) : Con sc mX7_addPerson 0 0 0 [.ref 84, .int m] (XW I L tg) (rI (I 84 7) (XW (pad I n m) L tg)) := by
  refine Con_of (by decide) (Nat.le_of_ble_eq_true rfl) ?_
  have ct := cl_of hn
  have hin := up_in hn h8
  refine r_aload_n (j := 0) rfl rfl dX7_addPerson_0 ?_
  refine w_getI fX7_37 rfl dX7_addPerson_1 ?_
  refine r_bipush (v := 8) rfl dX7_addPerson_4 ?_
  refine r_icmp_lt (tgt := 12) dX7_addPerson_6 (by decide) (fun c6 => ?_) (fun c6 => ?_)
  · refine r_aload_n (j := 0) rfl rfl dX7_addPerson_12 ?_
    refine w_getR (b := 85) fX7_11 rfl rfl dX7_addPerson_13 ?_
    refine r_aload_n (j := 0) rfl rfl dX7_addPerson_16 ?_
    refine w_getI fX7_37 rfl dX7_addPerson_17 ?_
    refine r_iload_n (j := 1) rfl rfl dX7_addPerson_20 ?_
    refine w_iast rfl (hin) dX7_addPerson_21 (fun J21 hJ21 => ?_)
    refine r_aload_n (j := 0) rfl rfl dX7_addPerson_22 ?_
    refine r_dup rfl dX7_addPerson_23 ?_
    refine w_getI fX7_37 rfl dX7_addPerson_24 ?_
    refine r_iconst (v := 1) rfl dX7_addPerson_27 ?_
    refine r_iadd dX7_addPerson_28 ?_
    refine w_putI fX7_37 rfl (rfl) (rfl) dX7_addPerson_29 (fun J29 hJ29 => ?_)
    refine r_aload_n (j := 0) rfl rfl dX7_addPerson_32 ?_
    refine w_getI fX7_37 rfl dX7_addPerson_33 ?_
    refine r_iconst (v := 1) rfl dX7_addPerson_36 ?_
    refine r_isub dX7_addPerson_37 ?_
    refine w_iret rfl (rfl) (Nat.le_of_ble_eq_true rfl) (Nat.le_of_ble_eq_true rfl) dX7_addPerson_38 ?_
    subst hJ29 hJ21
    refine ⟨?_, ?_, rfl, rfl⟩
    · simp [up_eq, vu_eq]
    · unfold pad
      simp [up_eq, vu_eq, ct]
  · exfalso; ((try simp only [bI_0, bI_1, lc_lt, lc_gt, lc_le, lc_ge, Classical.not_not] at *); (try simp only [i_lt, i_le, i_eq, l_lt, l_le, l_eq, Int32.toInt_toInt64, Int32.reduceToInt, Int64.reduceToInt] at *); omega)
theorem k_X7_addPerson_n {m : Int32} (hn : 8 ≤ (I 84 7).toInt) : Con sc mX7_addPerson 0 0 0 [.ref 84, .int m] (XW I L tg) (rI (-3) (XW I L tg)) := by
  refine Con_of (by decide) (Nat.le_of_ble_eq_true rfl) ?_
  refine r_aload_n (j := 0) rfl rfl dX7_addPerson_0 ?_
  refine w_getI fX7_37 rfl dX7_addPerson_1 ?_
  refine r_bipush (v := 8) rfl dX7_addPerson_4 ?_
  refine r_icmp_lt (tgt := 12) dX7_addPerson_6 (by decide) (fun c6 => ?_) (fun c6 => ?_)
  · exfalso; ((try simp only [bI_0, bI_1, lc_lt, lc_gt, lc_le, lc_ge, Classical.not_not] at *); (try simp only [i_lt, i_le, i_eq, l_lt, l_le, l_eq, Int32.toInt_toInt64, Int32.reduceToInt, Int64.reduceToInt] at *); omega)
  · refine r_bipush (v := (-3)) rfl dX7_addPerson_9 ?_
    refine w_iret rfl (rfl) (Nat.le_of_ble_eq_true rfl) (Nat.le_of_ble_eq_true rfl) dX7_addPerson_11 ?_
    exact ⟨rfl, rfl, rfl, rfl⟩
def rad (I : Is) (n : Nat) (a b : Int32) : Is := up (up (up I 86 n a) 87 n b) 84 8 (I 84 8 + 1)
theorem k_X7_addRound_y {n : Nat} {a b : Int32} (hn : (I 84 8).toInt = n) (h8 : n < 5) : Con sc mX7_addRound 0 0 0 [.ref 84, .int a, .int b] (XW I L tg) (rI (I 84 8) (XW (rad I n a b) L tg)) := by
  refine Con_of (by decide) (Nat.le_of_ble_eq_true rfl) ?_
  have ct := cl_of hn
  have hin := up_in hn h8
  refine r_aload_n (j := 0) rfl rfl dX7_addRound_0 ?_
  refine w_getI fX7_44 rfl dX7_addRound_1 ?_
  refine r_iconst (v := 5) rfl dX7_addRound_4 ?_
  refine r_icmp_lt (tgt := 11) dX7_addRound_5 (by decide) (fun c5 => ?_) (fun c5 => ?_)
  · refine r_aload_n (j := 0) rfl rfl dX7_addRound_11 ?_
    refine w_getR (b := 86) fX7_15 rfl rfl dX7_addRound_12 ?_
    refine r_aload_n (j := 0) rfl rfl dX7_addRound_15 ?_
    refine w_getI fX7_44 rfl dX7_addRound_16 ?_
    refine r_iload_n (j := 1) rfl rfl dX7_addRound_19 ?_
    refine w_iast rfl (hin) dX7_addRound_20 (fun J20 hJ20 => ?_)
    refine r_aload_n (j := 0) rfl rfl dX7_addRound_21 ?_
    refine w_getR (b := 87) fX7_18 rfl rfl dX7_addRound_22 ?_
    refine r_aload_n (j := 0) rfl rfl dX7_addRound_25 ?_
    refine w_getI fX7_44 rfl dX7_addRound_26 ?_
    refine r_iload_n (j := 2) rfl rfl dX7_addRound_29 ?_
    refine w_iast rfl (by subst hJ20; simpa [up_eq, vu_eq] using hin) dX7_addRound_30 (fun J30 hJ30 => ?_)
    refine r_aload_n (j := 0) rfl rfl dX7_addRound_31 ?_
    refine r_dup rfl dX7_addRound_32 ?_
    refine w_getI fX7_44 rfl dX7_addRound_33 ?_
    refine r_iconst (v := 1) rfl dX7_addRound_36 ?_
    refine r_iadd dX7_addRound_37 ?_
    refine w_putI fX7_44 rfl (rfl) (rfl) dX7_addRound_38 (fun J38 hJ38 => ?_)
    refine r_aload_n (j := 0) rfl rfl dX7_addRound_41 ?_
    refine w_getI fX7_44 rfl dX7_addRound_42 ?_
    refine r_iconst (v := 1) rfl dX7_addRound_45 ?_
    refine r_isub dX7_addRound_46 ?_
    refine w_iret rfl (rfl) (Nat.le_of_ble_eq_true rfl) (Nat.le_of_ble_eq_true rfl) dX7_addRound_47 ?_
    subst hJ38 hJ30 hJ20
    refine ⟨?_, ?_, rfl, rfl⟩
    · simp [up_eq, vu_eq]
    · unfold rad
      simp [up_eq, vu_eq, ct]
  · exfalso; ((try simp only [bI_0, bI_1, lc_lt, lc_gt, lc_le, lc_ge, Classical.not_not] at *); (try simp only [i_lt, i_le, i_eq, l_lt, l_le, l_eq, Int32.toInt_toInt64, Int32.reduceToInt, Int64.reduceToInt] at *); omega)
theorem k_X7_addRound_n {a b : Int32} (hn : 5 ≤ (I 84 8).toInt) : Con sc mX7_addRound 0 0 0 [.ref 84, .int a, .int b] (XW I L tg) (rI (-3) (XW I L tg)) := by
  refine Con_of (by decide) (Nat.le_of_ble_eq_true rfl) ?_
  refine r_aload_n (j := 0) rfl rfl dX7_addRound_0 ?_
  refine w_getI fX7_44 rfl dX7_addRound_1 ?_
  refine r_iconst (v := 5) rfl dX7_addRound_4 ?_
  refine r_icmp_lt (tgt := 11) dX7_addRound_5 (by decide) (fun c5 => ?_) (fun c5 => ?_)
  · exfalso; ((try simp only [bI_0, bI_1, lc_lt, lc_gt, lc_le, lc_ge, Classical.not_not] at *); (try simp only [i_lt, i_le, i_eq, l_lt, l_le, l_eq, Int32.toInt_toInt64, Int32.reduceToInt, Int64.reduceToInt] at *); omega)
  · refine r_bipush (v := (-3)) rfl dX7_addRound_8 ?_
    refine w_iret rfl (rfl) (Nat.le_of_ble_eq_true rfl) (Nat.le_of_ble_eq_true rfl) dX7_addRound_10 ?_
    exact ⟨rfl, rfl, rfl, rfl⟩
theorem k_X7_forgetRow : Con sc mX7_forgetRow 0 0 0 [.ref 84] (XW I L tg) (rV (XW (up I 84 9 0) L tg)) := by
  refine Con_of (by decide) (Nat.le_of_ble_eq_true rfl) ?_
  refine r_aload_n (j := 0) rfl rfl dX7_forgetRow_0 ?_
  refine r_iconst (v := 0) rfl dX7_forgetRow_1 ?_
  refine w_putI fX7_33 rfl (rfl) (rfl) dX7_forgetRow_2 (fun J2 hJ2 => ?_)
  refine w_vret rfl (Nat.le_of_ble_eq_true rfl) (Nat.le_of_ble_eq_true rfl) dX7_forgetRow_5 ?_
  exact ⟨hJ2, rfl, rfl⟩
theorem k_X11_join_r {m b : Int32} (hc : ¬ ((1 ≤ m.toInt ∧ m.toInt ≤ 20) ∧ 0 ≤ b.toInt ∧ b.toInt ≤ 1)) : Con sc mX11_join 1 0 0 [.ref 0, .int m, .int b] (XW I L tg) (rI (-2) (XW I L tg)) := by
  refine Con_of (by decide) (Nat.le_of_ble_eq_true rfl) ?_
  refine r_iload_n (j := 1) rfl rfl dX11_join_0 ?_
  refine r_iconst (v := 1) rfl dX11_join_1 ?_
  refine r_bipush (v := 20) rfl dX11_join_2 ?_
  refine w_cS3p (k_X11_isWithin) (Nat.le_of_ble_eq_true rfl) lX11_166 mtX11_isWithin (Nat.le_of_ble_eq_true rfl) (Nat.le_of_ble_eq_true rfl) (Nat.le_of_ble_eq_true rfl) dX11_join_4 ?_
  refine r_if_eq (tgt := 19) dX11_join_7 (by decide) (fun c7 => ?_) (fun c7 => ?_)
  · refine r_bipush (v := (-2)) rfl dX11_join_19 ?_
    refine w_iret rfl (rfl) (Nat.le_of_ble_eq_true rfl) (Nat.le_of_ble_eq_true rfl) dX11_join_21 ?_
    exact ⟨rfl, rfl, rfl, rfl⟩
  · refine r_iload_n (j := 2) rfl rfl dX11_join_10 ?_
    refine r_iconst (v := 0) rfl dX11_join_11 ?_
    refine r_iconst (v := 1) rfl dX11_join_12 ?_
    refine w_cS3p (k_X11_isWithin) (Nat.le_of_ble_eq_true rfl) lX11_166 mtX11_isWithin (Nat.le_of_ble_eq_true rfl) (Nat.le_of_ble_eq_true rfl) (Nat.le_of_ble_eq_true rfl) dX11_join_13 ?_
    refine r_if_ne (tgt := 22) dX11_join_16 (by decide) (fun c16 => ?_) (fun c16 => ?_)
    · exact absurd ⟨bI_1.mp c7, bI_1.mp c16⟩ hc
    · refine r_bipush (v := (-2)) rfl dX11_join_19 ?_
      refine w_iret rfl (rfl) (Nat.le_of_ble_eq_true rfl) (Nat.le_of_ble_eq_true rfl) dX11_join_21 ?_
      exact ⟨rfl, rfl, rfl, rfl⟩
theorem k_X11_join_f {m b : Int32} (hc : (1 ≤ m.toInt ∧ m.toInt ≤ 20) ∧ 0 ≤ b.toInt ∧ b.toInt ≤ 1) (hn : 8 ≤ (I 84 7).toInt) : Con sc mX11_join 1 0 0 [.ref 0, .int m, .int b] (XW I L tg) (rI (-3) (XW I L tg)) := by
  refine Con_of (by decide) (Nat.le_of_ble_eq_true rfl) ?_
  refine r_iload_n (j := 1) rfl rfl dX11_join_0 ?_
  refine r_iconst (v := 1) rfl dX11_join_1 ?_
  refine r_bipush (v := 20) rfl dX11_join_2 ?_
  refine w_cS3p (k_X11_isWithin) (Nat.le_of_ble_eq_true rfl) lX11_166 mtX11_isWithin (Nat.le_of_ble_eq_true rfl) (Nat.le_of_ble_eq_true rfl) (Nat.le_of_ble_eq_true rfl) dX11_join_4 ?_
  refine r_if_eq (tgt := 19) dX11_join_7 (by decide) (fun c7 => ?_) (fun c7 => ?_)
  · exact absurd hc.1 (bI_0.mp c7)
  · refine r_iload_n (j := 2) rfl rfl dX11_join_10 ?_
    refine r_iconst (v := 0) rfl dX11_join_11 ?_
    refine r_iconst (v := 1) rfl dX11_join_12 ?_
    refine w_cS3p (k_X11_isWithin) (Nat.le_of_ble_eq_true rfl) lX11_166 mtX11_isWithin (Nat.le_of_ble_eq_true rfl) (Nat.le_of_ble_eq_true rfl) (Nat.le_of_ble_eq_true rfl) dX11_join_13 ?_
    refine r_if_ne (tgt := 22) dX11_join_16 (by decide) (fun c16 => ?_) (fun c16 => ?_)
    · refine r_aload_n (j := 0) rfl rfl dX11_join_22 ?_
      refine w_getR (b := 84) fX11_77 rfl rfl dX11_join_23 ?_
      refine r_iload_n (j := 1) rfl rfl dX11_join_26 ?_
      refine r_iconst (v := 3) rfl dX11_join_27 ?_
      refine r_iload_n (j := 2) rfl rfl dX11_join_28 ?_
      refine r_imul dX11_join_29 ?_
      refine r_iadd dX11_join_30 ?_
      refine w_cV1s (k_X7_addPerson_n hn) (Nat.le_of_ble_eq_true rfl) lX11_278 vmX7_addPerson rfl (Nat.le_of_ble_eq_true rfl) (Nat.le_of_ble_eq_true rfl) (Nat.le_of_ble_eq_true rfl) dX11_join_31 (fun J31 K31 hJ31 hK31 => ?_)
      subst hK31
      refine w_iret rfl (rfl) (Nat.le_of_ble_eq_true rfl) (Nat.le_of_ble_eq_true rfl) dX11_join_34 ?_
      exact ⟨rfl, hJ31, rfl, rfl⟩
    · exact absurd hc.2 (bI_0.mp c16)
theorem k_X11_join_y {m b : Int32} {n : Nat} (hc : (1 ≤ m.toInt ∧ m.toInt ≤ 20) ∧ 0 ≤ b.toInt ∧ b.toInt ≤ 1) (hn : (I 84 7).toInt = n) (h8 : n < 8) : Con sc mX11_join 1 0 0 [.ref 0, .int m, .int b] (XW I L tg) (rI (I 84 7) (XW (pad I n (m + 3 * b)) L tg)) := by
  refine Con_of (by decide) (Nat.le_of_ble_eq_true rfl) ?_
  refine r_iload_n (j := 1) rfl rfl dX11_join_0 ?_
  refine r_iconst (v := 1) rfl dX11_join_1 ?_
  refine r_bipush (v := 20) rfl dX11_join_2 ?_
  refine w_cS3p (k_X11_isWithin) (Nat.le_of_ble_eq_true rfl) lX11_166 mtX11_isWithin (Nat.le_of_ble_eq_true rfl) (Nat.le_of_ble_eq_true rfl) (Nat.le_of_ble_eq_true rfl) dX11_join_4 ?_
  refine r_if_eq (tgt := 19) dX11_join_7 (by decide) (fun c7 => ?_) (fun c7 => ?_)
  · exact absurd hc.1 (bI_0.mp c7)
  · refine r_iload_n (j := 2) rfl rfl dX11_join_10 ?_
    refine r_iconst (v := 0) rfl dX11_join_11 ?_
    refine r_iconst (v := 1) rfl dX11_join_12 ?_
    refine w_cS3p (k_X11_isWithin) (Nat.le_of_ble_eq_true rfl) lX11_166 mtX11_isWithin (Nat.le_of_ble_eq_true rfl) (Nat.le_of_ble_eq_true rfl) (Nat.le_of_ble_eq_true rfl) dX11_join_13 ?_
    refine r_if_ne (tgt := 22) dX11_join_16 (by decide) (fun c16 => ?_) (fun c16 => ?_)
    · refine r_aload_n (j := 0) rfl rfl dX11_join_22 ?_
      refine w_getR (b := 84) fX11_77 rfl rfl dX11_join_23 ?_
      refine r_iload_n (j := 1) rfl rfl dX11_join_26 ?_
      refine r_iconst (v := 3) rfl dX11_join_27 ?_
      refine r_iload_n (j := 2) rfl rfl dX11_join_28 ?_
      refine r_imul dX11_join_29 ?_
      refine r_iadd dX11_join_30 ?_
      refine w_cV1s (k_X7_addPerson_y hn h8) (Nat.le_of_ble_eq_true rfl) lX11_278 vmX7_addPerson rfl (Nat.le_of_ble_eq_true rfl) (Nat.le_of_ble_eq_true rfl) (Nat.le_of_ble_eq_true rfl) dX11_join_31 (fun J31 K31 hJ31 hK31 => ?_)
      subst hK31
      refine w_iret rfl (rfl) (Nat.le_of_ble_eq_true rfl) (Nat.le_of_ble_eq_true rfl) dX11_join_34 ?_
      exact ⟨rfl, hJ31, rfl, rfl⟩
    · exact absurd hc.2 (bI_0.mp c16)
def rouC (I : Is) (a b : Int32) : Prop := 0 ≤ a.toInt ∧ a.toInt < b.toInt ∧ b.toInt ≤ 600 ∧ rmt (I 86) (I 87) (nN (I 84 8)) a b = -1
theorem k_X11_round_r {a b : Int32} (hc : ¬ rouC I a b) (r0 : 0 ≤ (I 84 8).toInt) (r5 : (I 84 8).toInt ≤ 5) : Con sc mX11_round 2 0 0 [.ref 0, .int a, .int b] (XW I L tg) (rI (-2) (XW I L tg)) := by
  refine Con_of (by decide) (Nat.le_of_ble_eq_true rfl) ?_
  refine r_iload_n (j := 1) rfl rfl dX11_round_0 ?_
  refine r_if_lt (tgt := 28) dX11_round_1 (by decide) (fun c1 => ?_) (fun c1 => ?_)
  · refine r_bipush (v := (-2)) rfl dX11_round_28 ?_
    refine w_iret rfl (rfl) (Nat.le_of_ble_eq_true rfl) (Nat.le_of_ble_eq_true rfl) dX11_round_30 ?_
    exact ⟨rfl, rfl, rfl, rfl⟩
  · refine r_iload_n (j := 2) rfl rfl dX11_round_4 ?_
    refine r_iload_n (j := 1) rfl rfl dX11_round_5 ?_
    refine r_icmp_le (tgt := 28) dX11_round_6 (by decide) (fun c6 => ?_) (fun c6 => ?_)
    · refine r_bipush (v := (-2)) rfl dX11_round_28 ?_
      refine w_iret rfl (rfl) (Nat.le_of_ble_eq_true rfl) (Nat.le_of_ble_eq_true rfl) dX11_round_30 ?_
      exact ⟨rfl, rfl, rfl, rfl⟩
    · refine r_iload_n (j := 2) rfl rfl dX11_round_9 ?_
      refine r_sipush (v := 600) rfl dX11_round_10 ?_
      refine r_icmp_gt (tgt := 28) dX11_round_13 (by decide) (fun c13 => ?_) (fun c13 => ?_)
      · refine r_bipush (v := (-2)) rfl dX11_round_28 ?_
        refine w_iret rfl (rfl) (Nat.le_of_ble_eq_true rfl) (Nat.le_of_ble_eq_true rfl) dX11_round_30 ?_
        exact ⟨rfl, rfl, rfl, rfl⟩
      · refine r_aload_n (j := 0) rfl rfl dX11_round_16 ?_
        refine w_getR (b := 84) fX11_77 rfl rfl dX11_round_17 ?_
        refine r_iload_n (j := 1) rfl rfl dX11_round_20 ?_
        refine r_iload_n (j := 2) rfl rfl dX11_round_21 ?_
        refine w_cV2p (k_X7_meetsRound r0 r5) (Nat.le_of_ble_eq_true rfl) lX11_281 vmX7_meetsRound rfl (Nat.le_of_ble_eq_true rfl) (Nat.le_of_ble_eq_true rfl) (Nat.le_of_ble_eq_true rfl) dX11_round_22 ?_
        refine r_if_eq (tgt := 31) dX11_round_25 (by decide) (fun c25 => ?_) (fun c25 => ?_)
        · exact absurd ⟨by ((try simp only [bI_0, bI_1, lc_lt, lc_gt, lc_le, lc_ge, Classical.not_not] at *); (try simp only [i_lt, i_le, i_eq, l_lt, l_le, l_eq, Int32.toInt_toInt64, Int32.reduceToInt, Int64.reduceToInt] at *); omega), by ((try simp only [bI_0, bI_1, lc_lt, lc_gt, lc_le, lc_ge, Classical.not_not] at *); (try simp only [i_lt, i_le, i_eq, l_lt, l_le, l_eq, Int32.toInt_toInt64, Int32.reduceToInt, Int64.reduceToInt] at *); omega), by ((try simp only [bI_0, bI_1, lc_lt, lc_gt, lc_le, lc_ge, Classical.not_not] at *); (try simp only [i_lt, i_le, i_eq, l_lt, l_le, l_eq, Int32.toInt_toInt64, Int32.reduceToInt, Int64.reduceToInt] at *); omega), Classical.not_not.mp (bI_0.mp c25)⟩ hc
        · refine r_bipush (v := (-2)) rfl dX11_round_28 ?_
          refine w_iret rfl (rfl) (Nat.le_of_ble_eq_true rfl) (Nat.le_of_ble_eq_true rfl) dX11_round_30 ?_
          exact ⟨rfl, rfl, rfl, rfl⟩
theorem k_X11_round_f {a b : Int32} (hc : rouC I a b) (r0 : 0 ≤ (I 84 8).toInt) (r5 : (I 84 8).toInt = 5) : Con sc mX11_round 2 0 0 [.ref 0, .int a, .int b] (XW I L tg) (rI (-3) (XW I L tg)) := by
  refine Con_of (by decide) (Nat.le_of_ble_eq_true rfl) ?_
  obtain ⟨hc1, hc2, hc3, hc4⟩ := hc
  refine r_iload_n (j := 1) rfl rfl dX11_round_0 ?_
  refine r_if_lt (tgt := 28) dX11_round_1 (by decide) (fun c1 => ?_) (fun c1 => ?_)
  · exfalso; ((try simp only [bI_0, bI_1, lc_lt, lc_gt, lc_le, lc_ge, Classical.not_not] at *); (try simp only [i_lt, i_le, i_eq, l_lt, l_le, l_eq, Int32.toInt_toInt64, Int32.reduceToInt, Int64.reduceToInt] at *); omega)
  · refine r_iload_n (j := 2) rfl rfl dX11_round_4 ?_
    refine r_iload_n (j := 1) rfl rfl dX11_round_5 ?_
    refine r_icmp_le (tgt := 28) dX11_round_6 (by decide) (fun c6 => ?_) (fun c6 => ?_)
    · exfalso; ((try simp only [bI_0, bI_1, lc_lt, lc_gt, lc_le, lc_ge, Classical.not_not] at *); (try simp only [i_lt, i_le, i_eq, l_lt, l_le, l_eq, Int32.toInt_toInt64, Int32.reduceToInt, Int64.reduceToInt] at *); omega)
    · refine r_iload_n (j := 2) rfl rfl dX11_round_9 ?_
      refine r_sipush (v := 600) rfl dX11_round_10 ?_
      refine r_icmp_gt (tgt := 28) dX11_round_13 (by decide) (fun c13 => ?_) (fun c13 => ?_)
      · exfalso; ((try simp only [bI_0, bI_1, lc_lt, lc_gt, lc_le, lc_ge, Classical.not_not] at *); (try simp only [i_lt, i_le, i_eq, l_lt, l_le, l_eq, Int32.toInt_toInt64, Int32.reduceToInt, Int64.reduceToInt] at *); omega)
      · refine r_aload_n (j := 0) rfl rfl dX11_round_16 ?_
        refine w_getR (b := 84) fX11_77 rfl rfl dX11_round_17 ?_
        refine r_iload_n (j := 1) rfl rfl dX11_round_20 ?_
        refine r_iload_n (j := 2) rfl rfl dX11_round_21 ?_
        refine w_cV2p (k_X7_meetsRound r0 (by omega)) (Nat.le_of_ble_eq_true rfl) lX11_281 vmX7_meetsRound rfl (Nat.le_of_ble_eq_true rfl) (Nat.le_of_ble_eq_true rfl) (Nat.le_of_ble_eq_true rfl) dX11_round_22 ?_
        refine r_if_eq (tgt := 31) dX11_round_25 (by decide) (fun c25 => ?_) (fun c25 => ?_)
        · refine r_aload_n (j := 0) rfl rfl dX11_round_31 ?_
          refine w_getR (b := 84) fX11_77 rfl rfl dX11_round_32 ?_
          refine r_iload_n (j := 1) rfl rfl dX11_round_35 ?_
          refine r_iload_n (j := 2) rfl rfl dX11_round_36 ?_
          refine w_cV2s (k_X7_addRound_n (by omega)) (Nat.le_of_ble_eq_true rfl) lX11_285 vmX7_addRound rfl (Nat.le_of_ble_eq_true rfl) (Nat.le_of_ble_eq_true rfl) (Nat.le_of_ble_eq_true rfl) dX11_round_37 (fun J37 K37 hJ37 hK37 => ?_)
          subst hK37
          refine w_iret rfl (rfl) (Nat.le_of_ble_eq_true rfl) (Nat.le_of_ble_eq_true rfl) dX11_round_40 ?_
          exact ⟨rfl, hJ37, rfl, rfl⟩
        · exact absurd hc4 (bI_1.mp c25)
theorem k_X11_round_y {a b : Int32} {n : Nat} (hc : rouC I a b) (hn : (I 84 8).toInt = n) (h8 : n < 5) : Con sc mX11_round 2 0 0 [.ref 0, .int a, .int b] (XW I L tg) (rI (I 84 8) (XW (rad I n a b) L tg)) := by
  refine Con_of (by decide) (Nat.le_of_ble_eq_true rfl) ?_
  obtain ⟨hc1, hc2, hc3, hc4⟩ := hc
  refine r_iload_n (j := 1) rfl rfl dX11_round_0 ?_
  refine r_if_lt (tgt := 28) dX11_round_1 (by decide) (fun c1 => ?_) (fun c1 => ?_)
  · exfalso; ((try simp only [bI_0, bI_1, lc_lt, lc_gt, lc_le, lc_ge, Classical.not_not] at *); (try simp only [i_lt, i_le, i_eq, l_lt, l_le, l_eq, Int32.toInt_toInt64, Int32.reduceToInt, Int64.reduceToInt] at *); omega)
  · refine r_iload_n (j := 2) rfl rfl dX11_round_4 ?_
    refine r_iload_n (j := 1) rfl rfl dX11_round_5 ?_
    refine r_icmp_le (tgt := 28) dX11_round_6 (by decide) (fun c6 => ?_) (fun c6 => ?_)
    · exfalso; ((try simp only [bI_0, bI_1, lc_lt, lc_gt, lc_le, lc_ge, Classical.not_not] at *); (try simp only [i_lt, i_le, i_eq, l_lt, l_le, l_eq, Int32.toInt_toInt64, Int32.reduceToInt, Int64.reduceToInt] at *); omega)
    · refine r_iload_n (j := 2) rfl rfl dX11_round_9 ?_
      refine r_sipush (v := 600) rfl dX11_round_10 ?_
      refine r_icmp_gt (tgt := 28) dX11_round_13 (by decide) (fun c13 => ?_) (fun c13 => ?_)
      · exfalso; ((try simp only [bI_0, bI_1, lc_lt, lc_gt, lc_le, lc_ge, Classical.not_not] at *); (try simp only [i_lt, i_le, i_eq, l_lt, l_le, l_eq, Int32.toInt_toInt64, Int32.reduceToInt, Int64.reduceToInt] at *); omega)
      · refine r_aload_n (j := 0) rfl rfl dX11_round_16 ?_
        refine w_getR (b := 84) fX11_77 rfl rfl dX11_round_17 ?_
        refine r_iload_n (j := 1) rfl rfl dX11_round_20 ?_
        refine r_iload_n (j := 2) rfl rfl dX11_round_21 ?_
        refine w_cV2p (k_X7_meetsRound (by omega) (by omega)) (Nat.le_of_ble_eq_true rfl) lX11_281 vmX7_meetsRound rfl (Nat.le_of_ble_eq_true rfl) (Nat.le_of_ble_eq_true rfl) (Nat.le_of_ble_eq_true rfl) dX11_round_22 ?_
        refine r_if_eq (tgt := 31) dX11_round_25 (by decide) (fun c25 => ?_) (fun c25 => ?_)
        · refine r_aload_n (j := 0) rfl rfl dX11_round_31 ?_
          refine w_getR (b := 84) fX11_77 rfl rfl dX11_round_32 ?_
          refine r_iload_n (j := 1) rfl rfl dX11_round_35 ?_
          refine r_iload_n (j := 2) rfl rfl dX11_round_36 ?_
          refine w_cV2s (k_X7_addRound_y hn h8) (Nat.le_of_ble_eq_true rfl) lX11_285 vmX7_addRound rfl (Nat.le_of_ble_eq_true rfl) (Nat.le_of_ble_eq_true rfl) (Nat.le_of_ble_eq_true rfl) dX11_round_37 (fun J37 K37 hJ37 hK37 => ?_)
          subst hK37
          refine w_iret rfl (rfl) (Nat.le_of_ble_eq_true rfl) (Nat.le_of_ble_eq_true rfl) dX11_round_40 ?_
          exact ⟨rfl, hJ37, rfl, rfl⟩
        · exact absurd hc4 (bI_1.mp c25)
def mrn (I : Is) : Is := up (up (up I 84 7 0) 84 8 0) 84 9 0
theorem k_X11_morning : Con sc mX11_morning 1 0 0 [.ref 0] (XW I L tg) (rI (I 84 7) (XW (mrn I) L tg)) := by
  refine Con_of (by decide) (Nat.le_of_ble_eq_true rfl) ?_
  refine r_aload_n (j := 0) rfl rfl dX11_morning_0 ?_
  refine w_getR (b := 84) fX11_77 rfl rfl dX11_morning_1 ?_
  refine w_getI fX11_288 rfl dX11_morning_4 ?_
  refine r_istore_n (lv' := fun z => [(1, .int z), (0, .ref 0)]) dX11_morning_7 rfl (Nat.le_of_ble_eq_true rfl) (fun _ => rfl) (fun x1_7 ex1_7 => ?_)
  refine r_aload_n (j := 1) rfl rfl dX11_morning_8 ?_
  refine w_getR (b := 84) fX11_77 rfl rfl dX11_morning_9 ?_
  refine r_iconst (v := 0) rfl dX11_morning_12 ?_
  refine w_putI fX11_288 rfl (rfl) (rfl) dX11_morning_13 (fun J13 hJ13 => ?_)
  refine r_aload_n (j := 1) rfl rfl dX11_morning_16 ?_
  refine w_getR (b := 84) fX11_77 rfl rfl dX11_morning_17 ?_
  refine r_iconst (v := 0) rfl dX11_morning_20 ?_
  refine w_putI fX11_291 rfl (rfl) (rfl) dX11_morning_21 (fun J21 hJ21 => ?_)
  refine r_aload_n (j := 1) rfl rfl dX11_morning_24 ?_
  refine w_getR (b := 84) fX11_77 rfl rfl dX11_morning_25 ?_
  refine w_cV0v (k_X7_forgetRow) (Nat.le_of_ble_eq_true rfl) lX11_109 vmX7_forgetRow rfl (Nat.le_of_ble_eq_true rfl) (Nat.le_of_ble_eq_true rfl) (Nat.le_of_ble_eq_true rfl) dX11_morning_28 (fun J28 K28 hJ28 hK28 => ?_)
  subst hK28
  refine r_iload_n (j := 0) rfl rfl dX11_morning_31 ?_
  refine w_iret rfl (rfl) (Nat.le_of_ble_eq_true rfl) (Nat.le_of_ble_eq_true rfl) dX11_morning_32 ?_
  subst hJ28 hJ21 hJ13; exact ⟨ex1_7, rfl, rfl, rfl⟩
theorem k_X11_order (l0 : 0 ≤ (I 1 1).toInt) (h9 : (I 1 1).toInt ≤ 900) (p8 : (I 84 7).toInt ≤ 8) (r0 : 0 ≤ (I 84 8).toInt) (r5 : (I 84 8).toInt ≤ 5) : Con sc mX11_order 3 0 0 [.ref 0] (XW I L tg) (rI (loS (I 2) (I 84 7) (outI I) (nN (I 1 1)) 0 0 0) (XW (up I 1 1 0) L tg)) := by
  refine Con_of (by decide) (Nat.le_of_ble_eq_true rfl) ?_
  refine r_aload_n (j := 0) rfl rfl dX11_order_0 ?_
  refine w_getR (b := 84) fX11_77 rfl rfl dX11_order_1 ?_
  refine r_aload_n (j := 0) rfl rfl dX11_order_4 ?_
  refine w_getR (b := 1) fX11_10 rfl rfl dX11_order_5 ?_
  refine w_cV1p (k_X7_lastOut l0 h9 p8 r0 r5) (Nat.le_of_ble_eq_true rfl) lX11_294 vmX7_lastOut rfl (Nat.le_of_ble_eq_true rfl) (Nat.le_of_ble_eq_true rfl) (Nat.le_of_ble_eq_true rfl) dX11_order_8 ?_
  refine r_istore_n (lv' := fun z => [(1, .int z), (0, .ref 0)]) dX11_order_11 rfl (Nat.le_of_ble_eq_true rfl) (fun _ => rfl) (fun x1_11 ex1_11 => ?_)
  refine r_aload_n (j := 1) rfl rfl dX11_order_12 ?_
  refine w_getR (b := 1) fX11_10 rfl rfl dX11_order_13 ?_
  refine r_iconst (v := 0) rfl dX11_order_16 ?_
  refine w_putI fX11_88 rfl (rfl) (rfl) dX11_order_17 (fun J17 hJ17 => ?_)
  refine r_iload_n (j := 0) rfl rfl dX11_order_20 ?_
  refine w_iret rfl (rfl) (Nat.le_of_ble_eq_true rfl) (Nat.le_of_ble_eq_true rfl) dX11_order_21 ?_
  exact ⟨ex1_11, hJ17, rfl, rfl⟩
theorem k_X11_best_r {t : Int32} (hc : ¬ (0 ≤ t.toInt ∧ t.toInt ≤ 999)) : Con sc mX11_best 5 0 0 [.ref 0, .int t] (XW I L tg) (rI (-2) (XW I L tg)) := by
  refine Con_of (by decide) (Nat.le_of_ble_eq_true rfl) ?_
  refine r_iload_n (j := 1) rfl rfl dX11_best_0 ?_
  refine r_iconst (v := 0) rfl dX11_best_1 ?_
  refine r_sipush (v := 999) rfl dX11_best_2 ?_
  refine w_cS3p (k_X11_isWithin) (Nat.le_of_ble_eq_true rfl) lX11_166 mtX11_isWithin (Nat.le_of_ble_eq_true rfl) (Nat.le_of_ble_eq_true rfl) (Nat.le_of_ble_eq_true rfl) dX11_best_5 ?_
  refine r_if_eq (tgt := 22) dX11_best_8 (by decide) (fun c8 => ?_) (fun c8 => ?_)
  · refine r_bipush (v := (-2)) rfl dX11_best_22 ?_
    refine w_iret rfl (rfl) (Nat.le_of_ble_eq_true rfl) (Nat.le_of_ble_eq_true rfl) dX11_best_24 ?_
    exact ⟨rfl, rfl, rfl, rfl⟩
  · exact absurd (bI_1.mp c8) hc
theorem k_X11_best_y {t : Int32} {P : Nat} (hc : 0 ≤ t.toInt ∧ t.toInt ≤ 999) (hP : I 84 7 = nI P) (h8 : P ≤ 8) (r0 : 0 ≤ (I 84 8).toInt) (r5 : (I 84 8).toInt ≤ 5) : Con sc mX11_best 5 0 0 [.ref 0, .int t] (XW I L tg) (rI (nI (fbS (erT (outI I) P (I 90) (2 ^ P)) t (2 ^ P - 1)).1) (XW (bsI I P t) L tg)) := by
  refine Con_of (by decide) (Nat.le_of_ble_eq_true rfl) ?_
  refine r_iload_n (j := 1) rfl rfl dX11_best_0 ?_
  refine r_iconst (v := 0) rfl dX11_best_1 ?_
  refine r_sipush (v := 999) rfl dX11_best_2 ?_
  refine w_cS3p (k_X11_isWithin) (Nat.le_of_ble_eq_true rfl) lX11_166 mtX11_isWithin (Nat.le_of_ble_eq_true rfl) (Nat.le_of_ble_eq_true rfl) (Nat.le_of_ble_eq_true rfl) dX11_best_5 ?_
  refine r_if_eq (tgt := 22) dX11_best_8 (by decide) (fun c8 => ?_) (fun c8 => ?_)
  · exact absurd hc (bI_0.mp c8)
  · refine r_aload_n (j := 0) rfl rfl dX11_best_11 ?_
    refine w_getR (b := 84) fX11_77 rfl rfl dX11_best_12 ?_
    refine r_iload_n (j := 1) rfl rfl dX11_best_15 ?_
    refine w_cV1s (k_X7_findBest hP h8 r0 r5) (Nat.le_of_ble_eq_true rfl) lX11_298 vmX7_findBest rfl (Nat.le_of_ble_eq_true rfl) (Nat.le_of_ble_eq_true rfl) (Nat.le_of_ble_eq_true rfl) dX11_best_16 (fun J16 K16 hJ16 hK16 => ?_)
    subst hK16
    refine r_goto (tgt := 24) dX11_best_19 (by decide) ?_
    refine w_iret rfl (rfl) (Nat.le_of_ble_eq_true rfl) (Nat.le_of_ble_eq_true rfl) dX11_best_24 ?_
    exact ⟨rfl, hJ16, rfl, rfl⟩
def goC (I : Is) (i w : Int32) : Prop := (0 ≤ i.toInt ∧ i.toInt ≤ (I 84 9 - 1).toInt) ∧ 0 ≤ w.toInt ∧ w.toInt ≤ 1
theorem k_X11_goes_r {i w : Int32} (hc : ¬ goC I i w) : Con sc mX11_goes 1 0 0 [.ref 0, .int i, .int w] (XW I L tg) (rI (-1) (XW I L tg)) := by
  refine Con_of (by decide) (Nat.le_of_ble_eq_true rfl) ?_
  refine r_iload_n (j := 1) rfl rfl dX11_goes_0 ?_
  refine r_iconst (v := 0) rfl dX11_goes_1 ?_
  refine r_aload_n (j := 0) rfl rfl dX11_goes_2 ?_
  refine w_getR (b := 84) fX11_77 rfl rfl dX11_goes_3 ?_
  refine w_getI fX11_301 rfl dX11_goes_6 ?_
  refine r_iconst (v := 1) rfl dX11_goes_9 ?_
  refine r_isub dX11_goes_10 ?_
  refine w_cS3p (k_X11_isWithin) (Nat.le_of_ble_eq_true rfl) lX11_166 mtX11_isWithin (Nat.le_of_ble_eq_true rfl) (Nat.le_of_ble_eq_true rfl) (Nat.le_of_ble_eq_true rfl) dX11_goes_11 ?_
  refine r_if_eq (tgt := 26) dX11_goes_14 (by decide) (fun c14 => ?_) (fun c14 => ?_)
  · refine r_iconst (v := (-1)) rfl dX11_goes_26 ?_
    refine w_iret rfl (rfl) (Nat.le_of_ble_eq_true rfl) (Nat.le_of_ble_eq_true rfl) dX11_goes_27 ?_
    exact ⟨rfl, rfl, rfl, rfl⟩
  · refine r_iload_n (j := 2) rfl rfl dX11_goes_17 ?_
    refine r_iconst (v := 0) rfl dX11_goes_18 ?_
    refine r_iconst (v := 1) rfl dX11_goes_19 ?_
    refine w_cS3p (k_X11_isWithin) (Nat.le_of_ble_eq_true rfl) lX11_166 mtX11_isWithin (Nat.le_of_ble_eq_true rfl) (Nat.le_of_ble_eq_true rfl) (Nat.le_of_ble_eq_true rfl) dX11_goes_20 ?_
    refine r_if_ne (tgt := 28) dX11_goes_23 (by decide) (fun c23 => ?_) (fun c23 => ?_)
    · exact absurd ⟨bI_1.mp c14, bI_1.mp c23⟩ hc
    · refine r_iconst (v := (-1)) rfl dX11_goes_26 ?_
      refine w_iret rfl (rfl) (Nat.le_of_ble_eq_true rfl) (Nat.le_of_ble_eq_true rfl) dX11_goes_27 ?_
      exact ⟨rfl, rfl, rfl, rfl⟩
theorem k_X11_goes_y {i w : Int32} {k : Nat} (hc : goC I i w) (ei : i.toInt = k) (h8 : k < 8) : Con sc mX11_goes 1 0 0 [.ref 0, .int i, .int w] (XW I L tg) (rI (if w = 0 then I 88 k else I 89 k) (XW I L tg)) := by
  refine Con_of (by decide) (Nat.le_of_ble_eq_true rfl) ?_
  have ci := cl_of ei
  refine r_iload_n (j := 1) rfl rfl dX11_goes_0 ?_
  refine r_iconst (v := 0) rfl dX11_goes_1 ?_
  refine r_aload_n (j := 0) rfl rfl dX11_goes_2 ?_
  refine w_getR (b := 84) fX11_77 rfl rfl dX11_goes_3 ?_
  refine w_getI fX11_301 rfl dX11_goes_6 ?_
  refine r_iconst (v := 1) rfl dX11_goes_9 ?_
  refine r_isub dX11_goes_10 ?_
  refine w_cS3p (k_X11_isWithin) (Nat.le_of_ble_eq_true rfl) lX11_166 mtX11_isWithin (Nat.le_of_ble_eq_true rfl) (Nat.le_of_ble_eq_true rfl) (Nat.le_of_ble_eq_true rfl) dX11_goes_11 ?_
  refine r_if_eq (tgt := 26) dX11_goes_14 (by decide) (fun c14 => ?_) (fun c14 => ?_)
  · exact absurd hc.1 (bI_0.mp c14)
  · refine r_iload_n (j := 2) rfl rfl dX11_goes_17 ?_
    refine r_iconst (v := 0) rfl dX11_goes_18 ?_
    refine r_iconst (v := 1) rfl dX11_goes_19 ?_
    refine w_cS3p (k_X11_isWithin) (Nat.le_of_ble_eq_true rfl) lX11_166 mtX11_isWithin (Nat.le_of_ble_eq_true rfl) (Nat.le_of_ble_eq_true rfl) (Nat.le_of_ble_eq_true rfl) dX11_goes_20 ?_
    refine r_if_ne (tgt := 28) dX11_goes_23 (by decide) (fun c23 => ?_) (fun c23 => ?_)
    · refine r_iload_n (j := 2) rfl rfl dX11_goes_28 ?_
      refine r_if_ne (tgt := 44) dX11_goes_29 (by decide) (fun c29 => ?_) (fun c29 => ?_)
      · refine r_aload_n (j := 0) rfl rfl dX11_goes_44 ?_
        refine w_getR (b := 84) fX11_77 rfl rfl dX11_goes_45 ?_
        refine w_getR (b := 89) fX11_307 rfl rfl dX11_goes_48 ?_
        refine r_iload_n (j := 1) rfl rfl dX11_goes_51 ?_
        refine w_iald rfl (up_in ei h8) dX11_goes_52 ?_
        refine w_iret rfl (rfl) (Nat.le_of_ble_eq_true rfl) (Nat.le_of_ble_eq_true rfl) dX11_goes_53 ?_
        exact ⟨by first | (rw [if_pos c29, ci]) | (rw [if_neg c29, ci]), rfl, rfl, rfl⟩
      · refine r_aload_n (j := 0) rfl rfl dX11_goes_32 ?_
        refine w_getR (b := 84) fX11_77 rfl rfl dX11_goes_33 ?_
        refine w_getR (b := 88) fX11_304 rfl rfl dX11_goes_36 ?_
        refine r_iload_n (j := 1) rfl rfl dX11_goes_39 ?_
        refine w_iald rfl (up_in ei h8) dX11_goes_40 ?_
        refine r_goto (tgt := 53) dX11_goes_41 (by decide) ?_
        refine w_iret rfl (rfl) (Nat.le_of_ble_eq_true rfl) (Nat.le_of_ble_eq_true rfl) dX11_goes_53 ?_
        exact ⟨by first | (rw [if_pos c29, ci]) | (rw [if_neg c29, ci]), rfl, rfl, rfl⟩
    · exact absurd hc.2 (bI_0.mp c23)
end Night2
