/-! the public face: strings, looks, the camp -/
section Pub2
variable {sc : Sc} {I : Is} {L : Ls} {tg : Nat}
theorem k_X11_drift_r {d : Int32} (hc : ¬ (0 ≤ d.toInt ∧ d.toInt ≤ 20)) : Con sc mX11_drift 1 0 0 [.ref 0, .int d] (XW I L tg) (rI (-2) (XW I L tg)) := by
  refine Con_of (by decide) (Nat.le_of_ble_eq_true rfl) ?_
  refine r_iload_n (j := 1) rfl rfl dX11_drift_0 ?_
  refine r_iconst (v := 0) rfl dX11_drift_1 ?_
  refine r_bipush (v := 20) rfl dX11_drift_2 ?_
  refine w_cS3p (k_X11_isWithin) (Nat.le_of_ble_eq_true rfl) lX11_166 mtX11_isWithin (Nat.le_of_ble_eq_true rfl) (Nat.le_of_ble_eq_true rfl) (Nat.le_of_ble_eq_true rfl) dX11_drift_4 ?_
  refine r_if_ne (tgt := 13) dX11_drift_7 (by decide) (fun c7 => ?_) (fun c7 => ?_)
  · exact absurd (bI_1.mp c7) hc
  · refine r_bipush (v := (-2)) rfl dX11_drift_10 ?_
    refine w_iret rfl (rfl) (Nat.le_of_ble_eq_true rfl) (Nat.le_of_ble_eq_true rfl) dX11_drift_12 ?_
    exact ⟨rfl, rfl, rfl, rfl⟩
theorem k_X11_drift_y {d : Int32} (hc : 0 ≤ d.toInt ∧ d.toInt ≤ 20) : Con sc mX11_drift 1 0 0 [.ref 0, .int d] (XW I L tg) (rI (I 75 11) (XW (up I 75 11 d) L tg)) := by
  refine Con_of (by decide) (Nat.le_of_ble_eq_true rfl) ?_
  refine r_iload_n (j := 1) rfl rfl dX11_drift_0 ?_
  refine r_iconst (v := 0) rfl dX11_drift_1 ?_
  refine r_bipush (v := 20) rfl dX11_drift_2 ?_
  refine w_cS3p (k_X11_isWithin) (Nat.le_of_ble_eq_true rfl) lX11_166 mtX11_isWithin (Nat.le_of_ble_eq_true rfl) (Nat.le_of_ble_eq_true rfl) (Nat.le_of_ble_eq_true rfl) dX11_drift_4 ?_
  refine r_if_ne (tgt := 13) dX11_drift_7 (by decide) (fun c7 => ?_) (fun c7 => ?_)
  · refine r_aload_n (j := 0) rfl rfl dX11_drift_13 ?_
    refine w_getR (b := 75) fX11_70 rfl rfl dX11_drift_14 ?_
    refine w_getI fX11_245 rfl dX11_drift_17 ?_
    refine r_istore_n (lv' := fun z => [(2, .int z), (0, .ref 0), (1, .int d)]) dX11_drift_20 rfl (Nat.le_of_ble_eq_true rfl) (fun _ => rfl) (fun x2_20 ex2_20 => ?_)
    refine r_aload_n (j := 1) rfl rfl dX11_drift_21 ?_
    refine w_getR (b := 75) fX11_70 rfl rfl dX11_drift_22 ?_
    refine r_iload_n (j := 2) rfl rfl dX11_drift_25 ?_
    refine w_putI fX11_245 rfl (rfl) (rfl) dX11_drift_26 (fun J26 hJ26 => ?_)
    refine r_iload_n (j := 0) rfl rfl dX11_drift_29 ?_
    refine w_iret rfl (rfl) (Nat.le_of_ble_eq_true rfl) (Nat.le_of_ble_eq_true rfl) dX11_drift_30 ?_
    exact ⟨ex2_20, hJ26, rfl, rfl⟩
  · exact absurd hc (bI_0.mp c7)
def strC (I : Is) (t f h k : Int32) : Prop := ((0 ≤ t.toInt ∧ t.toInt ≤ 999) ∧ (I 75 10).toInt ≤ t.toInt) ∧ (1 ≤ f.toInt ∧ f.toInt ≤ 99) ∧ (0 ≤ h.toInt ∧ h.toInt ≤ 7) ∧ (0 ≤ k.toInt ∧ k.toInt ≤ 9)
theorem k_X11_string_r {t f h k : Int32} (hc : ¬ strC I t f h k) : Con sc mX11_string 3 0 0 [.ref 0, .int t, .int f, .int h, .int k] (XW I L tg) (rI (-2) (XW I L tg)) := by
  refine Con_of (by decide) (Nat.le_of_ble_eq_true rfl) ?_
  refine r_aload_n (j := 0) rfl rfl dX11_string_0 ?_
  refine w_getR (b := 75) fX11_70 rfl rfl dX11_string_1 ?_
  refine r_iload_n (j := 1) rfl rfl dX11_string_4 ?_
  refine w_cV1p (k_X9_mayTellAt) (Nat.le_of_ble_eq_true rfl) lX11_248 vmX9_mayTellAt rfl (Nat.le_of_ble_eq_true rfl) (Nat.le_of_ble_eq_true rfl) (Nat.le_of_ble_eq_true rfl) dX11_string_5 ?_
  refine r_if_eq (tgt := 42) dX11_string_8 (by decide) (fun c8 => ?_) (fun c8 => ?_)
  · refine r_bipush (v := (-2)) rfl dX11_string_42 ?_
    refine w_iret rfl (rfl) (Nat.le_of_ble_eq_true rfl) (Nat.le_of_ble_eq_true rfl) dX11_string_44 ?_
    exact ⟨rfl, rfl, rfl, rfl⟩
  · refine r_iload_n (j := 2) rfl rfl dX11_string_11 ?_
    refine r_iconst (v := 1) rfl dX11_string_12 ?_
    refine r_bipush (v := 99) rfl dX11_string_13 ?_
    refine w_cS3p (k_X11_isWithin) (Nat.le_of_ble_eq_true rfl) lX11_166 mtX11_isWithin (Nat.le_of_ble_eq_true rfl) (Nat.le_of_ble_eq_true rfl) (Nat.le_of_ble_eq_true rfl) dX11_string_15 ?_
    refine r_if_eq (tgt := 42) dX11_string_18 (by decide) (fun c18 => ?_) (fun c18 => ?_)
    · refine r_bipush (v := (-2)) rfl dX11_string_42 ?_
      refine w_iret rfl (rfl) (Nat.le_of_ble_eq_true rfl) (Nat.le_of_ble_eq_true rfl) dX11_string_44 ?_
      exact ⟨rfl, rfl, rfl, rfl⟩
    · refine r_iload_n (j := 3) rfl rfl dX11_string_21 ?_
      refine r_iconst (v := 0) rfl dX11_string_22 ?_
      refine r_bipush (v := 7) rfl dX11_string_23 ?_
      refine w_cS3p (k_X11_isWithin) (Nat.le_of_ble_eq_true rfl) lX11_166 mtX11_isWithin (Nat.le_of_ble_eq_true rfl) (Nat.le_of_ble_eq_true rfl) (Nat.le_of_ble_eq_true rfl) dX11_string_25 ?_
      refine r_if_eq (tgt := 42) dX11_string_28 (by decide) (fun c28 => ?_) (fun c28 => ?_)
      · refine r_bipush (v := (-2)) rfl dX11_string_42 ?_
        refine w_iret rfl (rfl) (Nat.le_of_ble_eq_true rfl) (Nat.le_of_ble_eq_true rfl) dX11_string_44 ?_
        exact ⟨rfl, rfl, rfl, rfl⟩
      · refine r_iload (j := 4) rfl dX11_string_31 ?_
        refine r_iconst (v := 0) rfl dX11_string_33 ?_
        refine r_bipush (v := 9) rfl dX11_string_34 ?_
        refine w_cS3p (k_X11_isWithin) (Nat.le_of_ble_eq_true rfl) lX11_166 mtX11_isWithin (Nat.le_of_ble_eq_true rfl) (Nat.le_of_ble_eq_true rfl) (Nat.le_of_ble_eq_true rfl) dX11_string_36 ?_
        refine r_if_ne (tgt := 45) dX11_string_39 (by decide) (fun c39 => ?_) (fun c39 => ?_)
        · exact absurd ⟨bI_1.mp c8, bI_1.mp c18, bI_1.mp c28, bI_1.mp c39⟩ hc
        · refine r_bipush (v := (-2)) rfl dX11_string_42 ?_
          refine w_iret rfl (rfl) (Nat.le_of_ble_eq_true rfl) (Nat.le_of_ble_eq_true rfl) dX11_string_44 ?_
          exact ⟨rfl, rfl, rfl, rfl⟩
theorem k_X11_string_f {t f h k : Int32} (hc : strC I t f h k) (hn : 16 ≤ (I 75 8).toInt) : Con sc mX11_string 3 0 0 [.ref 0, .int t, .int f, .int h, .int k] (XW I L tg) (rI (-3) (XW I L tg)) := by
  refine Con_of (by decide) (Nat.le_of_ble_eq_true rfl) ?_
  refine r_aload_n (j := 0) rfl rfl dX11_string_0 ?_
  refine w_getR (b := 75) fX11_70 rfl rfl dX11_string_1 ?_
  refine r_iload_n (j := 1) rfl rfl dX11_string_4 ?_
  refine w_cV1p (k_X9_mayTellAt) (Nat.le_of_ble_eq_true rfl) lX11_248 vmX9_mayTellAt rfl (Nat.le_of_ble_eq_true rfl) (Nat.le_of_ble_eq_true rfl) (Nat.le_of_ble_eq_true rfl) dX11_string_5 ?_
  refine r_if_eq (tgt := 42) dX11_string_8 (by decide) (fun c8 => ?_) (fun c8 => ?_)
  · exact absurd hc.1 (bI_0.mp c8)
  · refine r_iload_n (j := 2) rfl rfl dX11_string_11 ?_
    refine r_iconst (v := 1) rfl dX11_string_12 ?_
    refine r_bipush (v := 99) rfl dX11_string_13 ?_
    refine w_cS3p (k_X11_isWithin) (Nat.le_of_ble_eq_true rfl) lX11_166 mtX11_isWithin (Nat.le_of_ble_eq_true rfl) (Nat.le_of_ble_eq_true rfl) (Nat.le_of_ble_eq_true rfl) dX11_string_15 ?_
    refine r_if_eq (tgt := 42) dX11_string_18 (by decide) (fun c18 => ?_) (fun c18 => ?_)
    · exact absurd hc.2.1 (bI_0.mp c18)
    · refine r_iload_n (j := 3) rfl rfl dX11_string_21 ?_
      refine r_iconst (v := 0) rfl dX11_string_22 ?_
      refine r_bipush (v := 7) rfl dX11_string_23 ?_
      refine w_cS3p (k_X11_isWithin) (Nat.le_of_ble_eq_true rfl) lX11_166 mtX11_isWithin (Nat.le_of_ble_eq_true rfl) (Nat.le_of_ble_eq_true rfl) (Nat.le_of_ble_eq_true rfl) dX11_string_25 ?_
      refine r_if_eq (tgt := 42) dX11_string_28 (by decide) (fun c28 => ?_) (fun c28 => ?_)
      · exact absurd hc.2.2.1 (bI_0.mp c28)
      · refine r_iload (j := 4) rfl dX11_string_31 ?_
        refine r_iconst (v := 0) rfl dX11_string_33 ?_
        refine r_bipush (v := 9) rfl dX11_string_34 ?_
        refine w_cS3p (k_X11_isWithin) (Nat.le_of_ble_eq_true rfl) lX11_166 mtX11_isWithin (Nat.le_of_ble_eq_true rfl) (Nat.le_of_ble_eq_true rfl) (Nat.le_of_ble_eq_true rfl) dX11_string_36 ?_
        refine r_if_ne (tgt := 45) dX11_string_39 (by decide) (fun c39 => ?_) (fun c39 => ?_)
        · refine r_aload_n (j := 0) rfl rfl dX11_string_45 ?_
          refine w_getR (b := 75) fX11_70 rfl rfl dX11_string_46 ?_
          refine r_iload_n (j := 1) rfl rfl dX11_string_49 ?_
          refine r_iload_n (j := 2) rfl rfl dX11_string_50 ?_
          refine r_iload_n (j := 3) rfl rfl dX11_string_51 ?_
          refine r_iload (j := 4) rfl dX11_string_52 ?_
          refine w_cV4s (k_X9_add_n hn) (Nat.le_of_ble_eq_true rfl) lX11_251 vmX9_add rfl (Nat.le_of_ble_eq_true rfl) (Nat.le_of_ble_eq_true rfl) (Nat.le_of_ble_eq_true rfl) dX11_string_54 (fun J54 K54 hJ54 hK54 => ?_)
          subst hK54
          refine w_iret rfl (rfl) (Nat.le_of_ble_eq_true rfl) (Nat.le_of_ble_eq_true rfl) dX11_string_57 ?_
          exact ⟨rfl, hJ54, rfl, rfl⟩
        · exact absurd hc.2.2.2 (bI_0.mp c39)
theorem k_X11_string_y {t f h k : Int32} {n : Nat} (hc : strC I t f h k) (hn : (I 75 8).toInt = n) (h16 : n < 16) : Con sc mX11_string 3 0 0 [.ref 0, .int t, .int f, .int h, .int k] (XW I L tg) (rI (I 75 8) (XW (sadd I n t f h k) L tg)) := by
  refine Con_of (by decide) (Nat.le_of_ble_eq_true rfl) ?_
  refine r_aload_n (j := 0) rfl rfl dX11_string_0 ?_
  refine w_getR (b := 75) fX11_70 rfl rfl dX11_string_1 ?_
  refine r_iload_n (j := 1) rfl rfl dX11_string_4 ?_
  refine w_cV1p (k_X9_mayTellAt) (Nat.le_of_ble_eq_true rfl) lX11_248 vmX9_mayTellAt rfl (Nat.le_of_ble_eq_true rfl) (Nat.le_of_ble_eq_true rfl) (Nat.le_of_ble_eq_true rfl) dX11_string_5 ?_
  refine r_if_eq (tgt := 42) dX11_string_8 (by decide) (fun c8 => ?_) (fun c8 => ?_)
  · exact absurd hc.1 (bI_0.mp c8)
  · refine r_iload_n (j := 2) rfl rfl dX11_string_11 ?_
    refine r_iconst (v := 1) rfl dX11_string_12 ?_
    refine r_bipush (v := 99) rfl dX11_string_13 ?_
    refine w_cS3p (k_X11_isWithin) (Nat.le_of_ble_eq_true rfl) lX11_166 mtX11_isWithin (Nat.le_of_ble_eq_true rfl) (Nat.le_of_ble_eq_true rfl) (Nat.le_of_ble_eq_true rfl) dX11_string_15 ?_
    refine r_if_eq (tgt := 42) dX11_string_18 (by decide) (fun c18 => ?_) (fun c18 => ?_)
    · exact absurd hc.2.1 (bI_0.mp c18)
    · refine r_iload_n (j := 3) rfl rfl dX11_string_21 ?_
      refine r_iconst (v := 0) rfl dX11_string_22 ?_
      refine r_bipush (v := 7) rfl dX11_string_23 ?_
      refine w_cS3p (k_X11_isWithin) (Nat.le_of_ble_eq_true rfl) lX11_166 mtX11_isWithin (Nat.le_of_ble_eq_true rfl) (Nat.le_of_ble_eq_true rfl) (Nat.le_of_ble_eq_true rfl) dX11_string_25 ?_
      refine r_if_eq (tgt := 42) dX11_string_28 (by decide) (fun c28 => ?_) (fun c28 => ?_)
      · exact absurd hc.2.2.1 (bI_0.mp c28)
      · refine r_iload (j := 4) rfl dX11_string_31 ?_
        refine r_iconst (v := 0) rfl dX11_string_33 ?_
        refine r_bipush (v := 9) rfl dX11_string_34 ?_
        refine w_cS3p (k_X11_isWithin) (Nat.le_of_ble_eq_true rfl) lX11_166 mtX11_isWithin (Nat.le_of_ble_eq_true rfl) (Nat.le_of_ble_eq_true rfl) (Nat.le_of_ble_eq_true rfl) dX11_string_36 ?_
        refine r_if_ne (tgt := 45) dX11_string_39 (by decide) (fun c39 => ?_) (fun c39 => ?_)
        · refine r_aload_n (j := 0) rfl rfl dX11_string_45 ?_
          refine w_getR (b := 75) fX11_70 rfl rfl dX11_string_46 ?_
          refine r_iload_n (j := 1) rfl rfl dX11_string_49 ?_
          refine r_iload_n (j := 2) rfl rfl dX11_string_50 ?_
          refine r_iload_n (j := 3) rfl rfl dX11_string_51 ?_
          refine r_iload (j := 4) rfl dX11_string_52 ?_
          refine w_cV4s (k_X9_add_y hn h16) (Nat.le_of_ble_eq_true rfl) lX11_251 vmX9_add rfl (Nat.le_of_ble_eq_true rfl) (Nat.le_of_ble_eq_true rfl) (Nat.le_of_ble_eq_true rfl) dX11_string_54 (fun J54 K54 hJ54 hK54 => ?_)
          subst hK54
          refine w_iret rfl (rfl) (Nat.le_of_ble_eq_true rfl) (Nat.le_of_ble_eq_true rfl) dX11_string_57 ?_
          exact ⟨rfl, hJ54, rfl, rfl⟩
        · exact absurd hc.2.2.2 (bI_0.mp c39)
def rgtC (I : Is) (t k f : Int32) : Prop := ((0 ≤ t.toInt ∧ t.toInt ≤ 999) ∧ (I 75 10).toInt ≤ t.toInt) ∧ (0 ≤ k.toInt ∧ k.toInt ≤ (I 75 8 - 1).toInt) ∧ (1 ≤ f.toInt ∧ f.toInt ≤ 99)
theorem k_X11_right_r {t k f : Int32} (hc : ¬ rgtC I t k f) : Con sc mX11_right 3 0 0 [.ref 0, .int t, .int k, .int f] (XW I L tg) (rI (-2) (XW I L tg)) := by
  refine Con_of (by decide) (Nat.le_of_ble_eq_true rfl) ?_
  refine r_aload_n (j := 0) rfl rfl dX11_right_0 ?_
  refine w_getR (b := 75) fX11_70 rfl rfl dX11_right_1 ?_
  refine r_iload_n (j := 1) rfl rfl dX11_right_4 ?_
  refine w_cV1p (k_X9_mayTellAt) (Nat.le_of_ble_eq_true rfl) lX11_248 vmX9_mayTellAt rfl (Nat.le_of_ble_eq_true rfl) (Nat.le_of_ble_eq_true rfl) (Nat.le_of_ble_eq_true rfl) dX11_right_5 ?_
  refine r_if_eq (tgt := 38) dX11_right_8 (by decide) (fun c8 => ?_) (fun c8 => ?_)
  · refine r_bipush (v := (-2)) rfl dX11_right_38 ?_
    refine w_iret rfl (rfl) (Nat.le_of_ble_eq_true rfl) (Nat.le_of_ble_eq_true rfl) dX11_right_40 ?_
    exact ⟨rfl, rfl, rfl, rfl⟩
  · refine r_iload_n (j := 2) rfl rfl dX11_right_11 ?_
    refine r_iconst (v := 0) rfl dX11_right_12 ?_
    refine r_aload_n (j := 0) rfl rfl dX11_right_13 ?_
    refine w_getR (b := 75) fX11_70 rfl rfl dX11_right_14 ?_
    refine w_getI fX11_255 rfl dX11_right_17 ?_
    refine r_iconst (v := 1) rfl dX11_right_20 ?_
    refine r_isub dX11_right_21 ?_
    refine w_cS3p (k_X11_isWithin) (Nat.le_of_ble_eq_true rfl) lX11_166 mtX11_isWithin (Nat.le_of_ble_eq_true rfl) (Nat.le_of_ble_eq_true rfl) (Nat.le_of_ble_eq_true rfl) dX11_right_22 ?_
    refine r_if_eq (tgt := 38) dX11_right_25 (by decide) (fun c25 => ?_) (fun c25 => ?_)
    · refine r_bipush (v := (-2)) rfl dX11_right_38 ?_
      refine w_iret rfl (rfl) (Nat.le_of_ble_eq_true rfl) (Nat.le_of_ble_eq_true rfl) dX11_right_40 ?_
      exact ⟨rfl, rfl, rfl, rfl⟩
    · refine r_iload_n (j := 3) rfl rfl dX11_right_28 ?_
      refine r_iconst (v := 1) rfl dX11_right_29 ?_
      refine r_bipush (v := 99) rfl dX11_right_30 ?_
      refine w_cS3p (k_X11_isWithin) (Nat.le_of_ble_eq_true rfl) lX11_166 mtX11_isWithin (Nat.le_of_ble_eq_true rfl) (Nat.le_of_ble_eq_true rfl) (Nat.le_of_ble_eq_true rfl) dX11_right_32 ?_
      refine r_if_ne (tgt := 41) dX11_right_35 (by decide) (fun c35 => ?_) (fun c35 => ?_)
      · exact absurd ⟨bI_1.mp c8, bI_1.mp c25, bI_1.mp c35⟩ hc
      · refine r_bipush (v := (-2)) rfl dX11_right_38 ?_
        refine w_iret rfl (rfl) (Nat.le_of_ble_eq_true rfl) (Nat.le_of_ble_eq_true rfl) dX11_right_40 ?_
        exact ⟨rfl, rfl, rfl, rfl⟩
theorem k_X11_right_f {t k f : Int32} (hc : rgtC I t k f) (hn : 20 ≤ (I 75 9).toInt) : Con sc mX11_right 3 0 0 [.ref 0, .int t, .int k, .int f] (XW I L tg) (rI (-3) (XW I L tg)) := by
  refine Con_of (by decide) (Nat.le_of_ble_eq_true rfl) ?_
  refine r_aload_n (j := 0) rfl rfl dX11_right_0 ?_
  refine w_getR (b := 75) fX11_70 rfl rfl dX11_right_1 ?_
  refine r_iload_n (j := 1) rfl rfl dX11_right_4 ?_
  refine w_cV1p (k_X9_mayTellAt) (Nat.le_of_ble_eq_true rfl) lX11_248 vmX9_mayTellAt rfl (Nat.le_of_ble_eq_true rfl) (Nat.le_of_ble_eq_true rfl) (Nat.le_of_ble_eq_true rfl) dX11_right_5 ?_
  refine r_if_eq (tgt := 38) dX11_right_8 (by decide) (fun c8 => ?_) (fun c8 => ?_)
  · exact absurd hc.1 (bI_0.mp c8)
  · refine r_iload_n (j := 2) rfl rfl dX11_right_11 ?_
    refine r_iconst (v := 0) rfl dX11_right_12 ?_
    refine r_aload_n (j := 0) rfl rfl dX11_right_13 ?_
    refine w_getR (b := 75) fX11_70 rfl rfl dX11_right_14 ?_
    refine w_getI fX11_255 rfl dX11_right_17 ?_
    refine r_iconst (v := 1) rfl dX11_right_20 ?_
    refine r_isub dX11_right_21 ?_
    refine w_cS3p (k_X11_isWithin) (Nat.le_of_ble_eq_true rfl) lX11_166 mtX11_isWithin (Nat.le_of_ble_eq_true rfl) (Nat.le_of_ble_eq_true rfl) (Nat.le_of_ble_eq_true rfl) dX11_right_22 ?_
    refine r_if_eq (tgt := 38) dX11_right_25 (by decide) (fun c25 => ?_) (fun c25 => ?_)
    · exact absurd hc.2.1 (bI_0.mp c25)
    · refine r_iload_n (j := 3) rfl rfl dX11_right_28 ?_
      refine r_iconst (v := 1) rfl dX11_right_29 ?_
      refine r_bipush (v := 99) rfl dX11_right_30 ?_
      refine w_cS3p (k_X11_isWithin) (Nat.le_of_ble_eq_true rfl) lX11_166 mtX11_isWithin (Nat.le_of_ble_eq_true rfl) (Nat.le_of_ble_eq_true rfl) (Nat.le_of_ble_eq_true rfl) dX11_right_32 ?_
      refine r_if_ne (tgt := 41) dX11_right_35 (by decide) (fun c35 => ?_) (fun c35 => ?_)
      · refine r_aload_n (j := 0) rfl rfl dX11_right_41 ?_
        refine w_getR (b := 75) fX11_70 rfl rfl dX11_right_42 ?_
        refine r_iload_n (j := 1) rfl rfl dX11_right_45 ?_
        refine r_iload_n (j := 2) rfl rfl dX11_right_46 ?_
        refine r_iload_n (j := 3) rfl rfl dX11_right_47 ?_
        refine w_cV3s (k_X9_correct_n hn) (Nat.le_of_ble_eq_true rfl) lX11_258 vmX9_correct rfl (Nat.le_of_ble_eq_true rfl) (Nat.le_of_ble_eq_true rfl) (Nat.le_of_ble_eq_true rfl) dX11_right_48 (fun J48 K48 hJ48 hK48 => ?_)
        subst hK48
        refine w_iret rfl (rfl) (Nat.le_of_ble_eq_true rfl) (Nat.le_of_ble_eq_true rfl) dX11_right_51 ?_
        exact ⟨rfl, hJ48, rfl, rfl⟩
      · exact absurd hc.2.2 (bI_0.mp c35)
theorem k_X11_right_y {t k f : Int32} {n kn : Nat} (hc : rgtC I t k f) (hn : (I 75 9).toInt = n) (h20 : n < 20) (ek : k.toInt = kn) (h16 : kn < 16) : Con sc mX11_right 3 0 0 [.ref 0, .int t, .int k, .int f] (XW I L tg) (rI (I 80 kn + 1) (XW (scor I n kn t k f) L tg)) := by
  refine Con_of (by decide) (Nat.le_of_ble_eq_true rfl) ?_
  refine r_aload_n (j := 0) rfl rfl dX11_right_0 ?_
  refine w_getR (b := 75) fX11_70 rfl rfl dX11_right_1 ?_
  refine r_iload_n (j := 1) rfl rfl dX11_right_4 ?_
  refine w_cV1p (k_X9_mayTellAt) (Nat.le_of_ble_eq_true rfl) lX11_248 vmX9_mayTellAt rfl (Nat.le_of_ble_eq_true rfl) (Nat.le_of_ble_eq_true rfl) (Nat.le_of_ble_eq_true rfl) dX11_right_5 ?_
  refine r_if_eq (tgt := 38) dX11_right_8 (by decide) (fun c8 => ?_) (fun c8 => ?_)
  · exact absurd hc.1 (bI_0.mp c8)
  · refine r_iload_n (j := 2) rfl rfl dX11_right_11 ?_
    refine r_iconst (v := 0) rfl dX11_right_12 ?_
    refine r_aload_n (j := 0) rfl rfl dX11_right_13 ?_
    refine w_getR (b := 75) fX11_70 rfl rfl dX11_right_14 ?_
    refine w_getI fX11_255 rfl dX11_right_17 ?_
    refine r_iconst (v := 1) rfl dX11_right_20 ?_
    refine r_isub dX11_right_21 ?_
    refine w_cS3p (k_X11_isWithin) (Nat.le_of_ble_eq_true rfl) lX11_166 mtX11_isWithin (Nat.le_of_ble_eq_true rfl) (Nat.le_of_ble_eq_true rfl) (Nat.le_of_ble_eq_true rfl) dX11_right_22 ?_
    refine r_if_eq (tgt := 38) dX11_right_25 (by decide) (fun c25 => ?_) (fun c25 => ?_)
    · exact absurd hc.2.1 (bI_0.mp c25)
    · refine r_iload_n (j := 3) rfl rfl dX11_right_28 ?_
      refine r_iconst (v := 1) rfl dX11_right_29 ?_
      refine r_bipush (v := 99) rfl dX11_right_30 ?_
      refine w_cS3p (k_X11_isWithin) (Nat.le_of_ble_eq_true rfl) lX11_166 mtX11_isWithin (Nat.le_of_ble_eq_true rfl) (Nat.le_of_ble_eq_true rfl) (Nat.le_of_ble_eq_true rfl) dX11_right_32 ?_
      refine r_if_ne (tgt := 41) dX11_right_35 (by decide) (fun c35 => ?_) (fun c35 => ?_)
      · refine r_aload_n (j := 0) rfl rfl dX11_right_41 ?_
        refine w_getR (b := 75) fX11_70 rfl rfl dX11_right_42 ?_
        refine r_iload_n (j := 1) rfl rfl dX11_right_45 ?_
        refine r_iload_n (j := 2) rfl rfl dX11_right_46 ?_
        refine r_iload_n (j := 3) rfl rfl dX11_right_47 ?_
        refine w_cV3s (k_X9_correct_y hn h20 ek h16) (Nat.le_of_ble_eq_true rfl) lX11_258 vmX9_correct rfl (Nat.le_of_ble_eq_true rfl) (Nat.le_of_ble_eq_true rfl) (Nat.le_of_ble_eq_true rfl) dX11_right_48 (fun J48 K48 hJ48 hK48 => ?_)
        subst hK48
        refine w_iret rfl (rfl) (Nat.le_of_ble_eq_true rfl) (Nat.le_of_ble_eq_true rfl) dX11_right_51 ?_
        exact ⟨rfl, hJ48, rfl, rfl⟩
      · exact absurd hc.2.2 (bI_0.mp c35)
def wheC (kn w : Int32) : Prop := (0 ≤ kn.toInt ∧ kn.toInt ≤ 999) ∧ 0 ≤ w.toInt ∧ w.toInt ≤ 2
theorem k_X11_where_r {kn w : Int32} (hc : ¬ wheC kn w) : Con sc mX11_where 3 0 0 [.ref 0, .int kn, .int w] (XW I L tg) (rI (-1000000) (XW I L tg)) := by
  refine Con_of (by decide) (Nat.le_of_ble_eq_true rfl) ?_
  refine r_iload_n (j := 1) rfl rfl dX11_where_0 ?_
  refine w_cS1p (k_X11_isStep) (Nat.le_of_ble_eq_true rfl) lX11_262 mtX11_isStep (Nat.le_of_ble_eq_true rfl) (Nat.le_of_ble_eq_true rfl) (Nat.le_of_ble_eq_true rfl) dX11_where_1 ?_
  refine r_if_eq (tgt := 16) dX11_where_4 (by decide) (fun c4 => ?_) (fun c4 => ?_)
  · refine r_ldcw kX11_265 dX11_where_16 ?_
    refine w_iret rfl (rfl) (Nat.le_of_ble_eq_true rfl) (Nat.le_of_ble_eq_true rfl) dX11_where_19 ?_
    exact ⟨rfl, rfl, rfl, rfl⟩
  · refine r_iload_n (j := 2) rfl rfl dX11_where_7 ?_
    refine r_iconst (v := 0) rfl dX11_where_8 ?_
    refine r_iconst (v := 2) rfl dX11_where_9 ?_
    refine w_cS3p (k_X11_isWithin) (Nat.le_of_ble_eq_true rfl) lX11_166 mtX11_isWithin (Nat.le_of_ble_eq_true rfl) (Nat.le_of_ble_eq_true rfl) (Nat.le_of_ble_eq_true rfl) dX11_where_10 ?_
    refine r_if_ne (tgt := 20) dX11_where_13 (by decide) (fun c13 => ?_) (fun c13 => ?_)
    · exact absurd ⟨bI_1.mp c4, bI_1.mp c13⟩ hc
    · refine r_ldcw kX11_265 dX11_where_16 ?_
      refine w_iret rfl (rfl) (Nat.le_of_ble_eq_true rfl) (Nat.le_of_ble_eq_true rfl) dX11_where_19 ?_
      exact ⟨rfl, rfl, rfl, rfl⟩
def whS (a c o w : Int32) : Int32 := if w = 2 then o else if w = 0 then a else c
theorem k_X11_where_y {kn w : Int32} (hc : wheC kn w) (s0 : 0 ≤ (I 75 8).toInt) (s16 : (I 75 8).toInt ≤ 16) (r0 : 0 ≤ (I 75 9).toInt) (r2 : (I 75 9).toInt ≤ 20) (hh : ∀ k, k < nN (I 75 8) → 0 ≤ (I 78 k).toInt ∧ (I 78 k).toInt < 8) : Con sc mX11_where 3 0 0 [.ref 0, .int kn, .int w] (XW I L tg) (rI (whS (end5 I kn) (end6 I kn) (ofb I kn) w) (XW I L tg)) := by
  refine Con_of (by decide) (Nat.le_of_ble_eq_true rfl) ?_
  refine r_iload_n (j := 1) rfl rfl dX11_where_0 ?_
  refine w_cS1p (k_X11_isStep) (Nat.le_of_ble_eq_true rfl) lX11_262 mtX11_isStep (Nat.le_of_ble_eq_true rfl) (Nat.le_of_ble_eq_true rfl) (Nat.le_of_ble_eq_true rfl) dX11_where_1 ?_
  refine r_if_eq (tgt := 16) dX11_where_4 (by decide) (fun c4 => ?_) (fun c4 => ?_)
  · exact absurd hc.1 (bI_0.mp c4)
  · refine r_iload_n (j := 2) rfl rfl dX11_where_7 ?_
    refine r_iconst (v := 0) rfl dX11_where_8 ?_
    refine r_iconst (v := 2) rfl dX11_where_9 ?_
    refine w_cS3p (k_X11_isWithin) (Nat.le_of_ble_eq_true rfl) lX11_166 mtX11_isWithin (Nat.le_of_ble_eq_true rfl) (Nat.le_of_ble_eq_true rfl) (Nat.le_of_ble_eq_true rfl) dX11_where_10 ?_
    refine r_if_ne (tgt := 20) dX11_where_13 (by decide) (fun c13 => ?_) (fun c13 => ?_)
    · refine r_iload_n (j := 2) rfl rfl dX11_where_20 ?_
      refine r_iconst (v := 2) rfl dX11_where_21 ?_
      refine r_icmp_ne (tgt := 34) dX11_where_22 (by decide) (fun c22 => ?_) (fun c22 => ?_)
      · refine r_iload_n (j := 2) rfl rfl dX11_where_34 ?_
        refine r_if_ne (tgt := 49) dX11_where_35 (by decide) (fun c35 => ?_) (fun c35 => ?_)
        · refine r_aload_n (j := 0) rfl rfl dX11_where_49 ?_
          refine w_getR (b := 75) fX11_70 rfl rfl dX11_where_50 ?_
          refine r_iload_n (j := 1) rfl rfl dX11_where_53 ?_
          refine w_cV1p (k_X9_toward s0 s16 r0 r2 hh) (Nat.le_of_ble_eq_true rfl) lX11_272 vmX9_toward rfl (Nat.le_of_ble_eq_true rfl) (Nat.le_of_ble_eq_true rfl) (Nat.le_of_ble_eq_true rfl) dX11_where_54 ?_
          refine w_iret rfl (rfl) (Nat.le_of_ble_eq_true rfl) (Nat.le_of_ble_eq_true rfl) dX11_where_57 ?_
          exact ⟨by unfold whS; rw [if_neg c22]; first | rw [if_pos c35] | rw [if_neg c35], rfl, rfl, rfl⟩
        · refine r_aload_n (j := 0) rfl rfl dX11_where_38 ?_
          refine w_getR (b := 75) fX11_70 rfl rfl dX11_where_39 ?_
          refine r_iload_n (j := 1) rfl rfl dX11_where_42 ?_
          refine w_cV1p (k_X9_along s0 s16 r0 r2 hh) (Nat.le_of_ble_eq_true rfl) lX11_269 vmX9_along rfl (Nat.le_of_ble_eq_true rfl) (Nat.le_of_ble_eq_true rfl) (Nat.le_of_ble_eq_true rfl) dX11_where_43 ?_
          refine r_goto (tgt := 57) dX11_where_46 (by decide) ?_
          refine w_iret rfl (rfl) (Nat.le_of_ble_eq_true rfl) (Nat.le_of_ble_eq_true rfl) dX11_where_57 ?_
          exact ⟨by unfold whS; rw [if_neg c22]; first | rw [if_pos c35] | rw [if_neg c35], rfl, rfl, rfl⟩
      · refine r_aload_n (j := 0) rfl rfl dX11_where_25 ?_
        refine w_getR (b := 75) fX11_70 rfl rfl dX11_where_26 ?_
        refine r_iload_n (j := 1) rfl rfl dX11_where_29 ?_
        refine w_cV1p (k_X9_offBy s0 s16) (Nat.le_of_ble_eq_true rfl) lX11_266 vmX9_offBy rfl (Nat.le_of_ble_eq_true rfl) (Nat.le_of_ble_eq_true rfl) (Nat.le_of_ble_eq_true rfl) dX11_where_30 ?_
        refine w_iret rfl (rfl) (Nat.le_of_ble_eq_true rfl) (Nat.le_of_ble_eq_true rfl) dX11_where_33 ?_
        exact ⟨by unfold whS; rw [if_pos c22], rfl, rfl, rfl⟩
    · exact absurd hc.2 (bI_0.mp c13)
theorem k_X11_up_r {h kn : Int32} (hc : ¬ ((0 ≤ h.toInt ∧ h.toInt < (I 3 14).toInt) ∧ 0 ≤ kn.toInt ∧ kn.toInt ≤ 999)) : Con sc mX11_up 4 0 0 [.ref 0, .int h, .int kn] (XW I L tg) (rI (-2) (XW I L tg)) := by
  refine Con_of (by decide) (Nat.le_of_ble_eq_true rfl) ?_
  refine r_aload_n (j := 0) rfl rfl dX11_up_0 ?_
  refine r_iload_n (j := 1) rfl rfl dX11_up_1 ?_
  refine w_cV1p (k_X11_isHut) (Nat.le_of_ble_eq_true rfl) lX11_140 vmX11_isHut rfl (Nat.le_of_ble_eq_true rfl) (Nat.le_of_ble_eq_true rfl) (Nat.le_of_ble_eq_true rfl) dX11_up_2 ?_
  refine r_if_eq (tgt := 15) dX11_up_5 (by decide) (fun c5 => ?_) (fun c5 => ?_)
  · refine r_bipush (v := (-2)) rfl dX11_up_15 ?_
    refine w_iret rfl (rfl) (Nat.le_of_ble_eq_true rfl) (Nat.le_of_ble_eq_true rfl) dX11_up_17 ?_
    exact ⟨rfl, rfl, rfl, rfl⟩
  · refine r_iload_n (j := 2) rfl rfl dX11_up_8 ?_
    refine w_cS1p (k_X11_isStep) (Nat.le_of_ble_eq_true rfl) lX11_262 mtX11_isStep (Nat.le_of_ble_eq_true rfl) (Nat.le_of_ble_eq_true rfl) (Nat.le_of_ble_eq_true rfl) dX11_up_9 ?_
    refine r_if_ne (tgt := 18) dX11_up_12 (by decide) (fun c12 => ?_) (fun c12 => ?_)
    · exact absurd ⟨bI_1.mp c5, bI_1.mp c12⟩ hc
    · refine r_bipush (v := (-2)) rfl dX11_up_15 ?_
      refine w_iret rfl (rfl) (Nat.le_of_ble_eq_true rfl) (Nat.le_of_ble_eq_true rfl) dX11_up_17 ?_
      exact ⟨rfl, rfl, rfl, rfl⟩
theorem k_X11_up_y {h kn : Int32} {hn : Nat} (hc : (0 ≤ h.toInt ∧ h.toInt < (I 3 14).toInt) ∧ 0 ≤ kn.toInt ∧ kn.toInt ≤ 999) (eh : h.toInt = hn) (h5 : hn < 5) (s0 : 0 ≤ (I 75 8).toInt) (s16 : (I 75 8).toInt ≤ 16) (r0 : 0 ≤ (I 75 9).toInt) (r2 : (I 75 9).toInt ≤ 20) (hh : ∀ k, k < nN (I 75 8) → 0 ≤ (I 78 k).toInt ∧ (I 78 k).toInt < 8) : Con sc mX11_up 4 0 0 [.ref 0, .int h, .int kn] (XW I L tg) (rI (upS (end6 I kn - 10 * I 8 hn) (ofb I kn) (10 * I 4 4)) (XW I L tg)) := by
  refine Con_of (by decide) (Nat.le_of_ble_eq_true rfl) ?_
  refine r_aload_n (j := 0) rfl rfl dX11_up_0 ?_
  refine r_iload_n (j := 1) rfl rfl dX11_up_1 ?_
  refine w_cV1p (k_X11_isHut) (Nat.le_of_ble_eq_true rfl) lX11_140 vmX11_isHut rfl (Nat.le_of_ble_eq_true rfl) (Nat.le_of_ble_eq_true rfl) (Nat.le_of_ble_eq_true rfl) dX11_up_2 ?_
  refine r_if_eq (tgt := 15) dX11_up_5 (by decide) (fun c5 => ?_) (fun c5 => ?_)
  · exact absurd hc.1 (bI_0.mp c5)
  · refine r_iload_n (j := 2) rfl rfl dX11_up_8 ?_
    refine w_cS1p (k_X11_isStep) (Nat.le_of_ble_eq_true rfl) lX11_262 mtX11_isStep (Nat.le_of_ble_eq_true rfl) (Nat.le_of_ble_eq_true rfl) (Nat.le_of_ble_eq_true rfl) dX11_up_9 ?_
    refine r_if_ne (tgt := 18) dX11_up_12 (by decide) (fun c12 => ?_) (fun c12 => ?_)
    · refine r_aload_n (j := 0) rfl rfl dX11_up_18 ?_
      refine w_getR (b := 75) fX11_70 rfl rfl dX11_up_19 ?_
      refine r_aload_n (j := 0) rfl rfl dX11_up_22 ?_
      refine w_getR (b := 3) fX11_19 rfl rfl dX11_up_23 ?_
      refine r_iload_n (j := 1) rfl rfl dX11_up_26 ?_
      refine r_iload_n (j := 2) rfl rfl dX11_up_27 ?_
      refine w_cV3p (k_X9_comesUp eh h5 s0 s16 r0 r2 hh) (Nat.le_of_ble_eq_true rfl) lX11_275 vmX9_comesUp rfl (Nat.le_of_ble_eq_true rfl) (Nat.le_of_ble_eq_true rfl) (Nat.le_of_ble_eq_true rfl) dX11_up_28 ?_
      refine w_iret rfl (rfl) (Nat.le_of_ble_eq_true rfl) (Nat.le_of_ble_eq_true rfl) dX11_up_31 ?_
      exact ⟨rfl, rfl, rfl, rfl⟩
    · exact absurd hc.2 (bI_0.mp c12)
def keC (I : Is) (b d : Int32) : Prop := (0 ≤ b.toInt ∧ b.toInt < ((1 : Int32) <<< (I 3 16 &&& 31)).toInt) ∧ 0 ≤ d.toInt ∧ d.toInt ≤ 400
theorem k_X11_kept_r {b d : Int32} (hc : ¬ keC I b d) : Con sc mX11_kept 1 0 0 [.ref 0, .int b, .int d] (XW I L tg) (rI (-2) (XW I L tg)) := by
  refine Con_of (by decide) (Nat.le_of_ble_eq_true rfl) ?_
  refine r_aload_n (j := 0) rfl rfl dX11_kept_0 ?_
  refine r_iload_n (j := 1) rfl rfl dX11_kept_1 ?_
  refine w_cV1p (k_X11_areLooks) (Nat.le_of_ble_eq_true rfl) lX11_222 vmX11_areLooks rfl (Nat.le_of_ble_eq_true rfl) (Nat.le_of_ble_eq_true rfl) (Nat.le_of_ble_eq_true rfl) dX11_kept_2 ?_
  refine r_if_eq (tgt := 19) dX11_kept_5 (by decide) (fun c5 => ?_) (fun c5 => ?_)
  · refine r_bipush (v := (-2)) rfl dX11_kept_19 ?_
    refine w_iret rfl (rfl) (Nat.le_of_ble_eq_true rfl) (Nat.le_of_ble_eq_true rfl) dX11_kept_21 ?_
    exact ⟨rfl, rfl, rfl, rfl⟩
  · refine r_iload_n (j := 2) rfl rfl dX11_kept_8 ?_
    refine r_iconst (v := 0) rfl dX11_kept_9 ?_
    refine r_sipush (v := 400) rfl dX11_kept_10 ?_
    refine w_cS3p (k_X11_isWithin) (Nat.le_of_ble_eq_true rfl) lX11_166 mtX11_isWithin (Nat.le_of_ble_eq_true rfl) (Nat.le_of_ble_eq_true rfl) (Nat.le_of_ble_eq_true rfl) dX11_kept_13 ?_
    refine r_if_ne (tgt := 22) dX11_kept_16 (by decide) (fun c16 => ?_) (fun c16 => ?_)
    · exact absurd ⟨bI_1.mp c5, bI_1.mp c16⟩ hc
    · refine r_bipush (v := (-2)) rfl dX11_kept_19 ?_
      refine w_iret rfl (rfl) (Nat.le_of_ble_eq_true rfl) (Nat.le_of_ble_eq_true rfl) dX11_kept_21 ?_
      exact ⟨rfl, rfl, rfl, rfl⟩
theorem k_X11_kept_y {b d : Int32} {dn : Nat} (hc : keC I b d) (ed : d.toInt = dn) (l0 : 0 ≤ (I 3 16).toInt) (l4 : (I 3 16).toInt ≤ 4) : Con sc mX11_kept 1 0 0 [.ref 0, .int b, .int d] (XW I L tg) (rI (kpt (I 17) b (nN (I 3 16)) dn) (XW (rkI I b) L tg)) := by
  refine Con_of (by decide) (Nat.le_of_ble_eq_true rfl) ?_
  have hc2 := hc.2
  refine r_aload_n (j := 0) rfl rfl dX11_kept_0 ?_
  refine r_iload_n (j := 1) rfl rfl dX11_kept_1 ?_
  refine w_cV1p (k_X11_areLooks) (Nat.le_of_ble_eq_true rfl) lX11_222 vmX11_areLooks rfl (Nat.le_of_ble_eq_true rfl) (Nat.le_of_ble_eq_true rfl) (Nat.le_of_ble_eq_true rfl) dX11_kept_2 ?_
  refine r_if_eq (tgt := 19) dX11_kept_5 (by decide) (fun c5 => ?_) (fun c5 => ?_)
  · exact absurd hc.1 (bI_0.mp c5)
  · refine r_iload_n (j := 2) rfl rfl dX11_kept_8 ?_
    refine r_iconst (v := 0) rfl dX11_kept_9 ?_
    refine r_sipush (v := 400) rfl dX11_kept_10 ?_
    refine w_cS3p (k_X11_isWithin) (Nat.le_of_ble_eq_true rfl) lX11_166 mtX11_isWithin (Nat.le_of_ble_eq_true rfl) (Nat.le_of_ble_eq_true rfl) (Nat.le_of_ble_eq_true rfl) dX11_kept_13 ?_
    refine r_if_ne (tgt := 22) dX11_kept_16 (by decide) (fun c16 => ?_) (fun c16 => ?_)
    · refine r_aload_n (j := 0) rfl rfl dX11_kept_22 ?_
      refine w_getR (b := 73) fX11_63 rfl rfl dX11_kept_23 ?_
      refine r_aload_n (j := 0) rfl rfl dX11_kept_26 ?_
      refine w_getR (b := 3) fX11_19 rfl rfl dX11_kept_27 ?_
      refine r_iload_n (j := 1) rfl rfl dX11_kept_30 ?_
      refine w_cV2v (k_X5_reckon l0 l4) (Nat.le_of_ble_eq_true rfl) lX11_225 vmX5_reckon rfl (Nat.le_of_ble_eq_true rfl) (Nat.le_of_ble_eq_true rfl) (Nat.le_of_ble_eq_true rfl) dX11_kept_31 (fun J31 K31 hJ31 hK31 => ?_)
      subst hK31
      refine r_aload_n (j := 0) rfl rfl dX11_kept_34 ?_
      refine w_getR (b := 73) fX11_63 rfl rfl dX11_kept_35 ?_
      refine w_getR (b := 74) fX11_229 rfl rfl dX11_kept_38 ?_
      refine r_iload_n (j := 2) rfl rfl dX11_kept_41 ?_
      refine w_iald rfl (up_in ed (by omega)) dX11_kept_42 ?_
      refine w_iret rfl (rfl) (Nat.le_of_ble_eq_true rfl) (Nat.le_of_ble_eq_true rfl) dX11_kept_43 ?_
      subst hJ31; exact ⟨by rw [cl_of ed]; unfold rkI; rw [upr_s]; exact if_pos (by omega), rfl, rfl, rfl⟩
    · exact absurd hc.2 (bI_0.mp c16)
theorem k_X11_needed_r {f m : Int32} (hc : ¬ ((1 ≤ f.toInt ∧ f.toInt ≤ 999) ∧ 0 ≤ m.toInt ∧ m.toInt ≤ 200)) : Con sc mX11_needed 3 0 0 [.ref 0, .int f, .int m] (XW I L tg) (rI (-2) (XW I L tg)) := by
  refine Con_of (by decide) (Nat.le_of_ble_eq_true rfl) ?_
  refine r_iload_n (j := 1) rfl rfl dX11_needed_0 ?_
  refine r_iconst (v := 1) rfl dX11_needed_1 ?_
  refine r_sipush (v := 999) rfl dX11_needed_2 ?_
  refine w_cS3p (k_X11_isWithin) (Nat.le_of_ble_eq_true rfl) lX11_166 mtX11_isWithin (Nat.le_of_ble_eq_true rfl) (Nat.le_of_ble_eq_true rfl) (Nat.le_of_ble_eq_true rfl) dX11_needed_5 ?_
  refine r_if_eq (tgt := 22) dX11_needed_8 (by decide) (fun c8 => ?_) (fun c8 => ?_)
  · refine r_bipush (v := (-2)) rfl dX11_needed_22 ?_
    refine w_iret rfl (rfl) (Nat.le_of_ble_eq_true rfl) (Nat.le_of_ble_eq_true rfl) dX11_needed_24 ?_
    exact ⟨rfl, rfl, rfl, rfl⟩
  · refine r_iload_n (j := 2) rfl rfl dX11_needed_11 ?_
    refine r_iconst (v := 0) rfl dX11_needed_12 ?_
    refine r_sipush (v := 200) rfl dX11_needed_13 ?_
    refine w_cS3p (k_X11_isWithin) (Nat.le_of_ble_eq_true rfl) lX11_166 mtX11_isWithin (Nat.le_of_ble_eq_true rfl) (Nat.le_of_ble_eq_true rfl) (Nat.le_of_ble_eq_true rfl) dX11_needed_16 ?_
    refine r_if_ne (tgt := 25) dX11_needed_19 (by decide) (fun c19 => ?_) (fun c19 => ?_)
    · exact absurd ⟨bI_1.mp c8, bI_1.mp c19⟩ hc
    · refine r_bipush (v := (-2)) rfl dX11_needed_22 ?_
      refine w_iret rfl (rfl) (Nat.le_of_ble_eq_true rfl) (Nat.le_of_ble_eq_true rfl) dX11_needed_24 ?_
      exact ⟨rfl, rfl, rfl, rfl⟩
theorem k_X11_needed_y {f m : Int32} (hc : (1 ≤ f.toInt ∧ f.toInt ≤ 999) ∧ 0 ≤ m.toInt ∧ m.toInt ≤ 200) : Con sc mX11_needed 3 0 0 [.ref 0, .int f, .int m] (XW I L tg) (rI (shf (I 4 9) (I 4 10) f m) (XW I L tg)) := by
  refine Con_of (by decide) (Nat.le_of_ble_eq_true rfl) ?_
  refine r_iload_n (j := 1) rfl rfl dX11_needed_0 ?_
  refine r_iconst (v := 1) rfl dX11_needed_1 ?_
  refine r_sipush (v := 999) rfl dX11_needed_2 ?_
  refine w_cS3p (k_X11_isWithin) (Nat.le_of_ble_eq_true rfl) lX11_166 mtX11_isWithin (Nat.le_of_ble_eq_true rfl) (Nat.le_of_ble_eq_true rfl) (Nat.le_of_ble_eq_true rfl) dX11_needed_5 ?_
  refine r_if_eq (tgt := 22) dX11_needed_8 (by decide) (fun c8 => ?_) (fun c8 => ?_)
  · exact absurd hc.1 (bI_0.mp c8)
  · refine r_iload_n (j := 2) rfl rfl dX11_needed_11 ?_
    refine r_iconst (v := 0) rfl dX11_needed_12 ?_
    refine r_sipush (v := 200) rfl dX11_needed_13 ?_
    refine w_cS3p (k_X11_isWithin) (Nat.le_of_ble_eq_true rfl) lX11_166 mtX11_isWithin (Nat.le_of_ble_eq_true rfl) (Nat.le_of_ble_eq_true rfl) (Nat.le_of_ble_eq_true rfl) dX11_needed_16 ?_
    refine r_if_ne (tgt := 25) dX11_needed_19 (by decide) (fun c19 => ?_) (fun c19 => ?_)
    · refine r_aload_n (j := 0) rfl rfl dX11_needed_25 ?_
      refine w_getR (b := 3) fX11_19 rfl rfl dX11_needed_26 ?_
      refine r_iload_n (j := 1) rfl rfl dX11_needed_29 ?_
      refine r_iload_n (j := 2) rfl rfl dX11_needed_30 ?_
      refine w_cV2p (k_X0_shiftsFor) (Nat.le_of_ble_eq_true rfl) lX11_232 vmX0_shiftsFor rfl (Nat.le_of_ble_eq_true rfl) (Nat.le_of_ble_eq_true rfl) (Nat.le_of_ble_eq_true rfl) dX11_needed_31 ?_
      refine w_iret rfl (rfl) (Nat.le_of_ble_eq_true rfl) (Nat.le_of_ble_eq_true rfl) dX11_needed_34 ?_
      exact ⟨rfl, rfl, rfl, rfl⟩
    · exact absurd hc.2 (bI_0.mp c19)
def seC (I : Is) (m f b w : Int32) : Prop := (1 ≤ m.toInt ∧ m.toInt ≤ 200) ∧ (1 ≤ f.toInt ∧ f.toInt ≤ 999) ∧ (0 ≤ b.toInt ∧ b.toInt < ((1 : Int32) <<< (I 3 16 &&& 31)).toInt) ∧ 0 ≤ w.toInt ∧ w.toInt ≤ 1
theorem k_X11_second_r {m f b w : Int32} (hc : ¬ seC I m f b w) : Con sc mX11_second 5 0 0 [.ref 0, .int m, .int f, .int b, .int w] (XW I L tg) (rI (-2) (XW I L tg)) := by
  refine Con_of (by decide) (Nat.le_of_ble_eq_true rfl) ?_
  refine r_iload_n (j := 1) rfl rfl dX11_second_0 ?_
  refine r_iconst (v := 1) rfl dX11_second_1 ?_
  refine r_sipush (v := 200) rfl dX11_second_2 ?_
  refine w_cS3p (k_X11_isWithin) (Nat.le_of_ble_eq_true rfl) lX11_166 mtX11_isWithin (Nat.le_of_ble_eq_true rfl) (Nat.le_of_ble_eq_true rfl) (Nat.le_of_ble_eq_true rfl) dX11_second_5 ?_
  refine r_if_eq (tgt := 40) dX11_second_8 (by decide) (fun c8 => ?_) (fun c8 => ?_)
  · refine r_bipush (v := (-2)) rfl dX11_second_40 ?_
    refine w_iret rfl (rfl) (Nat.le_of_ble_eq_true rfl) (Nat.le_of_ble_eq_true rfl) dX11_second_42 ?_
    exact ⟨rfl, rfl, rfl, rfl⟩
  · refine r_iload_n (j := 2) rfl rfl dX11_second_11 ?_
    refine r_iconst (v := 1) rfl dX11_second_12 ?_
    refine r_sipush (v := 999) rfl dX11_second_13 ?_
    refine w_cS3p (k_X11_isWithin) (Nat.le_of_ble_eq_true rfl) lX11_166 mtX11_isWithin (Nat.le_of_ble_eq_true rfl) (Nat.le_of_ble_eq_true rfl) (Nat.le_of_ble_eq_true rfl) dX11_second_16 ?_
    refine r_if_eq (tgt := 40) dX11_second_19 (by decide) (fun c19 => ?_) (fun c19 => ?_)
    · refine r_bipush (v := (-2)) rfl dX11_second_40 ?_
      refine w_iret rfl (rfl) (Nat.le_of_ble_eq_true rfl) (Nat.le_of_ble_eq_true rfl) dX11_second_42 ?_
      exact ⟨rfl, rfl, rfl, rfl⟩
    · refine r_aload_n (j := 0) rfl rfl dX11_second_22 ?_
      refine r_iload_n (j := 3) rfl rfl dX11_second_23 ?_
      refine w_cV1p (k_X11_areLooks) (Nat.le_of_ble_eq_true rfl) lX11_222 vmX11_areLooks rfl (Nat.le_of_ble_eq_true rfl) (Nat.le_of_ble_eq_true rfl) (Nat.le_of_ble_eq_true rfl) dX11_second_24 ?_
      refine r_if_eq (tgt := 40) dX11_second_27 (by decide) (fun c27 => ?_) (fun c27 => ?_)
      · refine r_bipush (v := (-2)) rfl dX11_second_40 ?_
        refine w_iret rfl (rfl) (Nat.le_of_ble_eq_true rfl) (Nat.le_of_ble_eq_true rfl) dX11_second_42 ?_
        exact ⟨rfl, rfl, rfl, rfl⟩
      · refine r_iload (j := 4) rfl dX11_second_30 ?_
        refine r_iconst (v := 0) rfl dX11_second_32 ?_
        refine r_iconst (v := 1) rfl dX11_second_33 ?_
        refine w_cS3p (k_X11_isWithin) (Nat.le_of_ble_eq_true rfl) lX11_166 mtX11_isWithin (Nat.le_of_ble_eq_true rfl) (Nat.le_of_ble_eq_true rfl) (Nat.le_of_ble_eq_true rfl) dX11_second_34 ?_
        refine r_if_ne (tgt := 43) dX11_second_37 (by decide) (fun c37 => ?_) (fun c37 => ?_)
        · exact absurd ⟨bI_1.mp c8, bI_1.mp c19, bI_1.mp c27, bI_1.mp c37⟩ hc
        · refine r_bipush (v := (-2)) rfl dX11_second_40 ?_
          refine w_iret rfl (rfl) (Nat.le_of_ble_eq_true rfl) (Nat.le_of_ble_eq_true rfl) dX11_second_42 ?_
          exact ⟨rfl, rfl, rfl, rfl⟩
def secK (I : Is) (b : Int32) : Nat → Int32 := prf (kpt (I 17) b (nN (I 3 16))) 401 (I 74)
theorem k_X11_second_y {m f b w : Int32} {M : Nat} (hc : seC I m f b w) (hM : (m / 2).toInt = M) (hM2 : M ≤ 1000) (l0 : 0 ≤ (I 3 16).toInt) (l4 : (I 3 16).toInt ≤ 4) : Con sc mX11_second 5 0 0 [.ref 0, .int m, .int f, .int b, .int w] (XW I L tg) (rI (if w = 0 then (amx (sec (secK I b) (I 4 9) (I 4 10) m f) (M + 1)).1 else (amx (sec (secK I b) (I 4 9) (I 4 10) m f) (M + 1)).2) (XW (dvI (rkI I b) (amx (sec (secK I b) (I 4 9) (I 4 10) m f) (M + 1))) L tg)) := by
  refine Con_of (by decide) (Nat.le_of_ble_eq_true rfl) ?_
  refine r_iload_n (j := 1) rfl rfl dX11_second_0 ?_
  refine r_iconst (v := 1) rfl dX11_second_1 ?_
  refine r_sipush (v := 200) rfl dX11_second_2 ?_
  refine w_cS3p (k_X11_isWithin) (Nat.le_of_ble_eq_true rfl) lX11_166 mtX11_isWithin (Nat.le_of_ble_eq_true rfl) (Nat.le_of_ble_eq_true rfl) (Nat.le_of_ble_eq_true rfl) dX11_second_5 ?_
  refine r_if_eq (tgt := 40) dX11_second_8 (by decide) (fun c8 => ?_) (fun c8 => ?_)
  · exact absurd hc.1 (bI_0.mp c8)
  · refine r_iload_n (j := 2) rfl rfl dX11_second_11 ?_
    refine r_iconst (v := 1) rfl dX11_second_12 ?_
    refine r_sipush (v := 999) rfl dX11_second_13 ?_
    refine w_cS3p (k_X11_isWithin) (Nat.le_of_ble_eq_true rfl) lX11_166 mtX11_isWithin (Nat.le_of_ble_eq_true rfl) (Nat.le_of_ble_eq_true rfl) (Nat.le_of_ble_eq_true rfl) dX11_second_16 ?_
    refine r_if_eq (tgt := 40) dX11_second_19 (by decide) (fun c19 => ?_) (fun c19 => ?_)
    · exact absurd hc.2.1 (bI_0.mp c19)
    · refine r_aload_n (j := 0) rfl rfl dX11_second_22 ?_
      refine r_iload_n (j := 3) rfl rfl dX11_second_23 ?_
      refine w_cV1p (k_X11_areLooks) (Nat.le_of_ble_eq_true rfl) lX11_222 vmX11_areLooks rfl (Nat.le_of_ble_eq_true rfl) (Nat.le_of_ble_eq_true rfl) (Nat.le_of_ble_eq_true rfl) dX11_second_24 ?_
      refine r_if_eq (tgt := 40) dX11_second_27 (by decide) (fun c27 => ?_) (fun c27 => ?_)
      · exact absurd hc.2.2.1 (bI_0.mp c27)
      · refine r_iload (j := 4) rfl dX11_second_30 ?_
        refine r_iconst (v := 0) rfl dX11_second_32 ?_
        refine r_iconst (v := 1) rfl dX11_second_33 ?_
        refine w_cS3p (k_X11_isWithin) (Nat.le_of_ble_eq_true rfl) lX11_166 mtX11_isWithin (Nat.le_of_ble_eq_true rfl) (Nat.le_of_ble_eq_true rfl) (Nat.le_of_ble_eq_true rfl) dX11_second_34 ?_
        refine r_if_ne (tgt := 43) dX11_second_37 (by decide) (fun c37 => ?_) (fun c37 => ?_)
        · refine r_aload_n (j := 0) rfl rfl dX11_second_43 ?_
          refine w_getR (b := 73) fX11_63 rfl rfl dX11_second_44 ?_
          refine r_aload_n (j := 0) rfl rfl dX11_second_47 ?_
          refine w_getR (b := 3) fX11_19 rfl rfl dX11_second_48 ?_
          refine r_iload_n (j := 3) rfl rfl dX11_second_51 ?_
          refine w_cV2v (k_X5_reckon l0 l4) (Nat.le_of_ble_eq_true rfl) lX11_225 vmX5_reckon rfl (Nat.le_of_ble_eq_true rfl) (Nat.le_of_ble_eq_true rfl) (Nat.le_of_ble_eq_true rfl) dX11_second_52 (fun J52 K52 hJ52 hK52 => ?_)
          subst hK52
          refine r_aload_n (j := 0) rfl rfl dX11_second_55 ?_
          refine w_getR (b := 73) fX11_63 rfl rfl dX11_second_56 ?_
          refine r_aload_n (j := 0) rfl rfl dX11_second_59 ?_
          refine w_getR (b := 3) fX11_19 rfl rfl dX11_second_60 ?_
          refine r_iload_n (j := 1) rfl rfl dX11_second_63 ?_
          refine r_iload_n (j := 2) rfl rfl dX11_second_64 ?_
          refine w_cV3v (k_X5_divide hM hM2) (Nat.le_of_ble_eq_true rfl) lX11_235 vmX5_divide rfl (Nat.le_of_ble_eq_true rfl) (Nat.le_of_ble_eq_true rfl) (Nat.le_of_ble_eq_true rfl) dX11_second_65 (fun J65 K65 hJ65 hK65 => ?_)
          subst hK65
          have e74 : J52 74 = secK I b := (by rw [hJ52]; unfold rkI secK; rw [upr_s]); have e4 : J52 4 = I 4 := (by rw [hJ52]; unfold rkI; rw [upr_n _ _ (by decide)]); rw [e74, e4] at hJ65; subst hJ65 hJ52
          refine r_iload (j := 4) rfl dX11_second_68 ?_
          refine r_if_ne (tgt := 83) dX11_second_70 (by decide) (fun c70 => ?_) (fun c70 => ?_)
          · refine r_aload_n (j := 0) rfl rfl dX11_second_83 ?_
            refine w_getR (b := 73) fX11_63 rfl rfl dX11_second_84 ?_
            refine w_getI fX11_242 rfl dX11_second_87 ?_
            refine w_iret rfl (rfl) (Nat.le_of_ble_eq_true rfl) (Nat.le_of_ble_eq_true rfl) dX11_second_90 ?_
            exact ⟨by first | (rw [if_pos c70]; simp [dvI, up_eq, vu_eq]) | (rw [if_neg c70]; simp [dvI, up_eq, vu_eq]), rfl, rfl, rfl⟩
          · refine r_aload_n (j := 0) rfl rfl dX11_second_73 ?_
            refine w_getR (b := 73) fX11_63 rfl rfl dX11_second_74 ?_
            refine w_getI fX11_239 rfl dX11_second_77 ?_
            refine r_goto (tgt := 90) dX11_second_80 (by decide) ?_
            refine w_iret rfl (rfl) (Nat.le_of_ble_eq_true rfl) (Nat.le_of_ble_eq_true rfl) dX11_second_90 ?_
            exact ⟨by first | (rw [if_pos c70]; simp [dvI, up_eq, vu_eq]) | (rw [if_neg c70]; simp [dvI, up_eq, vu_eq]), rfl, rfl, rfl⟩
        · exact absurd hc.2.2.2 (bI_0.mp c37)
theorem k_X11_gone_r {h n : Int32} {hn : Nat} (h5 : (I 3 14).toInt ≤ 5) (eh : 0 ≤ h.toInt → h.toInt < (I 3 14).toInt → h.toInt = hn) (hc : ¬ ((0 ≤ h.toInt ∧ h.toInt < (I 3 14).toInt) ∧ 0 ≤ n.toInt ∧ n.toInt ≤ (I 9 hn).toInt)) : Con sc mX11_gone 1 0 0 [.ref 0, .int h, .int n] (XW I L tg) (rI (-2) (XW I L tg)) := by
  refine Con_of (by decide) (Nat.le_of_ble_eq_true rfl) ?_
  refine r_aload_n (j := 0) rfl rfl dX11_gone_0 ?_
  refine r_iload_n (j := 1) rfl rfl dX11_gone_1 ?_
  refine w_cV1p (k_X11_isHut) (Nat.le_of_ble_eq_true rfl) lX11_140 vmX11_isHut rfl (Nat.le_of_ble_eq_true rfl) (Nat.le_of_ble_eq_true rfl) (Nat.le_of_ble_eq_true rfl) dX11_gone_2 ?_
  refine r_if_eq (tgt := 25) dX11_gone_5 (by decide) (fun c5 => ?_) (fun c5 => ?_)
  · refine r_bipush (v := (-2)) rfl dX11_gone_25 ?_
    refine w_iret rfl (rfl) (Nat.le_of_ble_eq_true rfl) (Nat.le_of_ble_eq_true rfl) dX11_gone_27 ?_
    exact ⟨rfl, rfl, rfl, rfl⟩
  · refine r_iload_n (j := 2) rfl rfl dX11_gone_8 ?_
    refine r_iconst (v := 0) rfl dX11_gone_9 ?_
    refine r_aload_n (j := 0) rfl rfl dX11_gone_10 ?_
    refine w_getR (b := 3) fX11_19 rfl rfl dX11_gone_11 ?_
    refine w_getR (b := 9) fX11_210 rfl rfl dX11_gone_14 ?_
    refine r_iload_n (j := 1) rfl rfl dX11_gone_17 ?_
    refine w_iald rfl (by have q := bI_1.mp c5; exact up_in (eh q.1 q.2) (by have := eh q.1 q.2; omega)) dX11_gone_18 ?_
    refine w_cS3p (k_X11_isWithin) (Nat.le_of_ble_eq_true rfl) lX11_166 mtX11_isWithin (Nat.le_of_ble_eq_true rfl) (Nat.le_of_ble_eq_true rfl) (Nat.le_of_ble_eq_true rfl) dX11_gone_19 ?_
    refine r_if_ne (tgt := 28) dX11_gone_22 (by decide) (fun c22 => ?_) (fun c22 => ?_)
    · have q := bI_1.mp c5; rw [cl_of (eh q.1 q.2)] at c22; exact absurd ⟨q, bI_1.mp c22⟩ hc
    · refine r_bipush (v := (-2)) rfl dX11_gone_25 ?_
      refine w_iret rfl (rfl) (Nat.le_of_ble_eq_true rfl) (Nat.le_of_ble_eq_true rfl) dX11_gone_27 ?_
      exact ⟨rfl, rfl, rfl, rfl⟩
theorem k_X11_gone_y {h n : Int32} {hn : Nat} (h5 : hn < 5) (eh : h.toInt = hn) (hc : (0 ≤ h.toInt ∧ h.toInt < (I 3 14).toInt) ∧ 0 ≤ n.toInt ∧ n.toInt ≤ (I 9 hn).toInt) : Con sc mX11_gone 1 0 0 [.ref 0, .int h, .int n] (XW I L tg) (rI (I 69 hn) (XW (up I 69 hn n) L tg)) := by
  refine Con_of (by decide) (Nat.le_of_ble_eq_true rfl) ?_
  have ch := cl_of eh
  have hin := up_in eh h5
  refine r_aload_n (j := 0) rfl rfl dX11_gone_0 ?_
  refine r_iload_n (j := 1) rfl rfl dX11_gone_1 ?_
  refine w_cV1p (k_X11_isHut) (Nat.le_of_ble_eq_true rfl) lX11_140 vmX11_isHut rfl (Nat.le_of_ble_eq_true rfl) (Nat.le_of_ble_eq_true rfl) (Nat.le_of_ble_eq_true rfl) dX11_gone_2 ?_
  refine r_if_eq (tgt := 25) dX11_gone_5 (by decide) (fun c5 => ?_) (fun c5 => ?_)
  · exact absurd hc.1 (bI_0.mp c5)
  · refine r_iload_n (j := 2) rfl rfl dX11_gone_8 ?_
    refine r_iconst (v := 0) rfl dX11_gone_9 ?_
    refine r_aload_n (j := 0) rfl rfl dX11_gone_10 ?_
    refine w_getR (b := 3) fX11_19 rfl rfl dX11_gone_11 ?_
    refine w_getR (b := 9) fX11_210 rfl rfl dX11_gone_14 ?_
    refine r_iload_n (j := 1) rfl rfl dX11_gone_17 ?_
    refine w_iald rfl (by first | assumption | (rw [vp_in_iff]; ((try simp only [bI_0, bI_1, lc_lt, lc_gt, lc_le, lc_ge, Classical.not_not] at *); (try simp only [i_lt, i_le, i_eq, l_lt, l_le, l_eq, Int32.toInt_toInt64, Int32.reduceToInt, Int64.reduceToInt] at *); omega))) dX11_gone_18 ?_
    refine w_cS3p (k_X11_isWithin) (Nat.le_of_ble_eq_true rfl) lX11_166 mtX11_isWithin (Nat.le_of_ble_eq_true rfl) (Nat.le_of_ble_eq_true rfl) (Nat.le_of_ble_eq_true rfl) dX11_gone_19 ?_
    refine r_if_ne (tgt := 28) dX11_gone_22 (by decide) (fun c22 => ?_) (fun c22 => ?_)
    · refine r_aload_n (j := 0) rfl rfl dX11_gone_28 ?_
      refine w_getR (b := 68) fX11_56 rfl rfl dX11_gone_29 ?_
      refine w_getR (b := 69) fX11_213 rfl rfl dX11_gone_32 ?_
      refine r_iload_n (j := 1) rfl rfl dX11_gone_35 ?_
      refine w_iald rfl (by first | assumption | (rw [vp_in_iff]; ((try simp only [bI_0, bI_1, lc_lt, lc_gt, lc_le, lc_ge, Classical.not_not] at *); (try simp only [i_lt, i_le, i_eq, l_lt, l_le, l_eq, Int32.toInt_toInt64, Int32.reduceToInt, Int64.reduceToInt] at *); omega))) dX11_gone_36 ?_
      refine r_istore_n (lv' := fun z => [(3, .int z), (0, .ref 0), (1, .int h), (2, .int n)]) dX11_gone_37 rfl (Nat.le_of_ble_eq_true rfl) (fun _ => rfl) (fun x3_37 ex3_37 => ?_)
      refine r_aload_n (j := 1) rfl rfl dX11_gone_38 ?_
      refine w_getR (b := 68) fX11_56 rfl rfl dX11_gone_39 ?_
      refine w_getR (b := 69) fX11_213 rfl rfl dX11_gone_42 ?_
      refine r_iload_n (j := 2) rfl rfl dX11_gone_45 ?_
      refine r_iload_n (j := 3) rfl rfl dX11_gone_46 ?_
      refine w_iast rfl (by first | assumption | (rw [vp_in_iff]; ((try simp only [bI_0, bI_1, lc_lt, lc_gt, lc_le, lc_ge, Classical.not_not] at *); (try simp only [i_lt, i_le, i_eq, l_lt, l_le, l_eq, Int32.toInt_toInt64, Int32.reduceToInt, Int64.reduceToInt] at *); omega))) dX11_gone_47 (fun J47 hJ47 => ?_)
      refine r_iload_n (j := 0) rfl rfl dX11_gone_48 ?_
      refine w_iret rfl (rfl) (Nat.le_of_ble_eq_true rfl) (Nat.le_of_ble_eq_true rfl) dX11_gone_49 ?_
      exact ⟨by rw [ex3_37, ch], by rw [hJ47, ch], rfl, rfl⟩
    · rw [ch] at c22; exact absurd hc.2 (bI_0.mp c22)
theorem l_X2_allMissing : ∀ n i : Nat, i + n = 5 → ∀ a x : Int32, a = sm (I 69) i → x.toInt = i → RR sc mX2_allMissing 0 0 0 (rI (sm (I 69) 5) (XW I L tg)) 0 0 4 [(2, .int x), (1, .int a), (0, .ref 68)] [] (XW I L tg) := by
  intro n
  induction n with
  | zero =>
    intro i hi a x ea hx
    refine r_iload_n (j := 0) rfl rfl dX2_allMissing_4 ?_
    refine r_iconst (v := 5) rfl dX2_allMissing_5 ?_
    refine r_icmp_ge (tgt := 24) dX2_allMissing_6 (by decide) (fun c6 => ?_) (fun c6 => ?_)
    · refine r_iload_n (j := 1) rfl rfl dX2_allMissing_24 ?_
      refine w_iret rfl (rfl) (Nat.le_of_ble_eq_true rfl) (Nat.le_of_ble_eq_true rfl) dX2_allMissing_25 ?_
      exact ⟨by rw [ea, show i = 5 by omega], rfl, rfl, rfl⟩
    · exfalso; ((try simp only [bI_0, bI_1, lc_lt, lc_gt, lc_le, lc_ge, Classical.not_not] at *); (try simp only [i_lt, i_le, i_eq, l_lt, l_le, l_eq, Int32.toInt_toInt64, Int32.reduceToInt, Int64.reduceToInt] at *); omega)
  | succ n ih =>
    intro i hi a x ea hx
    refine r_iload_n (j := 0) rfl rfl dX2_allMissing_4 ?_
    refine r_iconst (v := 5) rfl dX2_allMissing_5 ?_
    refine r_icmp_ge (tgt := 24) dX2_allMissing_6 (by decide) (fun c6 => ?_) (fun c6 => ?_)
    · exfalso; ((try simp only [bI_0, bI_1, lc_lt, lc_gt, lc_le, lc_ge, Classical.not_not] at *); (try simp only [i_lt, i_le, i_eq, l_lt, l_le, l_eq, Int32.toInt_toInt64, Int32.reduceToInt, Int64.reduceToInt] at *); omega)
    · refine r_iload_n (j := 1) rfl rfl dX2_allMissing_9 ?_
      refine r_aload_n (j := 2) rfl rfl dX2_allMissing_10 ?_
      refine w_getR (b := 69) fX2_9 rfl rfl dX2_allMissing_11 ?_
      refine r_iload_n (j := 0) rfl rfl dX2_allMissing_14 ?_
      refine w_iald rfl (by first | assumption | (rw [vp_in_iff]; ((try simp only [bI_0, bI_1, lc_lt, lc_gt, lc_le, lc_ge, Classical.not_not] at *); (try simp only [i_lt, i_le, i_eq, l_lt, l_le, l_eq, Int32.toInt_toInt64, Int32.reduceToInt, Int64.reduceToInt] at *); omega))) dX2_allMissing_15 ?_
      refine r_iadd dX2_allMissing_16 ?_
      refine r_istore_n (lv' := fun z => [(1, .int z), (2, .int x), (0, .ref 68)]) dX2_allMissing_17 rfl (Nat.le_of_ble_eq_true rfl) (fun _ => rfl) (fun x1_17 ex1_17 => ?_)
      refine r_iinc (j := 1) (lv' := fun z => [(2, .int z), (1, .int x1_17), (0, .ref 68)]) dX2_allMissing_18 rfl (Nat.le_of_ble_eq_true rfl) (fun _ => rfl) (fun x2_18 ex2_18 => ?_)
      refine r_goto (tgt := 4) dX2_allMissing_21 (by decide) ?_
      exact ih (i + 1) (by omega) _ _ (by rw [ex1_17, ea, cl_of hx]; rfl) (by rw [ex2_18]; exact i_inc hx (by omega))
theorem k_X2_allMissing : Con sc mX2_allMissing 0 0 0 [.ref 68] (XW I L tg) (rI (sm (I 69) 5) (XW I L tg)) := by
  refine Con_of (by decide) (Nat.le_of_ble_eq_true rfl) ?_
  refine r_iconst (v := 0) rfl dX2_allMissing_0 ?_
  refine r_istore_n (lv' := fun z => [(1, .int z), (0, .ref 68)]) dX2_allMissing_1 rfl (Nat.le_of_ble_eq_true rfl) (fun _ => rfl) (fun x1_1 ex1_1 => ?_)
  refine r_iconst (v := 0) rfl dX2_allMissing_2 ?_
  refine r_istore_n (lv' := fun z => [(2, .int z), (1, .int x1_1), (0, .ref 68)]) dX2_allMissing_3 rfl (Nat.le_of_ble_eq_true rfl) (fun _ => rfl) (fun x2_3 ex2_3 => ?_)
  exact l_X2_allMissing 5 0 rfl _ _ ex1_1 (by rw [ex2_3]; rfl)
def cntS (a b c d e f g h w : Int32) : Int32 := if w = 0 then a else if w = 1 then b else if w = 2 then c else if w = 3 then d else if w = 4 then e else if w = 5 then f else if w = 6 then g else if w = 7 then h else -1
theorem k_X11_count {x : Int32} : Con sc mX11_count 1 0 0 [.ref 0, .int x] (XW I L tg) (rI (cntS (I 3 17) (I 36 8) (I 75 8) (I 75 9) (I 84 7) (I 84 8) (sm (I 69) 5) (I 1 1) x) (XW I L tg)) := by
  refine Con_of (by decide) (Nat.le_of_ble_eq_true rfl) ?_
  refine r_iload_n (j := 1) rfl rfl dX11_count_0 ?_
  refine w_tab (tgtD := 112) dX11_count_1 (by decide) (fun c1 => ?_) (fun i c1 l1 => ?_)
  · refine r_iconst (v := (-1)) rfl dX11_count_112 ?_
    refine w_iret rfl (rfl) (Nat.le_of_ble_eq_true rfl) (Nat.le_of_ble_eq_true rfl) dX11_count_113 ?_
    exact ⟨by unfold cntS; rw [if_neg (by ((try simp only [bI_0, bI_1, lc_lt, lc_gt, lc_le, lc_ge, Classical.not_not] at *); (try simp only [i_lt, i_le, i_eq, l_lt, l_le, l_eq, Int32.toInt_toInt64, Int32.reduceToInt, Int64.reduceToInt] at *); omega)), if_neg (by ((try simp only [bI_0, bI_1, lc_lt, lc_gt, lc_le, lc_ge, Classical.not_not] at *); (try simp only [i_lt, i_le, i_eq, l_lt, l_le, l_eq, Int32.toInt_toInt64, Int32.reduceToInt, Int64.reduceToInt] at *); omega)), if_neg (by ((try simp only [bI_0, bI_1, lc_lt, lc_gt, lc_le, lc_ge, Classical.not_not] at *); (try simp only [i_lt, i_le, i_eq, l_lt, l_le, l_eq, Int32.toInt_toInt64, Int32.reduceToInt, Int64.reduceToInt] at *); omega)), if_neg (by ((try simp only [bI_0, bI_1, lc_lt, lc_gt, lc_le, lc_ge, Classical.not_not] at *); (try simp only [i_lt, i_le, i_eq, l_lt, l_le, l_eq, Int32.toInt_toInt64, Int32.reduceToInt, Int64.reduceToInt] at *); omega)), if_neg (by ((try simp only [bI_0, bI_1, lc_lt, lc_gt, lc_le, lc_ge, Classical.not_not] at *); (try simp only [i_lt, i_le, i_eq, l_lt, l_le, l_eq, Int32.toInt_toInt64, Int32.reduceToInt, Int64.reduceToInt] at *); omega)), if_neg (by ((try simp only [bI_0, bI_1, lc_lt, lc_gt, lc_le, lc_ge, Classical.not_not] at *); (try simp only [i_lt, i_le, i_eq, l_lt, l_le, l_eq, Int32.toInt_toInt64, Int32.reduceToInt, Int64.reduceToInt] at *); omega)), if_neg (by ((try simp only [bI_0, bI_1, lc_lt, lc_gt, lc_le, lc_ge, Classical.not_not] at *); (try simp only [i_lt, i_le, i_eq, l_lt, l_le, l_eq, Int32.toInt_toInt64, Int32.reduceToInt, Int64.reduceToInt] at *); omega)), if_neg (by ((try simp only [bI_0, bI_1, lc_lt, lc_gt, lc_le, lc_ge, Classical.not_not] at *); (try simp only [i_lt, i_le, i_eq, l_lt, l_le, l_eq, Int32.toInt_toInt64, Int32.reduceToInt, Int64.reduceToInt] at *); omega))], rfl, rfl, rfl⟩
  · rcases (show i = 0 ∨ i = 1 ∨ i = 2 ∨ i = 3 ∨ i = 4 ∨ i = 5 ∨ i = 6 ∨ i = 7 by omega) with rfl | rfl | rfl | rfl | rfl | rfl | rfl | rfl
    · refine ⟨47, 48, rfl, by decide, ?_⟩
      refine r_aload_n (j := 0) rfl rfl dX11_count_48 ?_
      refine w_getR (b := 3) fX11_19 rfl rfl dX11_count_49 ?_
      refine w_getI fX11_113 rfl dX11_count_52 ?_
      refine w_iret rfl (rfl) (Nat.le_of_ble_eq_true rfl) (Nat.le_of_ble_eq_true rfl) dX11_count_55 ?_
      exact ⟨by unfold cntS; rw [if_pos (by ((try simp only [bI_0, bI_1, lc_lt, lc_gt, lc_le, lc_ge, Classical.not_not] at *); (try simp only [i_lt, i_le, i_eq, l_lt, l_le, l_eq, Int32.toInt_toInt64, Int32.reduceToInt, Int64.reduceToInt] at *); omega))], rfl, rfl, rfl⟩
    · refine ⟨55, 56, rfl, by decide, ?_⟩
      refine r_aload_n (j := 0) rfl rfl dX11_count_56 ?_
      refine w_getR (b := 36) fX11_38 rfl rfl dX11_count_57 ?_
      refine w_getI fX11_157 rfl dX11_count_60 ?_
      refine w_iret rfl (rfl) (Nat.le_of_ble_eq_true rfl) (Nat.le_of_ble_eq_true rfl) dX11_count_63 ?_
      exact ⟨by unfold cntS; rw [if_neg (by ((try simp only [bI_0, bI_1, lc_lt, lc_gt, lc_le, lc_ge, Classical.not_not] at *); (try simp only [i_lt, i_le, i_eq, l_lt, l_le, l_eq, Int32.toInt_toInt64, Int32.reduceToInt, Int64.reduceToInt] at *); omega)), if_pos (by ((try simp only [bI_0, bI_1, lc_lt, lc_gt, lc_le, lc_ge, Classical.not_not] at *); (try simp only [i_lt, i_le, i_eq, l_lt, l_le, l_eq, Int32.toInt_toInt64, Int32.reduceToInt, Int64.reduceToInt] at *); omega))], rfl, rfl, rfl⟩
    · refine ⟨63, 64, rfl, by decide, ?_⟩
      refine r_aload_n (j := 0) rfl rfl dX11_count_64 ?_
      refine w_getR (b := 75) fX11_70 rfl rfl dX11_count_65 ?_
      refine w_getI fX11_255 rfl dX11_count_68 ?_
      refine w_iret rfl (rfl) (Nat.le_of_ble_eq_true rfl) (Nat.le_of_ble_eq_true rfl) dX11_count_71 ?_
      exact ⟨by unfold cntS; rw [if_neg (by ((try simp only [bI_0, bI_1, lc_lt, lc_gt, lc_le, lc_ge, Classical.not_not] at *); (try simp only [i_lt, i_le, i_eq, l_lt, l_le, l_eq, Int32.toInt_toInt64, Int32.reduceToInt, Int64.reduceToInt] at *); omega)), if_neg (by ((try simp only [bI_0, bI_1, lc_lt, lc_gt, lc_le, lc_ge, Classical.not_not] at *); (try simp only [i_lt, i_le, i_eq, l_lt, l_le, l_eq, Int32.toInt_toInt64, Int32.reduceToInt, Int64.reduceToInt] at *); omega)), if_pos (by ((try simp only [bI_0, bI_1, lc_lt, lc_gt, lc_le, lc_ge, Classical.not_not] at *); (try simp only [i_lt, i_le, i_eq, l_lt, l_le, l_eq, Int32.toInt_toInt64, Int32.reduceToInt, Int64.reduceToInt] at *); omega))], rfl, rfl, rfl⟩
    · refine ⟨71, 72, rfl, by decide, ?_⟩
      refine r_aload_n (j := 0) rfl rfl dX11_count_72 ?_
      refine w_getR (b := 75) fX11_70 rfl rfl dX11_count_73 ?_
      refine w_getI fX11_334 rfl dX11_count_76 ?_
      refine w_iret rfl (rfl) (Nat.le_of_ble_eq_true rfl) (Nat.le_of_ble_eq_true rfl) dX11_count_79 ?_
      exact ⟨by unfold cntS; rw [if_neg (by ((try simp only [bI_0, bI_1, lc_lt, lc_gt, lc_le, lc_ge, Classical.not_not] at *); (try simp only [i_lt, i_le, i_eq, l_lt, l_le, l_eq, Int32.toInt_toInt64, Int32.reduceToInt, Int64.reduceToInt] at *); omega)), if_neg (by ((try simp only [bI_0, bI_1, lc_lt, lc_gt, lc_le, lc_ge, Classical.not_not] at *); (try simp only [i_lt, i_le, i_eq, l_lt, l_le, l_eq, Int32.toInt_toInt64, Int32.reduceToInt, Int64.reduceToInt] at *); omega)), if_neg (by ((try simp only [bI_0, bI_1, lc_lt, lc_gt, lc_le, lc_ge, Classical.not_not] at *); (try simp only [i_lt, i_le, i_eq, l_lt, l_le, l_eq, Int32.toInt_toInt64, Int32.reduceToInt, Int64.reduceToInt] at *); omega)), if_pos (by ((try simp only [bI_0, bI_1, lc_lt, lc_gt, lc_le, lc_ge, Classical.not_not] at *); (try simp only [i_lt, i_le, i_eq, l_lt, l_le, l_eq, Int32.toInt_toInt64, Int32.reduceToInt, Int64.reduceToInt] at *); omega))], rfl, rfl, rfl⟩
    · refine ⟨79, 80, rfl, by decide, ?_⟩
      refine r_aload_n (j := 0) rfl rfl dX11_count_80 ?_
      refine w_getR (b := 84) fX11_77 rfl rfl dX11_count_81 ?_
      refine w_getI fX11_288 rfl dX11_count_84 ?_
      refine w_iret rfl (rfl) (Nat.le_of_ble_eq_true rfl) (Nat.le_of_ble_eq_true rfl) dX11_count_87 ?_
      exact ⟨by unfold cntS; rw [if_neg (by ((try simp only [bI_0, bI_1, lc_lt, lc_gt, lc_le, lc_ge, Classical.not_not] at *); (try simp only [i_lt, i_le, i_eq, l_lt, l_le, l_eq, Int32.toInt_toInt64, Int32.reduceToInt, Int64.reduceToInt] at *); omega)), if_neg (by ((try simp only [bI_0, bI_1, lc_lt, lc_gt, lc_le, lc_ge, Classical.not_not] at *); (try simp only [i_lt, i_le, i_eq, l_lt, l_le, l_eq, Int32.toInt_toInt64, Int32.reduceToInt, Int64.reduceToInt] at *); omega)), if_neg (by ((try simp only [bI_0, bI_1, lc_lt, lc_gt, lc_le, lc_ge, Classical.not_not] at *); (try simp only [i_lt, i_le, i_eq, l_lt, l_le, l_eq, Int32.toInt_toInt64, Int32.reduceToInt, Int64.reduceToInt] at *); omega)), if_neg (by ((try simp only [bI_0, bI_1, lc_lt, lc_gt, lc_le, lc_ge, Classical.not_not] at *); (try simp only [i_lt, i_le, i_eq, l_lt, l_le, l_eq, Int32.toInt_toInt64, Int32.reduceToInt, Int64.reduceToInt] at *); omega)), if_pos (by ((try simp only [bI_0, bI_1, lc_lt, lc_gt, lc_le, lc_ge, Classical.not_not] at *); (try simp only [i_lt, i_le, i_eq, l_lt, l_le, l_eq, Int32.toInt_toInt64, Int32.reduceToInt, Int64.reduceToInt] at *); omega))], rfl, rfl, rfl⟩
    · refine ⟨87, 88, rfl, by decide, ?_⟩
      refine r_aload_n (j := 0) rfl rfl dX11_count_88 ?_
      refine w_getR (b := 84) fX11_77 rfl rfl dX11_count_89 ?_
      refine w_getI fX11_291 rfl dX11_count_92 ?_
      refine w_iret rfl (rfl) (Nat.le_of_ble_eq_true rfl) (Nat.le_of_ble_eq_true rfl) dX11_count_95 ?_
      exact ⟨by unfold cntS; rw [if_neg (by ((try simp only [bI_0, bI_1, lc_lt, lc_gt, lc_le, lc_ge, Classical.not_not] at *); (try simp only [i_lt, i_le, i_eq, l_lt, l_le, l_eq, Int32.toInt_toInt64, Int32.reduceToInt, Int64.reduceToInt] at *); omega)), if_neg (by ((try simp only [bI_0, bI_1, lc_lt, lc_gt, lc_le, lc_ge, Classical.not_not] at *); (try simp only [i_lt, i_le, i_eq, l_lt, l_le, l_eq, Int32.toInt_toInt64, Int32.reduceToInt, Int64.reduceToInt] at *); omega)), if_neg (by ((try simp only [bI_0, bI_1, lc_lt, lc_gt, lc_le, lc_ge, Classical.not_not] at *); (try simp only [i_lt, i_le, i_eq, l_lt, l_le, l_eq, Int32.toInt_toInt64, Int32.reduceToInt, Int64.reduceToInt] at *); omega)), if_neg (by ((try simp only [bI_0, bI_1, lc_lt, lc_gt, lc_le, lc_ge, Classical.not_not] at *); (try simp only [i_lt, i_le, i_eq, l_lt, l_le, l_eq, Int32.toInt_toInt64, Int32.reduceToInt, Int64.reduceToInt] at *); omega)), if_neg (by ((try simp only [bI_0, bI_1, lc_lt, lc_gt, lc_le, lc_ge, Classical.not_not] at *); (try simp only [i_lt, i_le, i_eq, l_lt, l_le, l_eq, Int32.toInt_toInt64, Int32.reduceToInt, Int64.reduceToInt] at *); omega)), if_pos (by ((try simp only [bI_0, bI_1, lc_lt, lc_gt, lc_le, lc_ge, Classical.not_not] at *); (try simp only [i_lt, i_le, i_eq, l_lt, l_le, l_eq, Int32.toInt_toInt64, Int32.reduceToInt, Int64.reduceToInt] at *); omega))], rfl, rfl, rfl⟩
    · refine ⟨95, 96, rfl, by decide, ?_⟩
      refine r_aload_n (j := 0) rfl rfl dX11_count_96 ?_
      refine w_getR (b := 68) fX11_56 rfl rfl dX11_count_97 ?_
      refine w_cV0p (k_X2_allMissing) (Nat.le_of_ble_eq_true rfl) lX11_337 vmX2_allMissing rfl (Nat.le_of_ble_eq_true rfl) (Nat.le_of_ble_eq_true rfl) (Nat.le_of_ble_eq_true rfl) dX11_count_100 ?_
      refine w_iret rfl (rfl) (Nat.le_of_ble_eq_true rfl) (Nat.le_of_ble_eq_true rfl) dX11_count_103 ?_
      exact ⟨by unfold cntS; rw [if_neg (by ((try simp only [bI_0, bI_1, lc_lt, lc_gt, lc_le, lc_ge, Classical.not_not] at *); (try simp only [i_lt, i_le, i_eq, l_lt, l_le, l_eq, Int32.toInt_toInt64, Int32.reduceToInt, Int64.reduceToInt] at *); omega)), if_neg (by ((try simp only [bI_0, bI_1, lc_lt, lc_gt, lc_le, lc_ge, Classical.not_not] at *); (try simp only [i_lt, i_le, i_eq, l_lt, l_le, l_eq, Int32.toInt_toInt64, Int32.reduceToInt, Int64.reduceToInt] at *); omega)), if_neg (by ((try simp only [bI_0, bI_1, lc_lt, lc_gt, lc_le, lc_ge, Classical.not_not] at *); (try simp only [i_lt, i_le, i_eq, l_lt, l_le, l_eq, Int32.toInt_toInt64, Int32.reduceToInt, Int64.reduceToInt] at *); omega)), if_neg (by ((try simp only [bI_0, bI_1, lc_lt, lc_gt, lc_le, lc_ge, Classical.not_not] at *); (try simp only [i_lt, i_le, i_eq, l_lt, l_le, l_eq, Int32.toInt_toInt64, Int32.reduceToInt, Int64.reduceToInt] at *); omega)), if_neg (by ((try simp only [bI_0, bI_1, lc_lt, lc_gt, lc_le, lc_ge, Classical.not_not] at *); (try simp only [i_lt, i_le, i_eq, l_lt, l_le, l_eq, Int32.toInt_toInt64, Int32.reduceToInt, Int64.reduceToInt] at *); omega)), if_neg (by ((try simp only [bI_0, bI_1, lc_lt, lc_gt, lc_le, lc_ge, Classical.not_not] at *); (try simp only [i_lt, i_le, i_eq, l_lt, l_le, l_eq, Int32.toInt_toInt64, Int32.reduceToInt, Int64.reduceToInt] at *); omega)), if_pos (by ((try simp only [bI_0, bI_1, lc_lt, lc_gt, lc_le, lc_ge, Classical.not_not] at *); (try simp only [i_lt, i_le, i_eq, l_lt, l_le, l_eq, Int32.toInt_toInt64, Int32.reduceToInt, Int64.reduceToInt] at *); omega))], rfl, rfl, rfl⟩
    · refine ⟨103, 104, rfl, by decide, ?_⟩
      refine r_aload_n (j := 0) rfl rfl dX11_count_104 ?_
      refine w_getR (b := 1) fX11_10 rfl rfl dX11_count_105 ?_
      refine w_getI fX11_88 rfl dX11_count_108 ?_
      refine w_iret rfl (rfl) (Nat.le_of_ble_eq_true rfl) (Nat.le_of_ble_eq_true rfl) dX11_count_111 ?_
      exact ⟨by unfold cntS; rw [if_neg (by ((try simp only [bI_0, bI_1, lc_lt, lc_gt, lc_le, lc_ge, Classical.not_not] at *); (try simp only [i_lt, i_le, i_eq, l_lt, l_le, l_eq, Int32.toInt_toInt64, Int32.reduceToInt, Int64.reduceToInt] at *); omega)), if_neg (by ((try simp only [bI_0, bI_1, lc_lt, lc_gt, lc_le, lc_ge, Classical.not_not] at *); (try simp only [i_lt, i_le, i_eq, l_lt, l_le, l_eq, Int32.toInt_toInt64, Int32.reduceToInt, Int64.reduceToInt] at *); omega)), if_neg (by ((try simp only [bI_0, bI_1, lc_lt, lc_gt, lc_le, lc_ge, Classical.not_not] at *); (try simp only [i_lt, i_le, i_eq, l_lt, l_le, l_eq, Int32.toInt_toInt64, Int32.reduceToInt, Int64.reduceToInt] at *); omega)), if_neg (by ((try simp only [bI_0, bI_1, lc_lt, lc_gt, lc_le, lc_ge, Classical.not_not] at *); (try simp only [i_lt, i_le, i_eq, l_lt, l_le, l_eq, Int32.toInt_toInt64, Int32.reduceToInt, Int64.reduceToInt] at *); omega)), if_neg (by ((try simp only [bI_0, bI_1, lc_lt, lc_gt, lc_le, lc_ge, Classical.not_not] at *); (try simp only [i_lt, i_le, i_eq, l_lt, l_le, l_eq, Int32.toInt_toInt64, Int32.reduceToInt, Int64.reduceToInt] at *); omega)), if_neg (by ((try simp only [bI_0, bI_1, lc_lt, lc_gt, lc_le, lc_ge, Classical.not_not] at *); (try simp only [i_lt, i_le, i_eq, l_lt, l_le, l_eq, Int32.toInt_toInt64, Int32.reduceToInt, Int64.reduceToInt] at *); omega)), if_neg (by ((try simp only [bI_0, bI_1, lc_lt, lc_gt, lc_le, lc_ge, Classical.not_not] at *); (try simp only [i_lt, i_le, i_eq, l_lt, l_le, l_eq, Int32.toInt_toInt64, Int32.reduceToInt, Int64.reduceToInt] at *); omega)), if_pos (by ((try simp only [bI_0, bI_1, lc_lt, lc_gt, lc_le, lc_ge, Classical.not_not] at *); (try simp only [i_lt, i_le, i_eq, l_lt, l_le, l_eq, Int32.toInt_toInt64, Int32.reduceToInt, Int64.reduceToInt] at *); omega))], rfl, rfl, rfl⟩
theorem k_X11_run {h q : Int32} (h5 : (I 3 14).toInt ≤ 5) : Con sc mX11_run 2 0 0 [.ref 0, .int h, .int q] (XW I L tg) (rI (if (0 ≤ h.toInt ∧ h.toInt < (I 3 14).toInt) ∧ 0 ≤ q.toInt ∧ q.toInt < (I 3 14).toInt then mbt (I 11) h q else -2) (XW I L tg)) := by
  refine Con_of (by decide) (Nat.le_of_ble_eq_true rfl) ?_
  refine r_aload_n (j := 0) rfl rfl dX11_run_0 ?_
  refine r_iload_n (j := 1) rfl rfl dX11_run_1 ?_
  refine w_cV1p (k_X11_isHut) (Nat.le_of_ble_eq_true rfl) lX11_140 vmX11_isHut rfl (Nat.le_of_ble_eq_true rfl) (Nat.le_of_ble_eq_true rfl) (Nat.le_of_ble_eq_true rfl) dX11_run_2 ?_
  refine r_if_eq (tgt := 28) dX11_run_5 (by decide) (fun c5 => ?_) (fun c5 => ?_)
  · refine r_bipush (v := (-2)) rfl dX11_run_28 ?_
    refine w_iret rfl (rfl) (Nat.le_of_ble_eq_true rfl) (Nat.le_of_ble_eq_true rfl) dX11_run_30 ?_
    exact ⟨by rw [if_neg (fun z => absurd z.1 (bI_0.mp c5))], rfl, rfl, rfl⟩
  · refine r_aload_n (j := 0) rfl rfl dX11_run_8 ?_
    refine r_iload_n (j := 2) rfl rfl dX11_run_9 ?_
    refine w_cV1p (k_X11_isHut) (Nat.le_of_ble_eq_true rfl) lX11_140 vmX11_isHut rfl (Nat.le_of_ble_eq_true rfl) (Nat.le_of_ble_eq_true rfl) (Nat.le_of_ble_eq_true rfl) dX11_run_10 ?_
    refine r_if_eq (tgt := 28) dX11_run_13 (by decide) (fun c13 => ?_) (fun c13 => ?_)
    · refine r_bipush (v := (-2)) rfl dX11_run_28 ?_
      refine w_iret rfl (rfl) (Nat.le_of_ble_eq_true rfl) (Nat.le_of_ble_eq_true rfl) dX11_run_30 ?_
      exact ⟨by rw [if_neg (fun z => absurd z.2 (bI_0.mp c13))], rfl, rfl, rfl⟩
    · refine r_aload_n (j := 0) rfl rfl dX11_run_16 ?_
      refine w_getR (b := 3) fX11_19 rfl rfl dX11_run_17 ?_
      refine r_iload_n (j := 1) rfl rfl dX11_run_20 ?_
      refine r_iload_n (j := 2) rfl rfl dX11_run_21 ?_
      refine w_cV2p (k_X0_minutesBetween (bI_1.mp c5).1 (by have := bI_1.mp c5; omega) (bI_1.mp c13).1 (by have := bI_1.mp c13; omega)) (Nat.le_of_ble_eq_true rfl) lX11_144 vmX0_minutesBetween rfl (Nat.le_of_ble_eq_true rfl) (Nat.le_of_ble_eq_true rfl) (Nat.le_of_ble_eq_true rfl) dX11_run_22 ?_
      refine r_goto (tgt := 30) dX11_run_25 (by decide) ?_
      refine w_iret rfl (rfl) (Nat.le_of_ble_eq_true rfl) (Nat.le_of_ble_eq_true rfl) dX11_run_30 ?_
      exact ⟨by rw [if_pos ⟨bI_1.mp c5, bI_1.mp c13⟩], rfl, rfl, rfl⟩
end Pub2
