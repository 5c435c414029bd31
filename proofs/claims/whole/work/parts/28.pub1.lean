/-! the public face: digging -/
theorem k_X11_chance_n {sc : Sc} {I : Is} {L : Ls} {tg : Nat} {s : Int32} (h : s.toInt < 0) : Con sc mX11_chance 0 0 0 [.ref 0, .int s] (XW I L tg) (rI (-2) (XW I L tg)) := by
  refine Con_of (by decide) (Nat.le_of_ble_eq_true rfl) ?_
  refine r_iload_n (j := 1) rfl rfl dX11_chance_0 ?_
  refine r_if_ge (tgt := 7) dX11_chance_1 (by decide) (fun c1 => ?_) (fun c1 => ?_)
  · exfalso; ((try simp only [bI_0, bI_1, lc_lt, lc_gt, lc_le, lc_ge, Classical.not_not] at *); (try simp only [i_lt, i_le, i_eq, l_lt, l_le, l_eq, Int32.toInt_toInt64, Int32.reduceToInt, Int64.reduceToInt] at *); omega)
  · refine r_bipush (v := (-2)) rfl dX11_chance_4 ?_
    refine w_iret rfl (rfl) (Nat.le_of_ble_eq_true rfl) (Nat.le_of_ble_eq_true rfl) dX11_chance_6 ?_
    exact ⟨rfl, rfl, rfl, rfl⟩
theorem k_X11_chance_y {sc : Sc} {I : Is} {L : Ls} {tg : Nat} {s : Int32} (h : 0 ≤ s.toInt) : Con sc mX11_chance 0 0 0 [.ref 0, .int s] (XW I L tg) (rI 1 (XW I (up L 44 0 s.toInt64) tg)) := by
  refine Con_of (by decide) (Nat.le_of_ble_eq_true rfl) ?_
  refine r_iload_n (j := 1) rfl rfl dX11_chance_0 ?_
  refine r_if_ge (tgt := 7) dX11_chance_1 (by decide) (fun c1 => ?_) (fun c1 => ?_)
  · refine r_aload_n (j := 0) rfl rfl dX11_chance_7 ?_
    refine w_getR (b := 36) fX11_38 rfl rfl dX11_chance_8 ?_
    refine w_getR (b := 44) fX11_147 rfl rfl dX11_chance_11 ?_
    refine r_iload_n (j := 1) rfl rfl dX11_chance_14 ?_
    refine r_i2l dX11_chance_15 ?_
    refine w_putL fX11_151 rfl (rfl) (rfl) dX11_chance_16 (fun J16 hJ16 => ?_)
    refine r_iconst (v := 1) rfl dX11_chance_19 ?_
    refine w_iret rfl (rfl) (Nat.le_of_ble_eq_true rfl) (Nat.le_of_ble_eq_true rfl) dX11_chance_20 ?_
    exact ⟨rfl, rfl, hJ16, rfl⟩
  · exfalso; ((try simp only [bI_0, bI_1, lc_lt, lc_gt, lc_le, lc_ge, Classical.not_not] at *); (try simp only [i_lt, i_le, i_eq, l_lt, l_le, l_eq, Int32.toInt_toInt64, Int32.reduceToInt, Int64.reduceToInt] at *); omega)
theorem k_X11_open_r {sc : Sc} {I : Is} {L : Ls} {tg : Nat} {h : Int32} (hc : ¬ (0 ≤ h.toInt ∧ h.toInt < (I 3 14).toInt)) : Con sc mX11_open 1 0 0 [.ref 0, .int h] (XW I L tg) (rI (-2) (XW I L tg)) := by
  refine Con_of (by decide) (Nat.le_of_ble_eq_true rfl) ?_
  refine r_aload_n (j := 0) rfl rfl dX11_open_0 ?_
  refine r_iload_n (j := 1) rfl rfl dX11_open_1 ?_
  refine w_cV1p (k_X11_isHut) (Nat.le_of_ble_eq_true rfl) lX11_140 vmX11_isHut rfl (Nat.le_of_ble_eq_true rfl) (Nat.le_of_ble_eq_true rfl) (Nat.le_of_ble_eq_true rfl) dX11_open_2 ?_
  refine r_if_ne (tgt := 11) dX11_open_5 (by decide) (fun c5 => ?_) (fun c5 => ?_)
  · exact absurd (bI_1.mp c5) hc
  · refine r_bipush (v := (-2)) rfl dX11_open_8 ?_
    refine w_iret rfl (rfl) (Nat.le_of_ble_eq_true rfl) (Nat.le_of_ble_eq_true rfl) dX11_open_10 ?_
    exact ⟨rfl, rfl, rfl, rfl⟩
theorem k_X11_open_f {sc : Sc} {I : Is} {L : Ls} {tg : Nat} {h : Int32} (hc : 0 ≤ h.toInt ∧ h.toInt < (I 3 14).toInt) (hf : 3 ≤ (I 36 8).toInt) : Con sc mX11_open 1 0 0 [.ref 0, .int h] (XW I L tg) (rI (-3) (XW I L tg)) := by
  refine Con_of (by decide) (Nat.le_of_ble_eq_true rfl) ?_
  refine r_aload_n (j := 0) rfl rfl dX11_open_0 ?_
  refine r_iload_n (j := 1) rfl rfl dX11_open_1 ?_
  refine w_cV1p (k_X11_isHut) (Nat.le_of_ble_eq_true rfl) lX11_140 vmX11_isHut rfl (Nat.le_of_ble_eq_true rfl) (Nat.le_of_ble_eq_true rfl) (Nat.le_of_ble_eq_true rfl) dX11_open_2 ?_
  refine r_if_ne (tgt := 11) dX11_open_5 (by decide) (fun c5 => ?_) (fun c5 => ?_)
  · refine r_aload_n (j := 0) rfl rfl dX11_open_11 ?_
    refine w_getR (b := 36) fX11_38 rfl rfl dX11_open_12 ?_
    refine w_getI fX11_157 rfl dX11_open_15 ?_
    refine r_iconst (v := 3) rfl dX11_open_18 ?_
    refine r_icmp_ge (tgt := 33) dX11_open_19 (by decide) (fun c19 => ?_) (fun c19 => ?_)
    · refine r_bipush (v := (-3)) rfl dX11_open_33 ?_
      refine w_iret rfl (rfl) (Nat.le_of_ble_eq_true rfl) (Nat.le_of_ble_eq_true rfl) dX11_open_35 ?_
      exact ⟨rfl, rfl, rfl, rfl⟩
    · exfalso; ((try simp only [bI_0, bI_1, lc_lt, lc_gt, lc_le, lc_ge, Classical.not_not] at *); (try simp only [i_lt, i_le, i_eq, l_lt, l_le, l_eq, Int32.toInt_toInt64, Int32.reduceToInt, Int64.reduceToInt] at *); omega)
  · exact absurd hc (bI_0.mp c5)
theorem k_X11_open_y {sc : Sc} {I : Is} {L : Ls} {tg : Nat} {h : Int32} {t : Nat} (hc : 0 ≤ h.toInt ∧ h.toInt < (I 3 14).toInt) (ht : (I 36 8).toInt = t) (h3 : t < 3) : Con sc mX11_open 1 0 0 [.ref 0, .int h] (XW I L tg) (rI (I 36 8) (XW (begS I h t) L tg)) := by
  refine Con_of (by decide) (Nat.le_of_ble_eq_true rfl) ?_
  refine r_aload_n (j := 0) rfl rfl dX11_open_0 ?_
  refine r_iload_n (j := 1) rfl rfl dX11_open_1 ?_
  refine w_cV1p (k_X11_isHut) (Nat.le_of_ble_eq_true rfl) lX11_140 vmX11_isHut rfl (Nat.le_of_ble_eq_true rfl) (Nat.le_of_ble_eq_true rfl) (Nat.le_of_ble_eq_true rfl) dX11_open_2 ?_
  refine r_if_ne (tgt := 11) dX11_open_5 (by decide) (fun c5 => ?_) (fun c5 => ?_)
  · refine r_aload_n (j := 0) rfl rfl dX11_open_11 ?_
    refine w_getR (b := 36) fX11_38 rfl rfl dX11_open_12 ?_
    refine w_getI fX11_157 rfl dX11_open_15 ?_
    refine r_iconst (v := 3) rfl dX11_open_18 ?_
    refine r_icmp_ge (tgt := 33) dX11_open_19 (by decide) (fun c19 => ?_) (fun c19 => ?_)
    · exfalso; ((try simp only [bI_0, bI_1, lc_lt, lc_gt, lc_le, lc_ge, Classical.not_not] at *); (try simp only [i_lt, i_le, i_eq, l_lt, l_le, l_eq, Int32.toInt_toInt64, Int32.reduceToInt, Int64.reduceToInt] at *); omega)
    · refine r_aload_n (j := 0) rfl rfl dX11_open_22 ?_
      refine w_getR (b := 36) fX11_38 rfl rfl dX11_open_23 ?_
      refine r_iload_n (j := 1) rfl rfl dX11_open_26 ?_
      refine w_cV1s (k_X3_begin ht h3) (Nat.le_of_ble_eq_true rfl) lX11_160 vmX3_begin rfl (Nat.le_of_ble_eq_true rfl) (Nat.le_of_ble_eq_true rfl) (Nat.le_of_ble_eq_true rfl) dX11_open_27 (fun J27 K27 hJ27 hK27 => ?_)
      subst hK27
      refine r_goto (tgt := 35) dX11_open_30 (by decide) ?_
      refine w_iret rfl (rfl) (Nat.le_of_ble_eq_true rfl) (Nat.le_of_ble_eq_true rfl) dX11_open_35 ?_
      exact ⟨rfl, hJ27, rfl, rfl⟩
  · exact absurd hc (bI_0.mp c5)
theorem k_X11_shift_r {sc : Sc} {I : Is} {L : Ls} {tg : Nat} {t m : Int32} (hc : ¬ ((0 ≤ t.toInt ∧ t.toInt < (I 36 8).toInt) ∧ 1 ≤ m.toInt ∧ m.toInt ≤ 99)) : Con sc mX11_shift 5 0 0 [.ref 0, .int t, .int m] (XW I L tg) (rI (-2) (XW I L tg)) := by
  refine Con_of (by decide) (Nat.le_of_ble_eq_true rfl) ?_
  refine r_aload_n (j := 0) rfl rfl dX11_shift_0 ?_
  refine r_iload_n (j := 1) rfl rfl dX11_shift_1 ?_
  refine w_cV1p (k_X11_isTunnel) (Nat.le_of_ble_eq_true rfl) lX11_163 vmX11_isTunnel rfl (Nat.le_of_ble_eq_true rfl) (Nat.le_of_ble_eq_true rfl) (Nat.le_of_ble_eq_true rfl) dX11_shift_2 ?_
  refine r_if_eq (tgt := 18) dX11_shift_5 (by decide) (fun c5 => ?_) (fun c5 => ?_)
  · refine r_bipush (v := (-2)) rfl dX11_shift_18 ?_
    refine w_iret rfl (rfl) (Nat.le_of_ble_eq_true rfl) (Nat.le_of_ble_eq_true rfl) dX11_shift_20 ?_
    exact ⟨rfl, rfl, rfl, rfl⟩
  · refine r_iload_n (j := 2) rfl rfl dX11_shift_8 ?_
    refine r_iconst (v := 1) rfl dX11_shift_9 ?_
    refine r_bipush (v := 99) rfl dX11_shift_10 ?_
    refine w_cS3p (k_X11_isWithin) (Nat.le_of_ble_eq_true rfl) lX11_166 mtX11_isWithin (Nat.le_of_ble_eq_true rfl) (Nat.le_of_ble_eq_true rfl) (Nat.le_of_ble_eq_true rfl) dX11_shift_12 ?_
    refine r_if_ne (tgt := 21) dX11_shift_15 (by decide) (fun c15 => ?_) (fun c15 => ?_)
    · exact absurd ⟨bI_1.mp c5, bI_1.mp c15⟩ hc
    · refine r_bipush (v := (-2)) rfl dX11_shift_18 ?_
      refine w_iret rfl (rfl) (Nat.le_of_ble_eq_true rfl) (Nat.le_of_ble_eq_true rfl) dX11_shift_20 ?_
      exact ⟨rfl, rfl, rfl, rfl⟩
theorem k_X11_shift_y {sc : Sc} {I : Is} {L : Ls} {tg : Nat} {t m : Int32} {tn hn : Nat} {f : Bool} (hc : 0 ≤ t.toInt ∧ t.toInt < (I 36 8).toInt) (hm : 1 ≤ m.toInt ∧ m.toInt ≤ 99) (h0 : 0 ≤ (I 3 14).toInt) (h5 : (I 3 14).toInt ≤ 5) (et : t.toInt = tn) (h3 : tn < 3) (eh : (I 37 tn).toInt = hn) (hh : hn < 5) (hf : f = true ↔ dgF I L) : Con sc mX11_shift 5 0 0 [.ref 0, .int t, .int m] (XW I L tg) (rI (dgI I L tn m f 38 tn) (XW (dgI I L tn m f) (dgL I L) tg)) := by
  refine Con_of (by decide) (Nat.le_of_ble_eq_true rfl) ?_
  refine r_aload_n (j := 0) rfl rfl dX11_shift_0 ?_
  refine r_iload_n (j := 1) rfl rfl dX11_shift_1 ?_
  refine w_cV1p (k_X11_isTunnel) (Nat.le_of_ble_eq_true rfl) lX11_163 vmX11_isTunnel rfl (Nat.le_of_ble_eq_true rfl) (Nat.le_of_ble_eq_true rfl) (Nat.le_of_ble_eq_true rfl) dX11_shift_2 ?_
  refine r_if_eq (tgt := 18) dX11_shift_5 (by decide) (fun c5 => ?_) (fun c5 => ?_)
  · exact absurd hc (bI_0.mp c5)
  · refine r_iload_n (j := 2) rfl rfl dX11_shift_8 ?_
    refine r_iconst (v := 1) rfl dX11_shift_9 ?_
    refine r_bipush (v := 99) rfl dX11_shift_10 ?_
    refine w_cS3p (k_X11_isWithin) (Nat.le_of_ble_eq_true rfl) lX11_166 mtX11_isWithin (Nat.le_of_ble_eq_true rfl) (Nat.le_of_ble_eq_true rfl) (Nat.le_of_ble_eq_true rfl) dX11_shift_12 ?_
    refine r_if_ne (tgt := 21) dX11_shift_15 (by decide) (fun c15 => ?_) (fun c15 => ?_)
    · refine r_aload_n (j := 0) rfl rfl dX11_shift_21 ?_
      refine w_getR (b := 36) fX11_38 rfl rfl dX11_shift_22 ?_
      refine r_aload_n (j := 0) rfl rfl dX11_shift_25 ?_
      refine w_getR (b := 3) fX11_19 rfl rfl dX11_shift_26 ?_
      refine r_iload_n (j := 1) rfl rfl dX11_shift_29 ?_
      refine r_iload_n (j := 2) rfl rfl dX11_shift_30 ?_
      refine w_cV3s (k_X3_dig h0 h5 et h3 eh hh hf) (Nat.le_of_ble_eq_true rfl) lX11_170 vmX3_dig rfl (Nat.le_of_ble_eq_true rfl) (Nat.le_of_ble_eq_true rfl) (Nat.le_of_ble_eq_true rfl) dX11_shift_31 (fun J31 K31 hJ31 hK31 => ?_)
      subst hK31
      refine w_iret rfl (rfl) (Nat.le_of_ble_eq_true rfl) (Nat.le_of_ble_eq_true rfl) dX11_shift_34 ?_
      exact ⟨rfl, hJ31, rfl, rfl⟩
    · exact absurd hm (bI_0.mp c15)
theorem k_X11_tunnel_r {sc : Sc} {I : Is} {L : Ls} {tg : Nat} {t x : Int32} (hc : ¬ (0 ≤ t.toInt ∧ t.toInt < (I 36 8).toInt)) : Con sc mX11_tunnel 2 0 0 [.ref 0, .int t, .int x] (XW I L tg) (rI (-2) (XW I L tg)) := by
  refine Con_of (by decide) (Nat.le_of_ble_eq_true rfl) ?_
  refine r_aload_n (j := 0) rfl rfl dX11_tunnel_0 ?_
  refine r_iload_n (j := 1) rfl rfl dX11_tunnel_1 ?_
  refine w_cV1p (k_X11_isTunnel) (Nat.le_of_ble_eq_true rfl) lX11_163 vmX11_isTunnel rfl (Nat.le_of_ble_eq_true rfl) (Nat.le_of_ble_eq_true rfl) (Nat.le_of_ble_eq_true rfl) dX11_tunnel_2 ?_
  refine r_if_eq (tgt := 24) dX11_tunnel_5 (by decide) (fun c5 => ?_) (fun c5 => ?_)
  · refine r_bipush (v := (-2)) rfl dX11_tunnel_24 ?_
    refine w_iret rfl (rfl) (Nat.le_of_ble_eq_true rfl) (Nat.le_of_ble_eq_true rfl) dX11_tunnel_26 ?_
    exact ⟨rfl, rfl, rfl, rfl⟩
  · exact absurd (bI_1.mp c5) hc
theorem k_X11_tunnel_y {sc : Sc} {I : Is} {L : Ls} {tg : Nat} {t x : Int32} {tn : Nat} (hc : 0 ≤ t.toInt ∧ t.toInt < (I 36 8).toInt) (et : t.toInt = tn) (h3 : tn < 3) : Con sc mX11_tunnel 2 0 0 [.ref 0, .int t, .int x] (XW I L tg) (rI (otS I tn x) (XW I L tg)) := by
  refine Con_of (by decide) (Nat.le_of_ble_eq_true rfl) ?_
  refine r_aload_n (j := 0) rfl rfl dX11_tunnel_0 ?_
  refine r_iload_n (j := 1) rfl rfl dX11_tunnel_1 ?_
  refine w_cV1p (k_X11_isTunnel) (Nat.le_of_ble_eq_true rfl) lX11_163 vmX11_isTunnel rfl (Nat.le_of_ble_eq_true rfl) (Nat.le_of_ble_eq_true rfl) (Nat.le_of_ble_eq_true rfl) dX11_tunnel_2 ?_
  refine r_if_eq (tgt := 24) dX11_tunnel_5 (by decide) (fun c5 => ?_) (fun c5 => ?_)
  · exact absurd hc (bI_0.mp c5)
  · refine r_aload_n (j := 0) rfl rfl dX11_tunnel_8 ?_
    refine w_getR (b := 36) fX11_38 rfl rfl dX11_tunnel_9 ?_
    refine r_aload_n (j := 0) rfl rfl dX11_tunnel_12 ?_
    refine w_getR (b := 3) fX11_19 rfl rfl dX11_tunnel_13 ?_
    refine r_iload_n (j := 1) rfl rfl dX11_tunnel_16 ?_
    refine r_iload_n (j := 2) rfl rfl dX11_tunnel_17 ?_
    refine w_cV3p (k_X3_ofTunnel et h3) (Nat.le_of_ble_eq_true rfl) lX11_174 vmX3_ofTunnel rfl (Nat.le_of_ble_eq_true rfl) (Nat.le_of_ble_eq_true rfl) (Nat.le_of_ble_eq_true rfl) dX11_tunnel_18 ?_
    refine r_goto (tgt := 26) dX11_tunnel_21 (by decide) ?_
    refine w_iret rfl (rfl) (Nat.le_of_ble_eq_true rfl) (Nat.le_of_ble_eq_true rfl) dX11_tunnel_26 ?_
    exact ⟨rfl, rfl, rfl, rfl⟩
theorem k_X11_boards {sc : Sc} {I : Is} {L : Ls} {tg : Nat} (h0 : 0 ≤ (I 3 14).toInt) (h5 : (I 3 14).toInt ≤ 5) : Con sc mX11_boards 3 0 0 [.ref 0] (XW I L tg) (rI (bAll I - I 36 9) (XW I L tg)) := by
  refine Con_of (by decide) (Nat.le_of_ble_eq_true rfl) ?_
  refine r_aload_n (j := 0) rfl rfl dX11_boards_0 ?_
  refine w_getR (b := 36) fX11_38 rfl rfl dX11_boards_1 ?_
  refine r_aload_n (j := 0) rfl rfl dX11_boards_4 ?_
  refine w_getR (b := 3) fX11_19 rfl rfl dX11_boards_5 ?_
  refine w_cV1p (k_X3_boardsLeft h0 h5) (Nat.le_of_ble_eq_true rfl) lX11_177 vmX3_boardsLeft rfl (Nat.le_of_ble_eq_true rfl) (Nat.le_of_ble_eq_true rfl) (Nat.le_of_ble_eq_true rfl) dX11_boards_8 ?_
  refine w_iret rfl (rfl) (Nat.le_of_ble_eq_true rfl) (Nat.le_of_ble_eq_true rfl) dX11_boards_11 ?_
  exact ⟨rfl, rfl, rfl, rfl⟩
theorem k_X11_lies {sc : Sc} {I : Is} {L : Ls} {tg : Nat} {h : Int32} (h5 : (I 3 14).toInt ≤ 5) : Con sc mX11_lies 1 0 0 [.ref 0, .int h] (XW I L tg) (rI (if 0 ≤ h.toInt ∧ h.toInt < (I 3 14).toInt then I 42 h.toNatClampNeg else -2) (XW I L tg)) := by
  refine Con_of (by decide) (Nat.le_of_ble_eq_true rfl) ?_
  refine r_aload_n (j := 0) rfl rfl dX11_lies_0 ?_
  refine r_iload_n (j := 1) rfl rfl dX11_lies_1 ?_
  refine w_cV1p (k_X11_isHut) (Nat.le_of_ble_eq_true rfl) lX11_140 vmX11_isHut rfl (Nat.le_of_ble_eq_true rfl) (Nat.le_of_ble_eq_true rfl) (Nat.le_of_ble_eq_true rfl) dX11_lies_2 ?_
  refine r_if_eq (tgt := 20) dX11_lies_5 (by decide) (fun c5 => ?_) (fun c5 => ?_)
  · refine r_bipush (v := (-2)) rfl dX11_lies_20 ?_
    refine w_iret rfl (rfl) (Nat.le_of_ble_eq_true rfl) (Nat.le_of_ble_eq_true rfl) dX11_lies_22 ?_
    exact ⟨by first | rw [if_pos (bI_1.mp c5)] | rw [if_neg (bI_0.mp c5)], rfl, rfl, rfl⟩
  · refine r_aload_n (j := 0) rfl rfl dX11_lies_8 ?_
    refine w_getR (b := 36) fX11_38 rfl rfl dX11_lies_9 ?_
    refine w_getR (b := 42) fX11_181 rfl rfl dX11_lies_12 ?_
    refine r_iload_n (j := 1) rfl rfl dX11_lies_15 ?_
    refine w_iald rfl (by have := bI_1.mp c5; rw [vp_in_iff]; omega) dX11_lies_16 ?_
    refine r_goto (tgt := 22) dX11_lies_17 (by decide) ?_
    refine w_iret rfl (rfl) (Nat.le_of_ble_eq_true rfl) (Nat.le_of_ble_eq_true rfl) dX11_lies_22 ?_
    exact ⟨by first | rw [if_pos (bI_1.mp c5)] | rw [if_neg (bI_0.mp c5)], rfl, rfl, rfl⟩
theorem k_X11_had {sc : Sc} {I : Is} {L : Ls} {tg : Nat} {g : Int32} (h5 : (I 3 15).toInt ≤ 4) : Con sc mX11_had 1 0 0 [.ref 0, .int g] (XW I L tg) (rI (if 0 ≤ g.toInt ∧ g.toInt < (I 3 15).toInt then I 43 g.toNatClampNeg else -2) (XW I L tg)) := by
  refine Con_of (by decide) (Nat.le_of_ble_eq_true rfl) ?_
  refine r_aload_n (j := 0) rfl rfl dX11_had_0 ?_
  refine r_iload_n (j := 1) rfl rfl dX11_had_1 ?_
  refine w_cV1p (k_X11_isGarden) (Nat.le_of_ble_eq_true rfl) lX11_184 vmX11_isGarden rfl (Nat.le_of_ble_eq_true rfl) (Nat.le_of_ble_eq_true rfl) (Nat.le_of_ble_eq_true rfl) dX11_had_2 ?_
  refine r_if_eq (tgt := 20) dX11_had_5 (by decide) (fun c5 => ?_) (fun c5 => ?_)
  · refine r_bipush (v := (-2)) rfl dX11_had_20 ?_
    refine w_iret rfl (rfl) (Nat.le_of_ble_eq_true rfl) (Nat.le_of_ble_eq_true rfl) dX11_had_22 ?_
    exact ⟨by first | rw [if_pos (bI_1.mp c5)] | rw [if_neg (bI_0.mp c5)], rfl, rfl, rfl⟩
  · refine r_aload_n (j := 0) rfl rfl dX11_had_8 ?_
    refine w_getR (b := 36) fX11_38 rfl rfl dX11_had_9 ?_
    refine w_getR (b := 43) fX11_191 rfl rfl dX11_had_12 ?_
    refine r_iload_n (j := 1) rfl rfl dX11_had_15 ?_
    refine w_iald rfl (by have := bI_1.mp c5; rw [vp_in_iff]; omega) dX11_had_16 ?_
    refine r_goto (tgt := 22) dX11_had_17 (by decide) ?_
    refine w_iret rfl (rfl) (Nat.le_of_ble_eq_true rfl) (Nat.le_of_ble_eq_true rfl) dX11_had_22 ?_
    exact ⟨by first | rw [if_pos (bI_1.mp c5)] | rw [if_neg (bI_0.mp c5)], rfl, rfl, rfl⟩
theorem k_X11_carry_r {sc : Sc} {I : Is} {L : Ls} {tg : Nat} {h g n : Int32} (hc : ¬ ((0 ≤ h.toInt ∧ h.toInt < (I 3 14).toInt) ∧ (0 ≤ g.toInt ∧ g.toInt < (I 3 15).toInt) ∧ 1 ≤ n.toInt ∧ n.toInt ≤ 9999)) : Con sc mX11_carry 3 0 0 [.ref 0, .int h, .int g, .int n] (XW I L tg) (rI (-2) (XW I L tg)) := by
  refine Con_of (by decide) (Nat.le_of_ble_eq_true rfl) ?_
  refine r_aload_n (j := 0) rfl rfl dX11_carry_0 ?_
  refine r_iload_n (j := 1) rfl rfl dX11_carry_1 ?_
  refine w_cV1p (k_X11_isHut) (Nat.le_of_ble_eq_true rfl) lX11_140 vmX11_isHut rfl (Nat.le_of_ble_eq_true rfl) (Nat.le_of_ble_eq_true rfl) (Nat.le_of_ble_eq_true rfl) dX11_carry_2 ?_
  refine r_if_eq (tgt := 27) dX11_carry_5 (by decide) (fun c5 => ?_) (fun c5 => ?_)
  · refine r_bipush (v := (-2)) rfl dX11_carry_27 ?_
    refine w_iret rfl (rfl) (Nat.le_of_ble_eq_true rfl) (Nat.le_of_ble_eq_true rfl) dX11_carry_29 ?_
    exact ⟨rfl, rfl, rfl, rfl⟩
  · refine r_aload_n (j := 0) rfl rfl dX11_carry_8 ?_
    refine r_iload_n (j := 2) rfl rfl dX11_carry_9 ?_
    refine w_cV1p (k_X11_isGarden) (Nat.le_of_ble_eq_true rfl) lX11_184 vmX11_isGarden rfl (Nat.le_of_ble_eq_true rfl) (Nat.le_of_ble_eq_true rfl) (Nat.le_of_ble_eq_true rfl) dX11_carry_10 ?_
    refine r_if_eq (tgt := 27) dX11_carry_13 (by decide) (fun c13 => ?_) (fun c13 => ?_)
    · refine r_bipush (v := (-2)) rfl dX11_carry_27 ?_
      refine w_iret rfl (rfl) (Nat.le_of_ble_eq_true rfl) (Nat.le_of_ble_eq_true rfl) dX11_carry_29 ?_
      exact ⟨rfl, rfl, rfl, rfl⟩
    · refine r_iload_n (j := 3) rfl rfl dX11_carry_16 ?_
      refine r_iconst (v := 1) rfl dX11_carry_17 ?_
      refine r_sipush (v := 9999) rfl dX11_carry_18 ?_
      refine w_cS3p (k_X11_isWithin) (Nat.le_of_ble_eq_true rfl) lX11_166 mtX11_isWithin (Nat.le_of_ble_eq_true rfl) (Nat.le_of_ble_eq_true rfl) (Nat.le_of_ble_eq_true rfl) dX11_carry_21 ?_
      refine r_if_ne (tgt := 30) dX11_carry_24 (by decide) (fun c24 => ?_) (fun c24 => ?_)
      · exact absurd ⟨bI_1.mp c5, bI_1.mp c13, bI_1.mp c24⟩ hc
      · refine r_bipush (v := (-2)) rfl dX11_carry_27 ?_
        refine w_iret rfl (rfl) (Nat.le_of_ble_eq_true rfl) (Nat.le_of_ble_eq_true rfl) dX11_carry_29 ?_
        exact ⟨rfl, rfl, rfl, rfl⟩
theorem k_X11_carry_y {sc : Sc} {I : Is} {L : Ls} {tg : Nat} {h g n : Int32} {hn gn : Nat} (hc : (0 ≤ h.toInt ∧ h.toInt < (I 3 14).toInt) ∧ (0 ≤ g.toInt ∧ g.toInt < (I 3 15).toInt) ∧ 1 ≤ n.toInt ∧ n.toInt ≤ 9999) (eh : h.toInt = hn) (eg : g.toInt = gn) (h5 : hn < 5) (g4 : gn < 4) (hw : wkC I hn gn n) : Con sc mX11_carry 3 0 0 [.ref 0, .int h, .int g, .int n] (XW I L tg) (rI (I 42 hn - n) (XW (wkI I hn gn n) L tg)) := by
  refine Con_of (by decide) (Nat.le_of_ble_eq_true rfl) ?_
  refine r_aload_n (j := 0) rfl rfl dX11_carry_0 ?_
  refine r_iload_n (j := 1) rfl rfl dX11_carry_1 ?_
  refine w_cV1p (k_X11_isHut) (Nat.le_of_ble_eq_true rfl) lX11_140 vmX11_isHut rfl (Nat.le_of_ble_eq_true rfl) (Nat.le_of_ble_eq_true rfl) (Nat.le_of_ble_eq_true rfl) dX11_carry_2 ?_
  refine r_if_eq (tgt := 27) dX11_carry_5 (by decide) (fun c5 => ?_) (fun c5 => ?_)
  · exact absurd hc.1 (bI_0.mp c5)
  · refine r_aload_n (j := 0) rfl rfl dX11_carry_8 ?_
    refine r_iload_n (j := 2) rfl rfl dX11_carry_9 ?_
    refine w_cV1p (k_X11_isGarden) (Nat.le_of_ble_eq_true rfl) lX11_184 vmX11_isGarden rfl (Nat.le_of_ble_eq_true rfl) (Nat.le_of_ble_eq_true rfl) (Nat.le_of_ble_eq_true rfl) dX11_carry_10 ?_
    refine r_if_eq (tgt := 27) dX11_carry_13 (by decide) (fun c13 => ?_) (fun c13 => ?_)
    · exact absurd hc.2.1 (bI_0.mp c13)
    · refine r_iload_n (j := 3) rfl rfl dX11_carry_16 ?_
      refine r_iconst (v := 1) rfl dX11_carry_17 ?_
      refine r_sipush (v := 9999) rfl dX11_carry_18 ?_
      refine w_cS3p (k_X11_isWithin) (Nat.le_of_ble_eq_true rfl) lX11_166 mtX11_isWithin (Nat.le_of_ble_eq_true rfl) (Nat.le_of_ble_eq_true rfl) (Nat.le_of_ble_eq_true rfl) dX11_carry_21 ?_
      refine r_if_ne (tgt := 30) dX11_carry_24 (by decide) (fun c24 => ?_) (fun c24 => ?_)
      · refine r_aload_n (j := 0) rfl rfl dX11_carry_30 ?_
        refine w_getR (b := 36) fX11_38 rfl rfl dX11_carry_31 ?_
        refine r_aload_n (j := 0) rfl rfl dX11_carry_34 ?_
        refine w_getR (b := 3) fX11_19 rfl rfl dX11_carry_35 ?_
        refine r_iload_n (j := 1) rfl rfl dX11_carry_38 ?_
        refine r_iload_n (j := 2) rfl rfl dX11_carry_39 ?_
        refine r_iload_n (j := 3) rfl rfl dX11_carry_40 ?_
        refine w_cV4s (k_X3_walkOut_y eh eg h5 g4 hw) (Nat.le_of_ble_eq_true rfl) lX11_187 vmX3_walkOut rfl (Nat.le_of_ble_eq_true rfl) (Nat.le_of_ble_eq_true rfl) (Nat.le_of_ble_eq_true rfl) dX11_carry_41 (fun J41 K41 hJ41 hK41 => ?_)
        subst hK41
        refine w_iret rfl (rfl) (Nat.le_of_ble_eq_true rfl) (Nat.le_of_ble_eq_true rfl) dX11_carry_44 ?_
        exact ⟨rfl, hJ41, rfl, rfl⟩
      · exact absurd hc.2.2 (bI_0.mp c24)
theorem k_X11_carry_s {sc : Sc} {I : Is} {L : Ls} {tg : Nat} {h g n : Int32} {hn gn : Nat} (hc : (0 ≤ h.toInt ∧ h.toInt < (I 3 14).toInt) ∧ (0 ≤ g.toInt ∧ g.toInt < (I 3 15).toInt) ∧ 1 ≤ n.toInt ∧ n.toInt ≤ 9999) (eh : h.toInt = hn) (eg : g.toInt = gn) (h5 : hn < 5) (g4 : gn < 4) (hw : ¬ wkC I hn gn n) : Con sc mX11_carry 3 0 0 [.ref 0, .int h, .int g, .int n] (XW I L tg) (rI (-4) (XW I L tg)) := by
  refine Con_of (by decide) (Nat.le_of_ble_eq_true rfl) ?_
  refine r_aload_n (j := 0) rfl rfl dX11_carry_0 ?_
  refine r_iload_n (j := 1) rfl rfl dX11_carry_1 ?_
  refine w_cV1p (k_X11_isHut) (Nat.le_of_ble_eq_true rfl) lX11_140 vmX11_isHut rfl (Nat.le_of_ble_eq_true rfl) (Nat.le_of_ble_eq_true rfl) (Nat.le_of_ble_eq_true rfl) dX11_carry_2 ?_
  refine r_if_eq (tgt := 27) dX11_carry_5 (by decide) (fun c5 => ?_) (fun c5 => ?_)
  · exact absurd hc.1 (bI_0.mp c5)
  · refine r_aload_n (j := 0) rfl rfl dX11_carry_8 ?_
    refine r_iload_n (j := 2) rfl rfl dX11_carry_9 ?_
    refine w_cV1p (k_X11_isGarden) (Nat.le_of_ble_eq_true rfl) lX11_184 vmX11_isGarden rfl (Nat.le_of_ble_eq_true rfl) (Nat.le_of_ble_eq_true rfl) (Nat.le_of_ble_eq_true rfl) dX11_carry_10 ?_
    refine r_if_eq (tgt := 27) dX11_carry_13 (by decide) (fun c13 => ?_) (fun c13 => ?_)
    · exact absurd hc.2.1 (bI_0.mp c13)
    · refine r_iload_n (j := 3) rfl rfl dX11_carry_16 ?_
      refine r_iconst (v := 1) rfl dX11_carry_17 ?_
      refine r_sipush (v := 9999) rfl dX11_carry_18 ?_
      refine w_cS3p (k_X11_isWithin) (Nat.le_of_ble_eq_true rfl) lX11_166 mtX11_isWithin (Nat.le_of_ble_eq_true rfl) (Nat.le_of_ble_eq_true rfl) (Nat.le_of_ble_eq_true rfl) dX11_carry_21 ?_
      refine r_if_ne (tgt := 30) dX11_carry_24 (by decide) (fun c24 => ?_) (fun c24 => ?_)
      · refine r_aload_n (j := 0) rfl rfl dX11_carry_30 ?_
        refine w_getR (b := 36) fX11_38 rfl rfl dX11_carry_31 ?_
        refine r_aload_n (j := 0) rfl rfl dX11_carry_34 ?_
        refine w_getR (b := 3) fX11_19 rfl rfl dX11_carry_35 ?_
        refine r_iload_n (j := 1) rfl rfl dX11_carry_38 ?_
        refine r_iload_n (j := 2) rfl rfl dX11_carry_39 ?_
        refine r_iload_n (j := 3) rfl rfl dX11_carry_40 ?_
        refine w_cV4s (k_X3_walkOut_n eh eg h5 g4 hw) (Nat.le_of_ble_eq_true rfl) lX11_187 vmX3_walkOut rfl (Nat.le_of_ble_eq_true rfl) (Nat.le_of_ble_eq_true rfl) (Nat.le_of_ble_eq_true rfl) dX11_carry_41 (fun J41 K41 hJ41 hK41 => ?_)
        subst hK41
        refine w_iret rfl (rfl) (Nat.le_of_ble_eq_true rfl) (Nat.le_of_ble_eq_true rfl) dX11_carry_44 ?_
        exact ⟨rfl, hJ41, rfl, rfl⟩
      · exact absurd hc.2.2 (bI_0.mp c24)
theorem k_X11_most_r {sc : Sc} {I : Is} {L : Ls} {tg : Nat} {d : Int32} (hc : ¬ (1 ≤ d.toInt ∧ d.toInt ≤ 99)) : Con sc mX11_most 3 0 0 [.ref 0, .int d] (XW I L tg) (rI (-2) (XW I L tg)) := by
  refine Con_of (by decide) (Nat.le_of_ble_eq_true rfl) ?_
  refine r_iload_n (j := 1) rfl rfl dX11_most_0 ?_
  refine r_iconst (v := 1) rfl dX11_most_1 ?_
  refine r_bipush (v := 99) rfl dX11_most_2 ?_
  refine w_cS3p (k_X11_isWithin) (Nat.le_of_ble_eq_true rfl) lX11_166 mtX11_isWithin (Nat.le_of_ble_eq_true rfl) (Nat.le_of_ble_eq_true rfl) (Nat.le_of_ble_eq_true rfl) dX11_most_4 ?_
  refine r_if_eq (tgt := 29) dX11_most_7 (by decide) (fun c7 => ?_) (fun c7 => ?_)
  · refine r_bipush (v := (-2)) rfl dX11_most_29 ?_
    refine w_iret rfl (rfl) (Nat.le_of_ble_eq_true rfl) (Nat.le_of_ble_eq_true rfl) dX11_most_31 ?_
    exact ⟨rfl, rfl, rfl, rfl⟩
  · exact absurd (bI_1.mp c7) hc
theorem k_X11_most_y {sc : Sc} {I : Is} {L : Ls} {tg : Nat} {d : Int32} (hc : 1 ≤ d.toInt ∧ d.toInt ≤ 99) (h0 : 0 ≤ (I 3 14).toInt) (h5 : (I 3 14).toInt ≤ 5) (g0 : 0 ≤ (I 3 15).toInt) (g4 : (I 3 15).toInt ≤ 4) : Con sc mX11_most 3 0 0 [.ref 0, .int d] (XW I L tg) (rI (grt (mJ I d)) (XW (mJ I d) L tg)) := by
  refine Con_of (by decide) (Nat.le_of_ble_eq_true rfl) ?_
  refine r_iload_n (j := 1) rfl rfl dX11_most_0 ?_
  refine r_iconst (v := 1) rfl dX11_most_1 ?_
  refine r_bipush (v := 99) rfl dX11_most_2 ?_
  refine w_cS3p (k_X11_isWithin) (Nat.le_of_ble_eq_true rfl) lX11_166 mtX11_isWithin (Nat.le_of_ble_eq_true rfl) (Nat.le_of_ble_eq_true rfl) (Nat.le_of_ble_eq_true rfl) dX11_most_4 ?_
  refine r_if_eq (tgt := 29) dX11_most_7 (by decide) (fun c7 => ?_) (fun c7 => ?_)
  · exact absurd hc (bI_0.mp c7)
  · refine r_aload_n (j := 0) rfl rfl dX11_most_10 ?_
    refine w_getR (b := 36) fX11_38 rfl rfl dX11_most_11 ?_
    refine r_aload_n (j := 0) rfl rfl dX11_most_14 ?_
    refine w_getR (b := 3) fX11_19 rfl rfl dX11_most_15 ?_
    refine r_aload_n (j := 0) rfl rfl dX11_most_18 ?_
    refine w_getR (b := 64) fX11_49 rfl rfl dX11_most_19 ?_
    refine r_iload_n (j := 1) rfl rfl dX11_most_22 ?_
    refine w_cV3s (k_X3_mostIn h0 h5 g0 g4) (Nat.le_of_ble_eq_true rfl) lX11_194 vmX3_mostIn rfl (Nat.le_of_ble_eq_true rfl) (Nat.le_of_ble_eq_true rfl) (Nat.le_of_ble_eq_true rfl) dX11_most_23 (fun J23 K23 hJ23 hK23 => ?_)
    subst hK23
    refine r_goto (tgt := 31) dX11_most_26 (by decide) ?_
    refine w_iret rfl (rfl) (Nat.le_of_ble_eq_true rfl) (Nat.le_of_ble_eq_true rfl) dX11_most_31 ?_
    exact ⟨rfl, hJ23, rfl, rfl⟩
theorem k_X11_until {sc : Sc} {I : Is} {L : Ls} {tg : Nat} (h0 : 0 ≤ (I 3 14).toInt) (h5 : (I 3 14).toInt ≤ 5) (g0 : 0 ≤ (I 3 15).toInt) (g4 : (I 3 15).toInt ≤ 4) : Con sc mX11_until 4 0 0 [.ref 0] (XW I L tg) (gI (uPh I L tg)) := by
  refine Con_of (by decide) (Nat.le_of_ble_eq_true rfl) ?_
  refine r_aload_n (j := 0) rfl rfl dX11_until_0 ?_
  refine w_getR (b := 36) fX11_38 rfl rfl dX11_until_1 ?_
  refine r_aload_n (j := 0) rfl rfl dX11_until_4 ?_
  refine w_getR (b := 3) fX11_19 rfl rfl dX11_until_5 ?_
  refine r_aload_n (j := 0) rfl rfl dX11_until_8 ?_
  refine w_getR (b := 64) fX11_49 rfl rfl dX11_until_9 ?_
  refine w_cV2g (k_X3_fewestDays h0 h5 g0 g4) (Nat.le_of_ble_eq_true rfl) lX11_198 vmX3_fewestDays rfl (Nat.le_of_ble_eq_true rfl) (Nat.le_of_ble_eq_true rfl) (Nat.le_of_ble_eq_true rfl) dX11_until_12 (fun v12 J12 K12 t12 h12 => ?_)
  refine w_iretG rfl (rfl) (Nat.le_of_ble_eq_true rfl) (Nat.le_of_ble_eq_true rfl) dX11_until_15 ?_
  exact h12
theorem k_X11_keep_0 {sc : Sc} {I : Is} {L : Ls} {tg : Nat} (h0 : 0 ≤ (I 36 8).toInt) (h3 : (I 36 8).toInt ≤ 3) : Con sc mX11_keep 2 0 0 [.ref 0, .int 0] (XW I L tg) (rI (sm (I 38) (nN (I 36 8))) (XW (up (cpI I 46 36) 46 10 1) (cpL L 46 36) tg)) := by
  refine Con_of (by decide) (Nat.le_of_ble_eq_true rfl) ?_
  refine r_iload_n (j := 1) rfl rfl dX11_keep_0 ?_
  refine r_iconst (v := 0) rfl dX11_keep_1 ?_
  refine r_iconst (v := 1) rfl dX11_keep_2 ?_
  refine w_cS3p (k_X11_isWithin) (Nat.le_of_ble_eq_true rfl) lX11_166 mtX11_isWithin (Nat.le_of_ble_eq_true rfl) (Nat.le_of_ble_eq_true rfl) (Nat.le_of_ble_eq_true rfl) dX11_keep_3 ?_
  refine r_if_ne (tgt := 12) dX11_keep_6 (by decide) (fun c6 => ?_) (fun c6 => ?_)
  · refine r_aload_n (j := 0) rfl rfl dX11_keep_12 ?_
    refine w_getR (b := 45) fX11_42 rfl rfl dX11_keep_13 ?_
    refine r_iload_n (j := 1) rfl rfl dX11_keep_16 ?_
    refine w_aald (b := 46) rfl (by first | assumption | (rw [vp_in_iff]; ((try simp only [bI_0, bI_1, lc_lt, lc_gt, lc_le, lc_ge, Classical.not_not] at *); (try simp only [i_lt, i_le, i_eq, l_lt, l_le, l_eq, Int32.toInt_toInt64, Int32.reduceToInt, Int64.reduceToInt] at *); omega))) (rfl) dX11_keep_17 ?_
    refine r_aload_n (j := 0) rfl rfl dX11_keep_18 ?_
    refine w_getR (b := 36) fX11_38 rfl rfl dX11_keep_19 ?_
    refine w_cV1v (k_X3_copyFrom_46_36) (Nat.le_of_ble_eq_true rfl) lX11_202 vmX3_copyFrom rfl (Nat.le_of_ble_eq_true rfl) (Nat.le_of_ble_eq_true rfl) (Nat.le_of_ble_eq_true rfl) dX11_keep_22 (fun J22 K22 hJ22 hK22 => ?_)
    subst hK22
    refine r_aload_n (j := 0) rfl rfl dX11_keep_25 ?_
    refine w_getR (b := 45) fX11_42 rfl rfl dX11_keep_26 ?_
    refine r_iload_n (j := 1) rfl rfl dX11_keep_29 ?_
    refine w_aald (b := 46) rfl (by first | assumption | (rw [vp_in_iff]; ((try simp only [bI_0, bI_1, lc_lt, lc_gt, lc_le, lc_ge, Classical.not_not] at *); (try simp only [i_lt, i_le, i_eq, l_lt, l_le, l_eq, Int32.toInt_toInt64, Int32.reduceToInt, Int64.reduceToInt] at *); omega))) (rfl) dX11_keep_30 ?_
    refine r_iconst (v := 1) rfl dX11_keep_31 ?_
    refine w_putI fX11_103 rfl (rfl) (rfl) dX11_keep_32 (fun J32 hJ32 => ?_)
    refine r_aload_n (j := 0) rfl rfl dX11_keep_35 ?_
    refine w_getR (b := 36) fX11_38 rfl rfl dX11_keep_36 ?_
    refine w_cV0p (k_X3_allFeet (by subst hJ32 hJ22; simpa [cpI, up_eq, upr_eq] using h0) (by subst hJ32 hJ22; simpa [cpI, up_eq, upr_eq] using h3)) (Nat.le_of_ble_eq_true rfl) lX11_206 vmX3_allFeet rfl (Nat.le_of_ble_eq_true rfl) (Nat.le_of_ble_eq_true rfl) (Nat.le_of_ble_eq_true rfl) dX11_keep_39 ?_
    refine w_iret rfl (rfl) (Nat.le_of_ble_eq_true rfl) (Nat.le_of_ble_eq_true rfl) dX11_keep_42 ?_
    subst hJ32 hJ22; exact ⟨by simp [cpI, up_eq, upr_eq], rfl, rfl, rfl⟩
  · exact absurd (by decide) (bI_0.mp c6)
theorem k_X11_take_0 {sc : Sc} {I : Is} {L : Ls} {tg : Nat} (hu : ¬ I 46 10 = 0) (h0 : 0 ≤ (I 46 8).toInt) (h3 : (I 46 8).toInt ≤ 3) : Con sc mX11_take 2 0 0 [.ref 0, .int 0] (XW I L tg) (rI (sm (prf (I 48) 3 (I 38)) (nN (I 46 8))) (XW (cpI I 36 46) (cpL L 36 46) tg)) := by
  refine Con_of (by decide) (Nat.le_of_ble_eq_true rfl) ?_
  refine r_iload_n (j := 1) rfl rfl dX11_take_0 ?_
  refine r_iconst (v := 0) rfl dX11_take_1 ?_
  refine r_iconst (v := 1) rfl dX11_take_2 ?_
  refine w_cS3p (k_X11_isWithin) (Nat.le_of_ble_eq_true rfl) lX11_166 mtX11_isWithin (Nat.le_of_ble_eq_true rfl) (Nat.le_of_ble_eq_true rfl) (Nat.le_of_ble_eq_true rfl) dX11_take_3 ?_
  refine r_if_ne (tgt := 12) dX11_take_6 (by decide) (fun c6 => ?_) (fun c6 => ?_)
  · refine r_aload_n (j := 0) rfl rfl dX11_take_12 ?_
    refine w_getR (b := 45) fX11_42 rfl rfl dX11_take_13 ?_
    refine r_iload_n (j := 1) rfl rfl dX11_take_16 ?_
    refine w_aald (b := 46) rfl (by first | assumption | (rw [vp_in_iff]; ((try simp only [bI_0, bI_1, lc_lt, lc_gt, lc_le, lc_ge, Classical.not_not] at *); (try simp only [i_lt, i_le, i_eq, l_lt, l_le, l_eq, Int32.toInt_toInt64, Int32.reduceToInt, Int64.reduceToInt] at *); omega))) (rfl) dX11_take_17 ?_
    refine w_getI fX11_103 rfl dX11_take_18 ?_
    refine r_if_ne (tgt := 27) dX11_take_21 (by decide) (fun c21 => ?_) (fun c21 => ?_)
    · refine r_aload_n (j := 0) rfl rfl dX11_take_27 ?_
      refine w_getR (b := 36) fX11_38 rfl rfl dX11_take_28 ?_
      refine r_aload_n (j := 0) rfl rfl dX11_take_31 ?_
      refine w_getR (b := 45) fX11_42 rfl rfl dX11_take_32 ?_
      refine r_iload_n (j := 1) rfl rfl dX11_take_35 ?_
      refine w_aald (b := 46) rfl (by first | assumption | (rw [vp_in_iff]; ((try simp only [bI_0, bI_1, lc_lt, lc_gt, lc_le, lc_ge, Classical.not_not] at *); (try simp only [i_lt, i_le, i_eq, l_lt, l_le, l_eq, Int32.toInt_toInt64, Int32.reduceToInt, Int64.reduceToInt] at *); omega))) (rfl) dX11_take_36 ?_
      refine w_cV1v (k_X3_copyFrom_36_46) (Nat.le_of_ble_eq_true rfl) lX11_202 vmX3_copyFrom rfl (Nat.le_of_ble_eq_true rfl) (Nat.le_of_ble_eq_true rfl) (Nat.le_of_ble_eq_true rfl) dX11_take_37 (fun J37 K37 hJ37 hK37 => ?_)
      subst hK37
      refine r_aload_n (j := 0) rfl rfl dX11_take_40 ?_
      refine w_getR (b := 36) fX11_38 rfl rfl dX11_take_41 ?_
      refine w_cV0p (k_X3_allFeet (by subst hJ37; simpa [cpI, up_eq, upr_eq, vu_eq] using h0) (by subst hJ37; simpa [cpI, up_eq, upr_eq, vu_eq] using h3)) (Nat.le_of_ble_eq_true rfl) lX11_206 vmX3_allFeet rfl (Nat.le_of_ble_eq_true rfl) (Nat.le_of_ble_eq_true rfl) (Nat.le_of_ble_eq_true rfl) dX11_take_44 ?_
      refine w_iret rfl (rfl) (Nat.le_of_ble_eq_true rfl) (Nat.le_of_ble_eq_true rfl) dX11_take_47 ?_
      subst hJ37; exact ⟨by simp [cpI, up_eq, upr_eq, vu_eq], rfl, rfl, rfl⟩
    · exact absurd c21 hu
  · exact absurd (by decide) (bI_0.mp c6)
theorem k_X11_takes_0 {sc : Sc} {I : Is} {L : Ls} {tg : Nat} (hu : I 46 10 = 0) : Con sc mX11_take 2 0 0 [.ref 0, .int 0] (XW I L tg) (rI (-4) (XW I L tg)) := by
  refine Con_of (by decide) (Nat.le_of_ble_eq_true rfl) ?_
  refine r_iload_n (j := 1) rfl rfl dX11_take_0 ?_
  refine r_iconst (v := 0) rfl dX11_take_1 ?_
  refine r_iconst (v := 1) rfl dX11_take_2 ?_
  refine w_cS3p (k_X11_isWithin) (Nat.le_of_ble_eq_true rfl) lX11_166 mtX11_isWithin (Nat.le_of_ble_eq_true rfl) (Nat.le_of_ble_eq_true rfl) (Nat.le_of_ble_eq_true rfl) dX11_take_3 ?_
  refine r_if_ne (tgt := 12) dX11_take_6 (by decide) (fun c6 => ?_) (fun c6 => ?_)
  · refine r_aload_n (j := 0) rfl rfl dX11_take_12 ?_
    refine w_getR (b := 45) fX11_42 rfl rfl dX11_take_13 ?_
    refine r_iload_n (j := 1) rfl rfl dX11_take_16 ?_
    refine w_aald (b := 46) rfl (by first | assumption | (rw [vp_in_iff]; ((try simp only [bI_0, bI_1, lc_lt, lc_gt, lc_le, lc_ge, Classical.not_not] at *); (try simp only [i_lt, i_le, i_eq, l_lt, l_le, l_eq, Int32.toInt_toInt64, Int32.reduceToInt, Int64.reduceToInt] at *); omega))) (rfl) dX11_take_17 ?_
    refine w_getI fX11_103 rfl dX11_take_18 ?_
    refine r_if_ne (tgt := 27) dX11_take_21 (by decide) (fun c21 => ?_) (fun c21 => ?_)
    · exact absurd hu c21
    · refine r_bipush (v := (-4)) rfl dX11_take_24 ?_
      refine w_iret rfl (rfl) (Nat.le_of_ble_eq_true rfl) (Nat.le_of_ble_eq_true rfl) dX11_take_26 ?_
      exact ⟨rfl, rfl, rfl, rfl⟩
  · exact absurd (by decide) (bI_0.mp c6)
theorem k_X11_keep_1 {sc : Sc} {I : Is} {L : Ls} {tg : Nat} (h0 : 0 ≤ (I 36 8).toInt) (h3 : (I 36 8).toInt ≤ 3) : Con sc mX11_keep 2 0 0 [.ref 0, .int 1] (XW I L tg) (rI (sm (I 38) (nN (I 36 8))) (XW (up (cpI I 55 36) 55 10 1) (cpL L 55 36) tg)) := by
  refine Con_of (by decide) (Nat.le_of_ble_eq_true rfl) ?_
  refine r_iload_n (j := 1) rfl rfl dX11_keep_0 ?_
  refine r_iconst (v := 0) rfl dX11_keep_1 ?_
  refine r_iconst (v := 1) rfl dX11_keep_2 ?_
  refine w_cS3p (k_X11_isWithin) (Nat.le_of_ble_eq_true rfl) lX11_166 mtX11_isWithin (Nat.le_of_ble_eq_true rfl) (Nat.le_of_ble_eq_true rfl) (Nat.le_of_ble_eq_true rfl) dX11_keep_3 ?_
  refine r_if_ne (tgt := 12) dX11_keep_6 (by decide) (fun c6 => ?_) (fun c6 => ?_)
  · refine r_aload_n (j := 0) rfl rfl dX11_keep_12 ?_
    refine w_getR (b := 45) fX11_42 rfl rfl dX11_keep_13 ?_
    refine r_iload_n (j := 1) rfl rfl dX11_keep_16 ?_
    refine w_aald (b := 55) rfl (by first | assumption | (rw [vp_in_iff]; ((try simp only [bI_0, bI_1, lc_lt, lc_gt, lc_le, lc_ge, Classical.not_not] at *); (try simp only [i_lt, i_le, i_eq, l_lt, l_le, l_eq, Int32.toInt_toInt64, Int32.reduceToInt, Int64.reduceToInt] at *); omega))) (rfl) dX11_keep_17 ?_
    refine r_aload_n (j := 0) rfl rfl dX11_keep_18 ?_
    refine w_getR (b := 36) fX11_38 rfl rfl dX11_keep_19 ?_
    refine w_cV1v (k_X3_copyFrom_55_36) (Nat.le_of_ble_eq_true rfl) lX11_202 vmX3_copyFrom rfl (Nat.le_of_ble_eq_true rfl) (Nat.le_of_ble_eq_true rfl) (Nat.le_of_ble_eq_true rfl) dX11_keep_22 (fun J22 K22 hJ22 hK22 => ?_)
    subst hK22
    refine r_aload_n (j := 0) rfl rfl dX11_keep_25 ?_
    refine w_getR (b := 45) fX11_42 rfl rfl dX11_keep_26 ?_
    refine r_iload_n (j := 1) rfl rfl dX11_keep_29 ?_
    refine w_aald (b := 55) rfl (by first | assumption | (rw [vp_in_iff]; ((try simp only [bI_0, bI_1, lc_lt, lc_gt, lc_le, lc_ge, Classical.not_not] at *); (try simp only [i_lt, i_le, i_eq, l_lt, l_le, l_eq, Int32.toInt_toInt64, Int32.reduceToInt, Int64.reduceToInt] at *); omega))) (rfl) dX11_keep_30 ?_
    refine r_iconst (v := 1) rfl dX11_keep_31 ?_
    refine w_putI fX11_103 rfl (rfl) (rfl) dX11_keep_32 (fun J32 hJ32 => ?_)
    refine r_aload_n (j := 0) rfl rfl dX11_keep_35 ?_
    refine w_getR (b := 36) fX11_38 rfl rfl dX11_keep_36 ?_
    refine w_cV0p (k_X3_allFeet (by subst hJ32 hJ22; simpa [cpI, up_eq, upr_eq] using h0) (by subst hJ32 hJ22; simpa [cpI, up_eq, upr_eq] using h3)) (Nat.le_of_ble_eq_true rfl) lX11_206 vmX3_allFeet rfl (Nat.le_of_ble_eq_true rfl) (Nat.le_of_ble_eq_true rfl) (Nat.le_of_ble_eq_true rfl) dX11_keep_39 ?_
    refine w_iret rfl (rfl) (Nat.le_of_ble_eq_true rfl) (Nat.le_of_ble_eq_true rfl) dX11_keep_42 ?_
    subst hJ32 hJ22; exact ⟨by simp [cpI, up_eq, upr_eq], rfl, rfl, rfl⟩
  · exact absurd (by decide) (bI_0.mp c6)
theorem k_X11_take_1 {sc : Sc} {I : Is} {L : Ls} {tg : Nat} (hu : ¬ I 55 10 = 0) (h0 : 0 ≤ (I 55 8).toInt) (h3 : (I 55 8).toInt ≤ 3) : Con sc mX11_take 2 0 0 [.ref 0, .int 1] (XW I L tg) (rI (sm (prf (I 57) 3 (I 38)) (nN (I 55 8))) (XW (cpI I 36 55) (cpL L 36 55) tg)) := by
  refine Con_of (by decide) (Nat.le_of_ble_eq_true rfl) ?_
  refine r_iload_n (j := 1) rfl rfl dX11_take_0 ?_
  refine r_iconst (v := 0) rfl dX11_take_1 ?_
  refine r_iconst (v := 1) rfl dX11_take_2 ?_
  refine w_cS3p (k_X11_isWithin) (Nat.le_of_ble_eq_true rfl) lX11_166 mtX11_isWithin (Nat.le_of_ble_eq_true rfl) (Nat.le_of_ble_eq_true rfl) (Nat.le_of_ble_eq_true rfl) dX11_take_3 ?_
  refine r_if_ne (tgt := 12) dX11_take_6 (by decide) (fun c6 => ?_) (fun c6 => ?_)
  · refine r_aload_n (j := 0) rfl rfl dX11_take_12 ?_
    refine w_getR (b := 45) fX11_42 rfl rfl dX11_take_13 ?_
    refine r_iload_n (j := 1) rfl rfl dX11_take_16 ?_
    refine w_aald (b := 55) rfl (by first | assumption | (rw [vp_in_iff]; ((try simp only [bI_0, bI_1, lc_lt, lc_gt, lc_le, lc_ge, Classical.not_not] at *); (try simp only [i_lt, i_le, i_eq, l_lt, l_le, l_eq, Int32.toInt_toInt64, Int32.reduceToInt, Int64.reduceToInt] at *); omega))) (rfl) dX11_take_17 ?_
    refine w_getI fX11_103 rfl dX11_take_18 ?_
    refine r_if_ne (tgt := 27) dX11_take_21 (by decide) (fun c21 => ?_) (fun c21 => ?_)
    · refine r_aload_n (j := 0) rfl rfl dX11_take_27 ?_
      refine w_getR (b := 36) fX11_38 rfl rfl dX11_take_28 ?_
      refine r_aload_n (j := 0) rfl rfl dX11_take_31 ?_
      refine w_getR (b := 45) fX11_42 rfl rfl dX11_take_32 ?_
      refine r_iload_n (j := 1) rfl rfl dX11_take_35 ?_
      refine w_aald (b := 55) rfl (by first | assumption | (rw [vp_in_iff]; ((try simp only [bI_0, bI_1, lc_lt, lc_gt, lc_le, lc_ge, Classical.not_not] at *); (try simp only [i_lt, i_le, i_eq, l_lt, l_le, l_eq, Int32.toInt_toInt64, Int32.reduceToInt, Int64.reduceToInt] at *); omega))) (rfl) dX11_take_36 ?_
      refine w_cV1v (k_X3_copyFrom_36_55) (Nat.le_of_ble_eq_true rfl) lX11_202 vmX3_copyFrom rfl (Nat.le_of_ble_eq_true rfl) (Nat.le_of_ble_eq_true rfl) (Nat.le_of_ble_eq_true rfl) dX11_take_37 (fun J37 K37 hJ37 hK37 => ?_)
      subst hK37
      refine r_aload_n (j := 0) rfl rfl dX11_take_40 ?_
      refine w_getR (b := 36) fX11_38 rfl rfl dX11_take_41 ?_
      refine w_cV0p (k_X3_allFeet (by subst hJ37; simpa [cpI, up_eq, upr_eq, vu_eq] using h0) (by subst hJ37; simpa [cpI, up_eq, upr_eq, vu_eq] using h3)) (Nat.le_of_ble_eq_true rfl) lX11_206 vmX3_allFeet rfl (Nat.le_of_ble_eq_true rfl) (Nat.le_of_ble_eq_true rfl) (Nat.le_of_ble_eq_true rfl) dX11_take_44 ?_
      refine w_iret rfl (rfl) (Nat.le_of_ble_eq_true rfl) (Nat.le_of_ble_eq_true rfl) dX11_take_47 ?_
      subst hJ37; exact ⟨by simp [cpI, up_eq, upr_eq, vu_eq], rfl, rfl, rfl⟩
    · exact absurd c21 hu
  · exact absurd (by decide) (bI_0.mp c6)
theorem k_X11_takes_1 {sc : Sc} {I : Is} {L : Ls} {tg : Nat} (hu : I 55 10 = 0) : Con sc mX11_take 2 0 0 [.ref 0, .int 1] (XW I L tg) (rI (-4) (XW I L tg)) := by
  refine Con_of (by decide) (Nat.le_of_ble_eq_true rfl) ?_
  refine r_iload_n (j := 1) rfl rfl dX11_take_0 ?_
  refine r_iconst (v := 0) rfl dX11_take_1 ?_
  refine r_iconst (v := 1) rfl dX11_take_2 ?_
  refine w_cS3p (k_X11_isWithin) (Nat.le_of_ble_eq_true rfl) lX11_166 mtX11_isWithin (Nat.le_of_ble_eq_true rfl) (Nat.le_of_ble_eq_true rfl) (Nat.le_of_ble_eq_true rfl) dX11_take_3 ?_
  refine r_if_ne (tgt := 12) dX11_take_6 (by decide) (fun c6 => ?_) (fun c6 => ?_)
  · refine r_aload_n (j := 0) rfl rfl dX11_take_12 ?_
    refine w_getR (b := 45) fX11_42 rfl rfl dX11_take_13 ?_
    refine r_iload_n (j := 1) rfl rfl dX11_take_16 ?_
    refine w_aald (b := 55) rfl (by first | assumption | (rw [vp_in_iff]; ((try simp only [bI_0, bI_1, lc_lt, lc_gt, lc_le, lc_ge, Classical.not_not] at *); (try simp only [i_lt, i_le, i_eq, l_lt, l_le, l_eq, Int32.toInt_toInt64, Int32.reduceToInt, Int64.reduceToInt] at *); omega))) (rfl) dX11_take_17 ?_
    refine w_getI fX11_103 rfl dX11_take_18 ?_
    refine r_if_ne (tgt := 27) dX11_take_21 (by decide) (fun c21 => ?_) (fun c21 => ?_)
    · exact absurd hu c21
    · refine r_bipush (v := (-4)) rfl dX11_take_24 ?_
      refine w_iret rfl (rfl) (Nat.le_of_ble_eq_true rfl) (Nat.le_of_ble_eq_true rfl) dX11_take_26 ?_
      exact ⟨rfl, rfl, rfl, rfl⟩
  · exact absurd (by decide) (bI_0.mp c6)
theorem k_X11_keep_r {sc : Sc} {I : Is} {L : Ls} {tg : Nat} {s : Int32} (hc : ¬ (0 ≤ s.toInt ∧ s.toInt ≤ 1)) : Con sc mX11_keep 2 0 0 [.ref 0, .int s] (XW I L tg) (rI (-2) (XW I L tg)) := by
  refine Con_of (by decide) (Nat.le_of_ble_eq_true rfl) ?_
  refine r_iload_n (j := 1) rfl rfl dX11_keep_0 ?_
  refine r_iconst (v := 0) rfl dX11_keep_1 ?_
  refine r_iconst (v := 1) rfl dX11_keep_2 ?_
  refine w_cS3p (k_X11_isWithin) (Nat.le_of_ble_eq_true rfl) lX11_166 mtX11_isWithin (Nat.le_of_ble_eq_true rfl) (Nat.le_of_ble_eq_true rfl) (Nat.le_of_ble_eq_true rfl) dX11_keep_3 ?_
  refine r_if_ne (tgt := 12) dX11_keep_6 (by decide) (fun c6 => ?_) (fun c6 => ?_)
  · exact absurd (bI_1.mp c6) hc
  · refine r_bipush (v := (-2)) rfl dX11_keep_9 ?_
    refine w_iret rfl (rfl) (Nat.le_of_ble_eq_true rfl) (Nat.le_of_ble_eq_true rfl) dX11_keep_11 ?_
    exact ⟨rfl, rfl, rfl, rfl⟩
theorem k_X11_take_r {sc : Sc} {I : Is} {L : Ls} {tg : Nat} {s : Int32} (hc : ¬ (0 ≤ s.toInt ∧ s.toInt ≤ 1)) : Con sc mX11_take 2 0 0 [.ref 0, .int s] (XW I L tg) (rI (-2) (XW I L tg)) := by
  refine Con_of (by decide) (Nat.le_of_ble_eq_true rfl) ?_
  refine r_iload_n (j := 1) rfl rfl dX11_take_0 ?_
  refine r_iconst (v := 0) rfl dX11_take_1 ?_
  refine r_iconst (v := 1) rfl dX11_take_2 ?_
  refine w_cS3p (k_X11_isWithin) (Nat.le_of_ble_eq_true rfl) lX11_166 mtX11_isWithin (Nat.le_of_ble_eq_true rfl) (Nat.le_of_ble_eq_true rfl) (Nat.le_of_ble_eq_true rfl) dX11_take_3 ?_
  refine r_if_ne (tgt := 12) dX11_take_6 (by decide) (fun c6 => ?_) (fun c6 => ?_)
  · exact absurd (bI_1.mp c6) hc
  · refine r_bipush (v := (-2)) rfl dX11_take_9 ?_
    refine w_iret rfl (rfl) (Nat.le_of_ble_eq_true rfl) (Nat.le_of_ble_eq_true rfl) dX11_take_11 ?_
    exact ⟨rfl, rfl, rfl, rfl⟩
