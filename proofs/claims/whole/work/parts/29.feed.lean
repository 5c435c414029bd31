/-! feed, end; the model's too -/
/-- the i-th byte of a number, as the class has it, as the model has it -/
def byv (v : Int32) (i : Nat) : Int32 := (v.toUInt32 >>> ((nI (24 - 8 * i)).toUInt32 &&& Int32.toUInt32 31)).toInt32 &&& 255
def bym (v : Int32) (i : Nat) : Int32 := vp_nar .byte ((v >>> (nI (24 - 8 * i) &&& 31)).toInt8.toInt32)
/-- k places from N on anew -/
def ins (f g : Nat → Int32) (N k : Nat) : Nat → Int32 := fun j => if N ≤ j ∧ j < N + k then g (j - N) else f j
theorem ins_s (f g : Nat → Int32) (N k : Nat) : va_up (ins f g N k) (N + k) (g k) = ins f g N (k + 1) := by
  funext j
  simp only [vu_eq, ins]
  by_cases h : j = N + k
  · subst h
    rw [if_pos rfl, if_pos (by omega), Nat.add_sub_cancel_left]
  · rw [if_neg h]
    by_cases h2 : N ≤ j ∧ j < N + k
    · rw [if_pos h2, if_pos (by omega)]
    · rw [if_neg h2, if_neg (by omega)]
theorem ins_0 (f g : Nat → Int32) (N : Nat) : ins f g N 0 = f := by
  funext j
  simp only [ins]
  rw [if_neg (by omega)]
def apI (I : Is) (v : Int32) (N k : Nat) : Is := up (upr I 2 (ins (I 2) (byv v) N k)) 1 1 (nI (N + k))
def apM (I : Is) (v : Int32) (N k : Nat) : Is := up (upr I 96 (ins (I 96) (bym v) N k)) 95 1 (nI (N + k))
theorem ap_0 {I : Is} {v : Int32} {N : Nat} (h : I 1 1 = nI N) : apI I v N 0 = I := by
  unfold apI
  rw [ins_0]
  funext q
  simp only [up_eq, upr_eq]
  by_cases h1 : q = 1
  · subst h1
    funext j
    simp only [vu_eq]
    by_cases h2 : j = 1
    · subst h2; simp [vu_eq, h]
    · simp [vu_eq, h2]
  · by_cases h2 : q = 2
    · subst h2; simp
    · simp [h1, h2]
theorem am_0 {I : Is} {v : Int32} {N : Nat} (h : I 95 1 = nI N) : apM I v N 0 = I := by
  unfold apM
  rw [ins_0]
  funext q
  simp only [up_eq, upr_eq]
  by_cases h1 : q = 95
  · subst h1
    funext j
    simp only [vu_eq]
    by_cases h2 : j = 1
    · subst h2; simp [vu_eq, h]
    · simp [vu_eq, h2]
  · by_cases h2 : q = 96
    · subst h2; simp
    · simp [h1, h2]
theorem ap_s (I : Is) (v : Int32) (N k : Nat) : up (up (apI I v N k) 2 (N + k) (byv v k)) 1 1 (nI (N + (k + 1))) = apI I v N (k + 1) := by
  unfold apI
  rw [← ins_s (I 2) (byv v)]
  funext q
  simp only [up_eq, upr_eq]
  by_cases h1 : q = 1
  · subst h1
    funext j
    simp only [vu_eq]
    by_cases h2 : j = 1
    · subst h2; simp [vu_eq]
    · simp [vu_eq, h2]
  · by_cases h2 : q = 2
    · subst h2; simp
    · simp [h1, h2]
theorem am_s (I : Is) (v : Int32) (N k : Nat) : up (up (apM I v N k) 96 (N + k) (bym v k)) 95 1 (nI (N + (k + 1))) = apM I v N (k + 1) := by
  unfold apM
  rw [← ins_s (I 96) (bym v)]
  funext q
  simp only [up_eq, upr_eq]
  by_cases h1 : q = 95
  · subst h1
    funext j
    simp only [vu_eq]
    by_cases h2 : j = 1
    · subst h2; simp [vu_eq]
    · simp [vu_eq, h2]
  · by_cases h2 : q = 96
    · subst h2; simp
    · simp [h1, h2]
theorem ap_11 (I : Is) (v : Int32) (N k : Nat) : apI I v N k 1 1 = nI (N + k) := by simp [apI, up_eq, vu_eq]
theorem am_11 (I : Is) (v : Int32) (N k : Nat) : apM I v N k 95 1 = nI (N + k) := by simp [apM, up_eq, vu_eq]
theorem sh_st {x : Int32} {k : Nat} (hx : x = nI (24 - 8 * k)) (hk : k < 3) : x + Int32.ofInt (-8) = nI (24 - 8 * (k + 1)) := by
  subst hx
  rcases (show k = 0 ∨ k = 1 ∨ k = 2 by omega) with rfl | rfl | rfl <;> rfl
theorem l_X10_append {sc : Sc} {I : Is} {L : Ls} {tg N : Nat} {v : Int32} (hN : N + 4 ≤ 900) : ∀ n k : Nat, k + n = 4 → ∀ (J : Is) (x : Int32), J = apI I v N k → (k < 4 → x = nI (24 - 8 * k)) → (k = 4 → x = -8) → RR sc mX10_append 0 0 0 (rV (XW (apI I v N 4) L tg)) 0 0 3 [(2, .int x), (0, .ref 1), (1, .int v)] [] (XW J L tg) := by
  intro n
  induction n with
  | zero =>
    intro k hk J x eJ h1 h2
    have e4 : k = 4 := by omega
    subst e4
    obtain rfl := h2 rfl
    refine r_iload_n (j := 0) rfl rfl dX10_append_3 ?_
    refine r_if_lt (tgt := 49) dX10_append_4 (by decide) (fun c4 => ?_) (fun c4 => ?_)
    · refine w_vret rfl (Nat.le_of_ble_eq_true rfl) (Nat.le_of_ble_eq_true rfl) dX10_append_49 ?_
      exact ⟨eJ, rfl, rfl⟩
    · exact absurd (by decide) c4
  | succ n ih =>
    intro k hk J x eJ h1 h2
    have hx := h1 (by omega)
    have hxi : x.toInt = ((24 - 8 * k : Nat) : Int) := by rw [hx, nI_toInt (by omega)]
    have el : J 1 1 = nI (N + k) := by rw [eJ]; exact ap_11 _ _ _ _
    have eli : (J 1 1).toInt = ((N + k : Nat) : Int) := by rw [el, nI_toInt (by omega)]
    have hin := up_in (N := 900) eli (by omega)
    refine r_iload_n (j := 0) rfl rfl dX10_append_3 ?_
    refine r_if_lt (tgt := 49) dX10_append_4 (by decide) (fun c4 => ?_) (fun c4 => ?_)
    · exfalso; ((try simp only [bI_0, bI_1, lc_lt, lc_gt, lc_le, lc_ge, Classical.not_not] at *); (try simp only [i_lt, i_le, i_eq, l_lt, l_le, l_eq, Int32.toInt_toInt64, Int32.reduceToInt, Int64.reduceToInt] at *); omega)
    · refine r_aload_n (j := 1) rfl rfl dX10_append_7 ?_
      refine w_getI fX10_15 rfl dX10_append_8 ?_
      refine r_sipush (v := 900) rfl dX10_append_11 ?_
      refine r_icmp_ge (tgt := 49) dX10_append_14 (by decide) (fun c14 => ?_) (fun c14 => ?_)
      · exfalso; ((try simp only [bI_0, bI_1, lc_lt, lc_gt, lc_le, lc_ge, Classical.not_not] at *); (try simp only [i_lt, i_le, i_eq, l_lt, l_le, l_eq, Int32.toInt_toInt64, Int32.reduceToInt, Int64.reduceToInt] at *); omega)
      · refine r_aload_n (j := 1) rfl rfl dX10_append_17 ?_
        refine w_getR (b := 2) fX10_9 rfl rfl dX10_append_18 ?_
        refine r_aload_n (j := 1) rfl rfl dX10_append_21 ?_
        refine w_getI fX10_15 rfl dX10_append_22 ?_
        refine r_iload_n (j := 2) rfl rfl dX10_append_25 ?_
        refine r_iload_n (j := 0) rfl rfl dX10_append_26 ?_
        refine r_iushr dX10_append_27 ?_
        refine r_sipush (v := 255) rfl dX10_append_28 ?_
        refine r_iand dX10_append_31 ?_
        refine w_iast rfl (by first | assumption | (rw [vp_in_iff]; ((try simp only [bI_0, bI_1, lc_lt, lc_gt, lc_le, lc_ge, Classical.not_not] at *); (try simp only [i_lt, i_le, i_eq, l_lt, l_le, l_eq, Int32.toInt_toInt64, Int32.reduceToInt, Int64.reduceToInt] at *); omega))) dX10_append_32 (fun J32 hJ32 => ?_)
        refine r_aload_n (j := 1) rfl rfl dX10_append_33 ?_
        refine r_dup rfl dX10_append_34 ?_
        refine w_getI fX10_15 rfl dX10_append_35 ?_
        refine r_iconst (v := 1) rfl dX10_append_38 ?_
        refine r_iadd dX10_append_39 ?_
        refine w_putI fX10_15 rfl (rfl) (rfl) dX10_append_40 (fun J40 hJ40 => ?_)
        refine r_iinc (j := 0) (lv' := fun z => [(2, .int z), (0, .ref 1), (1, .int v)]) dX10_append_43 rfl (Nat.le_of_ble_eq_true rfl) (fun _ => rfl) (fun x2_43 ex2_43 => ?_)
        refine r_goto (tgt := 3) dX10_append_46 (by decide) ?_
        refine ih (k + 1) (by omega) _ _ ?_ (fun h => by rw [ex2_43]; exact sh_st hx (by omega)) (fun h => by rw [ex2_43, hx, show k = 3 by omega]; rfl)
        rw [hJ40, hJ32, cl_of eli, up_n _ _ _ (by decide), el, hx, eJ, ← ap_s, nI_1]
        rfl
theorem k_X10_append {sc : Sc} {I : Is} {L : Ls} {tg N : Nat} {v : Int32} (hl : I 1 1 = nI N) (hN : N + 4 ≤ 900) : Con sc mX10_append 0 0 0 [.ref 1, .int v] (XW I L tg) (rV (XW (apI I v N 4) L tg)) := by
  refine Con_of (by decide) (Nat.le_of_ble_eq_true rfl) ?_
  refine r_bipush (v := 24) rfl dX10_append_0 ?_
  refine r_istore_n (lv' := fun z => [(2, .int z), (0, .ref 1), (1, .int v)]) dX10_append_2 rfl (Nat.le_of_ble_eq_true rfl) (fun _ => rfl) (fun x2_2 ex2_2 => ?_)
  exact l_X10_append hN 4 0 rfl _ _ (ap_0 hl).symm (fun _ => by rw [ex2_2]; rfl) (fun h => absurd h (by decide))
theorem l_X12_putFour {sc : Sc} {I : Is} {L : Ls} {tg N : Nat} {v : Int32} (hN : N + 4 ≤ 900) : ∀ n k : Nat, k + n = 4 → ∀ (J : Is) (x : Int32), J = apM I v N k → (k < 4 → x = nI (24 - 8 * k)) → (k = 4 → x = -8) → RR sc mX12_putFour 0 0 0 (rV (XW (apM I v N 4) L tg)) 0 0 3 [(2, .int x), (0, .ref 95), (1, .int v)] [] (XW J L tg) := by
  intro n
  induction n with
  | zero =>
    intro k hk J x eJ h1 h2
    have e4 : k = 4 := by omega
    subst e4
    obtain rfl := h2 rfl
    refine r_iload_n (j := 0) rfl rfl dX12_putFour_3 ?_
    refine r_if_lt (tgt := 36) dX12_putFour_4 (by decide) (fun c4 => ?_) (fun c4 => ?_)
    · refine w_vret rfl (Nat.le_of_ble_eq_true rfl) (Nat.le_of_ble_eq_true rfl) dX12_putFour_36 ?_
      exact ⟨eJ, rfl, rfl⟩
    · exact absurd (by decide) c4
  | succ n ih =>
    intro k hk J x eJ h1 h2
    have hx := h1 (by omega)
    have hxi : x.toInt = ((24 - 8 * k : Nat) : Int) := by rw [hx, nI_toInt (by omega)]
    have el : J 95 1 = nI (N + k) := by rw [eJ]; exact am_11 _ _ _ _
    have eli : (J 95 1).toInt = ((N + k : Nat) : Int) := by rw [el, nI_toInt (by omega)]
    have hin := up_in (N := 900) eli (by omega)
    refine r_iload_n (j := 0) rfl rfl dX12_putFour_3 ?_
    refine r_if_lt (tgt := 36) dX12_putFour_4 (by decide) (fun c4 => ?_) (fun c4 => ?_)
    · exfalso; ((try simp only [bI_0, bI_1, lc_lt, lc_gt, lc_le, lc_ge, Classical.not_not] at *); (try simp only [i_lt, i_le, i_eq, l_lt, l_le, l_eq, Int32.toInt_toInt64, Int32.reduceToInt, Int64.reduceToInt] at *); omega)
    · refine r_aload_n (j := 1) rfl rfl dX12_putFour_7 ?_
      refine w_getR (b := 96) fX12_16 rfl rfl dX12_putFour_8 ?_
      refine r_aload_n (j := 1) rfl rfl dX12_putFour_11 ?_
      refine w_getI fX12_345 rfl dX12_putFour_12 ?_
      refine r_iload_n (j := 2) rfl rfl dX12_putFour_15 ?_
      refine r_iload_n (j := 0) rfl rfl dX12_putFour_16 ?_
      refine r_ishr dX12_putFour_17 ?_
      refine r_i2b dX12_putFour_18 ?_
      refine w_bast rfl (by first | assumption | (rw [vp_in_iff]; ((try simp only [bI_0, bI_1, lc_lt, lc_gt, lc_le, lc_ge, Classical.not_not] at *); (try simp only [i_lt, i_le, i_eq, l_lt, l_le, l_eq, Int32.toInt_toInt64, Int32.reduceToInt, Int64.reduceToInt] at *); omega))) dX12_putFour_19 (fun J19 hJ19 => ?_)
      refine r_aload_n (j := 1) rfl rfl dX12_putFour_20 ?_
      refine r_dup rfl dX12_putFour_21 ?_
      refine w_getI fX12_345 rfl dX12_putFour_22 ?_
      refine r_iconst (v := 1) rfl dX12_putFour_25 ?_
      refine r_iadd dX12_putFour_26 ?_
      refine w_putI fX12_345 rfl (rfl) (rfl) dX12_putFour_27 (fun J27 hJ27 => ?_)
      refine r_iinc (j := 0) (lv' := fun z => [(2, .int z), (0, .ref 95), (1, .int v)]) dX12_putFour_30 rfl (Nat.le_of_ble_eq_true rfl) (fun _ => rfl) (fun x2_30 ex2_30 => ?_)
      refine r_goto (tgt := 3) dX12_putFour_33 (by decide) ?_
      refine ih (k + 1) (by omega) _ _ ?_ (fun h => by rw [ex2_30]; exact sh_st hx (by omega)) (fun h => by rw [ex2_30, hx, show k = 3 by omega]; rfl)
      rw [hJ27, hJ19, cl_of eli, up_n _ _ _ (by decide), el, hx, eJ, ← am_s, nI_1]
      rfl
theorem k_X12_putFour {sc : Sc} {I : Is} {L : Ls} {tg N : Nat} {v : Int32} (hl : I 95 1 = nI N) (hN : N + 4 ≤ 900) : Con sc mX12_putFour 0 0 0 [.ref 95, .int v] (XW I L tg) (rV (XW (apM I v N 4) L tg)) := by
  refine Con_of (by decide) (Nat.le_of_ble_eq_true rfl) ?_
  refine r_bipush (v := 24) rfl dX12_putFour_0 ?_
  refine r_istore_n (lv' := fun z => [(2, .int z), (0, .ref 95), (1, .int v)]) dX12_putFour_2 rfl (Nat.le_of_ble_eq_true rfl) (fun _ => rfl) (fun x2_2 ex2_2 => ?_)
  exact l_X12_putFour hN 4 0 rfl _ _ (am_0 hl).symm (fun _ => by rw [ex2_2]; rfl) (fun h => absurd h (by decide))
/-- five numbers behind the tape -/
def fdI (I : Is) (N : Nat) (a b c d e : Int32) : Is := apI (apI (apI (apI (apI I a N 4) b (N + 4) 4) c (N + 8) 4) d (N + 12) 4) e (N + 16) 4
def fdM (I : Is) (N : Nat) (a b c d e : Int32) : Is := apM (apM (apM (apM (apM I a N 4) b (N + 4) 4) c (N + 8) 4) d (N + 12) 4) e (N + 16) 4
theorem k_X11_feed_f {sc : Sc} {I : Is} {L : Ls} {tg N : Nat} {a b c d e : Int32} (hl : (I 1 1).toInt = N) (h1 : N ≤ 900) (h2 : 900 < N + 20) : Con sc mX11_feed 1 0 0 [.ref 0, .int a, .int b, .int c, .int d, .int e] (XW I L tg) (rI (-3) (XW I L tg)) := by
  refine Con_of (by decide) (Nat.le_of_ble_eq_true rfl) ?_
  have e9 : (I 1 1 + 20).toInt = N + 20 := by rw [i_add] <;> simp only [Int32.reduceToInt] <;> omega
  refine r_aload_n (j := 0) rfl rfl dX11_feed_0 ?_
  refine w_getR (b := 1) fX11_10 rfl rfl dX11_feed_1 ?_
  refine w_getI fX11_88 rfl dX11_feed_4 ?_
  refine r_bipush (v := 20) rfl dX11_feed_7 ?_
  refine r_iadd dX11_feed_9 ?_
  refine r_sipush (v := 900) rfl dX11_feed_10 ?_
  refine r_icmp_le (tgt := 19) dX11_feed_13 (by decide) (fun c13 => ?_) (fun c13 => ?_)
  · exfalso; ((try simp only [bI_0, bI_1, lc_lt, lc_gt, lc_le, lc_ge, Classical.not_not] at *); (try simp only [i_lt, i_le, i_eq, l_lt, l_le, l_eq, Int32.toInt_toInt64, Int32.reduceToInt, Int64.reduceToInt] at *); omega)
  · refine r_bipush (v := (-3)) rfl dX11_feed_16 ?_
    refine w_iret rfl (rfl) (Nat.le_of_ble_eq_true rfl) (Nat.le_of_ble_eq_true rfl) dX11_feed_18 ?_
    exact ⟨rfl, rfl, rfl, rfl⟩
theorem k_X11_feed_y {sc : Sc} {I : Is} {L : Ls} {tg N : Nat} {a b c d e : Int32} (hl : I 1 1 = nI N) (h2 : N + 20 ≤ 900) : Con sc mX11_feed 1 0 0 [.ref 0, .int a, .int b, .int c, .int d, .int e] (XW I L tg) (rI (nI (N + 20)) (XW (fdI I N a b c d e) L tg)) := by
  refine Con_of (by decide) (Nat.le_of_ble_eq_true rfl) ?_
  have e9 : (I 1 1 + 20).toInt = N + 20 := by rw [hl, i_add] <;> rw [nI_toInt (by omega)] <;> simp only [Int32.reduceToInt] <;> omega
  refine r_aload_n (j := 0) rfl rfl dX11_feed_0 ?_
  refine w_getR (b := 1) fX11_10 rfl rfl dX11_feed_1 ?_
  refine w_getI fX11_88 rfl dX11_feed_4 ?_
  refine r_bipush (v := 20) rfl dX11_feed_7 ?_
  refine r_iadd dX11_feed_9 ?_
  refine r_sipush (v := 900) rfl dX11_feed_10 ?_
  refine r_icmp_le (tgt := 19) dX11_feed_13 (by decide) (fun c13 => ?_) (fun c13 => ?_)
  · refine r_aload_n (j := 0) rfl rfl dX11_feed_19 ?_
    refine w_getR (b := 1) fX11_10 rfl rfl dX11_feed_20 ?_
    refine r_iload_n (j := 1) rfl rfl dX11_feed_23 ?_
    refine w_cV1v (k_X10_append hl (by omega)) (Nat.le_of_ble_eq_true rfl) lX11_92 vmX10_append rfl (Nat.le_of_ble_eq_true rfl) (Nat.le_of_ble_eq_true rfl) (Nat.le_of_ble_eq_true rfl) dX11_feed_24 (fun J24 K24 hJ24 hK24 => ?_)
    subst hK24
    refine r_aload_n (j := 0) rfl rfl dX11_feed_27 ?_
    refine w_getR (b := 1) fX11_10 rfl rfl dX11_feed_28 ?_
    refine r_iload_n (j := 2) rfl rfl dX11_feed_31 ?_
    refine w_cV1v (k_X10_append (N := N + 4) (by rw [hJ24]; exact ap_11 _ _ _ _) (by omega)) (Nat.le_of_ble_eq_true rfl) lX11_92 vmX10_append rfl (Nat.le_of_ble_eq_true rfl) (Nat.le_of_ble_eq_true rfl) (Nat.le_of_ble_eq_true rfl) dX11_feed_32 (fun J32 K32 hJ32 hK32 => ?_)
    subst hK32
    refine r_aload_n (j := 0) rfl rfl dX11_feed_35 ?_
    refine w_getR (b := 1) fX11_10 rfl rfl dX11_feed_36 ?_
    refine r_iload_n (j := 3) rfl rfl dX11_feed_39 ?_
    refine w_cV1v (k_X10_append (N := N + 8) (by rw [hJ32]; exact ap_11 _ _ _ _) (by omega)) (Nat.le_of_ble_eq_true rfl) lX11_92 vmX10_append rfl (Nat.le_of_ble_eq_true rfl) (Nat.le_of_ble_eq_true rfl) (Nat.le_of_ble_eq_true rfl) dX11_feed_40 (fun J40 K40 hJ40 hK40 => ?_)
    subst hK40
    refine r_aload_n (j := 0) rfl rfl dX11_feed_43 ?_
    refine w_getR (b := 1) fX11_10 rfl rfl dX11_feed_44 ?_
    refine r_iload (j := 4) rfl dX11_feed_47 ?_
    refine w_cV1v (k_X10_append (N := N + 12) (by rw [hJ40]; exact ap_11 _ _ _ _) (by omega)) (Nat.le_of_ble_eq_true rfl) lX11_92 vmX10_append rfl (Nat.le_of_ble_eq_true rfl) (Nat.le_of_ble_eq_true rfl) (Nat.le_of_ble_eq_true rfl) dX11_feed_49 (fun J49 K49 hJ49 hK49 => ?_)
    subst hK49
    refine r_aload_n (j := 0) rfl rfl dX11_feed_52 ?_
    refine w_getR (b := 1) fX11_10 rfl rfl dX11_feed_53 ?_
    refine r_iload (j := 5) rfl dX11_feed_56 ?_
    refine w_cV1v (k_X10_append (N := N + 16) (by rw [hJ49]; exact ap_11 _ _ _ _) (by omega)) (Nat.le_of_ble_eq_true rfl) lX11_92 vmX10_append rfl (Nat.le_of_ble_eq_true rfl) (Nat.le_of_ble_eq_true rfl) (Nat.le_of_ble_eq_true rfl) dX11_feed_58 (fun J58 K58 hJ58 hK58 => ?_)
    subst hK58
    refine r_aload_n (j := 0) rfl rfl dX11_feed_61 ?_
    refine w_getR (b := 1) fX11_10 rfl rfl dX11_feed_62 ?_
    refine w_getI fX11_88 rfl dX11_feed_65 ?_
    refine w_iret rfl (rfl) (Nat.le_of_ble_eq_true rfl) (Nat.le_of_ble_eq_true rfl) dX11_feed_68 ?_
    subst hJ58 hJ49 hJ40 hJ32 hJ24; exact ⟨ap_11 _ _ _ _, rfl, rfl, rfl⟩
  · exfalso; ((try simp only [bI_0, bI_1, lc_lt, lc_gt, lc_le, lc_ge, Classical.not_not] at *); (try simp only [i_lt, i_le, i_eq, l_lt, l_le, l_eq, Int32.toInt_toInt64, Int32.reduceToInt, Int64.reduceToInt] at *); omega)
theorem k_X12_feed_f {sc : Sc} {I : Is} {L : Ls} {tg N : Nat} {a b c d e : Int32} (hl : (I 95 1).toInt = N) (h1 : N ≤ 900) (h2 : 900 < N + 20) : Con sc mX12_feed 1 0 0 [.ref 95, .int a, .int b, .int c, .int d, .int e] (XW I L tg) (rI (-3) (XW I L tg)) := by
  refine Con_of (by decide) (Nat.le_of_ble_eq_true rfl) ?_
  have e9 : (I 95 1 + 20).toInt = N + 20 := by rw [i_add] <;> simp only [Int32.reduceToInt] <;> omega
  refine r_aload_n (j := 0) rfl rfl dX12_feed_0 ?_
  refine w_getI fX12_345 rfl dX12_feed_1 ?_
  refine r_bipush (v := 20) rfl dX12_feed_4 ?_
  refine r_iadd dX12_feed_6 ?_
  refine r_sipush (v := 900) rfl dX12_feed_7 ?_
  refine r_icmp_le (tgt := 16) dX12_feed_10 (by decide) (fun c10 => ?_) (fun c10 => ?_)
  · exfalso; ((try simp only [bI_0, bI_1, lc_lt, lc_gt, lc_le, lc_ge, Classical.not_not] at *); (try simp only [i_lt, i_le, i_eq, l_lt, l_le, l_eq, Int32.toInt_toInt64, Int32.reduceToInt, Int64.reduceToInt] at *); omega)
  · refine r_bipush (v := (-3)) rfl dX12_feed_13 ?_
    refine w_iret rfl (rfl) (Nat.le_of_ble_eq_true rfl) (Nat.le_of_ble_eq_true rfl) dX12_feed_15 ?_
    exact ⟨rfl, rfl, rfl, rfl⟩
theorem k_X12_feed_y {sc : Sc} {I : Is} {L : Ls} {tg N : Nat} {a b c d e : Int32} (hl : I 95 1 = nI N) (h2 : N + 20 ≤ 900) : Con sc mX12_feed 1 0 0 [.ref 95, .int a, .int b, .int c, .int d, .int e] (XW I L tg) (rI (nI (N + 20)) (XW (fdM I N a b c d e) L tg)) := by
  refine Con_of (by decide) (Nat.le_of_ble_eq_true rfl) ?_
  have e9 : (I 95 1 + 20).toInt = N + 20 := by rw [hl, i_add] <;> rw [nI_toInt (by omega)] <;> simp only [Int32.reduceToInt] <;> omega
  refine r_aload_n (j := 0) rfl rfl dX12_feed_0 ?_
  refine w_getI fX12_345 rfl dX12_feed_1 ?_
  refine r_bipush (v := 20) rfl dX12_feed_4 ?_
  refine r_iadd dX12_feed_6 ?_
  refine r_sipush (v := 900) rfl dX12_feed_7 ?_
  refine r_icmp_le (tgt := 16) dX12_feed_10 (by decide) (fun c10 => ?_) (fun c10 => ?_)
  · refine r_aload_n (j := 0) rfl rfl dX12_feed_16 ?_
    refine r_iload_n (j := 1) rfl rfl dX12_feed_17 ?_
    refine w_cV1v (k_X12_putFour hl (by omega)) (Nat.le_of_ble_eq_true rfl) lX12_348 vmX12_putFour rfl (Nat.le_of_ble_eq_true rfl) (Nat.le_of_ble_eq_true rfl) (Nat.le_of_ble_eq_true rfl) dX12_feed_18 (fun J18 K18 hJ18 hK18 => ?_)
    subst hK18
    refine r_aload_n (j := 0) rfl rfl dX12_feed_21 ?_
    refine r_iload_n (j := 2) rfl rfl dX12_feed_22 ?_
    refine w_cV1v (k_X12_putFour (N := N + 4) (by rw [hJ18]; exact am_11 _ _ _ _) (by omega)) (Nat.le_of_ble_eq_true rfl) lX12_348 vmX12_putFour rfl (Nat.le_of_ble_eq_true rfl) (Nat.le_of_ble_eq_true rfl) (Nat.le_of_ble_eq_true rfl) dX12_feed_23 (fun J23 K23 hJ23 hK23 => ?_)
    subst hK23
    refine r_aload_n (j := 0) rfl rfl dX12_feed_26 ?_
    refine r_iload_n (j := 3) rfl rfl dX12_feed_27 ?_
    refine w_cV1v (k_X12_putFour (N := N + 8) (by rw [hJ23]; exact am_11 _ _ _ _) (by omega)) (Nat.le_of_ble_eq_true rfl) lX12_348 vmX12_putFour rfl (Nat.le_of_ble_eq_true rfl) (Nat.le_of_ble_eq_true rfl) (Nat.le_of_ble_eq_true rfl) dX12_feed_28 (fun J28 K28 hJ28 hK28 => ?_)
    subst hK28
    refine r_aload_n (j := 0) rfl rfl dX12_feed_31 ?_
    refine r_iload (j := 4) rfl dX12_feed_32 ?_
    refine w_cV1v (k_X12_putFour (N := N + 12) (by rw [hJ28]; exact am_11 _ _ _ _) (by omega)) (Nat.le_of_ble_eq_true rfl) lX12_348 vmX12_putFour rfl (Nat.le_of_ble_eq_true rfl) (Nat.le_of_ble_eq_true rfl) (Nat.le_of_ble_eq_true rfl) dX12_feed_34 (fun J34 K34 hJ34 hK34 => ?_)
    subst hK34
    refine r_aload_n (j := 0) rfl rfl dX12_feed_37 ?_
    refine r_iload (j := 5) rfl dX12_feed_38 ?_
    refine w_cV1v (k_X12_putFour (N := N + 16) (by rw [hJ34]; exact am_11 _ _ _ _) (by omega)) (Nat.le_of_ble_eq_true rfl) lX12_348 vmX12_putFour rfl (Nat.le_of_ble_eq_true rfl) (Nat.le_of_ble_eq_true rfl) (Nat.le_of_ble_eq_true rfl) dX12_feed_40 (fun J40 K40 hJ40 hK40 => ?_)
    subst hK40
    refine r_aload_n (j := 0) rfl rfl dX12_feed_43 ?_
    refine w_getI fX12_345 rfl dX12_feed_44 ?_
    refine w_iret rfl (rfl) (Nat.le_of_ble_eq_true rfl) (Nat.le_of_ble_eq_true rfl) dX12_feed_47 ?_
    subst hJ40 hJ34 hJ28 hJ23 hJ18; exact ⟨am_11 _ _ _ _, rfl, rfl, rfl⟩
  · exfalso; ((try simp only [bI_0, bI_1, lc_lt, lc_gt, lc_le, lc_ge, Classical.not_not] at *); (try simp only [i_lt, i_le, i_eq, l_lt, l_le, l_eq, Int32.toInt_toInt64, Int32.reduceToInt, Int64.reduceToInt] at *); omega)
theorem k_X11_end_n {sc : Sc} {I : Is} {L : Ls} {tg : Nat} {n : Int32} (h : ¬ (0 ≤ n.toInt ∧ n.toInt ≤ (I 1 1).toInt)) : Con sc mX11_end 0 0 0 [.ref 0, .int n] (XW I L tg) (rI (-1) (XW I L tg)) := by
  refine Con_of (by decide) (Nat.le_of_ble_eq_true rfl) ?_
  refine r_iload_n (j := 1) rfl rfl dX11_end_0 ?_
  refine r_if_lt (tgt := 15) dX11_end_1 (by decide) (fun c1 => ?_) (fun c1 => ?_)
  · refine r_iconst (v := (-1)) rfl dX11_end_15 ?_
    refine w_iret rfl (rfl) (Nat.le_of_ble_eq_true rfl) (Nat.le_of_ble_eq_true rfl) dX11_end_16 ?_
    exact ⟨rfl, rfl, rfl, rfl⟩
  · refine r_iload_n (j := 1) rfl rfl dX11_end_4 ?_
    refine r_aload_n (j := 0) rfl rfl dX11_end_5 ?_
    refine w_getR (b := 1) fX11_10 rfl rfl dX11_end_6 ?_
    refine w_getI fX11_88 rfl dX11_end_9 ?_
    refine r_icmp_le (tgt := 17) dX11_end_12 (by decide) (fun c12 => ?_) (fun c12 => ?_)
    · exfalso; ((try simp only [bI_0, bI_1, lc_lt, lc_gt, lc_le, lc_ge, Classical.not_not] at *); (try simp only [i_lt, i_le, i_eq, l_lt, l_le, l_eq, Int32.toInt_toInt64, Int32.reduceToInt, Int64.reduceToInt] at *); omega)
    · refine r_iconst (v := (-1)) rfl dX11_end_15 ?_
      refine w_iret rfl (rfl) (Nat.le_of_ble_eq_true rfl) (Nat.le_of_ble_eq_true rfl) dX11_end_16 ?_
      exact ⟨rfl, rfl, rfl, rfl⟩
theorem k_X11_end_y {sc : Sc} {I : Is} {L : Ls} {tg : Nat} {n : Int32} (h : 0 ≤ n.toInt ∧ n.toInt ≤ (I 1 1).toInt) : Con sc mX11_end 0 0 0 [.ref 0, .int n] (XW I L tg) (rI n (XW (up I 1 1 n) L tg)) := by
  refine Con_of (by decide) (Nat.le_of_ble_eq_true rfl) ?_
  refine r_iload_n (j := 1) rfl rfl dX11_end_0 ?_
  refine r_if_lt (tgt := 15) dX11_end_1 (by decide) (fun c1 => ?_) (fun c1 => ?_)
  · exfalso; ((try simp only [bI_0, bI_1, lc_lt, lc_gt, lc_le, lc_ge, Classical.not_not] at *); (try simp only [i_lt, i_le, i_eq, l_lt, l_le, l_eq, Int32.toInt_toInt64, Int32.reduceToInt, Int64.reduceToInt] at *); omega)
  · refine r_iload_n (j := 1) rfl rfl dX11_end_4 ?_
    refine r_aload_n (j := 0) rfl rfl dX11_end_5 ?_
    refine w_getR (b := 1) fX11_10 rfl rfl dX11_end_6 ?_
    refine w_getI fX11_88 rfl dX11_end_9 ?_
    refine r_icmp_le (tgt := 17) dX11_end_12 (by decide) (fun c12 => ?_) (fun c12 => ?_)
    · refine r_aload_n (j := 0) rfl rfl dX11_end_17 ?_
      refine w_getR (b := 1) fX11_10 rfl rfl dX11_end_18 ?_
      refine r_iload_n (j := 1) rfl rfl dX11_end_21 ?_
      refine w_putI fX11_88 rfl (rfl) (rfl) dX11_end_22 (fun J22 hJ22 => ?_)
      refine r_iload_n (j := 1) rfl rfl dX11_end_25 ?_
      refine w_iret rfl (rfl) (Nat.le_of_ble_eq_true rfl) (Nat.le_of_ble_eq_true rfl) dX11_end_26 ?_
      exact ⟨rfl, hJ22, rfl, rfl⟩
    · exfalso; ((try simp only [bI_0, bI_1, lc_lt, lc_gt, lc_le, lc_ge, Classical.not_not] at *); (try simp only [i_lt, i_le, i_eq, l_lt, l_le, l_eq, Int32.toInt_toInt64, Int32.reduceToInt, Int64.reduceToInt] at *); omega)
theorem k_X12_in {sc : Sc} {I : Is} {L : Ls} {tg : Nat} {a b c : Int64} : Con sc mX12_in 0 0 0 [.long a, .long b, .long c] (XW I L tg) (rI (bI (b.toInt ≤ a.toInt ∧ a.toInt ≤ c.toInt)) (XW I L tg)) := by
  refine Con_of (by decide) (Nat.le_of_ble_eq_true rfl) ?_
  refine r_lload_n (j := 0) rfl rfl dX12_in_0 ?_
  refine r_lload_n (j := 1) rfl rfl dX12_in_1 ?_
  refine r_lcmp dX12_in_2 ?_
  refine r_if_lt (tgt := 17) dX12_in_3 (by decide) (fun c3 => ?_) (fun c3 => ?_)
  · refine r_iconst (v := 0) rfl dX12_in_17 ?_
    refine w_iret rfl (rfl) (Nat.le_of_ble_eq_true rfl) (Nat.le_of_ble_eq_true rfl) dX12_in_18 ?_
    exact ⟨by first | exact (bI_t (by ((try simp only [bI_0, bI_1, lc_lt, lc_gt, lc_le, lc_ge, Classical.not_not] at *); (try simp only [i_lt, i_le, i_eq, l_lt, l_le, l_eq, Int32.toInt_toInt64, Int32.reduceToInt, Int64.reduceToInt] at *); omega))).symm | exact (bI_f (by ((try simp only [bI_0, bI_1, lc_lt, lc_gt, lc_le, lc_ge, Classical.not_not] at *); (try simp only [i_lt, i_le, i_eq, l_lt, l_le, l_eq, Int32.toInt_toInt64, Int32.reduceToInt, Int64.reduceToInt] at *); omega))).symm, rfl, rfl, rfl⟩
  · refine r_lload_n (j := 0) rfl rfl dX12_in_6 ?_
    refine r_lload (j := 2) rfl dX12_in_7 ?_
    refine r_lcmp dX12_in_9 ?_
    refine r_if_gt (tgt := 17) dX12_in_10 (by decide) (fun c10 => ?_) (fun c10 => ?_)
    · refine r_iconst (v := 0) rfl dX12_in_17 ?_
      refine w_iret rfl (rfl) (Nat.le_of_ble_eq_true rfl) (Nat.le_of_ble_eq_true rfl) dX12_in_18 ?_
      exact ⟨by first | exact (bI_t (by ((try simp only [bI_0, bI_1, lc_lt, lc_gt, lc_le, lc_ge, Classical.not_not] at *); (try simp only [i_lt, i_le, i_eq, l_lt, l_le, l_eq, Int32.toInt_toInt64, Int32.reduceToInt, Int64.reduceToInt] at *); omega))).symm | exact (bI_f (by ((try simp only [bI_0, bI_1, lc_lt, lc_gt, lc_le, lc_ge, Classical.not_not] at *); (try simp only [i_lt, i_le, i_eq, l_lt, l_le, l_eq, Int32.toInt_toInt64, Int32.reduceToInt, Int64.reduceToInt] at *); omega))).symm, rfl, rfl, rfl⟩
    · refine r_iconst (v := 1) rfl dX12_in_13 ?_
      refine r_goto (tgt := 18) dX12_in_14 (by decide) ?_
      refine w_iret rfl (rfl) (Nat.le_of_ble_eq_true rfl) (Nat.le_of_ble_eq_true rfl) dX12_in_18 ?_
      exact ⟨by first | exact (bI_t (by ((try simp only [bI_0, bI_1, lc_lt, lc_gt, lc_le, lc_ge, Classical.not_not] at *); (try simp only [i_lt, i_le, i_eq, l_lt, l_le, l_eq, Int32.toInt_toInt64, Int32.reduceToInt, Int64.reduceToInt] at *); omega))).symm | exact (bI_f (by ((try simp only [bI_0, bI_1, lc_lt, lc_gt, lc_le, lc_ge, Classical.not_not] at *); (try simp only [i_lt, i_le, i_eq, l_lt, l_le, l_eq, Int32.toInt_toInt64, Int32.reduceToInt, Int64.reduceToInt] at *); omega))).symm, rfl, rfl, rfl⟩
theorem k_X12_end_n {sc : Sc} {I : Is} {L : Ls} {tg : Nat} {n : Int32} (h : ¬ (0 ≤ n.toInt ∧ n.toInt ≤ (I 95 1).toInt)) : Con sc mX12_end 1 0 0 [.ref 95, .int n] (XW I L tg) (rI (-1) (XW I L tg)) := by
  refine Con_of (by decide) (Nat.le_of_ble_eq_true rfl) ?_
  refine r_iload_n (j := 1) rfl rfl dX12_end_0 ?_
  refine r_i2l dX12_end_1 ?_
  refine r_lconst (v := 0) rfl dX12_end_2 ?_
  refine r_aload_n (j := 0) rfl rfl dX12_end_3 ?_
  refine w_getI fX12_345 rfl dX12_end_4 ?_
  refine r_i2l dX12_end_7 ?_
  refine w_cS3p (k_X12_in) (Nat.le_of_ble_eq_true rfl) lX12_52 mtX12_in (Nat.le_of_ble_eq_true rfl) (Nat.le_of_ble_eq_true rfl) (Nat.le_of_ble_eq_true rfl) dX12_end_8 ?_
  refine r_if_ne (tgt := 16) dX12_end_11 (by decide) (fun c11 => ?_) (fun c11 => ?_)
  · exfalso; ((try simp only [bI_0, bI_1, lc_lt, lc_gt, lc_le, lc_ge, Classical.not_not] at *); (try simp only [i_lt, i_le, i_eq, l_lt, l_le, l_eq, Int32.toInt_toInt64, Int32.reduceToInt, Int64.reduceToInt] at *); omega)
  · refine r_iconst (v := (-1)) rfl dX12_end_14 ?_
    refine w_iret rfl (rfl) (Nat.le_of_ble_eq_true rfl) (Nat.le_of_ble_eq_true rfl) dX12_end_15 ?_
    exact ⟨rfl, rfl, rfl, rfl⟩
theorem k_X12_end_y {sc : Sc} {I : Is} {L : Ls} {tg : Nat} {n : Int32} (h : 0 ≤ n.toInt ∧ n.toInt ≤ (I 95 1).toInt) : Con sc mX12_end 1 0 0 [.ref 95, .int n] (XW I L tg) (rI n (XW (up I 95 1 n) L tg)) := by
  refine Con_of (by decide) (Nat.le_of_ble_eq_true rfl) ?_
  refine r_iload_n (j := 1) rfl rfl dX12_end_0 ?_
  refine r_i2l dX12_end_1 ?_
  refine r_lconst (v := 0) rfl dX12_end_2 ?_
  refine r_aload_n (j := 0) rfl rfl dX12_end_3 ?_
  refine w_getI fX12_345 rfl dX12_end_4 ?_
  refine r_i2l dX12_end_7 ?_
  refine w_cS3p (k_X12_in) (Nat.le_of_ble_eq_true rfl) lX12_52 mtX12_in (Nat.le_of_ble_eq_true rfl) (Nat.le_of_ble_eq_true rfl) (Nat.le_of_ble_eq_true rfl) dX12_end_8 ?_
  refine r_if_ne (tgt := 16) dX12_end_11 (by decide) (fun c11 => ?_) (fun c11 => ?_)
  · refine r_aload_n (j := 0) rfl rfl dX12_end_16 ?_
    refine r_iload_n (j := 1) rfl rfl dX12_end_17 ?_
    refine w_putI fX12_345 rfl (rfl) (rfl) dX12_end_18 (fun J18 hJ18 => ?_)
    refine r_iload_n (j := 1) rfl rfl dX12_end_21 ?_
    refine w_iret rfl (rfl) (Nat.le_of_ble_eq_true rfl) (Nat.le_of_ble_eq_true rfl) dX12_end_22 ?_
    exact ⟨rfl, hJ18, rfl, rfl⟩
  · exfalso; ((try simp only [bI_0, bI_1, lc_lt, lc_gt, lc_le, lc_ge, Classical.not_not] at *); (try simp only [i_lt, i_le, i_eq, l_lt, l_le, l_eq, Int32.toInt_toInt64, Int32.reduceToInt, Int64.reduceToInt] at *); omega)
def ftS (k p w : Int32) : Int32 := if w = 0 then k else if w = 1 then p else -1
theorem k_X11_fault {sc : Sc} {I : Is} {L : Ls} {tg : Nat} {w : Int32} : Con sc mX11_fault 0 0 0 [.ref 0, .int w] (XW I L tg) (rI (ftS (I 33 4) (I 33 5) w) (XW I L tg)) := by
  refine Con_of (by decide) (Nat.le_of_ble_eq_true rfl) ?_
  refine r_iload_n (j := 1) rfl rfl dX11_fault_0 ?_
  refine r_if_ne (tgt := 12) dX11_fault_1 (by decide) (fun c1 => ?_) (fun c1 => ?_)
  · refine r_iload_n (j := 1) rfl rfl dX11_fault_12 ?_
    refine r_iconst (v := 1) rfl dX11_fault_13 ?_
    refine r_icmp_ne (tgt := 27) dX11_fault_14 (by decide) (fun c14 => ?_) (fun c14 => ?_)
    · refine r_iconst (v := (-1)) rfl dX11_fault_27 ?_
      refine w_iret rfl (rfl) (Nat.le_of_ble_eq_true rfl) (Nat.le_of_ble_eq_true rfl) dX11_fault_28 ?_
      exact ⟨by unfold ftS; rw [if_neg c1]; first | rw [if_pos c14] | rw [if_neg c14], rfl, rfl, rfl⟩
    · refine r_aload_n (j := 0) rfl rfl dX11_fault_17 ?_
      refine w_getR (b := 33) fX11_31 rfl rfl dX11_fault_18 ?_
      refine w_getI fX11_119 rfl dX11_fault_21 ?_
      refine r_goto (tgt := 28) dX11_fault_24 (by decide) ?_
      refine w_iret rfl (rfl) (Nat.le_of_ble_eq_true rfl) (Nat.le_of_ble_eq_true rfl) dX11_fault_28 ?_
      exact ⟨by unfold ftS; rw [if_neg c1]; first | rw [if_pos c14] | rw [if_neg c14], rfl, rfl, rfl⟩
  · refine r_aload_n (j := 0) rfl rfl dX11_fault_4 ?_
    refine w_getR (b := 33) fX11_31 rfl rfl dX11_fault_5 ?_
    refine w_getI fX11_116 rfl dX11_fault_8 ?_
    refine w_iret rfl (rfl) (Nat.le_of_ble_eq_true rfl) (Nat.le_of_ble_eq_true rfl) dX11_fault_11 ?_
    exact ⟨by unfold ftS; rw [if_pos c1], rfl, rfl, rfl⟩
theorem k_X12_fault {sc : Sc} {I : Is} {L : Ls} {tg : Nat} {w : Int32} : Con sc mX12_fault 0 0 0 [.ref 95, .int w] (XW I L tg) (rI (ftS (I 95 8) (I 95 9) w) (XW I L tg)) := by
  refine Con_of (by decide) (Nat.le_of_ble_eq_true rfl) ?_
  refine r_iload_n (j := 1) rfl rfl dX12_fault_0 ?_
  refine r_if_ne (tgt := 11) dX12_fault_1 (by decide) (fun c1 => ?_) (fun c1 => ?_)
  · refine r_iload_n (j := 1) rfl rfl dX12_fault_11 ?_
    refine r_iconst (v := 1) rfl dX12_fault_12 ?_
    refine r_icmp_ne (tgt := 23) dX12_fault_13 (by decide) (fun c13 => ?_) (fun c13 => ?_)
    · refine r_iconst (v := (-1)) rfl dX12_fault_23 ?_
      refine w_iret rfl (rfl) (Nat.le_of_ble_eq_true rfl) (Nat.le_of_ble_eq_true rfl) dX12_fault_24 ?_
      exact ⟨by unfold ftS; first | rw [if_pos c1] | (rw [if_neg c1]; first | rw [if_pos c13] | rw [if_neg c13]), rfl, rfl, rfl⟩
    · refine r_aload_n (j := 0) rfl rfl dX12_fault_16 ?_
      refine w_getI fX12_10 rfl dX12_fault_17 ?_
      refine r_goto (tgt := 24) dX12_fault_20 (by decide) ?_
      refine w_iret rfl (rfl) (Nat.le_of_ble_eq_true rfl) (Nat.le_of_ble_eq_true rfl) dX12_fault_24 ?_
      exact ⟨by unfold ftS; first | rw [if_pos c1] | (rw [if_neg c1]; first | rw [if_pos c13] | rw [if_neg c13]), rfl, rfl, rfl⟩
  · refine r_aload_n (j := 0) rfl rfl dX12_fault_4 ?_
    refine w_getI fX12_3 rfl dX12_fault_5 ?_
    refine r_goto (tgt := 24) dX12_fault_8 (by decide) ?_
    refine w_iret rfl (rfl) (Nat.le_of_ble_eq_true rfl) (Nat.le_of_ble_eq_true rfl) dX12_fault_24 ?_
    exact ⟨by unfold ftS; first | rw [if_pos c1] | (rw [if_neg c1]; first | rw [if_pos c13] | rw [if_neg c13]), rfl, rfl, rfl⟩
