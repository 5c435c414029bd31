/-! the camp that is read (cells 18 .. 32): what is told to it -/
section
variable {sc : Sc} {I : Is} {L : Ls} {tg : Nat}
/-- the first place of a name -/
def ixN (f : Nat → Int64) (w : Int64) : Nat → Nat → Int32
  | 0, _ => -1
  | n + 1, i => if f i = w then nI i else ixN f w n (i + 1)
theorem l_X0_indexOf {a M N : Nat} {w : Int64} {b : Int32} (ha : SHW a = (53, M)) (hM : M ≤ 1000) (hb : b.toInt = N) (hN : N ≤ M) : ∀ n i : Nat, i + n = N → ∀ x : Int32, x = nI i → RR sc mX0_indexOf 0 0 0 (rI (ixN (L a) w n i) (XW I L tg)) 0 0 3 [(4, .int x), (0, .ref a), (1, .int b), (2, .long w)] [] (XW I L tg) := by
  intro n
  induction n with
  | zero =>
    intro i hi x ex
    have hx : x.toInt = i := by rw [ex, nI_toInt (by omega)]
    refine r_iload (j := 0) rfl dX0_indexOf_3 ?_
    refine r_iload_n (j := 2) rfl rfl dX0_indexOf_5 ?_
    refine r_icmp_ge (tgt := 34) dX0_indexOf_6 (by decide) (fun c6 => ?_) (fun c6 => ?_)
    · refine r_iconst (v := (-1)) rfl dX0_indexOf_34 ?_
      refine w_iret rfl (rfl) (Nat.le_of_ble_eq_true rfl) (Nat.le_of_ble_eq_true rfl) dX0_indexOf_35 ?_
      exact ⟨rfl, rfl, rfl, rfl⟩
    · exfalso; ((try simp only [bI_0, bI_1, lc_lt, lc_gt, lc_le, lc_ge, Classical.not_not] at *); (try simp only [i_lt, i_le, i_eq, l_lt, l_le, l_eq, Int32.toInt_toInt64, Int32.reduceToInt, Int64.reduceToInt] at *); omega)
  | succ n ih =>
    intro i hi x ex
    have hx : x.toInt = i := by rw [ex, nI_toInt (by omega)]
    have hMi : (Int32.ofNat M).toInt = M := nI_toInt (by omega)
    have hc : x.toNatClampNeg = i := by rw [ex, nI_clamp (by omega)]
    refine r_iload (j := 0) rfl dX0_indexOf_3 ?_
    refine r_iload_n (j := 2) rfl rfl dX0_indexOf_5 ?_
    refine r_icmp_ge (tgt := 34) dX0_indexOf_6 (by decide) (fun c6 => ?_) (fun c6 => ?_)
    · exfalso; ((try simp only [bI_0, bI_1, lc_lt, lc_gt, lc_le, lc_ge, Classical.not_not] at *); (try simp only [i_lt, i_le, i_eq, l_lt, l_le, l_eq, Int32.toInt_toInt64, Int32.reduceToInt, Int64.reduceToInt] at *); omega)
    · refine r_iload (j := 0) rfl dX0_indexOf_9 ?_
      refine r_aload_n (j := 1) rfl rfl dX0_indexOf_11 ?_
      refine w_alen53 ha dX0_indexOf_12 ?_
      refine r_icmp_ge (tgt := 34) dX0_indexOf_13 (by decide) (fun c13 => ?_) (fun c13 => ?_)
      · exfalso; rw [i_le, hMi, hx] at c13; omega
      · refine r_aload_n (j := 1) rfl rfl dX0_indexOf_16 ?_
        refine r_iload (j := 0) rfl dX0_indexOf_17 ?_
        refine w_lald ha (up_in hx (by omega)) dX0_indexOf_19 ?_
        refine r_lload_n (j := 3) rfl rfl dX0_indexOf_20 ?_
        refine r_lcmp dX0_indexOf_21 ?_
        refine r_if_ne (tgt := 28) dX0_indexOf_22 (by decide) (fun c22 => ?_) (fun c22 => ?_)
        · refine r_iinc (j := 0) (lv' := fun z => [(4, .int z), (0, .ref a), (1, .int b), (2, .long w)]) dX0_indexOf_28 rfl (Nat.le_of_ble_eq_true rfl) (fun _ => rfl) (fun x4_28 ex4_28 => ?_)
          refine r_goto (tgt := 3) dX0_indexOf_31 (by decide) ?_
          rw [hc, lc_eq] at c22
          rw [ixN, if_neg c22]
          exact ih (i + 1) (by omega) _ (by rw [ex4_28, ex]; exact nI_1 _)
        · refine r_iload (j := 0) rfl dX0_indexOf_25 ?_
          refine w_iret rfl (rfl) (Nat.le_of_ble_eq_true rfl) (Nat.le_of_ble_eq_true rfl) dX0_indexOf_27 ?_
          rw [hc, lc_eq] at c22; exact ⟨by rw [ixN, if_pos c22]; exact ex, rfl, rfl, rfl⟩
theorem k_X0_indexOf {a M N : Nat} {w : Int64} {b : Int32} (ha : SHW a = (53, M)) (hM : M ≤ 1000) (hb : b.toInt = N) (hN : N ≤ M) : Con sc mX0_indexOf 0 0 0 [.ref a, .int b, .long w] (XW I L tg) (rI (ixN (L a) w N 0) (XW I L tg)) := by
  refine Con_of (by decide) (Nat.le_of_ble_eq_true rfl) ?_
  refine r_iconst (v := 0) rfl dX0_indexOf_0 ?_
  refine r_istore (lv' := fun z => [(4, .int z), (0, .ref a), (1, .int b), (2, .long w)]) dX0_indexOf_1 (Nat.le_of_ble_eq_true rfl) (fun _ => rfl) (fun x4_1 ex4_1 => ?_)
  exact l_X0_indexOf ha hM hb hN N 0 (Nat.zero_add _) _ ex4_1
theorem ixN_r (f : Nat → Int64) (w : Int64) : ∀ n i, ixN f w n i = -1 ∨ ∃ j, i ≤ j ∧ j < i + n ∧ ixN f w n i = nI j ∧ f j = w := by
  intro n
  induction n with
  | zero => intro i; exact Or.inl rfl
  | succ n ih =>
    intro i
    rw [ixN]
    split
    · rename_i h; exact Or.inr ⟨i, Nat.le_refl _, by omega, rfl, h⟩
    · rcases ih (i + 1) with h | ⟨j, h1, h2, h3, h4⟩
      · exact Or.inl h
      · exact Or.inr ⟨j, by omega, by omega, h3, h4⟩
theorem ixN_cg {f g : Nat → Int64} (w : Int64) : ∀ n i, (∀ j, i ≤ j → j < i + n → f j = g j) → ixN f w n i = ixN g w n i := by
  intro n
  induction n with
  | zero => intro i _; rfl
  | succ n ih =>
    intro i h
    rw [ixN, ixN, h i (Nat.le_refl _) (by omega), ih (i + 1) (fun j h1 h2 => h j (by omega) (by omega))]
theorem k_X0_wasSet {a : Int32} (h0 : 0 ≤ a.toInt) (h1 : a.toInt < 14) : Con sc mX0_wasSet 0 0 0 [.ref 18, .int a] (XW I L tg) (rI (bI (¬ I 20 a.toNatClampNeg = 0)) (XW I L tg)) := by
  refine Con_of (by decide) (Nat.le_of_ble_eq_true rfl) ?_
  refine r_iload_n (j := 1) rfl rfl dX0_wasSet_0 ?_
  refine r_if_lt (tgt := 25) dX0_wasSet_1 (by decide) (fun c1 => ?_) (fun c1 => ?_)
  · exfalso; ((try simp only [bI_0, bI_1, lc_lt, lc_gt, lc_le, lc_ge, Classical.not_not] at *); (try simp only [i_lt, i_le, i_eq, l_lt, l_le, l_eq, Int32.toInt_toInt64, Int32.reduceToInt, Int64.reduceToInt] at *); omega)
  · refine r_iload_n (j := 1) rfl rfl dX0_wasSet_4 ?_
    refine r_gets (v := .ref 1000) (by decide +kernel) fsX0_9 dX0_wasSet_5 ?_
    refine r_tlen (t := tb0) oT_0 dX0_wasSet_8 ?_
    refine r_icmp_ge (tgt := 25) dX0_wasSet_9 (by decide) (fun c9 => ?_) (fun c9 => ?_)
    · exfalso; (have c9 : (14 : Int32) ≤ a := c9); ((try simp only [bI_0, bI_1, lc_lt, lc_gt, lc_le, lc_ge, Classical.not_not] at *); (try simp only [i_lt, i_le, i_eq, l_lt, l_le, l_eq, Int32.toInt_toInt64, Int32.reduceToInt, Int64.reduceToInt] at *); omega)
    · refine r_aload_n (j := 0) rfl rfl dX0_wasSet_12 ?_
      refine w_getR (b := 20) fX0_18 rfl rfl dX0_wasSet_13 ?_
      refine r_iload_n (j := 1) rfl rfl dX0_wasSet_16 ?_
      refine w_zald rfl (by first | assumption | (rw [vp_in_iff]; ((try simp only [bI_0, bI_1, lc_lt, lc_gt, lc_le, lc_ge, Classical.not_not] at *); (try simp only [i_lt, i_le, i_eq, l_lt, l_le, l_eq, Int32.toInt_toInt64, Int32.reduceToInt, Int64.reduceToInt] at *); omega))) dX0_wasSet_17 ?_
      refine r_if_eq (tgt := 25) dX0_wasSet_18 (by decide) (fun c18 => ?_) (fun c18 => ?_)
      · refine r_iconst (v := 0) rfl dX0_wasSet_25 ?_
        refine w_iret rfl (rfl) (Nat.le_of_ble_eq_true rfl) (Nat.le_of_ble_eq_true rfl) dX0_wasSet_26 ?_
        exact ⟨by first | exact (bI_t c18).symm | exact (bI_f (fun z => z c18)).symm, rfl, rfl, rfl⟩
      · refine r_iconst (v := 1) rfl dX0_wasSet_21 ?_
        refine r_goto (tgt := 26) dX0_wasSet_22 (by decide) ?_
        refine w_iret rfl (rfl) (Nat.le_of_ble_eq_true rfl) (Nat.le_of_ble_eq_true rfl) dX0_wasSet_26 ?_
        exact ⟨by first | exact (bI_t c18).symm | exact (bI_f (fun z => z c18)).symm, rfl, rfl, rfl⟩
theorem k_X0_tellSetting {a v : Int32} (h0 : 0 ≤ a.toInt) (h1 : a.toInt < 14) : Con sc mX0_tellSetting 0 0 0 [.ref 18, .int a, .int v] (XW I L tg) (rV (XW (up (up I 19 a.toNatClampNeg v) 20 a.toNatClampNeg 1) L tg)) := by
  refine Con_of (by decide) (Nat.le_of_ble_eq_true rfl) ?_
  refine r_iload_n (j := 1) rfl rfl dX0_tellSetting_0 ?_
  refine r_if_lt (tgt := 26) dX0_tellSetting_1 (by decide) (fun c1 => ?_) (fun c1 => ?_)
  · exfalso; ((try simp only [bI_0, bI_1, lc_lt, lc_gt, lc_le, lc_ge, Classical.not_not] at *); (try simp only [i_lt, i_le, i_eq, l_lt, l_le, l_eq, Int32.toInt_toInt64, Int32.reduceToInt, Int64.reduceToInt] at *); omega)
  · refine r_iload_n (j := 1) rfl rfl dX0_tellSetting_4 ?_
    refine r_gets (v := .ref 1000) (by decide +kernel) fsX0_9 dX0_tellSetting_5 ?_
    refine r_tlen (t := tb0) oT_0 dX0_tellSetting_8 ?_
    refine r_icmp_ge (tgt := 26) dX0_tellSetting_9 (by decide) (fun c9 => ?_) (fun c9 => ?_)
    · exfalso; (have c9 : (14 : Int32) ≤ a := c9); ((try simp only [bI_0, bI_1, lc_lt, lc_gt, lc_le, lc_ge, Classical.not_not] at *); (try simp only [i_lt, i_le, i_eq, l_lt, l_le, l_eq, Int32.toInt_toInt64, Int32.reduceToInt, Int64.reduceToInt] at *); omega)
    · refine r_aload_n (j := 0) rfl rfl dX0_tellSetting_12 ?_
      refine w_getR (b := 19) fX0_15 rfl rfl dX0_tellSetting_13 ?_
      refine r_iload_n (j := 1) rfl rfl dX0_tellSetting_16 ?_
      refine r_iload_n (j := 2) rfl rfl dX0_tellSetting_17 ?_
      refine w_iast rfl (by first | assumption | (rw [vp_in_iff]; ((try simp only [bI_0, bI_1, lc_lt, lc_gt, lc_le, lc_ge, Classical.not_not] at *); (try simp only [i_lt, i_le, i_eq, l_lt, l_le, l_eq, Int32.toInt_toInt64, Int32.reduceToInt, Int64.reduceToInt] at *); omega))) dX0_tellSetting_18 (fun J18 hJ18 => ?_)
      refine r_aload_n (j := 0) rfl rfl dX0_tellSetting_19 ?_
      refine w_getR (b := 20) fX0_18 rfl rfl dX0_tellSetting_20 ?_
      refine r_iload_n (j := 1) rfl rfl dX0_tellSetting_23 ?_
      refine r_iconst (v := 1) rfl dX0_tellSetting_24 ?_
      refine w_zast rfl (by first | assumption | (rw [vp_in_iff]; ((try simp only [bI_0, bI_1, lc_lt, lc_gt, lc_le, lc_ge, Classical.not_not] at *); (try simp only [i_lt, i_le, i_eq, l_lt, l_le, l_eq, Int32.toInt_toInt64, Int32.reduceToInt, Int64.reduceToInt] at *); omega))) dX0_tellSetting_25 (fun J25 hJ25 => ?_)
      refine w_vret rfl (Nat.le_of_ble_eq_true rfl) (Nat.le_of_ble_eq_true rfl) dX0_tellSetting_26 ?_
      exact ⟨by rw [hJ25, hJ18]; rfl, rfl, rfl⟩
theorem k_X0_tellRun {a b v : Int32} (ha : 0 ≤ a.toInt) (ha5 : a.toInt < 5) (hb : 0 ≤ b.toInt) (hb5 : b.toInt < 5) : Con sc mX0_tellRun 0 0 0 [.ref 18, .int a, .int b, .int v] (XW I L tg) (rV (XW (up (up I 26 (a * 5 + b).toNatClampNeg v) 26 (b * 5 + a).toNatClampNeg v) L tg)) := by
  refine Con_of (by decide) (Nat.le_of_ble_eq_true rfl) ?_
  refine r_aload_n (j := 0) rfl rfl dX0_tellRun_0 ?_
  refine w_getR (b := 26) fX0_38 rfl rfl dX0_tellRun_1 ?_
  refine r_iload_n (j := 1) rfl rfl dX0_tellRun_4 ?_
  refine r_iconst (v := 5) rfl dX0_tellRun_5 ?_
  refine r_imul dX0_tellRun_6 ?_
  refine r_iload_n (j := 2) rfl rfl dX0_tellRun_7 ?_
  refine r_iadd dX0_tellRun_8 ?_
  refine r_iload_n (j := 3) rfl rfl dX0_tellRun_9 ?_
  refine w_iast rfl (by rw [vp_in_iff, hr_ix ha ha5 hb hb5]; omega) dX0_tellRun_10 (fun J10 hJ10 => ?_)
  refine r_aload_n (j := 0) rfl rfl dX0_tellRun_11 ?_
  refine w_getR (b := 26) fX0_38 rfl rfl dX0_tellRun_12 ?_
  refine r_iload_n (j := 2) rfl rfl dX0_tellRun_15 ?_
  refine r_iconst (v := 5) rfl dX0_tellRun_16 ?_
  refine r_imul dX0_tellRun_17 ?_
  refine r_iload_n (j := 1) rfl rfl dX0_tellRun_18 ?_
  refine r_iadd dX0_tellRun_19 ?_
  refine r_iload_n (j := 3) rfl rfl dX0_tellRun_20 ?_
  refine w_iast rfl (by rw [vp_in_iff, hr_ix hb hb5 ha ha5]; omega) dX0_tellRun_21 (fun J21 hJ21 => ?_)
  refine w_vret rfl (Nat.le_of_ble_eq_true rfl) (Nat.le_of_ble_eq_true rfl) dX0_tellRun_22 ?_
  exact ⟨by rw [hJ21, hJ10], rfl, rfl⟩
/-- one more hut, garden, LOOK -/
def ahI (I : Is) (H : Nat) (x y z : Int32) : Is := up (up (up (up I 22 H x) 23 H y) 24 H z) 18 14 (nI (H + 1))
def agI (I : Is) (G : Nat) (x y z : Int32) : Is := up (up (up (up I 28 G x) 29 G y) 30 G z) 18 15 (nI (G + 1))
def alI (I : Is) (K : Nat) (x : Int32) : Is := up (up I 32 K x) 18 16 (nI (K + 1))
theorem k_X0_addHut {H : Nat} {w : Int64} {x y z : Int32} (hH : I 18 14 = nI H) (h5 : H < 5) : Con sc mX0_addHut 0 0 0 [.ref 18, .long w, .int x, .int y, .int z] (XW I L tg) (rV (XW (ahI I H x y z) (up L 21 H w) tg)) := by
  refine Con_of (by decide) (Nat.le_of_ble_eq_true rfl) ?_
  have hi : (I 18 14).toInt = H := by rw [hH, nI_toInt (by omega)]
  have hc : (I 18 14).toNatClampNeg = H := by rw [hH, nI_clamp (by omega)]
  refine r_aload_n (j := 0) rfl rfl dX0_addHut_0 ?_
  refine w_getI fX0_74 rfl dX0_addHut_1 ?_
  refine r_iconst (v := 5) rfl dX0_addHut_4 ?_
  refine r_icmp_ge (tgt := 60) dX0_addHut_5 (by decide) (fun c5 => ?_) (fun c5 => ?_)
  · exfalso; ((try simp only [bI_0, bI_1, lc_lt, lc_gt, lc_le, lc_ge, Classical.not_not] at *); (try simp only [i_lt, i_le, i_eq, l_lt, l_le, l_eq, Int32.toInt_toInt64, Int32.reduceToInt, Int64.reduceToInt] at *); omega)
  · refine r_aload_n (j := 0) rfl rfl dX0_addHut_8 ?_
    refine w_getR (b := 21) fX0_22 rfl rfl dX0_addHut_9 ?_
    refine r_aload_n (j := 0) rfl rfl dX0_addHut_12 ?_
    refine w_getI fX0_74 rfl dX0_addHut_13 ?_
    refine r_lload_n (j := 1) rfl rfl dX0_addHut_16 ?_
    refine w_last rfl (by first | assumption | (rw [vp_in_iff]; ((try simp only [bI_0, bI_1, lc_lt, lc_gt, lc_le, lc_ge, Classical.not_not] at *); (try simp only [i_lt, i_le, i_eq, l_lt, l_le, l_eq, Int32.toInt_toInt64, Int32.reduceToInt, Int64.reduceToInt] at *); omega))) dX0_addHut_17 (fun J17 hJ17 => ?_)
    refine r_aload_n (j := 0) rfl rfl dX0_addHut_18 ?_
    refine w_getR (b := 22) fX0_26 rfl rfl dX0_addHut_19 ?_
    refine r_aload_n (j := 0) rfl rfl dX0_addHut_22 ?_
    refine w_getI fX0_74 rfl dX0_addHut_23 ?_
    refine r_iload_n (j := 2) rfl rfl dX0_addHut_26 ?_
    refine w_iast rfl (up_in hi h5) dX0_addHut_27 (fun J27 hJ27 => ?_)
    rw [hc] at hJ27; have a1 : (J27 18 14) = I 18 14 := (by rw [hJ27]; simp [up_eq])
    refine r_aload_n (j := 0) rfl rfl dX0_addHut_28 ?_
    refine w_getR (b := 23) fX0_29 rfl rfl dX0_addHut_29 ?_
    refine r_aload_n (j := 0) rfl rfl dX0_addHut_32 ?_
    refine w_getI fX0_74 rfl dX0_addHut_33 ?_
    refine r_iload (j := 3) rfl dX0_addHut_36 ?_
    refine w_iast rfl (by rw [a1]; exact up_in hi h5) dX0_addHut_38 (fun J38 hJ38 => ?_)
    rw [a1, hc] at hJ38; have a2 : (J38 18 14) = I 18 14 := (by rw [hJ38, hJ27]; simp [up_eq])
    refine r_aload_n (j := 0) rfl rfl dX0_addHut_39 ?_
    refine w_getR (b := 24) fX0_32 rfl rfl dX0_addHut_40 ?_
    refine r_aload_n (j := 0) rfl rfl dX0_addHut_43 ?_
    refine w_getI fX0_74 rfl dX0_addHut_44 ?_
    refine r_iload (j := 4) rfl dX0_addHut_47 ?_
    refine w_iast rfl (by rw [a2]; exact up_in hi h5) dX0_addHut_49 (fun J49 hJ49 => ?_)
    rw [a2, hc] at hJ49; have a3 : (J49 18 14) = I 18 14 := (by rw [hJ49, hJ38, hJ27]; simp [up_eq])
    refine r_aload_n (j := 0) rfl rfl dX0_addHut_50 ?_
    refine r_dup rfl dX0_addHut_51 ?_
    refine w_getI fX0_74 rfl dX0_addHut_52 ?_
    refine r_iconst (v := 1) rfl dX0_addHut_55 ?_
    refine r_iadd dX0_addHut_56 ?_
    refine w_putI fX0_74 rfl (rfl) (rfl) dX0_addHut_57 (fun J57 hJ57 => ?_)
    refine w_vret rfl (Nat.le_of_ble_eq_true rfl) (Nat.le_of_ble_eq_true rfl) dX0_addHut_60 ?_
    exact ⟨by rw [hJ57, a3, hH, nI_1, hJ49, hJ38, hJ27]; rfl, by rw [hJ17, hc], rfl⟩
theorem k_X0_addGarden {H : Nat} {w : Int64} {x y z : Int32} (hH : I 18 15 = nI H) (h5 : H < 4) : Con sc mX0_addGarden 0 0 0 [.ref 18, .long w, .int x, .int y, .int z] (XW I L tg) (rV (XW (agI I H x y z) (up L 27 H w) tg)) := by
  refine Con_of (by decide) (Nat.le_of_ble_eq_true rfl) ?_
  have hi : (I 18 15).toInt = H := by rw [hH, nI_toInt (by omega)]
  have hc : (I 18 15).toNatClampNeg = H := by rw [hH, nI_clamp (by omega)]
  refine r_aload_n (j := 0) rfl rfl dX0_addGarden_0 ?_
  refine w_getI fX0_78 rfl dX0_addGarden_1 ?_
  refine r_iconst (v := 4) rfl dX0_addGarden_4 ?_
  refine r_icmp_ge (tgt := 60) dX0_addGarden_5 (by decide) (fun c5 => ?_) (fun c5 => ?_)
  · exfalso; ((try simp only [bI_0, bI_1, lc_lt, lc_gt, lc_le, lc_ge, Classical.not_not] at *); (try simp only [i_lt, i_le, i_eq, l_lt, l_le, l_eq, Int32.toInt_toInt64, Int32.reduceToInt, Int64.reduceToInt] at *); omega)
  · refine r_aload_n (j := 0) rfl rfl dX0_addGarden_8 ?_
    refine w_getR (b := 27) fX0_41 rfl rfl dX0_addGarden_9 ?_
    refine r_aload_n (j := 0) rfl rfl dX0_addGarden_12 ?_
    refine w_getI fX0_78 rfl dX0_addGarden_13 ?_
    refine r_lload_n (j := 1) rfl rfl dX0_addGarden_16 ?_
    refine w_last rfl (by first | assumption | (rw [vp_in_iff]; ((try simp only [bI_0, bI_1, lc_lt, lc_gt, lc_le, lc_ge, Classical.not_not] at *); (try simp only [i_lt, i_le, i_eq, l_lt, l_le, l_eq, Int32.toInt_toInt64, Int32.reduceToInt, Int64.reduceToInt] at *); omega))) dX0_addGarden_17 (fun J17 hJ17 => ?_)
    refine r_aload_n (j := 0) rfl rfl dX0_addGarden_18 ?_
    refine w_getR (b := 28) fX0_44 rfl rfl dX0_addGarden_19 ?_
    refine r_aload_n (j := 0) rfl rfl dX0_addGarden_22 ?_
    refine w_getI fX0_78 rfl dX0_addGarden_23 ?_
    refine r_iload_n (j := 2) rfl rfl dX0_addGarden_26 ?_
    refine w_iast rfl (up_in hi h5) dX0_addGarden_27 (fun J27 hJ27 => ?_)
    rw [hc] at hJ27; have a1 : (J27 18 15) = I 18 15 := (by rw [hJ27]; simp [up_eq])
    refine r_aload_n (j := 0) rfl rfl dX0_addGarden_28 ?_
    refine w_getR (b := 29) fX0_47 rfl rfl dX0_addGarden_29 ?_
    refine r_aload_n (j := 0) rfl rfl dX0_addGarden_32 ?_
    refine w_getI fX0_78 rfl dX0_addGarden_33 ?_
    refine r_iload (j := 3) rfl dX0_addGarden_36 ?_
    refine w_iast rfl (by rw [a1]; exact up_in hi h5) dX0_addGarden_38 (fun J38 hJ38 => ?_)
    rw [a1, hc] at hJ38; have a2 : (J38 18 15) = I 18 15 := (by rw [hJ38, hJ27]; simp [up_eq])
    refine r_aload_n (j := 0) rfl rfl dX0_addGarden_39 ?_
    refine w_getR (b := 30) fX0_50 rfl rfl dX0_addGarden_40 ?_
    refine r_aload_n (j := 0) rfl rfl dX0_addGarden_43 ?_
    refine w_getI fX0_78 rfl dX0_addGarden_44 ?_
    refine r_iload (j := 4) rfl dX0_addGarden_47 ?_
    refine w_iast rfl (by rw [a2]; exact up_in hi h5) dX0_addGarden_49 (fun J49 hJ49 => ?_)
    rw [a2, hc] at hJ49; have a3 : (J49 18 15) = I 18 15 := (by rw [hJ49, hJ38, hJ27]; simp [up_eq])
    refine r_aload_n (j := 0) rfl rfl dX0_addGarden_50 ?_
    refine r_dup rfl dX0_addGarden_51 ?_
    refine w_getI fX0_78 rfl dX0_addGarden_52 ?_
    refine r_iconst (v := 1) rfl dX0_addGarden_55 ?_
    refine r_iadd dX0_addGarden_56 ?_
    refine w_putI fX0_78 rfl (rfl) (rfl) dX0_addGarden_57 (fun J57 hJ57 => ?_)
    refine w_vret rfl (Nat.le_of_ble_eq_true rfl) (Nat.le_of_ble_eq_true rfl) dX0_addGarden_60 ?_
    exact ⟨by rw [hJ57, a3, hH, nI_1, hJ49, hJ38, hJ27]; rfl, by rw [hJ17, hc], rfl⟩
theorem k_X0_addLook {H : Nat} {w : Int64} {x : Int32} (hH : I 18 16 = nI H) (h5 : H < 4) : Con sc mX0_addLook 0 0 0 [.ref 18, .long w, .int x] (XW I L tg) (rV (XW (alI I H x) (up L 31 H w) tg)) := by
  refine Con_of (by decide) (Nat.le_of_ble_eq_true rfl) ?_
  have hi : (I 18 16).toInt = H := by rw [hH, nI_toInt (by omega)]
  have hc : (I 18 16).toNatClampNeg = H := by rw [hH, nI_clamp (by omega)]
  refine r_aload_n (j := 0) rfl rfl dX0_addLook_0 ?_
  refine w_getI fX0_81 rfl dX0_addLook_1 ?_
  refine r_iconst (v := 4) rfl dX0_addLook_4 ?_
  refine r_icmp_ge (tgt := 38) dX0_addLook_5 (by decide) (fun c5 => ?_) (fun c5 => ?_)
  · exfalso; ((try simp only [bI_0, bI_1, lc_lt, lc_gt, lc_le, lc_ge, Classical.not_not] at *); (try simp only [i_lt, i_le, i_eq, l_lt, l_le, l_eq, Int32.toInt_toInt64, Int32.reduceToInt, Int64.reduceToInt] at *); omega)
  · refine r_aload_n (j := 0) rfl rfl dX0_addLook_8 ?_
    refine w_getR (b := 31) fX0_53 rfl rfl dX0_addLook_9 ?_
    refine r_aload_n (j := 0) rfl rfl dX0_addLook_12 ?_
    refine w_getI fX0_81 rfl dX0_addLook_13 ?_
    refine r_lload_n (j := 1) rfl rfl dX0_addLook_16 ?_
    refine w_last rfl (by first | assumption | (rw [vp_in_iff]; ((try simp only [bI_0, bI_1, lc_lt, lc_gt, lc_le, lc_ge, Classical.not_not] at *); (try simp only [i_lt, i_le, i_eq, l_lt, l_le, l_eq, Int32.toInt_toInt64, Int32.reduceToInt, Int64.reduceToInt] at *); omega))) dX0_addLook_17 (fun J17 hJ17 => ?_)
    refine r_aload_n (j := 0) rfl rfl dX0_addLook_18 ?_
    refine w_getR (b := 32) fX0_56 rfl rfl dX0_addLook_19 ?_
    refine r_aload_n (j := 0) rfl rfl dX0_addLook_22 ?_
    refine w_getI fX0_81 rfl dX0_addLook_23 ?_
    refine r_iload_n (j := 2) rfl rfl dX0_addLook_26 ?_
    refine w_iast rfl (up_in hi h5) dX0_addLook_27 (fun J27 hJ27 => ?_)
    rw [hc] at hJ27; have a1 : (J27 18 16) = I 18 16 := (by rw [hJ27]; simp [up_eq])
    refine r_aload_n (j := 0) rfl rfl dX0_addLook_28 ?_
    refine r_dup rfl dX0_addLook_29 ?_
    refine w_getI fX0_81 rfl dX0_addLook_30 ?_
    refine r_iconst (v := 1) rfl dX0_addLook_33 ?_
    refine r_iadd dX0_addLook_34 ?_
    refine w_putI fX0_81 rfl (rfl) (rfl) dX0_addLook_35 (fun J35 hJ35 => ?_)
    refine w_vret rfl (Nat.le_of_ble_eq_true rfl) (Nat.le_of_ble_eq_true rfl) dX0_addLook_38 ?_
    exact ⟨by rw [hJ35, a1, hH, nI_1, hJ27]; rfl, by rw [hJ17, hc], rfl⟩
/-- a camp made empty -/
def cuI (I : Is) : Is := up (up (up (up (upr (upr (upr (upr I 19 (fun j => if j < 14 then tb0.getD j 0 else I 19 j)) 20 (fillr (I 20) 14 0)) 25 (fillr (I 25) 5 (-1))) 26 (fillr (I 26) 25 (-1))) 18 14 0) 18 15 0) 18 16 0) 18 17 0
theorem l_X0_clear {I0 : Is} : ∀ n i : Nat, i + n = 14 → ∀ (I : Is) (x : Int32), I = upr (upr I0 19 (fun j => if j < 14 then tb0.getD j 0 else I0 19 j)) 20 (fillr (I0 20) i 0) → x.toInt = i → RR sc mX0_clear 1 0 0 (rV (XW (cuI I0) L tg)) 0 0 18 [(1, .int x), (0, .ref 18)] [] (XW I L tg) := by
  intro n
  induction n with
  | zero =>
    intro i hi I x hI hx
    have hz : ((14 : Int32)).toInt = 14 := rfl
    refine r_iload_n (j := 0) rfl rfl dX0_clear_18 ?_
    refine r_gets (v := .ref 1000) (by decide +kernel) fsX0_9 dX0_clear_19 ?_
    refine r_tlen (t := tb0) oT_0 dX0_clear_22 ?_
    refine r_icmp_ge (tgt := 39) dX0_clear_23 (by decide) (fun c23 => ?_) (fun c23 => ?_)
    · refine r_aload_n (j := 1) rfl rfl dX0_clear_39 ?_
      refine w_getR (b := 25) fX0_35 rfl rfl dX0_clear_40 ?_
      refine r_iconst (v := (-1)) rfl dX0_clear_43 ?_
      refine w_cS2v (k_J7_fill_53178 (N := 5) rfl (by decide)) (Nat.le_of_ble_eq_true rfl) lX0_68 mtJ7_fill_53178 (Nat.le_of_ble_eq_true rfl) (Nat.le_of_ble_eq_true rfl) (Nat.le_of_ble_eq_true rfl) dX0_clear_44 (fun J44 K44 hJ44 hK44 => ?_)
      subst hK44
      refine r_aload_n (j := 1) rfl rfl dX0_clear_47 ?_
      refine w_getR (b := 26) fX0_38 rfl rfl dX0_clear_48 ?_
      refine r_iconst (v := (-1)) rfl dX0_clear_51 ?_
      refine w_cS2v (k_J7_fill_53178 (N := 25) rfl (by decide)) (Nat.le_of_ble_eq_true rfl) lX0_68 mtJ7_fill_53178 (Nat.le_of_ble_eq_true rfl) (Nat.le_of_ble_eq_true rfl) (Nat.le_of_ble_eq_true rfl) dX0_clear_52 (fun J52 K52 hJ52 hK52 => ?_)
      subst hK52
      refine r_aload_n (j := 1) rfl rfl dX0_clear_55 ?_
      refine r_iconst (v := 0) rfl dX0_clear_56 ?_
      refine w_putI fX0_74 rfl (rfl) (rfl) dX0_clear_57 (fun J57 hJ57 => ?_)
      refine r_aload_n (j := 1) rfl rfl dX0_clear_60 ?_
      refine r_iconst (v := 0) rfl dX0_clear_61 ?_
      refine w_putI fX0_78 rfl (rfl) (rfl) dX0_clear_62 (fun J62 hJ62 => ?_)
      refine r_aload_n (j := 1) rfl rfl dX0_clear_65 ?_
      refine r_iconst (v := 0) rfl dX0_clear_66 ?_
      refine w_putI fX0_81 rfl (rfl) (rfl) dX0_clear_67 (fun J67 hJ67 => ?_)
      refine r_aload_n (j := 1) rfl rfl dX0_clear_70 ?_
      refine r_iconst (v := 0) rfl dX0_clear_71 ?_
      refine w_putI fX0_84 rfl (rfl) (rfl) dX0_clear_72 (fun J72 hJ72 => ?_)
      refine w_vret rfl (Nat.le_of_ble_eq_true rfl) (Nat.le_of_ble_eq_true rfl) dX0_clear_75 ?_
      refine ⟨?_, rfl, rfl⟩
      have ei : i = 14 := by omega
      rw [hJ72, hJ67, hJ62, hJ57, hJ52, hJ44, hI, ei]
      simp [cuI, upr_eq]
    · exfalso; (have c23 : ¬ (14 : Int32) ≤ x := c23); ((try simp only [bI_0, bI_1, lc_lt, lc_gt, lc_le, lc_ge, Classical.not_not] at *); (try simp only [i_lt, i_le, i_eq, l_lt, l_le, l_eq, Int32.toInt_toInt64, Int32.reduceToInt, Int64.reduceToInt] at *); omega)
  | succ n ih =>
    intro i hi I x hI hx
    refine r_iload_n (j := 0) rfl rfl dX0_clear_18 ?_
    refine r_gets (v := .ref 1000) (by decide +kernel) fsX0_9 dX0_clear_19 ?_
    refine r_tlen (t := tb0) oT_0 dX0_clear_22 ?_
    refine r_icmp_ge (tgt := 39) dX0_clear_23 (by decide) (fun c23 => ?_) (fun c23 => ?_)
    · exfalso; (have c23 : (14 : Int32) ≤ x := c23); ((try simp only [bI_0, bI_1, lc_lt, lc_gt, lc_le, lc_ge, Classical.not_not] at *); (try simp only [i_lt, i_le, i_eq, l_lt, l_le, l_eq, Int32.toInt_toInt64, Int32.reduceToInt, Int64.reduceToInt] at *); omega)
    · refine r_aload_n (j := 1) rfl rfl dX0_clear_26 ?_
      refine w_getR (b := 20) fX0_18 rfl rfl dX0_clear_27 ?_
      refine r_iload_n (j := 0) rfl rfl dX0_clear_30 ?_
      refine r_iconst (v := 0) rfl dX0_clear_31 ?_
      refine w_zast rfl (up_in hx (by omega)) dX0_clear_32 (fun J32 hJ32 => ?_)
      refine r_iinc (j := 0) (lv' := fun z => [(1, .int z), (0, .ref 18)]) dX0_clear_33 rfl (Nat.le_of_ble_eq_true rfl) (fun _ => rfl) (fun x1_33 ex1_33 => ?_)
      refine r_goto (tgt := 18) dX0_clear_36 (by decide) ?_
      refine ih (i + 1) (by omega) _ _ ?_ (by rw [ex1_33]; exact i_inc hx (by omega))
      rw [hJ32, cl_of hx, hI]
      funext a
      by_cases h : a = 20
      · subst h
        funext j
        simp only [up_eq, upr_eq, if_true, vu_eq, fillr]
        by_cases h1 : j = i
        · rw [if_pos h1, if_pos (by omega)]; rfl
        · rw [if_neg h1]
          by_cases h2 : j < i
          · rw [if_pos h2, if_pos (by omega)]
          · rw [if_neg h2, if_neg (by omega)]
      · simp [up_eq, upr_eq, h]
theorem k_X0_clear : Con sc mX0_clear 1 0 0 [.ref 18] (XW I L tg) (rV (XW (cuI I) L tg)) := by
  refine Con_of (by decide) (Nat.le_of_ble_eq_true rfl) ?_
  refine r_gets (v := .ref 1000) (by decide +kernel) fsX0_9 dX0_clear_0 ?_
  refine r_iconst (v := 0) rfl dX0_clear_3 ?_
  refine r_aload_n (j := 0) rfl rfl dX0_clear_4 ?_
  refine w_getR (b := 19) fX0_15 rfl rfl dX0_clear_5 ?_
  refine r_iconst (v := 0) rfl dX0_clear_8 ?_
  refine r_gets (v := .ref 1000) (by decide +kernel) fsX0_9 dX0_clear_9 ?_
  refine r_tlen (t := tb0) oT_0 dX0_clear_12 ?_
  refine w_copyT oT_0 rfl (by decide +kernel) (by decide +kernel) (by decide +kernel) (by decide +kernel) (by decide +kernel) aX0_62 (Nat.le_of_ble_eq_true rfl) (Nat.le_of_ble_eq_true rfl) dX0_clear_13 (fun J13 hJ13 => ?_)
  refine r_iconst (v := 0) rfl dX0_clear_16 ?_
  refine r_istore_n (lv' := fun z => [(1, .int z), (0, .ref 18)]) dX0_clear_17 rfl (Nat.le_of_ble_eq_true rfl) (fun _ => rfl) (fun x1_17 ex1_17 => ?_)
  refine l_X0_clear 14 0 rfl _ _ ?_ (by rw [ex1_17]; rfl)
  rw [hJ13]
  funext a
  by_cases h : a = 20
  · subst h; simp only [upr_eq, if_true]; rfl
  · by_cases h2 : a = 19
    · subst h2
      funext j
      simp only [upr_eq, if_true]
      rw [if_neg h, show (Int32.ofNat tb0.length).toNatClampNeg = 14 by decide, show (Int32.toNatClampNeg 0) = 0 by decide, cpy_prf]
      rfl
    · simp [upr_eq, h, h2]
end
