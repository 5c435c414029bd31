/-! COUNTS: the component's side -/
section
variable {sc : Sc} {I : Is} {L : Ls} {tg NH : Nat}
theorem k_X2_clear : Con sc mX2_clear 1 0 0 [.ref 68] (XW I L tg) (rV (XW (upr I 69 (fillr (I 69) 5 0)) L tg)) := by
  refine Con_of (by decide) (Nat.le_of_ble_eq_true rfl) ?_
  refine r_aload_n (j := 0) rfl rfl dX2_clear_0 ?_
  refine w_getR (b := 69) fX2_9 rfl rfl dX2_clear_1 ?_
  refine r_iconst (v := 0) rfl dX2_clear_4 ?_
  refine w_cS2v (k_J7_fill_53178 (N := 5) rfl (by decide)) (Nat.le_of_ble_eq_true rfl) lX2_24 mtJ7_fill_53178 (Nat.le_of_ble_eq_true rfl) (Nat.le_of_ble_eq_true rfl) (Nat.le_of_ble_eq_true rfl) dX2_clear_5 (fun J5 K5 hJ5 hK5 => ?_)
  subst hK5
  refine w_vret rfl (Nat.le_of_ble_eq_true rfl) (Nat.le_of_ble_eq_true rfl) dX2_clear_8 ?_
  exact ⟨hJ5, rfl, rfl⟩
/-- those who are missing where it is counted -/
def msS (I : Is) : Nat → Int32 := sm (fun h => if I 10 h = -1 then 0 else I 69 h)
theorem l_X2_missingAtCounts (hN : (I 3 14).toInt = NH) (h5 : NH ≤ 5) : ∀ n i : Nat, i + n = NH → ∀ a x : Int32, a = msS I i → x.toInt = i → RR sc mX2_missingAtCounts 0 0 0 (rI (msS I NH) (XW I L tg)) 0 0 4 [(3, .int x), (2, .int a), (0, .ref 68), (1, .ref 3)] [] (XW I L tg) := by
  intro n
  induction n with
  | zero =>
    intro i hi a x ea hx
    refine r_iload_n (j := 0) rfl rfl dX2_missingAtCounts_4 ?_
    refine r_aload_n (j := 3) rfl rfl dX2_missingAtCounts_5 ?_
    refine w_getI fX2_30 rfl dX2_missingAtCounts_6 ?_
    refine r_icmp_ge (tgt := 41) dX2_missingAtCounts_9 (by decide) (fun c9 => ?_) (fun c9 => ?_)
    · refine r_iload_n (j := 1) rfl rfl dX2_missingAtCounts_41 ?_
      refine w_iret rfl (rfl) (Nat.le_of_ble_eq_true rfl) (Nat.le_of_ble_eq_true rfl) dX2_missingAtCounts_42 ?_
      exact ⟨by rw [ea, show i = NH by omega], rfl, rfl, rfl⟩
    · exfalso; ((try simp only [bI_0, bI_1, lc_lt, lc_gt, lc_le, lc_ge, Classical.not_not] at *); (try simp only [i_lt, i_le, i_eq, l_lt, l_le, l_eq, Int32.toInt_toInt64, Int32.reduceToInt, Int64.reduceToInt] at *); omega)
  | succ n ih =>
    intro i hi a x ea hx
    have cx := cl_of hx
    have hin := up_in (N := 5) hx (by omega)
    refine r_iload_n (j := 0) rfl rfl dX2_missingAtCounts_4 ?_
    refine r_aload_n (j := 3) rfl rfl dX2_missingAtCounts_5 ?_
    refine w_getI fX2_30 rfl dX2_missingAtCounts_6 ?_
    refine r_icmp_ge (tgt := 41) dX2_missingAtCounts_9 (by decide) (fun c9 => ?_) (fun c9 => ?_)
    · exfalso; ((try simp only [bI_0, bI_1, lc_lt, lc_gt, lc_le, lc_ge, Classical.not_not] at *); (try simp only [i_lt, i_le, i_eq, l_lt, l_le, l_eq, Int32.toInt_toInt64, Int32.reduceToInt, Int64.reduceToInt] at *); omega)
    · refine r_iload_n (j := 1) rfl rfl dX2_missingAtCounts_12 ?_
      refine r_aload_n (j := 3) rfl rfl dX2_missingAtCounts_13 ?_
      refine w_getR (b := 10) fX2_36 rfl rfl dX2_missingAtCounts_14 ?_
      refine r_iload_n (j := 0) rfl rfl dX2_missingAtCounts_17 ?_
      refine w_iald rfl (by first | assumption | (rw [vp_in_iff]; ((try simp only [bI_0, bI_1, lc_lt, lc_gt, lc_le, lc_ge, Classical.not_not] at *); (try simp only [i_lt, i_le, i_eq, l_lt, l_le, l_eq, Int32.toInt_toInt64, Int32.reduceToInt, Int64.reduceToInt] at *); omega))) dX2_missingAtCounts_18 ?_
      refine r_iconst (v := (-1)) rfl dX2_missingAtCounts_19 ?_
      refine r_icmp_ne (tgt := 27) dX2_missingAtCounts_20 (by decide) (fun c20 => ?_) (fun c20 => ?_)
      · refine r_aload_n (j := 2) rfl rfl dX2_missingAtCounts_27 ?_
        refine w_getR (b := 69) fX2_9 rfl rfl dX2_missingAtCounts_28 ?_
        refine r_iload_n (j := 0) rfl rfl dX2_missingAtCounts_31 ?_
        refine w_iald rfl (by first | assumption | (rw [vp_in_iff]; ((try simp only [bI_0, bI_1, lc_lt, lc_gt, lc_le, lc_ge, Classical.not_not] at *); (try simp only [i_lt, i_le, i_eq, l_lt, l_le, l_eq, Int32.toInt_toInt64, Int32.reduceToInt, Int64.reduceToInt] at *); omega))) dX2_missingAtCounts_32 ?_
        refine r_iadd dX2_missingAtCounts_33 ?_
        refine r_istore_n (lv' := fun z => [(2, .int z), (3, .int x), (0, .ref 68), (1, .ref 3)]) dX2_missingAtCounts_34 rfl (Nat.le_of_ble_eq_true rfl) (fun _ => rfl) (fun x2_34 ex2_34 => ?_)
        refine r_iinc (j := 1) (lv' := fun z => [(3, .int z), (2, .int x2_34), (0, .ref 68), (1, .ref 3)]) dX2_missingAtCounts_35 rfl (Nat.le_of_ble_eq_true rfl) (fun _ => rfl) (fun x3_35 ex3_35 => ?_)
        refine r_goto (tgt := 4) dX2_missingAtCounts_38 (by decide) ?_
        rw [cx] at c20; exact ih (i + 1) (by omega) _ _ (by rw [ex2_34, ea, cx]; show _ = msS I i + (if I 10 i = -1 then 0 else I 69 i); rw [if_neg c20]) (by rw [ex3_35]; exact i_inc hx (by omega))
      · refine r_iconst (v := 0) rfl dX2_missingAtCounts_23 ?_
        refine r_goto (tgt := 33) dX2_missingAtCounts_24 (by decide) ?_
        refine r_iadd dX2_missingAtCounts_33 ?_
        refine r_istore_n (lv' := fun z => [(2, .int z), (3, .int x), (0, .ref 68), (1, .ref 3)]) dX2_missingAtCounts_34 rfl (Nat.le_of_ble_eq_true rfl) (fun _ => rfl) (fun x2_34 ex2_34 => ?_)
        refine r_iinc (j := 1) (lv' := fun z => [(3, .int z), (2, .int x2_34), (0, .ref 68), (1, .ref 3)]) dX2_missingAtCounts_35 rfl (Nat.le_of_ble_eq_true rfl) (fun _ => rfl) (fun x3_35 ex3_35 => ?_)
        refine r_goto (tgt := 4) dX2_missingAtCounts_38 (by decide) ?_
        rw [cx] at c20; exact ih (i + 1) (by omega) _ _ (by rw [ex2_34, ea]; show _ = msS I i + (if I 10 i = -1 then 0 else I 69 i); rw [if_pos c20]) (by rw [ex3_35]; exact i_inc hx (by omega))
theorem k_X2_missingAtCounts (hN : (I 3 14).toInt = NH) (h5 : NH ≤ 5) : Con sc mX2_missingAtCounts 0 0 0 [.ref 68, .ref 3] (XW I L tg) (rI (msS I NH) (XW I L tg)) := by
  refine Con_of (by decide) (Nat.le_of_ble_eq_true rfl) ?_
  refine r_iconst (v := 0) rfl dX2_missingAtCounts_0 ?_
  refine r_istore_n (lv' := fun z => [(2, .int z), (0, .ref 68), (1, .ref 3)]) dX2_missingAtCounts_1 rfl (Nat.le_of_ble_eq_true rfl) (fun _ => rfl) (fun x2_1 ex2_1 => ?_)
  refine r_iconst (v := 0) rfl dX2_missingAtCounts_2 ?_
  refine r_istore_n (lv' := fun z => [(3, .int z), (2, .int x2_1), (0, .ref 68), (1, .ref 3)]) dX2_missingAtCounts_3 rfl (Nat.le_of_ble_eq_true rfl) (fun _ => rfl) (fun x3_3 ex3_3 => ?_)
  exact l_X2_missingAtCounts hN h5 _ 0 (Nat.zero_add _) _ _ (by rw [ex2_1]; rfl) (by rw [ex3_3]; rfl)
/-- o is counted later than h -/
abbrev ltr (mi : Nat → Int32) (h o : Nat) : Prop := mi h < mi o ∨ (mi o = mi h ∧ h < o)
theorem k_X2_isLater {h o : Int32} {hn on : Nat} (eh : h.toInt = hn) (eo : o.toInt = on) (h5 : hn < 5) (o5 : on < 5) : Con sc mX2_isLater 0 0 0 [.ref 68, .int h, .int o] (XW I L tg) (rI (bI (ltr (I 70) hn on)) (XW I L tg)) := by
  have ch := cl_of eh
  have co := cl_of eo
  have hih := up_in eh h5
  have hio := up_in eo o5
  refine Con_of (by decide) (Nat.le_of_ble_eq_true rfl) ?_
  refine r_aload_n (j := 0) rfl rfl dX2_isLater_0 ?_
  refine w_getR (b := 70) fX2_15 rfl rfl dX2_isLater_1 ?_
  refine r_iload_n (j := 2) rfl rfl dX2_isLater_4 ?_
  refine w_iald rfl (by first | assumption | (rw [vp_in_iff]; ((try simp only [bI_0, bI_1, lc_lt, lc_gt, lc_le, lc_ge, Classical.not_not] at *); (try simp only [i_lt, i_le, i_eq, l_lt, l_le, l_eq, Int32.toInt_toInt64, Int32.reduceToInt, Int64.reduceToInt] at *); omega))) dX2_isLater_5 ?_
  refine r_aload_n (j := 0) rfl rfl dX2_isLater_6 ?_
  refine w_getR (b := 70) fX2_15 rfl rfl dX2_isLater_7 ?_
  refine r_iload_n (j := 1) rfl rfl dX2_isLater_10 ?_
  refine w_iald rfl (by first | assumption | (rw [vp_in_iff]; ((try simp only [bI_0, bI_1, lc_lt, lc_gt, lc_le, lc_ge, Classical.not_not] at *); (try simp only [i_lt, i_le, i_eq, l_lt, l_le, l_eq, Int32.toInt_toInt64, Int32.reduceToInt, Int64.reduceToInt] at *); omega))) dX2_isLater_11 ?_
  refine r_icmp_gt (tgt := 35) dX2_isLater_12 (by decide) (fun c12 => ?_) (fun c12 => ?_)
  · refine r_iconst (v := 1) rfl dX2_isLater_35 ?_
    refine r_goto (tgt := 40) dX2_isLater_36 (by decide) ?_
    refine w_iret rfl (rfl) (Nat.le_of_ble_eq_true rfl) (Nat.le_of_ble_eq_true rfl) dX2_isLater_40 ?_
    rw [ch, co] at c12
    (try rw [ch, co] at c27)
    (try rw [i_le] at c32)
    refine ⟨?_, rfl, rfl, rfl⟩
    first
    | exact (bI_t (Or.inl c12)).symm
    | exact (bI_t (Or.inr ⟨c27, by omega⟩)).symm
    | exact (bI_f (by rintro (z | z); exact c12 z; exact c27 z.1)).symm
    | exact (bI_f (by rintro (z | z); exact c12 z; omega)).symm
  · refine r_aload_n (j := 0) rfl rfl dX2_isLater_15 ?_
    refine w_getR (b := 70) fX2_15 rfl rfl dX2_isLater_16 ?_
    refine r_iload_n (j := 2) rfl rfl dX2_isLater_19 ?_
    refine w_iald rfl (by first | assumption | (rw [vp_in_iff]; ((try simp only [bI_0, bI_1, lc_lt, lc_gt, lc_le, lc_ge, Classical.not_not] at *); (try simp only [i_lt, i_le, i_eq, l_lt, l_le, l_eq, Int32.toInt_toInt64, Int32.reduceToInt, Int64.reduceToInt] at *); omega))) dX2_isLater_20 ?_
    refine r_aload_n (j := 0) rfl rfl dX2_isLater_21 ?_
    refine w_getR (b := 70) fX2_15 rfl rfl dX2_isLater_22 ?_
    refine r_iload_n (j := 1) rfl rfl dX2_isLater_25 ?_
    refine w_iald rfl (by first | assumption | (rw [vp_in_iff]; ((try simp only [bI_0, bI_1, lc_lt, lc_gt, lc_le, lc_ge, Classical.not_not] at *); (try simp only [i_lt, i_le, i_eq, l_lt, l_le, l_eq, Int32.toInt_toInt64, Int32.reduceToInt, Int64.reduceToInt] at *); omega))) dX2_isLater_26 ?_
    refine r_icmp_ne (tgt := 39) dX2_isLater_27 (by decide) (fun c27 => ?_) (fun c27 => ?_)
    · refine r_iconst (v := 0) rfl dX2_isLater_39 ?_
      refine w_iret rfl (rfl) (Nat.le_of_ble_eq_true rfl) (Nat.le_of_ble_eq_true rfl) dX2_isLater_40 ?_
      rw [ch, co] at c12
      (try rw [ch, co] at c27)
      (try rw [i_le] at c32)
      refine ⟨?_, rfl, rfl, rfl⟩
      first
      | exact (bI_t (Or.inl c12)).symm
      | exact (bI_t (Or.inr ⟨c27, by omega⟩)).symm
      | exact (bI_f (by rintro (z | z); exact c12 z; exact c27 z.1)).symm
      | exact (bI_f (by rintro (z | z); exact c12 z; omega)).symm
    · refine r_iload_n (j := 2) rfl rfl dX2_isLater_30 ?_
      refine r_iload_n (j := 1) rfl rfl dX2_isLater_31 ?_
      refine r_icmp_le (tgt := 39) dX2_isLater_32 (by decide) (fun c32 => ?_) (fun c32 => ?_)
      · refine r_iconst (v := 0) rfl dX2_isLater_39 ?_
        refine w_iret rfl (rfl) (Nat.le_of_ble_eq_true rfl) (Nat.le_of_ble_eq_true rfl) dX2_isLater_40 ?_
        rw [ch, co] at c12
        (try rw [ch, co] at c27)
        (try rw [i_le] at c32)
        refine ⟨?_, rfl, rfl, rfl⟩
        first
        | exact (bI_t (Or.inl c12)).symm
        | exact (bI_t (Or.inr ⟨c27, by omega⟩)).symm
        | exact (bI_f (by rintro (z | z); exact c12 z; exact c27 z.1)).symm
        | exact (bI_f (by rintro (z | z); exact c12 z; omega)).symm
      · refine r_iconst (v := 1) rfl dX2_isLater_35 ?_
        refine r_goto (tgt := 40) dX2_isLater_36 (by decide) ?_
        refine w_iret rfl (rfl) (Nat.le_of_ble_eq_true rfl) (Nat.le_of_ble_eq_true rfl) dX2_isLater_40 ?_
        rw [ch, co] at c12
        (try rw [ch, co] at c27)
        (try rw [i_le] at c32)
        refine ⟨?_, rfl, rfl, rfl⟩
        first
        | exact (bI_t (Or.inl c12)).symm
        | exact (bI_t (Or.inr ⟨c27, by omega⟩)).symm
        | exact (bI_f (by rintro (z | z); exact c12 z; exact c27 z.1)).symm
        | exact (bI_f (by rintro (z | z); exact c12 z; omega)).symm
/-- a man of h can be at o's count -/
def cwP (rn : Nat → Int32) (mi : Nat → Int32) (h o : Nat) : Bool := decide (¬ mi o = -1 ∧ ltr mi h o ∧ mbt rn (nI h) (nI o) ≤ mi o - mi h)
theorem l_X2_waysFrom {h : Int32} {hn : Nat} (hN : (I 3 14).toInt = NH) (h5 : NH ≤ 5) (eh : h.toInt = hn) (hh : hn < 5) : ∀ n i : Nat, i + n = NH → ∀ a x : Int32, a = wor (cwP (I 11) (I 70) hn) i → x.toInt = i → RR sc mX2_waysFrom 2 0 0 (rI (wor (cwP (I 11) (I 70) hn) NH) (XW I L tg)) 0 0 5 [(4, .int x), (3, .int a), (0, .ref 68), (1, .ref 3), (2, .int h)] [] (XW I L tg) := by
  have ch := cl_of eh
  have hih := up_in eh hh
  intro n
  induction n with
  | zero =>
    intro i hi a x ea hx
    refine r_iload (j := 0) rfl dX2_waysFrom_5 ?_
    refine r_aload_n (j := 3) rfl rfl dX2_waysFrom_7 ?_
    refine w_getI fX2_30 rfl dX2_waysFrom_8 ?_
    refine r_icmp_ge (tgt := 72) dX2_waysFrom_11 (by decide) (fun c11 => ?_) (fun c11 => ?_)
    · refine r_iload_n (j := 1) rfl rfl dX2_waysFrom_72 ?_
      refine w_iret rfl (rfl) (Nat.le_of_ble_eq_true rfl) (Nat.le_of_ble_eq_true rfl) dX2_waysFrom_73 ?_
      exact ⟨by rw [ea, show i = NH by omega], rfl, rfl, rfl⟩
    · exfalso; ((try simp only [bI_0, bI_1, lc_lt, lc_gt, lc_le, lc_ge, Classical.not_not] at *); (try simp only [i_lt, i_le, i_eq, l_lt, l_le, l_eq, Int32.toInt_toInt64, Int32.reduceToInt, Int64.reduceToInt] at *); omega)
  | succ n ih =>
    intro i hi a x ea hx
    have cx := cl_of hx
    have hin := up_in (N := 5) hx (by omega)
    have no : ¬ (¬ I 70 i = -1 ∧ ltr (I 70) hn i ∧ mbt (I 11) (nI hn) (nI i) ≤ I 70 i - I 70 hn) → ∀ x' : Int32, x' = x + Int32.ofInt 1 → RR sc mX2_waysFrom 2 0 0 (rI (wor (cwP (I 11) (I 70) hn) NH) (XW I L tg)) 0 0 5 [(4, .int x'), (3, .int a), (0, .ref 68), (1, .ref 3), (2, .int h)] [] (XW I L tg) := fun hc x' ex => ih (i + 1) (by omega) _ _ (by rw [wor, if_neg (show ¬ cwP (I 11) (I 70) hn i = true from fun z => hc (of_decide_eq_true z))]; exact ea) (by rw [ex]; exact i_inc hx (by omega))
    refine r_iload (j := 0) rfl dX2_waysFrom_5 ?_
    refine r_aload_n (j := 3) rfl rfl dX2_waysFrom_7 ?_
    refine w_getI fX2_30 rfl dX2_waysFrom_8 ?_
    refine r_icmp_ge (tgt := 72) dX2_waysFrom_11 (by decide) (fun c11 => ?_) (fun c11 => ?_)
    · exfalso; ((try simp only [bI_0, bI_1, lc_lt, lc_gt, lc_le, lc_ge, Classical.not_not] at *); (try simp only [i_lt, i_le, i_eq, l_lt, l_le, l_eq, Int32.toInt_toInt64, Int32.reduceToInt, Int64.reduceToInt] at *); omega)
    · refine r_aload_n (j := 2) rfl rfl dX2_waysFrom_14 ?_
      refine w_getR (b := 70) fX2_15 rfl rfl dX2_waysFrom_15 ?_
      refine r_iload (j := 0) rfl dX2_waysFrom_18 ?_
      refine w_iald rfl (by first | assumption | (rw [vp_in_iff]; ((try simp only [bI_0, bI_1, lc_lt, lc_gt, lc_le, lc_ge, Classical.not_not] at *); (try simp only [i_lt, i_le, i_eq, l_lt, l_le, l_eq, Int32.toInt_toInt64, Int32.reduceToInt, Int64.reduceToInt] at *); omega))) dX2_waysFrom_20 ?_
      refine r_iconst (v := (-1)) rfl dX2_waysFrom_21 ?_
      refine r_icmp_eq (tgt := 66) dX2_waysFrom_22 (by decide) (fun c22 => ?_) (fun c22 => ?_)
      · refine r_iinc (j := 0) (lv' := fun z => [(4, .int z), (3, .int a), (0, .ref 68), (1, .ref 3), (2, .int h)]) dX2_waysFrom_66 rfl (Nat.le_of_ble_eq_true rfl) (fun _ => rfl) (fun x4_66 ex4_66 => ?_)
        refine r_goto (tgt := 5) dX2_waysFrom_69 (by decide) ?_
        rw [cx] at c22; exact no (fun z => z.1 c22) _ ex4_66
      · refine r_aload_n (j := 2) rfl rfl dX2_waysFrom_25 ?_
        refine r_iload_n (j := 4) rfl rfl dX2_waysFrom_26 ?_
        refine r_iload (j := 0) rfl dX2_waysFrom_27 ?_
        refine w_cV2p (k_X2_isLater eh hx hh (by omega)) (Nat.le_of_ble_eq_true rfl) lX2_78 vmX2_isLater rfl (Nat.le_of_ble_eq_true rfl) (Nat.le_of_ble_eq_true rfl) (Nat.le_of_ble_eq_true rfl) dX2_waysFrom_29 ?_
        refine r_if_eq (tgt := 66) dX2_waysFrom_32 (by decide) (fun c32 => ?_) (fun c32 => ?_)
        · refine r_iinc (j := 0) (lv' := fun z => [(4, .int z), (3, .int a), (0, .ref 68), (1, .ref 3), (2, .int h)]) dX2_waysFrom_66 rfl (Nat.le_of_ble_eq_true rfl) (fun _ => rfl) (fun x4_66 ex4_66 => ?_)
          refine r_goto (tgt := 5) dX2_waysFrom_69 (by decide) ?_
          exact no (fun z => bI_0.mp c32 z.2.1) _ ex4_66
        · refine r_aload_n (j := 2) rfl rfl dX2_waysFrom_35 ?_
          refine w_getR (b := 70) fX2_15 rfl rfl dX2_waysFrom_36 ?_
          refine r_iload (j := 0) rfl dX2_waysFrom_39 ?_
          refine w_iald rfl (by first | assumption | (rw [vp_in_iff]; ((try simp only [bI_0, bI_1, lc_lt, lc_gt, lc_le, lc_ge, Classical.not_not] at *); (try simp only [i_lt, i_le, i_eq, l_lt, l_le, l_eq, Int32.toInt_toInt64, Int32.reduceToInt, Int64.reduceToInt] at *); omega))) dX2_waysFrom_41 ?_
          refine r_aload_n (j := 2) rfl rfl dX2_waysFrom_42 ?_
          refine w_getR (b := 70) fX2_15 rfl rfl dX2_waysFrom_43 ?_
          refine r_iload_n (j := 4) rfl rfl dX2_waysFrom_46 ?_
          refine w_iald rfl (by first | assumption | (rw [vp_in_iff]; ((try simp only [bI_0, bI_1, lc_lt, lc_gt, lc_le, lc_ge, Classical.not_not] at *); (try simp only [i_lt, i_le, i_eq, l_lt, l_le, l_eq, Int32.toInt_toInt64, Int32.reduceToInt, Int64.reduceToInt] at *); omega))) dX2_waysFrom_47 ?_
          refine r_isub dX2_waysFrom_48 ?_
          refine r_aload_n (j := 3) rfl rfl dX2_waysFrom_49 ?_
          refine r_iload_n (j := 4) rfl rfl dX2_waysFrom_50 ?_
          refine r_iload (j := 0) rfl dX2_waysFrom_51 ?_
          refine w_cV2p (k_X0_minutesBetween (by omega) (by omega) (by omega) (by omega)) (Nat.le_of_ble_eq_true rfl) lX2_82 vmX0_minutesBetween rfl (Nat.le_of_ble_eq_true rfl) (Nat.le_of_ble_eq_true rfl) (Nat.le_of_ble_eq_true rfl) dX2_waysFrom_53 ?_
          refine r_icmp_lt (tgt := 66) dX2_waysFrom_56 (by decide) (fun c56 => ?_) (fun c56 => ?_)
          · refine r_iinc (j := 0) (lv' := fun z => [(4, .int z), (3, .int a), (0, .ref 68), (1, .ref 3), (2, .int h)]) dX2_waysFrom_66 rfl (Nat.le_of_ble_eq_true rfl) (fun _ => rfl) (fun x4_66 ex4_66 => ?_)
            refine r_goto (tgt := 5) dX2_waysFrom_69 (by decide) ?_
            rw [cx, ch, x_nI eh, x_nI hx] at c56; exact no (fun z => absurd z.2.2 (Int32.not_le.mpr c56)) _ ex4_66
          · refine r_iload_n (j := 1) rfl rfl dX2_waysFrom_59 ?_
            refine r_iconst (v := 1) rfl dX2_waysFrom_60 ?_
            refine r_iload (j := 0) rfl dX2_waysFrom_61 ?_
            refine r_ishl dX2_waysFrom_63 ?_
            refine r_ior dX2_waysFrom_64 ?_
            refine r_istore_n (lv' := fun z => [(3, .int z), (4, .int x), (0, .ref 68), (1, .ref 3), (2, .int h)]) dX2_waysFrom_65 rfl (Nat.le_of_ble_eq_true rfl) (fun _ => rfl) (fun x3_65 ex3_65 => ?_)
            refine r_iinc (j := 1) (lv' := fun z => [(4, .int z), (3, .int x3_65), (0, .ref 68), (1, .ref 3), (2, .int h)]) dX2_waysFrom_66 rfl (Nat.le_of_ble_eq_true rfl) (fun _ => rfl) (fun x4_66 ex4_66 => ?_)
            refine r_goto (tgt := 5) dX2_waysFrom_69 (by decide) ?_
            rw [cx] at c22
            rw [cx, ch, x_nI eh, x_nI hx] at c56
            refine ih (i + 1) (by omega) _ _ ?_ (by rw [ex4_66]; exact i_inc hx (by omega))
            rw [wor, if_pos (show cwP (I 11) (I 70) hn i = true from decide_eq_true ⟨c22, bI_1.mp c32, Int32.not_lt.mp c56⟩), ex3_65, ea, x_nI hx]
theorem k_X2_waysFrom {h : Int32} {hn : Nat} (hN : (I 3 14).toInt = NH) (h5 : NH ≤ 5) (eh : h.toInt = hn) (hh : hn < 5) : Con sc mX2_waysFrom 2 0 0 [.ref 68, .ref 3, .int h] (XW I L tg) (rI (wor (cwP (I 11) (I 70) hn) NH) (XW I L tg)) := by
  refine Con_of (by decide) (Nat.le_of_ble_eq_true rfl) ?_
  refine r_iconst (v := 0) rfl dX2_waysFrom_0 ?_
  refine r_istore_n (lv' := fun z => [(3, .int z), (0, .ref 68), (1, .ref 3), (2, .int h)]) dX2_waysFrom_1 rfl (Nat.le_of_ble_eq_true rfl) (fun _ => rfl) (fun x3_1 ex3_1 => ?_)
  refine r_iconst (v := 0) rfl dX2_waysFrom_2 ?_
  refine r_istore (lv' := fun z => [(4, .int z), (3, .int x3_1), (0, .ref 68), (1, .ref 3), (2, .int h)]) dX2_waysFrom_3 (Nat.le_of_ble_eq_true rfl) (fun _ => rfl) (fun x4_3 ex4_3 => ?_)
  exact l_X2_waysFrom hN h5 eh hh _ 0 (Nat.zero_add _) _ _ (by rw [ex3_1]; rfl) (by rw [ex4_3]; rfl)
/-- the rows of the flow -/
def cfF (I : Is) (h : Nat) : Int32 := if I 70 h = -1 then 0 else I 9 h
def cfT (I : Is) (h : Nat) : Int32 := if I 70 h = -1 then 0 else I 69 h
def cfW (I : Is) (NH h : Nat) : Int32 := if I 70 h = -1 then 0 else wor (cwP (I 11) (I 70) h) NH
def crJ (I : Is) (NH i : Nat) : Is := W3 I (prf (cfF I) i (fillr (I 65) 5 0)) (prf (cfT I) i (fillr (I 66) 5 0)) (prf (cfW I NH) i (fillr (I 67) 5 0))
theorem prf_skip {f g : Nat → Int32} {i : Nat} (h : g i = f i) : prf f (i + 1) g = prf f i g := by
  rw [← prf_s]
  funext j
  by_cases e : j = i
  · subst e; rw [vu_s, prf_at, h]
  · rw [vu_n _ _ e]
theorem l_X2_canBeRight {nd : Int32} (hN : (I 3 14).toInt = NH) (h5 : NH ≤ 5) : ∀ n i : Nat, i + n = NH → ∀ (J : Is) (x : Int32), J = crJ I NH i → x.toInt = i → RR sc mX2_canBeRight 3 0 0 (rI (bI (grt (crJ I NH NH) = nd)) (XW (crJ I NH NH) L tg)) 0 0 7 [(4, .int x), (0, .ref 68), (1, .ref 3), (2, .ref 64), (3, .int nd)] [] (XW J L tg) := by
  have rd : ∀ (a b c : Nat → Int32) (q : Nat), q ≠ 65 → q ≠ 66 → q ≠ 67 → W3 I a b c q = I q := fun a b c q h1 h2 h3 => W3_n I a b c h1 h2 h3
  intro n
  induction n with
  | zero =>
    intro i hi J x eJ hx
    have e : i = NH := by omega
    subst e
    have hNJ : (J 3 14).toInt = i := by rw [eJ]; unfold crJ; rw [rd _ _ _ 3 (by decide) (by decide) (by decide)]; exact hN
    refine r_iload (j := 0) rfl dX2_canBeRight_7 ?_
    refine r_aload_n (j := 2) rfl rfl dX2_canBeRight_9 ?_
    refine w_getI fX2_30 rfl dX2_canBeRight_10 ?_
    refine r_icmp_ge (tgt := 75) dX2_canBeRight_13 (by decide) (fun c13 => ?_) (fun c13 => ?_)
    · refine r_aload_n (j := 3) rfl rfl dX2_canBeRight_75 ?_
      refine w_cV0p (k_X4_greatest) (Nat.le_of_ble_eq_true rfl) lX2_61 vmX4_greatest rfl (Nat.le_of_ble_eq_true rfl) (Nat.le_of_ble_eq_true rfl) (Nat.le_of_ble_eq_true rfl) dX2_canBeRight_76 ?_
      refine r_iload_n (j := 4) rfl rfl dX2_canBeRight_79 ?_
      refine r_icmp_ne (tgt := 87) dX2_canBeRight_80 (by decide) (fun c80 => ?_) (fun c80 => ?_)
      · refine r_iconst (v := 0) rfl dX2_canBeRight_87 ?_
        refine w_iret rfl (rfl) (Nat.le_of_ble_eq_true rfl) (Nat.le_of_ble_eq_true rfl) dX2_canBeRight_88 ?_
        subst eJ; exact ⟨by first | exact (bI_t c80).symm | exact (bI_f c80).symm, rfl, rfl, rfl⟩
      · refine r_iconst (v := 1) rfl dX2_canBeRight_83 ?_
        refine r_goto (tgt := 88) dX2_canBeRight_84 (by decide) ?_
        refine w_iret rfl (rfl) (Nat.le_of_ble_eq_true rfl) (Nat.le_of_ble_eq_true rfl) dX2_canBeRight_88 ?_
        subst eJ; exact ⟨by first | exact (bI_t c80).symm | exact (bI_f c80).symm, rfl, rfl, rfl⟩
    · exfalso; ((try simp only [bI_0, bI_1, lc_lt, lc_gt, lc_le, lc_ge, Classical.not_not] at *); (try simp only [i_lt, i_le, i_eq, l_lt, l_le, l_eq, Int32.toInt_toInt64, Int32.reduceToInt, Int64.reduceToInt] at *); omega)
  | succ n ih =>
    intro i hi J x eJ hx
    have cx := cl_of hx
    have hin := up_in (N := 5) hx (by omega)
    have hNJ : (J 3 14).toInt = NH := by rw [eJ]; unfold crJ; rw [rd _ _ _ 3 (by decide) (by decide) (by decide)]; exact hN
    have j70 : J 70 = I 70 := by rw [eJ]; unfold crJ; rw [rd _ _ _ 70 (by decide) (by decide) (by decide)]
    have j9 : J 9 = I 9 := by rw [eJ]; unfold crJ; rw [rd _ _ _ 9 (by decide) (by decide) (by decide)]
    have j69 : J 69 = I 69 := by rw [eJ]; unfold crJ; rw [rd _ _ _ 69 (by decide) (by decide) (by decide)]
    have j11 : J 11 = I 11 := by rw [eJ]; unfold crJ; rw [rd _ _ _ 11 (by decide) (by decide) (by decide)]
    have j3 : J 3 = I 3 := by rw [eJ]; unfold crJ; rw [rd _ _ _ 3 (by decide) (by decide) (by decide)]
    refine r_iload (j := 0) rfl dX2_canBeRight_7 ?_
    refine r_aload_n (j := 2) rfl rfl dX2_canBeRight_9 ?_
    refine w_getI fX2_30 rfl dX2_canBeRight_10 ?_
    refine r_icmp_ge (tgt := 75) dX2_canBeRight_13 (by decide) (fun c13 => ?_) (fun c13 => ?_)
    · exfalso; ((try simp only [bI_0, bI_1, lc_lt, lc_gt, lc_le, lc_ge, Classical.not_not] at *); (try simp only [i_lt, i_le, i_eq, l_lt, l_le, l_eq, Int32.toInt_toInt64, Int32.reduceToInt, Int64.reduceToInt] at *); omega)
    · refine r_aload_n (j := 1) rfl rfl dX2_canBeRight_16 ?_
      refine w_getR (b := 70) fX2_15 rfl rfl dX2_canBeRight_17 ?_
      refine r_iload (j := 0) rfl dX2_canBeRight_20 ?_
      refine w_iald rfl (by first | assumption | (rw [vp_in_iff]; ((try simp only [bI_0, bI_1, lc_lt, lc_gt, lc_le, lc_ge, Classical.not_not] at *); (try simp only [i_lt, i_le, i_eq, l_lt, l_le, l_eq, Int32.toInt_toInt64, Int32.reduceToInt, Int64.reduceToInt] at *); omega))) dX2_canBeRight_22 ?_
      refine r_iconst (v := (-1)) rfl dX2_canBeRight_23 ?_
      refine r_icmp_eq (tgt := 69) dX2_canBeRight_24 (by decide) (fun c24 => ?_) (fun c24 => ?_)
      · refine r_iinc (j := 0) (lv' := fun z => [(4, .int z), (0, .ref 68), (1, .ref 3), (2, .ref 64), (3, .int nd)]) dX2_canBeRight_69 rfl (Nat.le_of_ble_eq_true rfl) (fun _ => rfl) (fun x4_69 ex4_69 => ?_)
        refine r_goto (tgt := 7) dX2_canBeRight_72 (by decide) ?_
        rw [cx, j70] at c24
        refine ih (i + 1) (by omega) _ _ ?_ (by rw [ex4_69]; exact i_inc hx (by omega))
        have z : ∀ f : Nat → Int32, fillr f 5 0 i = 0 := fun f => by unfold fillr; rw [if_pos (by omega)]
        unfold crJ at eJ ⊢
        rw [prf_skip (by rw [z]; unfold cfF; rw [if_pos c24]), prf_skip (by rw [z]; unfold cfT; rw [if_pos c24]), prf_skip (by rw [z]; unfold cfW; rw [if_pos c24])]
        exact eJ
      · refine r_aload_n (j := 3) rfl rfl dX2_canBeRight_27 ?_
        refine w_getR (b := 65) fX2_53 rfl rfl dX2_canBeRight_28 ?_
        refine r_iload (j := 0) rfl dX2_canBeRight_31 ?_
        refine r_aload_n (j := 2) rfl rfl dX2_canBeRight_33 ?_
        refine w_getR (b := 9) fX2_68 rfl rfl dX2_canBeRight_34 ?_
        refine r_iload (j := 0) rfl dX2_canBeRight_37 ?_
        refine w_iald rfl (by first | assumption | (rw [vp_in_iff]; ((try simp only [bI_0, bI_1, lc_lt, lc_gt, lc_le, lc_ge, Classical.not_not] at *); (try simp only [i_lt, i_le, i_eq, l_lt, l_le, l_eq, Int32.toInt_toInt64, Int32.reduceToInt, Int64.reduceToInt] at *); omega))) dX2_canBeRight_39 ?_
        refine w_iast rfl (by first | assumption | (rw [vp_in_iff]; ((try simp only [bI_0, bI_1, lc_lt, lc_gt, lc_le, lc_ge, Classical.not_not] at *); (try simp only [i_lt, i_le, i_eq, l_lt, l_le, l_eq, Int32.toInt_toInt64, Int32.reduceToInt, Int64.reduceToInt] at *); omega))) dX2_canBeRight_40 (fun J40 hJ40 => ?_)
        refine r_aload_n (j := 3) rfl rfl dX2_canBeRight_41 ?_
        refine w_getR (b := 66) fX2_58 rfl rfl dX2_canBeRight_42 ?_
        refine r_iload (j := 0) rfl dX2_canBeRight_45 ?_
        refine r_aload_n (j := 1) rfl rfl dX2_canBeRight_47 ?_
        refine w_getR (b := 69) fX2_9 rfl rfl dX2_canBeRight_48 ?_
        refine r_iload (j := 0) rfl dX2_canBeRight_51 ?_
        refine w_iald rfl (by first | assumption | (rw [vp_in_iff]; ((try simp only [bI_0, bI_1, lc_lt, lc_gt, lc_le, lc_ge, Classical.not_not] at *); (try simp only [i_lt, i_le, i_eq, l_lt, l_le, l_eq, Int32.toInt_toInt64, Int32.reduceToInt, Int64.reduceToInt] at *); omega))) dX2_canBeRight_53 ?_
        refine w_iast rfl (by first | assumption | (rw [vp_in_iff]; ((try simp only [bI_0, bI_1, lc_lt, lc_gt, lc_le, lc_ge, Classical.not_not] at *); (try simp only [i_lt, i_le, i_eq, l_lt, l_le, l_eq, Int32.toInt_toInt64, Int32.reduceToInt, Int64.reduceToInt] at *); omega))) dX2_canBeRight_54 (fun J54 hJ54 => ?_)
        refine r_aload_n (j := 3) rfl rfl dX2_canBeRight_55 ?_
        refine w_getR (b := 67) fX2_71 rfl rfl dX2_canBeRight_56 ?_
        refine r_iload (j := 0) rfl dX2_canBeRight_59 ?_
        refine r_aload_n (j := 1) rfl rfl dX2_canBeRight_61 ?_
        refine r_aload_n (j := 2) rfl rfl dX2_canBeRight_62 ?_
        refine r_iload (j := 0) rfl dX2_canBeRight_63 ?_
        refine w_cV2p (k_X2_waysFrom (NH := NH) (by rw [hJ54, up_n _ _ _ (by decide), hJ40, up_n _ _ _ (by decide), j3]; exact hN) h5 hx (by omega)) (Nat.le_of_ble_eq_true rfl) lX2_74 vmX2_waysFrom rfl (Nat.le_of_ble_eq_true rfl) (Nat.le_of_ble_eq_true rfl) (Nat.le_of_ble_eq_true rfl) dX2_canBeRight_65 ?_
        refine w_iast rfl (by first | assumption | (rw [vp_in_iff]; ((try simp only [bI_0, bI_1, lc_lt, lc_gt, lc_le, lc_ge, Classical.not_not] at *); (try simp only [i_lt, i_le, i_eq, l_lt, l_le, l_eq, Int32.toInt_toInt64, Int32.reduceToInt, Int64.reduceToInt] at *); omega))) dX2_canBeRight_68 (fun J68 hJ68 => ?_)
        refine r_iinc (j := 0) (lv' := fun z => [(4, .int z), (0, .ref 68), (1, .ref 3), (2, .ref 64), (3, .int nd)]) dX2_canBeRight_69 rfl (Nat.le_of_ble_eq_true rfl) (fun _ => rfl) (fun x4_69 ex4_69 => ?_)
        refine r_goto (tgt := 7) dX2_canBeRight_72 (by decide) ?_
        rw [cx, j70] at c24
        refine ih (i + 1) (by omega) _ _ ?_ (by rw [ex4_69]; exact i_inc hx (by omega))
        have k11 : J54 11 = I 11 := by rw [hJ54, up_n _ _ _ (by decide), hJ40, up_n _ _ _ (by decide), j11]
        have k70 : J54 70 = I 70 := by rw [hJ54, up_n _ _ _ (by decide), hJ40, up_n _ _ _ (by decide), j70]
        have k69 : J40 69 = I 69 := by rw [hJ40, up_n _ _ _ (by decide), j69]
        rw [hJ68, k11, k70, cx, hJ54, k69, cx, hJ40, j9, cx, eJ]
        unfold crJ
        rw [W3_65, W3_66, W3_67, ← prf_s (cfF I), ← prf_s (cfT I), ← prf_s (cfW I NH)]
        unfold cfF cfT cfW
        rw [if_neg c24, if_neg c24, if_neg c24]
theorem k_X2_canBeRight {nd : Int32} (hN : (I 3 14).toInt = NH) (h5 : NH ≤ 5) : Con sc mX2_canBeRight 3 0 0 [.ref 68, .ref 3, .ref 64, .int nd] (XW I L tg) (rI (bI (grt (crJ I NH NH) = nd)) (XW (crJ I NH NH) L tg)) := by
  refine Con_of (by decide) (Nat.le_of_ble_eq_true rfl) ?_
  refine r_aload_n (j := 2) rfl rfl dX2_canBeRight_0 ?_
  refine w_cV0v (k_X4_clear) (Nat.le_of_ble_eq_true rfl) lX2_65 vmX4_clear rfl (Nat.le_of_ble_eq_true rfl) (Nat.le_of_ble_eq_true rfl) (Nat.le_of_ble_eq_true rfl) dX2_canBeRight_1 (fun J1 K1 hJ1 hK1 => ?_)
  subst hK1
  refine r_iconst (v := 0) rfl dX2_canBeRight_4 ?_
  refine r_istore (lv' := fun z => [(4, .int z), (0, .ref 68), (1, .ref 3), (2, .ref 64), (3, .int nd)]) dX2_canBeRight_5 (Nat.le_of_ble_eq_true rfl) (fun _ => rfl) (fun x4_5 ex4_5 => ?_)
  exact l_X2_canBeRight hN h5 _ 0 (Nat.zero_add _) _ _ (by rw [hJ1, W3_z]; unfold crJ; rw [prf_0, prf_0, prf_0]) (by rw [ex4_5]; rfl)
/-- the fewest runners -/
def mi0 (I : Is) : Is := upr I 70 (va_cpy (I 10) (I 70) 0 0 5)
def crK (J : Is) (i : Nat) : Is := upr J 65 (prf (J 66) i (J 65))
def frV (I : Is) (NH : Nat) : Int32 := if grt (crJ (mi0 I) NH NH) = msS I NH then msS I NH - grt (crK (crJ (mi0 I) NH NH) NH) else -1
def cgF (I : Is) (L : Ls) (tg : Nat) (v0 : Int32) : Int32 → Is → Ls → Nat → Prop := fun v J K t => v = v0 ∧ SB [65, 66, 67, 70, 71, 72] I J ∧ K = L ∧ t = tg
theorem crJ_SB (I : Is) (NH i : Nat) : SB [65, 66, 67, 70, 71, 72] I (crJ I NH i) := (W3_SB _ _ _ _).mono (by decide)
theorem l_X2_fewestRunners {nd : Int32} {J0 : Is} (hSB : SB [65, 66, 67, 70, 71, 72] I J0) (hN : (J0 3 14).toInt = NH) (h5 : NH ≤ 5) : ∀ n i : Nat, i + n = NH → ∀ (J : Is) (x : Int32), J = crK J0 i → x.toInt = i → RR sc mX2_fewestRunners 4 0 0 (gI (cgF I L tg (nd - grt (crK J0 NH)))) 0 0 44 [(4, .int x), (3, .int nd), (0, .ref 68), (1, .ref 3), (2, .ref 64)] [] (XW J L tg) := by
  intro n
  induction n with
  | zero =>
    intro i hi J x eJ hx
    have e : i = NH := by omega
    subst e
    have hNJ : (J 3 14).toInt = i := by rw [eJ]; unfold crK; rw [upr_n _ _ (by decide)]; exact hN
    refine r_iload (j := 0) rfl dX2_fewestRunners_44 ?_
    refine r_aload_n (j := 3) rfl rfl dX2_fewestRunners_46 ?_
    refine w_getI fX2_30 rfl dX2_fewestRunners_47 ?_
    refine r_icmp_ge (tgt := 73) dX2_fewestRunners_50 (by decide) (fun c50 => ?_) (fun c50 => ?_)
    · refine r_iload_n (j := 1) rfl rfl dX2_fewestRunners_73 ?_
      refine r_aload_n (j := 4) rfl rfl dX2_fewestRunners_74 ?_
      refine w_cV0p (k_X4_greatest) (Nat.le_of_ble_eq_true rfl) lX2_61 vmX4_greatest rfl (Nat.le_of_ble_eq_true rfl) (Nat.le_of_ble_eq_true rfl) (Nat.le_of_ble_eq_true rfl) dX2_fewestRunners_75 ?_
      refine r_isub dX2_fewestRunners_78 ?_
      refine w_iretG rfl (rfl) (Nat.le_of_ble_eq_true rfl) (Nat.le_of_ble_eq_true rfl) dX2_fewestRunners_79 ?_
      subst eJ; exact ⟨rfl, hSB.upr (by decide), rfl, rfl⟩
    · exfalso; ((try simp only [bI_0, bI_1, lc_lt, lc_gt, lc_le, lc_ge, Classical.not_not] at *); (try simp only [i_lt, i_le, i_eq, l_lt, l_le, l_eq, Int32.toInt_toInt64, Int32.reduceToInt, Int64.reduceToInt] at *); omega)
  | succ n ih =>
    intro i hi J x eJ hx
    have cx := cl_of hx
    have hin := up_in (N := 5) hx (by omega)
    have hNJ : (J 3 14).toInt = NH := by rw [eJ]; unfold crK; rw [upr_n _ _ (by decide)]; exact hN
    have j66 : J 66 = J0 66 := by rw [eJ]; unfold crK; rw [upr_n _ _ (by decide)]
    refine r_iload (j := 0) rfl dX2_fewestRunners_44 ?_
    refine r_aload_n (j := 3) rfl rfl dX2_fewestRunners_46 ?_
    refine w_getI fX2_30 rfl dX2_fewestRunners_47 ?_
    refine r_icmp_ge (tgt := 73) dX2_fewestRunners_50 (by decide) (fun c50 => ?_) (fun c50 => ?_)
    · exfalso; ((try simp only [bI_0, bI_1, lc_lt, lc_gt, lc_le, lc_ge, Classical.not_not] at *); (try simp only [i_lt, i_le, i_eq, l_lt, l_le, l_eq, Int32.toInt_toInt64, Int32.reduceToInt, Int64.reduceToInt] at *); omega)
    · refine r_aload_n (j := 4) rfl rfl dX2_fewestRunners_53 ?_
      refine w_getR (b := 65) fX2_53 rfl rfl dX2_fewestRunners_54 ?_
      refine r_iload (j := 0) rfl dX2_fewestRunners_57 ?_
      refine r_aload_n (j := 4) rfl rfl dX2_fewestRunners_59 ?_
      refine w_getR (b := 66) fX2_58 rfl rfl dX2_fewestRunners_60 ?_
      refine r_iload (j := 0) rfl dX2_fewestRunners_63 ?_
      refine w_iald rfl (by first | assumption | (rw [vp_in_iff]; ((try simp only [bI_0, bI_1, lc_lt, lc_gt, lc_le, lc_ge, Classical.not_not] at *); (try simp only [i_lt, i_le, i_eq, l_lt, l_le, l_eq, Int32.toInt_toInt64, Int32.reduceToInt, Int64.reduceToInt] at *); omega))) dX2_fewestRunners_65 ?_
      refine w_iast rfl (by first | assumption | (rw [vp_in_iff]; ((try simp only [bI_0, bI_1, lc_lt, lc_gt, lc_le, lc_ge, Classical.not_not] at *); (try simp only [i_lt, i_le, i_eq, l_lt, l_le, l_eq, Int32.toInt_toInt64, Int32.reduceToInt, Int64.reduceToInt] at *); omega))) dX2_fewestRunners_66 (fun J66 hJ66 => ?_)
      refine r_iinc (j := 0) (lv' := fun z => [(4, .int z), (3, .int nd), (0, .ref 68), (1, .ref 3), (2, .ref 64)]) dX2_fewestRunners_67 rfl (Nat.le_of_ble_eq_true rfl) (fun _ => rfl) (fun x4_67 ex4_67 => ?_)
      refine r_goto (tgt := 44) dX2_fewestRunners_70 (by decide) ?_
      refine ih (i + 1) (by omega) _ _ ?_ (by rw [ex4_67]; exact i_inc hx (by omega))
      rw [hJ66, cx, j66, eJ]
      unfold crK
      rw [upr_up, ← prf_s (J0 66)]
theorem msS_cg {I J : Is} (h1 : J 10 = I 10) (h2 : J 69 = I 69) : msS J = msS I := by unfold msS; rw [h1, h2]
theorem k_X2_fewestRunners (hN : (I 3 14).toInt = NH) (h5 : NH ≤ 5) : Con sc mX2_fewestRunners 4 0 0 [.ref 68, .ref 3, .ref 64] (XW I L tg) (gI (cgF I L tg (if 10 < (msS I NH).toInt then -3 else frV I NH))) := by
  refine Con_of (by decide) (Nat.le_of_ble_eq_true rfl) ?_
  refine r_aload_n (j := 0) rfl rfl dX2_fewestRunners_0 ?_
  refine r_aload_n (j := 1) rfl rfl dX2_fewestRunners_1 ?_
  refine w_cV1p (k_X2_missingAtCounts hN h5) (Nat.le_of_ble_eq_true rfl) lX2_39 vmX2_missingAtCounts rfl (Nat.le_of_ble_eq_true rfl) (Nat.le_of_ble_eq_true rfl) (Nat.le_of_ble_eq_true rfl) dX2_fewestRunners_2 ?_
  refine r_istore_n (lv' := fun z => [(3, .int z), (0, .ref 68), (1, .ref 3), (2, .ref 64)]) dX2_fewestRunners_5 rfl (Nat.le_of_ble_eq_true rfl) (fun _ => rfl) (fun x3_5 ex3_5 => ?_)
  refine r_iload_n (j := 0) rfl rfl dX2_fewestRunners_6 ?_
  refine r_bipush (v := 10) rfl dX2_fewestRunners_7 ?_
  refine r_icmp_le (tgt := 15) dX2_fewestRunners_9 (by decide) (fun c9 => ?_) (fun c9 => ?_)
  · refine r_aload_n (j := 2) rfl rfl dX2_fewestRunners_15 ?_
    refine w_getR (b := 10) fX2_36 rfl rfl dX2_fewestRunners_16 ?_
    refine r_iconst (v := 0) rfl dX2_fewestRunners_19 ?_
    refine r_aload_n (j := 1) rfl rfl dX2_fewestRunners_20 ?_
    refine w_getR (b := 70) fX2_15 rfl rfl dX2_fewestRunners_21 ?_
    refine r_iconst (v := 0) rfl dX2_fewestRunners_24 ?_
    refine r_iconst (v := 5) rfl dX2_fewestRunners_25 ?_
    refine w_copy rfl rfl (by decide +kernel) (by decide +kernel) (by decide +kernel) (by decide +kernel) (by decide +kernel) aX2_43 (Nat.le_of_ble_eq_true rfl) (Nat.le_of_ble_eq_true rfl) dX2_fewestRunners_26 (fun J26 hJ26 => ?_)
    have eI : J26 = mi0 I := hJ26
    rw [ex3_5, i_le] at c9
    have c9 : (msS I NH).toInt ≤ 10 := c9
    rw [if_neg (show ¬ 10 < (msS I NH).toInt by omega)]
    have hN2 : (J26 3 14).toInt = NH := by rw [eI]; unfold mi0; rw [upr_n _ _ (by decide)]; exact hN
    have hs0 : SB [65, 66, 67, 70, 71, 72] I J26 := by rw [eI]; exact SB.rf.upr (by decide)
    refine r_aload_n (j := 1) rfl rfl dX2_fewestRunners_29 ?_
    refine r_aload_n (j := 2) rfl rfl dX2_fewestRunners_30 ?_
    refine r_aload_n (j := 3) rfl rfl dX2_fewestRunners_31 ?_
    refine r_iload_n (j := 0) rfl rfl dX2_fewestRunners_32 ?_
    refine w_cV3s (k_X2_canBeRight hN2 h5) (Nat.le_of_ble_eq_true rfl) lX2_49 vmX2_canBeRight rfl (Nat.le_of_ble_eq_true rfl) (Nat.le_of_ble_eq_true rfl) (Nat.le_of_ble_eq_true rfl) dX2_fewestRunners_33 (fun J33 K33 hJ33 hK33 => ?_)
    subst hK33
    refine r_if_ne (tgt := 41) dX2_fewestRunners_36 (by decide) (fun c36 => ?_) (fun c36 => ?_)
    · refine r_iconst (v := 0) rfl dX2_fewestRunners_41 ?_
      refine r_istore (lv' := fun z => [(4, .int z), (3, .int x3_5), (0, .ref 68), (1, .ref 3), (2, .ref 64)]) dX2_fewestRunners_42 (Nat.le_of_ble_eq_true rfl) (fun _ => rfl) (fun x4_42 ex4_42 => ?_)
      rw [ex3_5, eI] at c36
      have ev : frV I NH = msS I NH - grt (crK (crJ (mi0 I) NH NH) NH) := by unfold frV; rw [if_pos (bI_1.mp c36)]
      rw [ev, ex3_5, ← eI, ← hJ33]
      refine l_X2_fewestRunners (J0 := J33) (by rw [hJ33]; exact hs0.tr (crJ_SB _ _ _)) (by rw [hJ33]; unfold crJ; rw [W3_n _ _ _ _ (by decide) (by decide) (by decide)]; exact hN2) h5 _ 0 (Nat.zero_add _) _ _ ?_ (by rw [ex4_42]; rfl)
      unfold crK
      rw [prf_0, upr_id]
    · refine r_iconst (v := (-1)) rfl dX2_fewestRunners_39 ?_
      refine w_iretG rfl (rfl) (Nat.le_of_ble_eq_true rfl) (Nat.le_of_ble_eq_true rfl) dX2_fewestRunners_40 ?_
      rw [ex3_5, eI] at c36
      rw [hJ33]
      refine ⟨?_, hs0.tr (crJ_SB _ _ _), rfl, rfl⟩
      unfold frV
      rw [if_neg (bI_0.mp c36)]
  · refine r_bipush (v := (-3)) rfl dX2_fewestRunners_12 ?_
    refine w_iretG rfl (rfl) (Nat.le_of_ble_eq_true rfl) (Nat.le_of_ble_eq_true rfl) dX2_fewestRunners_14 ?_
    rw [ex3_5, i_le] at c9; have c9 : ¬ (msS I NH).toInt ≤ 10 := c9; exact ⟨by rw [if_pos (by omega)], SB.rf, rfl, rfl⟩
theorem k_X11_runners (hN : (I 3 14).toInt = NH) (h5 : NH ≤ 5) : Con sc mX11_runners 5 0 0 [.ref 0] (XW I L tg) (gI (cgF I L tg (if 10 < (msS I NH).toInt then -3 else frV I NH))) := by
  refine Con_of (by decide) (Nat.le_of_ble_eq_true rfl) ?_
  refine r_aload_n (j := 0) rfl rfl dX11_runners_0 ?_
  refine w_getR (b := 68) fX11_56 rfl rfl dX11_runners_1 ?_
  refine r_aload_n (j := 0) rfl rfl dX11_runners_4 ?_
  refine w_getR (b := 3) fX11_19 rfl rfl dX11_runners_5 ?_
  refine r_aload_n (j := 0) rfl rfl dX11_runners_8 ?_
  refine w_getR (b := 64) fX11_49 rfl rfl dX11_runners_9 ?_
  refine w_cV2g (k_X2_fewestRunners hN h5) (Nat.le_of_ble_eq_true rfl) lX11_216 vmX2_fewestRunners rfl (Nat.le_of_ble_eq_true rfl) (Nat.le_of_ble_eq_true rfl) (Nat.le_of_ble_eq_true rfl) dX11_runners_12 (fun v12 J12 K12 t12 h12 => ?_)
  obtain ⟨hv, hJ, hK, ht⟩ := h12
  refine w_iretG rfl (rfl) (Nat.le_of_ble_eq_true rfl) (Nat.le_of_ble_eq_true rfl) dX11_runners_15 ?_
  exact ⟨hv, hJ, hK, ht⟩
end
