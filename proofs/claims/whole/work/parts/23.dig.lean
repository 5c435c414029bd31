/-! digging: sums, boards, shifts -/
def nN (x : Int32) : Nat := x.toNatClampNeg
def sm (f : Nat → Int32) : Nat → Int32
  | 0 => 0
  | n + 1 => sm f n + f n
theorem i_inc {x : Int32} {i : Nat} (h : x.toInt = i) (hi : i < 2000000000) : (x + Int32.ofInt 1).toInt = ((i + 1 : Nat) : Int) := by
  rw [ofI_1, i_add] <;> simp only [Int32.reduceToInt] <;> omega
theorem cl_of {x : Int32} {i : Nat} (h : x.toInt = i) : x.toNatClampNeg = i := by
  show x.toInt.toNat = i
  omega
theorem nN_of {x : Int32} (h : 0 ≤ x.toInt) : x.toInt = (nN x : Int) := (i_cl h).symm
theorem t0 : (0 : Int32).toInt = ((0 : Nat) : Int) := rfl
theorem t1 : (1 : Int32).toInt = ((1 : Nat) : Int) := rfl
def bAll (I : Is) : Int32 := sm (I 9) (nN (I 3 14)) * iMax 0 (I 4 12 - I 4 13)
theorem l_X0_allBoards {sc : Sc} {I : Is} {L : Ls} {tg N : Nat} (hN : (I 3 14).toInt = N) (h5 : N ≤ 5) : ∀ n i : Nat, i + n = N → ∀ a x : Int32, a = sm (I 9) i → x.toInt = i → RR sc mX0_allBoards 1 0 0 (rI (sm (I 9) N * iMax 0 (I 4 12 - I 4 13)) (XW I L tg)) 0 0 4 [(2, .int x), (1, .int a), (0, .ref 3)] [] (XW I L tg) := by
  intro n
  induction n with
  | zero =>
    intro i hi a x ea hx
    refine r_iload_n (j := 0) rfl rfl dX0_allBoards_4 ?_
    refine r_aload_n (j := 2) rfl rfl dX0_allBoards_5 ?_
    refine w_getI fX0_74 rfl dX0_allBoards_6 ?_
    refine r_icmp_ge (tgt := 27) dX0_allBoards_9 (by decide) (fun c9 => ?_) (fun c9 => ?_)
    · refine r_iload_n (j := 1) rfl rfl dX0_allBoards_27 ?_
      refine r_iconst (v := 0) rfl dX0_allBoards_28 ?_
      refine r_aload_n (j := 2) rfl rfl dX0_allBoards_29 ?_
      refine w_getR (b := 4) fX0_15 rfl rfl dX0_allBoards_30 ?_
      refine r_bipush (v := 12) rfl dX0_allBoards_33 ?_
      refine w_iald rfl (by first | assumption | (rw [vp_in_iff]; ((try simp only [bI_0, bI_1, lc_lt, lc_gt, lc_le, lc_ge, Classical.not_not] at *); (try simp only [i_lt, i_le, i_eq, l_lt, l_le, l_eq, Int32.toInt_toInt64, Int32.reduceToInt, Int64.reduceToInt] at *); omega))) dX0_allBoards_35 ?_
      refine r_aload_n (j := 2) rfl rfl dX0_allBoards_36 ?_
      refine w_getR (b := 4) fX0_15 rfl rfl dX0_allBoards_37 ?_
      refine r_bipush (v := 13) rfl dX0_allBoards_40 ?_
      refine w_iald rfl (by first | assumption | (rw [vp_in_iff]; ((try simp only [bI_0, bI_1, lc_lt, lc_gt, lc_le, lc_ge, Classical.not_not] at *); (try simp only [i_lt, i_le, i_eq, l_lt, l_le, l_eq, Int32.toInt_toInt64, Int32.reduceToInt, Int64.reduceToInt] at *); omega))) dX0_allBoards_42 ?_
      refine r_isub dX0_allBoards_43 ?_
      refine r_mmax lmX0_91 (Nat.le_of_ble_eq_true rfl) (Nat.le_of_ble_eq_true rfl) (Nat.le_of_ble_eq_true rfl) (Nat.le_of_ble_eq_true rfl) dX0_allBoards_44 ?_
      refine r_imul dX0_allBoards_47 ?_
      refine w_iret rfl (rfl) (Nat.le_of_ble_eq_true rfl) (Nat.le_of_ble_eq_true rfl) dX0_allBoards_48 ?_
      exact ⟨by rw [ea, show i = N by omega]; rfl, rfl, rfl, rfl⟩
    · exfalso; ((try simp only [bI_0, bI_1, lc_lt, lc_gt, lc_le, lc_ge, Classical.not_not] at *); (try simp only [i_lt, i_le, i_eq, l_lt, l_le, l_eq, Int32.toInt_toInt64, Int32.reduceToInt, Int64.reduceToInt] at *); omega)
  | succ n ih =>
    intro i hi a x ea hx
    refine r_iload_n (j := 0) rfl rfl dX0_allBoards_4 ?_
    refine r_aload_n (j := 2) rfl rfl dX0_allBoards_5 ?_
    refine w_getI fX0_74 rfl dX0_allBoards_6 ?_
    refine r_icmp_ge (tgt := 27) dX0_allBoards_9 (by decide) (fun c9 => ?_) (fun c9 => ?_)
    · exfalso; ((try simp only [bI_0, bI_1, lc_lt, lc_gt, lc_le, lc_ge, Classical.not_not] at *); (try simp only [i_lt, i_le, i_eq, l_lt, l_le, l_eq, Int32.toInt_toInt64, Int32.reduceToInt, Int64.reduceToInt] at *); omega)
    · refine r_iload_n (j := 1) rfl rfl dX0_allBoards_12 ?_
      refine r_aload_n (j := 2) rfl rfl dX0_allBoards_13 ?_
      refine w_getR (b := 9) fX0_32 rfl rfl dX0_allBoards_14 ?_
      refine r_iload_n (j := 0) rfl rfl dX0_allBoards_17 ?_
      refine w_iald rfl (by first | assumption | (rw [vp_in_iff]; ((try simp only [bI_0, bI_1, lc_lt, lc_gt, lc_le, lc_ge, Classical.not_not] at *); (try simp only [i_lt, i_le, i_eq, l_lt, l_le, l_eq, Int32.toInt_toInt64, Int32.reduceToInt, Int64.reduceToInt] at *); omega))) dX0_allBoards_18 ?_
      refine r_iadd dX0_allBoards_19 ?_
      refine r_istore_n (lv' := fun z => [(1, .int z), (2, .int x), (0, .ref 3)]) dX0_allBoards_20 rfl (Nat.le_of_ble_eq_true rfl) (fun _ => rfl) (fun x1_20 ex1_20 => ?_)
      refine r_iinc (j := 1) (lv' := fun z => [(2, .int z), (1, .int x1_20), (0, .ref 3)]) dX0_allBoards_21 rfl (Nat.le_of_ble_eq_true rfl) (fun _ => rfl) (fun x2_21 ex2_21 => ?_)
      refine r_goto (tgt := 4) dX0_allBoards_24 (by decide) ?_
      exact ih (i + 1) (by omega) _ _ (by rw [ex1_20, ea, cl_of hx]; rfl) (by rw [ex2_21]; exact i_inc hx (by omega))
theorem k_X0_allBoards {sc : Sc} {I : Is} {L : Ls} {tg : Nat} (h0 : 0 ≤ (I 3 14).toInt) (h5 : (I 3 14).toInt ≤ 5) : Con sc mX0_allBoards 1 0 0 [.ref 3] (XW I L tg) (rI (bAll I) (XW I L tg)) := by
  refine Con_of (by decide) (Nat.le_of_ble_eq_true rfl) ?_
  have hN := nN_of h0
  refine r_iconst (v := 0) rfl dX0_allBoards_0 ?_
  refine r_istore_n (lv' := fun z => [(1, .int z), (0, .ref 3)]) dX0_allBoards_1 rfl (Nat.le_of_ble_eq_true rfl) (fun _ => rfl) (fun x1_1 ex1_1 => ?_)
  refine r_iconst (v := 0) rfl dX0_allBoards_2 ?_
  refine r_istore_n (lv' := fun z => [(2, .int z), (1, .int x1_1), (0, .ref 3)]) dX0_allBoards_3 rfl (Nat.le_of_ble_eq_true rfl) (fun _ => rfl) (fun x2_3 ex2_3 => ?_)
  exact l_X0_allBoards hN (by omega) _ 0 (Nat.zero_add _) _ _ ex1_1 (by rw [ex2_3]; rfl)
theorem k_X3_boardsLeft {sc : Sc} {I : Is} {L : Ls} {tg : Nat} (h0 : 0 ≤ (I 3 14).toInt) (h5 : (I 3 14).toInt ≤ 5) : Con sc mX3_boardsLeft 2 0 0 [.ref 36, .ref 3] (XW I L tg) (rI (bAll I - I 36 9) (XW I L tg)) := by
  refine Con_of (by decide) (Nat.le_of_ble_eq_true rfl) ?_
  refine r_aload_n (j := 1) rfl rfl dX3_boardsLeft_0 ?_
  refine w_cV0p (k_X0_allBoards h0 h5) (Nat.le_of_ble_eq_true rfl) lX3_89 vmX0_allBoards rfl (Nat.le_of_ble_eq_true rfl) (Nat.le_of_ble_eq_true rfl) (Nat.le_of_ble_eq_true rfl) dX3_boardsLeft_1 ?_
  refine r_aload_n (j := 0) rfl rfl dX3_boardsLeft_4 ?_
  refine w_getI fX3_44 rfl dX3_boardsLeft_5 ?_
  refine r_isub dX3_boardsLeft_8 ?_
  refine w_iret rfl (rfl) (Nat.le_of_ble_eq_true rfl) (Nat.le_of_ble_eq_true rfl) dX3_boardsLeft_9 ?_
  exact ⟨rfl, rfl, rfl, rfl⟩
def bdd (I : Is) (m : Int32) : Int32 := if I 4 8 ≤ 0 then m else iMin m ((bAll I - I 36 9) / I 4 8)
theorem k_X3_boarded {sc : Sc} {I : Is} {L : Ls} {tg : Nat} {m : Int32} (h0 : 0 ≤ (I 3 14).toInt) (h5 : (I 3 14).toInt ≤ 5) : Con sc mX3_boarded 3 0 0 [.ref 36, .ref 3, .int m] (XW I L tg) (rI (bdd I m) (XW I L tg)) := by
  refine Con_of (by decide) (Nat.le_of_ble_eq_true rfl) ?_
  refine r_aload_n (j := 1) rfl rfl dX3_boarded_0 ?_
  refine r_bipush (v := 8) rfl dX3_boarded_1 ?_
  refine w_cV1p (k_X0_setting (by decide) (by decide)) (Nat.le_of_ble_eq_true rfl) lX3_73 vmX0_setting rfl (Nat.le_of_ble_eq_true rfl) (Nat.le_of_ble_eq_true rfl) (Nat.le_of_ble_eq_true rfl) dX3_boarded_3 ?_
  refine r_istore_n (lv' := fun z => [(3, .int z), (0, .ref 36), (1, .ref 3), (2, .int m)]) dX3_boarded_6 rfl (Nat.le_of_ble_eq_true rfl) (fun _ => rfl) (fun x3_6 ex3_6 => ?_)
  refine r_iload_n (j := 0) rfl rfl dX3_boarded_7 ?_
  refine r_if_le (tgt := 25) dX3_boarded_8 (by decide) (fun c8 => ?_) (fun c8 => ?_)
  · refine r_iload_n (j := 3) rfl rfl dX3_boarded_25 ?_
    refine w_iret rfl (rfl) (Nat.le_of_ble_eq_true rfl) (Nat.le_of_ble_eq_true rfl) dX3_boarded_26 ?_
    exact ⟨by unfold bdd; subst ex3_6; first | exact (if_pos c8).symm | exact (if_neg c8).symm, rfl, rfl, rfl⟩
  · refine r_iload_n (j := 3) rfl rfl dX3_boarded_11 ?_
    refine r_aload_n (j := 1) rfl rfl dX3_boarded_12 ?_
    refine r_aload_n (j := 2) rfl rfl dX3_boarded_13 ?_
    refine w_cV1p (k_X3_boardsLeft h0 h5) (Nat.le_of_ble_eq_true rfl) lX3_80 vmX3_boardsLeft rfl (Nat.le_of_ble_eq_true rfl) (Nat.le_of_ble_eq_true rfl) (Nat.le_of_ble_eq_true rfl) dX3_boarded_14 ?_
    refine r_iload_n (j := 0) rfl rfl dX3_boarded_17 ?_
    refine r_idiv (by ((try simp only [bI_0, bI_1, lc_lt, lc_gt, lc_le, lc_ge, Classical.not_not] at *); (try simp only [i_lt, i_le, i_eq, l_lt, l_le, l_eq, Int32.toInt_toInt64, Int32.reduceToInt, Int64.reduceToInt] at *); omega)) dX3_boarded_18 ?_
    refine r_mmin lmX3_84 (Nat.le_of_ble_eq_true rfl) (Nat.le_of_ble_eq_true rfl) (Nat.le_of_ble_eq_true rfl) (Nat.le_of_ble_eq_true rfl) dX3_boarded_19 ?_
    refine r_goto (tgt := 26) dX3_boarded_22 (by decide) ?_
    refine w_iret rfl (rfl) (Nat.le_of_ble_eq_true rfl) (Nat.le_of_ble_eq_true rfl) dX3_boarded_26 ?_
    exact ⟨by unfold bdd; subst ex3_6; first | exact (if_pos c8).symm | exact (if_neg c8).symm, rfl, rfl, rfl⟩
def pmp (air feet : Int32) : Int32 := if air ≤ 0 then 0 else feet / air
theorem k_X0_pumpMen {sc : Sc} {I : Is} {L : Ls} {tg : Nat} {f : Int32} : Con sc mX0_pumpMen 0 0 0 [.ref 3, .int f] (XW I L tg) (rI (pmp (I 4 9) f) (XW I L tg)) := by
  refine Con_of (by decide) (Nat.le_of_ble_eq_true rfl) ?_
  refine r_aload_n (j := 0) rfl rfl dX0_pumpMen_0 ?_
  refine w_getR (b := 4) fX0_15 rfl rfl dX0_pumpMen_1 ?_
  refine r_bipush (v := 9) rfl dX0_pumpMen_4 ?_
  refine w_iald rfl (by first | assumption | (rw [vp_in_iff]; ((try simp only [bI_0, bI_1, lc_lt, lc_gt, lc_le, lc_ge, Classical.not_not] at *); (try simp only [i_lt, i_le, i_eq, l_lt, l_le, l_eq, Int32.toInt_toInt64, Int32.reduceToInt, Int64.reduceToInt] at *); omega))) dX0_pumpMen_6 ?_
  refine r_istore_n (lv' := fun z => [(2, .int z), (0, .ref 3), (1, .int f)]) dX0_pumpMen_7 rfl (Nat.le_of_ble_eq_true rfl) (fun _ => rfl) (fun x2_7 ex2_7 => ?_)
  refine r_iload_n (j := 0) rfl rfl dX0_pumpMen_8 ?_
  refine r_if_le (tgt := 18) dX0_pumpMen_9 (by decide) (fun c9 => ?_) (fun c9 => ?_)
  · refine r_iconst (v := 0) rfl dX0_pumpMen_18 ?_
    refine w_iret rfl (rfl) (Nat.le_of_ble_eq_true rfl) (Nat.le_of_ble_eq_true rfl) dX0_pumpMen_19 ?_
    exact ⟨by unfold pmp; subst ex2_7; first | exact (if_pos c9).symm | exact (if_neg c9).symm, rfl, rfl, rfl⟩
  · refine r_iload_n (j := 2) rfl rfl dX0_pumpMen_12 ?_
    refine r_iload_n (j := 0) rfl rfl dX0_pumpMen_13 ?_
    refine r_idiv (by ((try simp only [bI_0, bI_1, lc_lt, lc_gt, lc_le, lc_ge, Classical.not_not] at *); (try simp only [i_lt, i_le, i_eq, l_lt, l_le, l_eq, Int32.toInt_toInt64, Int32.reduceToInt, Int64.reduceToInt] at *); omega)) dX0_pumpMen_14 ?_
    refine r_goto (tgt := 19) dX0_pumpMen_15 (by decide) ?_
    refine w_iret rfl (rfl) (Nat.le_of_ble_eq_true rfl) (Nat.le_of_ble_eq_true rfl) dX0_pumpMen_19 ?_
    exact ⟨by unfold pmp; subst ex2_7; first | exact (if_pos c9).symm | exact (if_neg c9).symm, rfl, rfl, rfl⟩
def tdg (air pace feet men : Int32) : Int32 := iMax 0 (men - pmp air feet) * pace
theorem k_X0_tenthsDug {sc : Sc} {I : Is} {L : Ls} {tg : Nat} {f m : Int32} : Con sc mX0_tenthsDug 1 0 0 [.ref 3, .int f, .int m] (XW I L tg) (rI (tdg (I 4 9) (I 4 10) f m) (XW I L tg)) := by
  refine Con_of (by decide) (Nat.le_of_ble_eq_true rfl) ?_
  refine r_iconst (v := 0) rfl dX0_tenthsDug_0 ?_
  refine r_iload_n (j := 2) rfl rfl dX0_tenthsDug_1 ?_
  refine r_aload_n (j := 0) rfl rfl dX0_tenthsDug_2 ?_
  refine r_iload_n (j := 1) rfl rfl dX0_tenthsDug_3 ?_
  refine w_cV1p (k_X0_pumpMen) (Nat.le_of_ble_eq_true rfl) lX0_101 vmX0_pumpMen rfl (Nat.le_of_ble_eq_true rfl) (Nat.le_of_ble_eq_true rfl) (Nat.le_of_ble_eq_true rfl) dX0_tenthsDug_4 ?_
  refine r_isub dX0_tenthsDug_7 ?_
  refine r_mmax lmX0_91 (Nat.le_of_ble_eq_true rfl) (Nat.le_of_ble_eq_true rfl) (Nat.le_of_ble_eq_true rfl) (Nat.le_of_ble_eq_true rfl) dX0_tenthsDug_8 ?_
  refine r_aload_n (j := 0) rfl rfl dX0_tenthsDug_11 ?_
  refine w_getR (b := 4) fX0_15 rfl rfl dX0_tenthsDug_12 ?_
  refine r_bipush (v := 10) rfl dX0_tenthsDug_15 ?_
  refine w_iald rfl (by first | assumption | (rw [vp_in_iff]; ((try simp only [bI_0, bI_1, lc_lt, lc_gt, lc_le, lc_ge, Classical.not_not] at *); (try simp only [i_lt, i_le, i_eq, l_lt, l_le, l_eq, Int32.toInt_toInt64, Int32.reduceToInt, Int64.reduceToInt] at *); omega))) dX0_tenthsDug_17 ?_
  refine r_imul dX0_tenthsDug_18 ?_
  refine w_iret rfl (rfl) (Nat.le_of_ble_eq_true rfl) (Nat.le_of_ble_eq_true rfl) dX0_tenthsDug_19 ?_
  exact ⟨rfl, rfl, rfl, rfl⟩
/-- tenths after so many shifts -/
def tnn (air pace men : Int32) : Nat → Int32
  | 0 => 0
  | k + 1 => tnn air pace men k + tdg air pace (tnn air pace men k / 10) men
/-- the first of n numbers from k on -/
def fsk (p : Nat → Bool) : Nat → Nat → Int32
  | 0, _ => -1
  | n + 1, k => if p k then nI k else fsk p n (k + 1)
def shf (air pace feet men : Int32) : Int32 := fsk (fun k => decide (feet ≤ tnn air pace men k / 10)) 400 1
theorem l_X0_shiftsFor {sc : Sc} {I : Is} {L : Ls} {tg : Nat} {f m : Int32} : ∀ n k : Nat, k + n = 401 → 1 ≤ k → ∀ t x : Int32, t = tnn (I 4 9) (I 4 10) m (k - 1) → x.toInt = k → RR sc mX0_shiftsFor 2 0 0 (rI (fsk (fun k => decide (f ≤ tnn (I 4 9) (I 4 10) m k / 10)) n k) (XW I L tg)) 0 0 5 [(4, .int x), (3, .int t), (0, .ref 3), (1, .int f), (2, .int m)] [] (XW I L tg) := by
  intro n
  induction n with
  | zero =>
    intro k hk h1 t x et hx
    refine r_iload (j := 0) rfl dX0_shiftsFor_5 ?_
    refine r_sipush (v := 400) rfl dX0_shiftsFor_7 ?_
    refine r_icmp_gt (tgt := 42) dX0_shiftsFor_10 (by decide) (fun c10 => ?_) (fun c10 => ?_)
    · refine r_iconst (v := (-1)) rfl dX0_shiftsFor_42 ?_
      refine w_iret rfl (rfl) (Nat.le_of_ble_eq_true rfl) (Nat.le_of_ble_eq_true rfl) dX0_shiftsFor_43 ?_
      exact ⟨rfl, rfl, rfl, rfl⟩
    · exfalso; ((try simp only [bI_0, bI_1, lc_lt, lc_gt, lc_le, lc_ge, Classical.not_not] at *); (try simp only [i_lt, i_le, i_eq, l_lt, l_le, l_eq, Int32.toInt_toInt64, Int32.reduceToInt, Int64.reduceToInt] at *); omega)
  | succ n ih =>
    intro k hk h1 t x et hx
    refine r_iload (j := 0) rfl dX0_shiftsFor_5 ?_
    refine r_sipush (v := 400) rfl dX0_shiftsFor_7 ?_
    refine r_icmp_gt (tgt := 42) dX0_shiftsFor_10 (by decide) (fun c10 => ?_) (fun c10 => ?_)
    · exfalso; ((try simp only [bI_0, bI_1, lc_lt, lc_gt, lc_le, lc_ge, Classical.not_not] at *); (try simp only [i_lt, i_le, i_eq, l_lt, l_le, l_eq, Int32.toInt_toInt64, Int32.reduceToInt, Int64.reduceToInt] at *); omega)
    · refine r_iload_n (j := 1) rfl rfl dX0_shiftsFor_13 ?_
      refine r_aload_n (j := 2) rfl rfl dX0_shiftsFor_14 ?_
      refine r_iload_n (j := 1) rfl rfl dX0_shiftsFor_15 ?_
      refine r_bipush (v := 10) rfl dX0_shiftsFor_16 ?_
      refine r_idiv (by first | assumption | decide) dX0_shiftsFor_18 ?_
      refine r_iload_n (j := 4) rfl rfl dX0_shiftsFor_19 ?_
      refine w_cV2p (k_X0_tenthsDug) (Nat.le_of_ble_eq_true rfl) lX0_104 vmX0_tenthsDug rfl (Nat.le_of_ble_eq_true rfl) (Nat.le_of_ble_eq_true rfl) (Nat.le_of_ble_eq_true rfl) dX0_shiftsFor_20 ?_
      refine r_iadd dX0_shiftsFor_23 ?_
      refine r_istore_n (lv' := fun z => [(3, .int z), (4, .int x), (0, .ref 3), (1, .int f), (2, .int m)]) dX0_shiftsFor_24 rfl (Nat.le_of_ble_eq_true rfl) (fun _ => rfl) (fun x3_24 ex3_24 => ?_)
      have et2 : x3_24 = tnn (I 4 9) (I 4 10) m k := by rw [ex3_24, et]; obtain ⟨k, rfl⟩ : ∃ q, k = q + 1 := ⟨k - 1, by omega⟩; rfl
      refine r_iload_n (j := 0) rfl rfl dX0_shiftsFor_25 ?_
      refine r_bipush (v := 10) rfl dX0_shiftsFor_26 ?_
      refine r_idiv (by first | assumption | decide) dX0_shiftsFor_28 ?_
      refine r_iload_n (j := 3) rfl rfl dX0_shiftsFor_29 ?_
      refine r_icmp_lt (tgt := 36) dX0_shiftsFor_30 (by decide) (fun c30 => ?_) (fun c30 => ?_)
      · refine r_iinc (j := 1) (lv' := fun z => [(4, .int z), (3, .int x3_24), (0, .ref 3), (1, .int f), (2, .int m)]) dX0_shiftsFor_36 rfl (Nat.le_of_ble_eq_true rfl) (fun _ => rfl) (fun x4_36 ex4_36 => ?_)
        refine r_goto (tgt := 5) dX0_shiftsFor_39 (by decide) ?_
        have e9 : fsk (fun k => decide (f ≤ tnn (I 4 9) (I 4 10) m k / 10)) (n + 1) k = fsk (fun k => decide (f ≤ tnn (I 4 9) (I 4 10) m k / 10)) n (k + 1) := by
          rw [fsk]
          exact if_neg (by rw [decide_eq_true_eq, ← et2]; exact Int32.not_le.mpr c30)
        rw [e9]
        exact ih (k + 1) (by omega) (by omega) _ _ (by rw [et2]; rfl) (by rw [ex4_36]; exact i_inc hx (by omega))
      · refine r_iload (j := 1) rfl dX0_shiftsFor_33 ?_
        refine w_iret rfl (rfl) (Nat.le_of_ble_eq_true rfl) (Nat.le_of_ble_eq_true rfl) dX0_shiftsFor_35 ?_
        exact ⟨by unfold fsk; rw [if_pos (by rw [decide_eq_true_eq, ← et2]; exact Int32.not_lt.mp c30)]; rw [i_eq, hx, nI_toInt (by omega)], rfl, rfl, rfl⟩
theorem k_X0_shiftsFor {sc : Sc} {I : Is} {L : Ls} {tg : Nat} {f m : Int32} : Con sc mX0_shiftsFor 2 0 0 [.ref 3, .int f, .int m] (XW I L tg) (rI (shf (I 4 9) (I 4 10) f m) (XW I L tg)) := by
  refine Con_of (by decide) (Nat.le_of_ble_eq_true rfl) ?_
  refine r_iconst (v := 0) rfl dX0_shiftsFor_0 ?_
  refine r_istore_n (lv' := fun z => [(3, .int z), (0, .ref 3), (1, .int f), (2, .int m)]) dX0_shiftsFor_1 rfl (Nat.le_of_ble_eq_true rfl) (fun _ => rfl) (fun x3_1 ex3_1 => ?_)
  refine r_iconst (v := 1) rfl dX0_shiftsFor_2 ?_
  refine r_istore (lv' := fun z => [(4, .int z), (3, .int x3_1), (0, .ref 3), (1, .int f), (2, .int m)]) dX0_shiftsFor_3 (Nat.le_of_ble_eq_true rfl) (fun _ => rfl) (fun x4_3 ex4_3 => ?_)
  exact l_X0_shiftsFor 400 1 rfl (by omega) _ _ ex3_1 (by rw [ex4_3]; rfl)
def irc (gx hx : Nat → Int32) (bk : Nat → Int32) (rc : Int32) (h g : Nat) : Prop := iAbs (gx g - hx h) + bk h ≤ rc
theorem k_X0_isInReach {sc : Sc} {I : Is} {L : Ls} {tg : Nat} {h g : Int32} {hn gn : Nat} (eh : h.toInt = hn) (eg : g.toInt = gn) (h5 : hn < 5) (g4 : gn < 4) : Con sc mX0_isInReach 1 0 0 [.ref 3, .int h, .int g] (XW I L tg) (rI (bI (iAbs (I 13 gn - I 7 hn) + I 8 hn ≤ I 4 7)) (XW I L tg)) := by
  refine Con_of (by decide) (Nat.le_of_ble_eq_true rfl) ?_
  have ch := cl_of eh
  have cg := cl_of eg
  refine r_aload_n (j := 0) rfl rfl dX0_isInReach_0 ?_
  refine w_getR (b := 13) fX0_44 rfl rfl dX0_isInReach_1 ?_
  refine r_iload_n (j := 2) rfl rfl dX0_isInReach_4 ?_
  refine w_iald rfl (by first | assumption | (rw [vp_in_iff]; ((try simp only [bI_0, bI_1, lc_lt, lc_gt, lc_le, lc_ge, Classical.not_not] at *); (try simp only [i_lt, i_le, i_eq, l_lt, l_le, l_eq, Int32.toInt_toInt64, Int32.reduceToInt, Int64.reduceToInt] at *); omega))) dX0_isInReach_5 ?_
  refine r_aload_n (j := 0) rfl rfl dX0_isInReach_6 ?_
  refine w_getR (b := 7) fX0_26 rfl rfl dX0_isInReach_7 ?_
  refine r_iload_n (j := 1) rfl rfl dX0_isInReach_10 ?_
  refine w_iald rfl (by first | assumption | (rw [vp_in_iff]; ((try simp only [bI_0, bI_1, lc_lt, lc_gt, lc_le, lc_ge, Classical.not_not] at *); (try simp only [i_lt, i_le, i_eq, l_lt, l_le, l_eq, Int32.toInt_toInt64, Int32.reduceToInt, Int64.reduceToInt] at *); omega))) dX0_isInReach_11 ?_
  refine r_isub dX0_isInReach_12 ?_
  refine r_mabs lmX0_97 (Nat.le_of_ble_eq_true rfl) (Nat.le_of_ble_eq_true rfl) (Nat.le_of_ble_eq_true rfl) (Nat.le_of_ble_eq_true rfl) dX0_isInReach_13 ?_
  refine r_aload_n (j := 0) rfl rfl dX0_isInReach_16 ?_
  refine w_getR (b := 8) fX0_29 rfl rfl dX0_isInReach_17 ?_
  refine r_iload_n (j := 1) rfl rfl dX0_isInReach_20 ?_
  refine w_iald rfl (by first | assumption | (rw [vp_in_iff]; ((try simp only [bI_0, bI_1, lc_lt, lc_gt, lc_le, lc_ge, Classical.not_not] at *); (try simp only [i_lt, i_le, i_eq, l_lt, l_le, l_eq, Int32.toInt_toInt64, Int32.reduceToInt, Int64.reduceToInt] at *); omega))) dX0_isInReach_21 ?_
  refine r_iadd dX0_isInReach_22 ?_
  refine r_aload_n (j := 0) rfl rfl dX0_isInReach_23 ?_
  refine w_getR (b := 4) fX0_15 rfl rfl dX0_isInReach_24 ?_
  refine r_bipush (v := 7) rfl dX0_isInReach_27 ?_
  refine w_iald rfl (by first | assumption | (rw [vp_in_iff]; ((try simp only [bI_0, bI_1, lc_lt, lc_gt, lc_le, lc_ge, Classical.not_not] at *); (try simp only [i_lt, i_le, i_eq, l_lt, l_le, l_eq, Int32.toInt_toInt64, Int32.reduceToInt, Int64.reduceToInt] at *); omega))) dX0_isInReach_29 ?_
  refine r_icmp_gt (tgt := 37) dX0_isInReach_30 (by decide) (fun c30 => ?_) (fun c30 => ?_)
  · refine r_iconst (v := 0) rfl dX0_isInReach_37 ?_
    refine w_iret rfl (rfl) (Nat.le_of_ble_eq_true rfl) (Nat.le_of_ble_eq_true rfl) dX0_isInReach_38 ?_
    rw [ch, cg] at c30; exact ⟨by first | exact (bI_t (Int32.not_lt.mp c30)).symm | exact (bI_f (Int32.not_le.mpr c30)).symm, rfl, rfl, rfl⟩
  · refine r_iconst (v := 1) rfl dX0_isInReach_33 ?_
    refine r_goto (tgt := 38) dX0_isInReach_34 (by decide) ?_
    refine w_iret rfl (rfl) (Nat.le_of_ble_eq_true rfl) (Nat.le_of_ble_eq_true rfl) dX0_isInReach_38 ?_
    rw [ch, cg] at c30; exact ⟨by first | exact (bI_t (Int32.not_lt.mp c30)).symm | exact (bI_f (Int32.not_le.mpr c30)).symm, rfl, rfl, rfl⟩
/-- THE CHANCE -/
def dnx (s : Int64) : Int64 := (1103515245 * s + 12345) - (1103515245 * s + 12345) / 2147483648 * 2147483648
def dvl (s : Int64) (n : Int32) : Int32 := (s / 65536 - s / 65536 / n.toInt64 * n.toInt64).toInt32
theorem k_X1_draw {sc : Sc} {I : Is} {L : Ls} {tg a : Nat} {n : Int32} (ha : SHW a = (1, 0)) (hn : 0 < n.toInt) : Con sc mX1_draw 0 0 0 [.ref a, .int n] (XW I L tg) (rI (dvl (dnx (L a 0)) n) (XW I (up L a 0 (dnx (L a 0))) tg)) := by
  refine Con_of (by decide) (Nat.le_of_ble_eq_true rfl) ?_
  refine r_aload_n (j := 0) rfl rfl dX1_draw_0 ?_
  refine r_ldc2 kX1_13 dX1_draw_1 ?_
  refine r_aload_n (j := 0) rfl rfl dX1_draw_4 ?_
  refine w_getL fX1_7 ha dX1_draw_5 ?_
  refine r_lmul dX1_draw_8 ?_
  refine r_ldc2 kX1_15 dX1_draw_9 ?_
  refine r_ladd dX1_draw_12 ?_
  refine r_ldc2 kX1_17 dX1_draw_13 ?_
  refine r_lrem (by first | assumption | decide) dX1_draw_16 ?_
  refine w_putL fX1_7 ha (rfl) (rfl) dX1_draw_17 (fun J17 hJ17 => ?_)
  refine r_iload_n (j := 1) rfl rfl dX1_draw_20 ?_
  refine r_if_le (tgt := 39) dX1_draw_21 (by decide) (fun c21 => ?_) (fun c21 => ?_)
  · exfalso; ((try simp only [bI_0, bI_1, lc_lt, lc_gt, lc_le, lc_ge, Classical.not_not] at *); (try simp only [i_lt, i_le, i_eq, l_lt, l_le, l_eq, Int32.toInt_toInt64, Int32.reduceToInt, Int64.reduceToInt] at *); omega)
  · refine r_aload_n (j := 0) rfl rfl dX1_draw_24 ?_
    refine w_getL fX1_7 ha dX1_draw_25 ?_
    refine r_ldc2 kX1_19 dX1_draw_28 ?_
    refine r_ldiv (by first | assumption | decide) dX1_draw_31 ?_
    refine r_iload_n (j := 1) rfl rfl dX1_draw_32 ?_
    refine r_i2l dX1_draw_33 ?_
    refine r_lrem (by ((try simp only [bI_0, bI_1, lc_lt, lc_gt, lc_le, lc_ge, Classical.not_not] at *); (try simp only [i_lt, i_le, i_eq, l_lt, l_le, l_eq, Int32.toInt_toInt64, Int32.reduceToInt, Int64.reduceToInt] at *); omega)) dX1_draw_34 ?_
    refine r_l2i dX1_draw_35 ?_
    refine r_goto (tgt := 40) dX1_draw_36 (by decide) ?_
    refine w_iret rfl (rfl) (Nat.le_of_ble_eq_true rfl) (Nat.le_of_ble_eq_true rfl) dX1_draw_40 ?_
    subst hJ17; exact ⟨by rw [up_s, vu_s]; rfl, rfl, rfl, rfl⟩
