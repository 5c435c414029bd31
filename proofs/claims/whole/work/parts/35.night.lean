/-! THE NIGHT: rounds, who is out when -/
def itr (f : Int32 → Int32) : Nat → Int32 → Int32
  | 0, b => b
  | n + 1, b => itr f n (f b)
def rmt (rf rt : Nat → Int32) (NR : Nat) (a b : Int32) : Int32 := fsk (fun r => decide (a < rt r ∧ rf r < b)) NR 0
def ous (rf rt : Nat → Int32) (NR : Nat) (nd b : Int32) : Int32 := if rmt rf rt NR b (b + nd) = -1 then b else rt (rmt rf rt NR b (b + nd)).toNatClampNeg
def obs (rf rt : Nat → Int32) (NR : Nat) (nd b : Int32) : Int32 := if rmt rf rt NR b (b + nd) = -1 then b else rf (rmt rf rt NR b (b + nd)).toNatClampNeg - nd
def ouR (ne rf rt : Nat → Int32) (NR p : Nat) (m : Int32) : Int32 := itr (ous rf rt NR (ne p)) 5 m + ne p
def beR (ne rf rt : Nat → Int32) (NR p : Nat) (m : Int32) : Int32 := itr (obs rf rt NR (ne p)) 5 (m - ne p)
theorem rmt_in {rf rt : Nat → Int32} {NR : Nat} {a b : Int32} (h : ¬ rmt rf rt NR a b = -1) (h5 : NR ≤ 5) : vp_in (rmt rf rt NR a b) 5 := by
  rcases fsk_rng (fun r => decide (a < rt r ∧ rf r < b)) NR 0 with ⟨h1, -⟩ | ⟨j, h1, h2, h3, -⟩
  · exact absurd h1 h
  · unfold rmt; rw [h3]; exact vp_in_nI (by omega) (by omega)
section Nt
variable {sc : Sc} {I : Is} {L : Ls} {tg NR : Nat}
theorem l_X7_roundMet {a b : Int32} (hR : (I 84 8).toInt = NR) (h5 : NR ≤ 5) : ∀ n i : Nat, i + n = NR → ∀ x : Int32, x.toInt = i → RR sc mX7_roundMet 0 0 0 (rI (fsk (fun r => decide (a < I 87 r ∧ I 86 r < b)) n i) (XW I L tg)) 0 0 2 [(3, .int x), (0, .ref 84), (1, .int a), (2, .int b)] [] (XW I L tg) := by
  intro n
  induction n with
  | zero =>
    intro i hi x hx
    refine r_iload_n (j := 0) rfl rfl dX7_roundMet_2 ?_
    refine r_aload_n (j := 1) rfl rfl dX7_roundMet_3 ?_
    refine w_getI fX7_44 rfl dX7_roundMet_4 ?_
    refine r_icmp_ge (tgt := 38) dX7_roundMet_7 (by decide) (fun c7 => ?_) (fun c7 => ?_)
    · refine r_iconst (v := (-1)) rfl dX7_roundMet_38 ?_
      refine w_iret rfl (rfl) (Nat.le_of_ble_eq_true rfl) (Nat.le_of_ble_eq_true rfl) dX7_roundMet_39 ?_
      exact ⟨rfl, rfl, rfl, rfl⟩
    · exfalso; ((try simp only [bI_0, bI_1, lc_lt, lc_gt, lc_le, lc_ge, Classical.not_not] at *); (try simp only [i_lt, i_le, i_eq, l_lt, l_le, l_eq, Int32.toInt_toInt64, Int32.reduceToInt, Int64.reduceToInt] at *); omega)
  | succ n ih =>
    intro i hi x hx
    have cx := cl_of hx
    obtain rfl := x_nI hx
    rw [fsk]
    refine r_iload_n (j := 0) rfl rfl dX7_roundMet_2 ?_
    refine r_aload_n (j := 1) rfl rfl dX7_roundMet_3 ?_
    refine w_getI fX7_44 rfl dX7_roundMet_4 ?_
    refine r_icmp_ge (tgt := 38) dX7_roundMet_7 (by decide) (fun c7 => ?_) (fun c7 => ?_)
    · exfalso; ((try simp only [bI_0, bI_1, lc_lt, lc_gt, lc_le, lc_ge, Classical.not_not] at *); (try simp only [i_lt, i_le, i_eq, l_lt, l_le, l_eq, Int32.toInt_toInt64, Int32.reduceToInt, Int64.reduceToInt] at *); omega)
    · refine r_iload_n (j := 2) rfl rfl dX7_roundMet_10 ?_
      refine r_aload_n (j := 1) rfl rfl dX7_roundMet_11 ?_
      refine w_getR (b := 87) fX7_18 rfl rfl dX7_roundMet_12 ?_
      refine r_iload_n (j := 0) rfl rfl dX7_roundMet_15 ?_
      refine w_iald rfl (up_in hx (by omega)) dX7_roundMet_16 ?_
      refine r_icmp_ge (tgt := 32) dX7_roundMet_17 (by decide) (fun c17 => ?_) (fun c17 => ?_)
      · refine r_iinc (j := 0) (lv' := fun z => [(3, .int z), (0, .ref 84), (1, .int a), (2, .int b)]) dX7_roundMet_32 rfl (Nat.le_of_ble_eq_true rfl) (fun _ => rfl) (fun x3_32 ex3_32 => ?_)
        refine r_goto (tgt := 2) dX7_roundMet_35 (by decide) ?_
        rw [cx] at c17; rw [if_neg (by simp only [decide_eq_true_eq]; exact fun z => absurd z.1 (Int32.not_lt.mpr c17))]; exact ih (i + 1) (by omega) _ (by rw [ex3_32]; exact i_inc hx (by omega))
      · refine r_aload_n (j := 1) rfl rfl dX7_roundMet_20 ?_
        refine w_getR (b := 86) fX7_15 rfl rfl dX7_roundMet_21 ?_
        refine r_iload_n (j := 0) rfl rfl dX7_roundMet_24 ?_
        refine w_iald rfl (up_in hx (by omega)) dX7_roundMet_25 ?_
        refine r_iload_n (j := 3) rfl rfl dX7_roundMet_26 ?_
        refine r_icmp_ge (tgt := 32) dX7_roundMet_27 (by decide) (fun c27 => ?_) (fun c27 => ?_)
        · refine r_iinc (j := 0) (lv' := fun z => [(3, .int z), (0, .ref 84), (1, .int a), (2, .int b)]) dX7_roundMet_32 rfl (Nat.le_of_ble_eq_true rfl) (fun _ => rfl) (fun x3_32 ex3_32 => ?_)
          refine r_goto (tgt := 2) dX7_roundMet_35 (by decide) ?_
          rw [cx] at c17 c27; rw [if_neg (by simp only [decide_eq_true_eq]; exact fun z => absurd z.2 (Int32.not_lt.mpr c27))]; exact ih (i + 1) (by omega) _ (by rw [ex3_32]; exact i_inc hx (by omega))
        · refine r_iload_n (j := 0) rfl rfl dX7_roundMet_30 ?_
          refine w_iret rfl (rfl) (Nat.le_of_ble_eq_true rfl) (Nat.le_of_ble_eq_true rfl) dX7_roundMet_31 ?_
          rw [cx] at c17 c27; exact ⟨by rw [if_pos (by simpa using ⟨Int32.not_le.mp c17, Int32.not_le.mp c27⟩)], rfl, rfl, rfl⟩
theorem k_X7_roundMet {a b : Int32} (r0 : 0 ≤ (I 84 8).toInt) (r5 : (I 84 8).toInt ≤ 5) : Con sc mX7_roundMet 0 0 0 [.ref 84, .int a, .int b] (XW I L tg) (rI (rmt (I 86) (I 87) (nN (I 84 8)) a b) (XW I L tg)) := by
  refine Con_of (by decide) (Nat.le_of_ble_eq_true rfl) ?_
  have hR := nN_of r0
  refine r_iconst (v := 0) rfl dX7_roundMet_0 ?_
  refine r_istore_n (lv' := fun z => [(3, .int z), (0, .ref 84), (1, .int a), (2, .int b)]) dX7_roundMet_1 rfl (Nat.le_of_ble_eq_true rfl) (fun _ => rfl) (fun x3_1 ex3_1 => ?_)
  exact l_X7_roundMet hR (by omega) _ 0 (Nat.zero_add _) _ (by rw [ex3_1]; rfl)
theorem k_X7_meetsRound {a b : Int32} (r0 : 0 ≤ (I 84 8).toInt) (r5 : (I 84 8).toInt ≤ 5) : Con sc mX7_meetsRound 1 0 0 [.ref 84, .int a, .int b] (XW I L tg) (rI (bI (¬ rmt (I 86) (I 87) (nN (I 84 8)) a b = -1)) (XW I L tg)) := by
  refine Con_of (by decide) (Nat.le_of_ble_eq_true rfl) ?_
  refine r_aload_n (j := 0) rfl rfl dX7_meetsRound_0 ?_
  refine r_iload_n (j := 1) rfl rfl dX7_meetsRound_1 ?_
  refine r_iload_n (j := 2) rfl rfl dX7_meetsRound_2 ?_
  refine w_cV2p (k_X7_roundMet r0 r5) (Nat.le_of_ble_eq_true rfl) lX7_40 vmX7_roundMet rfl (Nat.le_of_ble_eq_true rfl) (Nat.le_of_ble_eq_true rfl) (Nat.le_of_ble_eq_true rfl) dX7_meetsRound_3 ?_
  refine r_iconst (v := (-1)) rfl dX7_meetsRound_6 ?_
  refine r_icmp_eq (tgt := 14) dX7_meetsRound_7 (by decide) (fun c7 => ?_) (fun c7 => ?_)
  · refine r_iconst (v := 0) rfl dX7_meetsRound_14 ?_
    refine w_iret rfl (rfl) (Nat.le_of_ble_eq_true rfl) (Nat.le_of_ble_eq_true rfl) dX7_meetsRound_15 ?_
    exact ⟨by first | exact (bI_t c7).symm | exact (bI_f (fun z => z c7)).symm, rfl, rfl, rfl⟩
  · refine r_iconst (v := 1) rfl dX7_meetsRound_10 ?_
    refine r_goto (tgt := 15) dX7_meetsRound_11 (by decide) ?_
    refine w_iret rfl (rfl) (Nat.le_of_ble_eq_true rfl) (Nat.le_of_ble_eq_true rfl) dX7_meetsRound_15 ?_
    exact ⟨by first | exact (bI_t c7).symm | exact (bI_f (fun z => z c7)).symm, rfl, rfl, rfl⟩
theorem l_X7_outFrom {p m0 : Int32} {pn : Nat} (ep : p.toInt = pn) (h8 : pn < 8) (r0 : 0 ≤ (I 84 8).toInt) (r5 : (I 84 8).toInt ≤ 5) : ∀ n i : Nat, i + n = 5 → ∀ b x : Int32, x.toInt = i → RR sc mX7_outFrom 1 0 0 (rI (itr (ous (I 86) (I 87) (nN (I 84 8)) (I 85 pn)) n b + I 85 pn) (XW I L tg)) 0 0 5 [(4, .int x), (3, .int b), (0, .ref 84), (1, .int m0), (2, .int p)] [] (XW I L tg) := by
  have hN := nN_of r0
  have cp := cl_of ep
  have hip := up_in ep h8
  intro n
  induction n with
  | zero =>
    intro i hi b x hx
    refine r_iload (j := 0) rfl dX7_outFrom_5 ?_
    refine r_iconst (v := 5) rfl dX7_outFrom_7 ?_
    refine r_icmp_ge (tgt := 46) dX7_outFrom_8 (by decide) (fun c8 => ?_) (fun c8 => ?_)
    · refine r_iload_n (j := 1) rfl rfl dX7_outFrom_46 ?_
      refine r_aload_n (j := 2) rfl rfl dX7_outFrom_47 ?_
      refine w_getR (b := 85) fX7_11 rfl rfl dX7_outFrom_48 ?_
      refine r_iload_n (j := 4) rfl rfl dX7_outFrom_51 ?_
      refine w_iald rfl (by first | assumption | (rw [vp_in_iff]; ((try simp only [bI_0, bI_1, lc_lt, lc_gt, lc_le, lc_ge, Classical.not_not] at *); (try simp only [i_lt, i_le, i_eq, l_lt, l_le, l_eq, Int32.toInt_toInt64, Int32.reduceToInt, Int64.reduceToInt] at *); omega))) dX7_outFrom_52 ?_
      refine r_iadd dX7_outFrom_53 ?_
      refine w_iret rfl (rfl) (Nat.le_of_ble_eq_true rfl) (Nat.le_of_ble_eq_true rfl) dX7_outFrom_54 ?_
      exact ⟨by rw [cp]; rfl, rfl, rfl, rfl⟩
    · exfalso; ((try simp only [bI_0, bI_1, lc_lt, lc_gt, lc_le, lc_ge, Classical.not_not] at *); (try simp only [i_lt, i_le, i_eq, l_lt, l_le, l_eq, Int32.toInt_toInt64, Int32.reduceToInt, Int64.reduceToInt] at *); omega)
  | succ n ih =>
    intro i hi b x hx
    rw [itr]
    refine r_iload (j := 0) rfl dX7_outFrom_5 ?_
    refine r_iconst (v := 5) rfl dX7_outFrom_7 ?_
    refine r_icmp_ge (tgt := 46) dX7_outFrom_8 (by decide) (fun c8 => ?_) (fun c8 => ?_)
    · exfalso; ((try simp only [bI_0, bI_1, lc_lt, lc_gt, lc_le, lc_ge, Classical.not_not] at *); (try simp only [i_lt, i_le, i_eq, l_lt, l_le, l_eq, Int32.toInt_toInt64, Int32.reduceToInt, Int64.reduceToInt] at *); omega)
    · refine r_aload_n (j := 2) rfl rfl dX7_outFrom_11 ?_
      refine r_iload_n (j := 1) rfl rfl dX7_outFrom_12 ?_
      refine r_iload_n (j := 1) rfl rfl dX7_outFrom_13 ?_
      refine r_aload_n (j := 2) rfl rfl dX7_outFrom_14 ?_
      refine w_getR (b := 85) fX7_11 rfl rfl dX7_outFrom_15 ?_
      refine r_iload_n (j := 4) rfl rfl dX7_outFrom_18 ?_
      refine w_iald rfl (by first | assumption | (rw [vp_in_iff]; ((try simp only [bI_0, bI_1, lc_lt, lc_gt, lc_le, lc_ge, Classical.not_not] at *); (try simp only [i_lt, i_le, i_eq, l_lt, l_le, l_eq, Int32.toInt_toInt64, Int32.reduceToInt, Int64.reduceToInt] at *); omega))) dX7_outFrom_19 ?_
      refine r_iadd dX7_outFrom_20 ?_
      refine w_cV2p (k_X7_roundMet r0 r5) (Nat.le_of_ble_eq_true rfl) lX7_40 vmX7_roundMet rfl (Nat.le_of_ble_eq_true rfl) (Nat.le_of_ble_eq_true rfl) (Nat.le_of_ble_eq_true rfl) dX7_outFrom_21 ?_
      refine r_istore (lv' := fun z => [(5, .int z), (4, .int x), (3, .int b), (0, .ref 84), (1, .int m0), (2, .int p)]) dX7_outFrom_24 (Nat.le_of_ble_eq_true rfl) (fun _ => rfl) (fun x5_24 ex5_24 => ?_)
      rw [cp] at ex5_24
      refine r_iload (j := 0) rfl dX7_outFrom_26 ?_
      refine r_iconst (v := (-1)) rfl dX7_outFrom_28 ?_
      refine r_icmp_eq (tgt := 40) dX7_outFrom_29 (by decide) (fun c29 => ?_) (fun c29 => ?_)
      · refine r_iinc (j := 1) (lv' := fun z => [(4, .int z), (5, .int x5_24), (3, .int b), (0, .ref 84), (1, .int m0), (2, .int p)]) dX7_outFrom_40 rfl (Nat.le_of_ble_eq_true rfl) (fun _ => rfl) (fun x4_40 ex4_40 => ?_)
        refine r_goto (tgt := 5) dX7_outFrom_43 (by decide) ?_
        refine r_lvs [(4, .int x4_40), (3, .int b), (0, .ref 84), (1, .int m0), (2, .int p)] [0, 2, 3, 4, 5] rfl ?_
        rw [ex5_24] at c29
        have e : ous (I 86) (I 87) (nN (I 84 8)) (I 85 pn) b = b := if_pos c29
        rw [e]
        exact ih (i + 1) (by omega) _ _ (by rw [ex4_40]; exact i_inc hx (by omega))
      · refine r_aload_n (j := 3) rfl rfl dX7_outFrom_32 ?_
        refine w_getR (b := 87) fX7_18 rfl rfl dX7_outFrom_33 ?_
        refine r_iload (j := 0) rfl dX7_outFrom_36 ?_
        refine w_iald rfl (by rw [ex5_24] at c29 ⊢; exact rmt_in c29 (by omega)) dX7_outFrom_38 ?_
        refine r_istore_n (lv' := fun z => [(3, .int z), (5, .int x5_24), (4, .int x), (0, .ref 84), (1, .int m0), (2, .int p)]) dX7_outFrom_39 rfl (Nat.le_of_ble_eq_true rfl) (fun _ => rfl) (fun x3_39 ex3_39 => ?_)
        refine r_iinc (j := 2) (lv' := fun z => [(4, .int z), (3, .int x3_39), (5, .int x5_24), (0, .ref 84), (1, .int m0), (2, .int p)]) dX7_outFrom_40 rfl (Nat.le_of_ble_eq_true rfl) (fun _ => rfl) (fun x4_40 ex4_40 => ?_)
        refine r_goto (tgt := 5) dX7_outFrom_43 (by decide) ?_
        refine r_lvs [(4, .int x4_40), (3, .int x3_39), (0, .ref 84), (1, .int m0), (2, .int p)] [0, 1, 3, 4, 5] rfl ?_
        rw [ex5_24] at c29
        have e : ous (I 86) (I 87) (nN (I 84 8)) (I 85 pn) b = x3_39 := by rw [ex3_39, ex5_24]; exact if_neg c29
        rw [e]
        exact ih (i + 1) (by omega) _ _ (by rw [ex4_40]; exact i_inc hx (by omega))
theorem k_X7_outFrom {p m : Int32} {pn : Nat} (ep : p.toInt = pn) (h8 : pn < 8) (r0 : 0 ≤ (I 84 8).toInt) (r5 : (I 84 8).toInt ≤ 5) : Con sc mX7_outFrom 1 0 0 [.ref 84, .int m, .int p] (XW I L tg) (rI (ouR (I 85) (I 86) (I 87) (nN (I 84 8)) pn m) (XW I L tg)) := by
  refine Con_of (by decide) (Nat.le_of_ble_eq_true rfl) ?_
  refine r_iload_n (j := 1) rfl rfl dX7_outFrom_0 ?_
  refine r_istore_n (lv' := fun z => [(3, .int z), (0, .ref 84), (1, .int m), (2, .int p)]) dX7_outFrom_1 rfl (Nat.le_of_ble_eq_true rfl) (fun _ => rfl) (fun x3_1 ex3_1 => ?_)
  refine r_iconst (v := 0) rfl dX7_outFrom_2 ?_
  refine r_istore (lv' := fun z => [(4, .int z), (3, .int x3_1), (0, .ref 84), (1, .int m), (2, .int p)]) dX7_outFrom_3 (Nat.le_of_ble_eq_true rfl) (fun _ => rfl) (fun x4_3 ex4_3 => ?_)
  subst ex3_1; exact l_X7_outFrom ep h8 r0 r5 5 0 rfl _ _ (by rw [ex4_3]; rfl)
theorem l_X7_beginBefore {p m0 : Int32} {pn : Nat} (ep : p.toInt = pn) (h8 : pn < 8) (r0 : 0 ≤ (I 84 8).toInt) (r5 : (I 84 8).toInt ≤ 5) : ∀ n i : Nat, i + n = 5 → ∀ b x : Int32, x.toInt = i → RR sc mX7_beginBefore 1 0 0 (rI (itr (obs (I 86) (I 87) (nN (I 84 8)) (I 85 pn)) n b) (XW I L tg)) 0 0 12 [(4, .int x), (3, .int b), (0, .ref 84), (1, .int m0), (2, .int p)] [] (XW I L tg) := by
  have hN := nN_of r0
  have cp := cl_of ep
  have hip := up_in ep h8
  intro n
  induction n with
  | zero =>
    intro i hi b x hx
    refine r_iload (j := 0) rfl dX7_beginBefore_12 ?_
    refine r_iconst (v := 5) rfl dX7_beginBefore_14 ?_
    refine r_icmp_ge (tgt := 60) dX7_beginBefore_15 (by decide) (fun c15 => ?_) (fun c15 => ?_)
    · refine r_iload_n (j := 1) rfl rfl dX7_beginBefore_60 ?_
      refine w_iret rfl (rfl) (Nat.le_of_ble_eq_true rfl) (Nat.le_of_ble_eq_true rfl) dX7_beginBefore_61 ?_
      exact ⟨rfl, rfl, rfl, rfl⟩
    · exfalso; ((try simp only [bI_0, bI_1, lc_lt, lc_gt, lc_le, lc_ge, Classical.not_not] at *); (try simp only [i_lt, i_le, i_eq, l_lt, l_le, l_eq, Int32.toInt_toInt64, Int32.reduceToInt, Int64.reduceToInt] at *); omega)
  | succ n ih =>
    intro i hi b x hx
    rw [itr]
    refine r_iload (j := 0) rfl dX7_beginBefore_12 ?_
    refine r_iconst (v := 5) rfl dX7_beginBefore_14 ?_
    refine r_icmp_ge (tgt := 60) dX7_beginBefore_15 (by decide) (fun c15 => ?_) (fun c15 => ?_)
    · exfalso; ((try simp only [bI_0, bI_1, lc_lt, lc_gt, lc_le, lc_ge, Classical.not_not] at *); (try simp only [i_lt, i_le, i_eq, l_lt, l_le, l_eq, Int32.toInt_toInt64, Int32.reduceToInt, Int64.reduceToInt] at *); omega)
    · refine r_aload_n (j := 2) rfl rfl dX7_beginBefore_18 ?_
      refine r_iload_n (j := 1) rfl rfl dX7_beginBefore_19 ?_
      refine r_iload_n (j := 1) rfl rfl dX7_beginBefore_20 ?_
      refine r_aload_n (j := 2) rfl rfl dX7_beginBefore_21 ?_
      refine w_getR (b := 85) fX7_11 rfl rfl dX7_beginBefore_22 ?_
      refine r_iload_n (j := 4) rfl rfl dX7_beginBefore_25 ?_
      refine w_iald rfl (by first | assumption | (rw [vp_in_iff]; ((try simp only [bI_0, bI_1, lc_lt, lc_gt, lc_le, lc_ge, Classical.not_not] at *); (try simp only [i_lt, i_le, i_eq, l_lt, l_le, l_eq, Int32.toInt_toInt64, Int32.reduceToInt, Int64.reduceToInt] at *); omega))) dX7_beginBefore_26 ?_
      refine r_iadd dX7_beginBefore_27 ?_
      refine w_cV2p (k_X7_roundMet r0 r5) (Nat.le_of_ble_eq_true rfl) lX7_40 vmX7_roundMet rfl (Nat.le_of_ble_eq_true rfl) (Nat.le_of_ble_eq_true rfl) (Nat.le_of_ble_eq_true rfl) dX7_beginBefore_28 ?_
      refine r_istore (lv' := fun z => [(5, .int z), (4, .int x), (3, .int b), (0, .ref 84), (1, .int m0), (2, .int p)]) dX7_beginBefore_31 (Nat.le_of_ble_eq_true rfl) (fun _ => rfl) (fun x5_31 ex5_31 => ?_)
      rw [cp] at ex5_31
      refine r_iload (j := 0) rfl dX7_beginBefore_33 ?_
      refine r_iconst (v := (-1)) rfl dX7_beginBefore_35 ?_
      refine r_icmp_eq (tgt := 54) dX7_beginBefore_36 (by decide) (fun c36 => ?_) (fun c36 => ?_)
      · refine r_iinc (j := 1) (lv' := fun z => [(4, .int z), (5, .int x5_31), (3, .int b), (0, .ref 84), (1, .int m0), (2, .int p)]) dX7_beginBefore_54 rfl (Nat.le_of_ble_eq_true rfl) (fun _ => rfl) (fun x4_54 ex4_54 => ?_)
        refine r_goto (tgt := 12) dX7_beginBefore_57 (by decide) ?_
        refine r_lvs [(4, .int x4_54), (3, .int b), (0, .ref 84), (1, .int m0), (2, .int p)] [0, 2, 3, 4, 5] rfl ?_
        rw [ex5_31] at c36
        have e : obs (I 86) (I 87) (nN (I 84 8)) (I 85 pn) b = b := if_pos c36
        rw [e]
        exact ih (i + 1) (by omega) _ _ (by rw [ex4_54]; exact i_inc hx (by omega))
      · refine r_aload_n (j := 3) rfl rfl dX7_beginBefore_39 ?_
        refine w_getR (b := 86) fX7_15 rfl rfl dX7_beginBefore_40 ?_
        refine r_iload (j := 0) rfl dX7_beginBefore_43 ?_
        refine w_iald rfl (by rw [ex5_31] at c36 ⊢; exact rmt_in c36 (by omega)) dX7_beginBefore_45 ?_
        refine r_aload_n (j := 3) rfl rfl dX7_beginBefore_46 ?_
        refine w_getR (b := 85) fX7_11 rfl rfl dX7_beginBefore_47 ?_
        refine r_iload_n (j := 5) rfl rfl dX7_beginBefore_50 ?_
        refine w_iald rfl (by first | assumption | (rw [vp_in_iff]; ((try simp only [bI_0, bI_1, lc_lt, lc_gt, lc_le, lc_ge, Classical.not_not] at *); (try simp only [i_lt, i_le, i_eq, l_lt, l_le, l_eq, Int32.toInt_toInt64, Int32.reduceToInt, Int64.reduceToInt] at *); omega))) dX7_beginBefore_51 ?_
        refine r_isub dX7_beginBefore_52 ?_
        refine r_istore_n (lv' := fun z => [(3, .int z), (5, .int x5_31), (4, .int x), (0, .ref 84), (1, .int m0), (2, .int p)]) dX7_beginBefore_53 rfl (Nat.le_of_ble_eq_true rfl) (fun _ => rfl) (fun x3_53 ex3_53 => ?_)
        refine r_iinc (j := 2) (lv' := fun z => [(4, .int z), (3, .int x3_53), (5, .int x5_31), (0, .ref 84), (1, .int m0), (2, .int p)]) dX7_beginBefore_54 rfl (Nat.le_of_ble_eq_true rfl) (fun _ => rfl) (fun x4_54 ex4_54 => ?_)
        refine r_goto (tgt := 12) dX7_beginBefore_57 (by decide) ?_
        refine r_lvs [(4, .int x4_54), (3, .int x3_53), (0, .ref 84), (1, .int m0), (2, .int p)] [0, 1, 3, 4, 5] rfl ?_
        rw [ex5_31] at c36
        have e : obs (I 86) (I 87) (nN (I 84 8)) (I 85 pn) b = x3_53 := by rw [ex3_53, ex5_31, cp]; exact if_neg c36
        rw [e]
        exact ih (i + 1) (by omega) _ _ (by rw [ex4_54]; exact i_inc hx (by omega))
theorem k_X7_beginBefore {p m : Int32} {pn : Nat} (ep : p.toInt = pn) (h8 : pn < 8) (r0 : 0 ≤ (I 84 8).toInt) (r5 : (I 84 8).toInt ≤ 5) : Con sc mX7_beginBefore 1 0 0 [.ref 84, .int m, .int p] (XW I L tg) (rI (beR (I 85) (I 86) (I 87) (nN (I 84 8)) pn m) (XW I L tg)) := by
  refine Con_of (by decide) (Nat.le_of_ble_eq_true rfl) ?_
  have cp := cl_of ep
  have hip := up_in ep h8
  refine r_iload_n (j := 1) rfl rfl dX7_beginBefore_0 ?_
  refine r_aload_n (j := 0) rfl rfl dX7_beginBefore_1 ?_
  refine w_getR (b := 85) fX7_11 rfl rfl dX7_beginBefore_2 ?_
  refine r_iload_n (j := 2) rfl rfl dX7_beginBefore_5 ?_
  refine w_iald rfl (by first | assumption | (rw [vp_in_iff]; ((try simp only [bI_0, bI_1, lc_lt, lc_gt, lc_le, lc_ge, Classical.not_not] at *); (try simp only [i_lt, i_le, i_eq, l_lt, l_le, l_eq, Int32.toInt_toInt64, Int32.reduceToInt, Int64.reduceToInt] at *); omega))) dX7_beginBefore_6 ?_
  refine r_isub dX7_beginBefore_7 ?_
  refine r_istore_n (lv' := fun z => [(3, .int z), (0, .ref 84), (1, .int m), (2, .int p)]) dX7_beginBefore_8 rfl (Nat.le_of_ble_eq_true rfl) (fun _ => rfl) (fun x3_8 ex3_8 => ?_)
  refine r_iconst (v := 0) rfl dX7_beginBefore_9 ?_
  refine r_istore (lv' := fun z => [(4, .int z), (3, .int x3_8), (0, .ref 84), (1, .int m), (2, .int p)]) dX7_beginBefore_10 (Nat.le_of_ble_eq_true rfl) (fun _ => rfl) (fun x4_10 ex4_10 => ?_)
  rw [cp] at ex3_8; subst ex3_8; exact l_X7_beginBefore ep h8 r0 r5 5 0 rfl _ _ (by rw [ex4_10]; rfl)
/-- an order read off the tape, from place i on -/
def loS (tp : Nat → Int32) (pe : Int32) (out : Nat → Int32 → Int32) : Nat → Nat → Int32 → Int32 → Int32
  | 0, _, _, m => m
  | n + 1, i, g, m => if (tp i - 48) < 0 ∨ pe ≤ (tp i - 48) ∨ ¬ ((g >>> ((tp i - 48) &&& 31)) &&& 1 = 0) then -1 else loS tp pe out n (i + 1) (g ||| ((1 : Int32) <<< ((tp i - 48) &&& 31))) (out (tp i - 48).toNatClampNeg m)
theorem l_X7_lastOut {N : Nat} (hN : (I 1 1).toInt = N) (h9 : N ≤ 900) (p8 : (I 84 7).toInt ≤ 8) (r0 : 0 ≤ (I 84 8).toInt) (r5 : (I 84 8).toInt ≤ 5) : ∀ n i : Nat, i + n = N → ∀ g m x : Int32, x.toInt = i → RR sc mX7_lastOut 2 0 0 (rI (loS (I 2) (I 84 7) (ouR (I 85) (I 86) (I 87) (nN (I 84 8))) n i g m) (XW I L tg)) 0 0 7 [(4, .int x), (3, .int m), (2, .int g), (0, .ref 84), (1, .ref 1)] [] (XW I L tg) := by
  intro n
  induction n with
  | zero =>
    intro i hi g m x hx
    refine r_iload (j := 0) rfl dX7_lastOut_7 ?_
    refine r_aload_n (j := 4) rfl rfl dX7_lastOut_9 ?_
    refine w_getI fX7_47 rfl dX7_lastOut_10 ?_
    refine r_icmp_ge (tgt := 73) dX7_lastOut_13 (by decide) (fun c13 => ?_) (fun c13 => ?_)
    · refine r_iload_n (j := 1) rfl rfl dX7_lastOut_73 ?_
      refine w_iret rfl (rfl) (Nat.le_of_ble_eq_true rfl) (Nat.le_of_ble_eq_true rfl) dX7_lastOut_74 ?_
      exact ⟨rfl, rfl, rfl, rfl⟩
    · exfalso; ((try simp only [bI_0, bI_1, lc_lt, lc_gt, lc_le, lc_ge, Classical.not_not] at *); (try simp only [i_lt, i_le, i_eq, l_lt, l_le, l_eq, Int32.toInt_toInt64, Int32.reduceToInt, Int64.reduceToInt] at *); omega)
  | succ n ih =>
    intro i hi g m x hx
    have cx := cl_of hx
    have hq : 0 ≤ x ∧ x < I 1 1 := by ((try simp only [bI_0, bI_1, lc_lt, lc_gt, lc_le, lc_ge, Classical.not_not] at *); (try simp only [i_lt, i_le, i_eq, l_lt, l_le, l_eq, Int32.toInt_toInt64, Int32.reduceToInt, Int64.reduceToInt] at *); omega)
    rw [loS]
    refine r_iload (j := 0) rfl dX7_lastOut_7 ?_
    refine r_aload_n (j := 4) rfl rfl dX7_lastOut_9 ?_
    refine w_getI fX7_47 rfl dX7_lastOut_10 ?_
    refine r_icmp_ge (tgt := 73) dX7_lastOut_13 (by decide) (fun c13 => ?_) (fun c13 => ?_)
    · exfalso; ((try simp only [bI_0, bI_1, lc_lt, lc_gt, lc_le, lc_ge, Classical.not_not] at *); (try simp only [i_lt, i_le, i_eq, l_lt, l_le, l_eq, Int32.toInt_toInt64, Int32.reduceToInt, Int64.reduceToInt] at *); omega)
    · refine r_aload_n (j := 4) rfl rfl dX7_lastOut_16 ?_
      refine r_iload (j := 0) rfl dX7_lastOut_17 ?_
      refine w_cV1p (k_X10_at (by omega)) (Nat.le_of_ble_eq_true rfl) lX7_52 vmX10_at rfl (Nat.le_of_ble_eq_true rfl) (Nat.le_of_ble_eq_true rfl) (Nat.le_of_ble_eq_true rfl) dX7_lastOut_19 ?_
      refine r_bipush (v := 48) rfl dX7_lastOut_22 ?_
      refine r_isub dX7_lastOut_24 ?_
      refine r_istore (lv' := fun z => [(5, .int z), (4, .int x), (3, .int m), (2, .int g), (0, .ref 84), (1, .ref 1)]) dX7_lastOut_25 (Nat.le_of_ble_eq_true rfl) (fun _ => rfl) (fun x5_25 ex5_25 => ?_)
      rw [if_pos hq, cx] at ex5_25; rw [← ex5_25]
      refine r_iload (j := 0) rfl dX7_lastOut_27 ?_
      refine r_if_lt (tgt := 50) dX7_lastOut_29 (by decide) (fun c29 => ?_) (fun c29 => ?_)
      · refine r_iconst (v := (-1)) rfl dX7_lastOut_50 ?_
        refine w_iret rfl (rfl) (Nat.le_of_ble_eq_true rfl) (Nat.le_of_ble_eq_true rfl) dX7_lastOut_51 ?_
        exact ⟨by rw [if_pos (Or.inl c29)], rfl, rfl, rfl⟩
      · refine r_iload (j := 0) rfl dX7_lastOut_32 ?_
        refine r_aload_n (j := 4) rfl rfl dX7_lastOut_34 ?_
        refine w_getI fX7_37 rfl dX7_lastOut_35 ?_
        refine r_icmp_ge (tgt := 50) dX7_lastOut_38 (by decide) (fun c38 => ?_) (fun c38 => ?_)
        · refine r_iconst (v := (-1)) rfl dX7_lastOut_50 ?_
          refine w_iret rfl (rfl) (Nat.le_of_ble_eq_true rfl) (Nat.le_of_ble_eq_true rfl) dX7_lastOut_51 ?_
          exact ⟨by rw [if_pos (Or.inr (Or.inl c38))], rfl, rfl, rfl⟩
        · refine r_iload_n (j := 3) rfl rfl dX7_lastOut_41 ?_
          refine r_iload (j := 0) rfl dX7_lastOut_42 ?_
          refine r_ishr dX7_lastOut_44 ?_
          refine r_iconst (v := 1) rfl dX7_lastOut_45 ?_
          refine r_iand dX7_lastOut_46 ?_
          refine r_if_eq (tgt := 52) dX7_lastOut_47 (by decide) (fun c47 => ?_) (fun c47 => ?_)
          · refine r_iload_n (j := 3) rfl rfl dX7_lastOut_52 ?_
            refine r_iconst (v := 1) rfl dX7_lastOut_53 ?_
            refine r_iload (j := 0) rfl dX7_lastOut_54 ?_
            refine r_ishl dX7_lastOut_56 ?_
            refine r_ior dX7_lastOut_57 ?_
            refine r_istore_n (lv' := fun z => [(2, .int z), (5, .int x5_25), (4, .int x), (3, .int m), (0, .ref 84), (1, .ref 1)]) dX7_lastOut_58 rfl (Nat.le_of_ble_eq_true rfl) (fun _ => rfl) (fun x2_58 ex2_58 => ?_)
            have e5 : x5_25.toInt = (x5_25.toNatClampNeg : Int) := (i_cl (by ((try simp only [bI_0, bI_1, lc_lt, lc_gt, lc_le, lc_ge, Classical.not_not] at *); (try simp only [i_lt, i_le, i_eq, l_lt, l_le, l_eq, Int32.toInt_toInt64, Int32.reduceToInt, Int64.reduceToInt] at *); omega))).symm
            refine r_aload_n (j := 4) rfl rfl dX7_lastOut_59 ?_
            refine r_iload_n (j := 3) rfl rfl dX7_lastOut_60 ?_
            refine r_iload (j := 1) rfl dX7_lastOut_61 ?_
            refine w_cV2p (k_X7_outFrom e5 (by ((try simp only [bI_0, bI_1, lc_lt, lc_gt, lc_le, lc_ge, Classical.not_not] at *); (try simp only [i_lt, i_le, i_eq, l_lt, l_le, l_eq, Int32.toInt_toInt64, Int32.reduceToInt, Int64.reduceToInt] at *); omega)) r0 r5) (Nat.le_of_ble_eq_true rfl) lX7_56 vmX7_outFrom rfl (Nat.le_of_ble_eq_true rfl) (Nat.le_of_ble_eq_true rfl) (Nat.le_of_ble_eq_true rfl) dX7_lastOut_63 ?_
            refine r_istore_n (lv' := fun z => [(3, .int z), (2, .int x2_58), (5, .int x5_25), (4, .int x), (0, .ref 84), (1, .ref 1)]) dX7_lastOut_66 rfl (Nat.le_of_ble_eq_true rfl) (fun _ => rfl) (fun x3_66 ex3_66 => ?_)
            refine r_iinc (j := 3) (lv' := fun z => [(4, .int z), (3, .int x3_66), (2, .int x2_58), (5, .int x5_25), (0, .ref 84), (1, .ref 1)]) dX7_lastOut_67 rfl (Nat.le_of_ble_eq_true rfl) (fun _ => rfl) (fun x4_67 ex4_67 => ?_)
            refine r_goto (tgt := 7) dX7_lastOut_70 (by decide) ?_
            refine r_lvs [(4, .int x4_67), (3, .int x3_66), (2, .int x2_58), (0, .ref 84), (1, .ref 1)] [0, 1, 2, 4, 5] rfl ?_
            rw [if_neg (by rintro (h | h | h); exact c29 h; exact c38 h; exact h c47)]
            subst ex2_58 ex3_66
            exact ih (i + 1) (by omega) _ _ _ (by rw [ex4_67]; exact i_inc hx (by omega))
          · refine r_iconst (v := (-1)) rfl dX7_lastOut_50 ?_
            refine w_iret rfl (rfl) (Nat.le_of_ble_eq_true rfl) (Nat.le_of_ble_eq_true rfl) dX7_lastOut_51 ?_
            exact ⟨by rw [if_pos (Or.inr (Or.inr c47))], rfl, rfl, rfl⟩
theorem k_X7_lastOut (l0 : 0 ≤ (I 1 1).toInt) (h9 : (I 1 1).toInt ≤ 900) (p8 : (I 84 7).toInt ≤ 8) (r0 : 0 ≤ (I 84 8).toInt) (r5 : (I 84 8).toInt ≤ 5) : Con sc mX7_lastOut 2 0 0 [.ref 84, .ref 1] (XW I L tg) (rI (loS (I 2) (I 84 7) (ouR (I 85) (I 86) (I 87) (nN (I 84 8))) (nN (I 1 1)) 0 0 0) (XW I L tg)) := by
  refine Con_of (by decide) (Nat.le_of_ble_eq_true rfl) ?_
  have hN := nN_of l0
  refine r_iconst (v := 0) rfl dX7_lastOut_0 ?_
  refine r_istore_n (lv' := fun z => [(2, .int z), (0, .ref 84), (1, .ref 1)]) dX7_lastOut_1 rfl (Nat.le_of_ble_eq_true rfl) (fun _ => rfl) (fun x2_1 ex2_1 => ?_)
  refine r_iconst (v := 0) rfl dX7_lastOut_2 ?_
  refine r_istore_n (lv' := fun z => [(3, .int z), (2, .int x2_1), (0, .ref 84), (1, .ref 1)]) dX7_lastOut_3 rfl (Nat.le_of_ble_eq_true rfl) (fun _ => rfl) (fun x3_3 ex3_3 => ?_)
  refine r_iconst (v := 0) rfl dX7_lastOut_4 ?_
  refine r_istore (lv' := fun z => [(4, .int z), (3, .int x3_3), (2, .int x2_1), (0, .ref 84), (1, .ref 1)]) dX7_lastOut_5 (Nat.le_of_ble_eq_true rfl) (fun _ => rfl) (fun x4_5 ex4_5 => ?_)
  subst ex2_1 ex3_3; exact l_X7_lastOut hN (by omega) p8 r0 r5 _ 0 (Nat.zero_add _) _ _ _ (by rw [ex4_5]; rfl)
end Nt
