/-! strings -/
def fkn (ft : Int32) (cs ca cf : Nat → Int32) (k kn : Int32) : Nat → Int32
  | 0 => ft
  | i + 1 => if cs i = k ∧ ca i ≤ kn then cf i else fkn ft cs ca cf k kn i
def sms (c : Nat → Bool) (f : Nat → Int32) : Nat → Int32
  | 0 => 0
  | n + 1 => if c n then sms c f n + f n else sms c f n
section Strs
variable {sc : Sc} {I : Is} {L : Ls} {tg NS NR : Nat}
theorem l_X9_feetKnown {k kn : Int32} {q : Int32} (hR : (I 75 9).toInt = NR) (h2 : NR ≤ 20) : ∀ n i : Nat, i + n = NR → ∀ a x : Int32, a = fkn q (I 82) (I 81) (I 83) k kn i → x.toInt = i → RR sc mX9_feetKnown 0 0 0 (rI (fkn q (I 82) (I 81) (I 83) k kn NR) (XW I L tg)) 0 0 10 [(4, .int x), (3, .int a), (0, .ref 75), (1, .int k), (2, .int kn)] [] (XW I L tg) := by
  intro n
  induction n with
  | zero =>
    intro i hi a x ea hx
    refine r_iload (j := 0) rfl dX9_feetKnown_10 ?_
    refine r_aload_n (j := 2) rfl rfl dX9_feetKnown_12 ?_
    refine w_getI fX9_40 rfl dX9_feetKnown_13 ?_
    refine r_icmp_ge (tgt := 55) dX9_feetKnown_16 (by decide) (fun c16 => ?_) (fun c16 => ?_)
    · refine r_iload_n (j := 1) rfl rfl dX9_feetKnown_55 ?_
      refine w_iret rfl (rfl) (Nat.le_of_ble_eq_true rfl) (Nat.le_of_ble_eq_true rfl) dX9_feetKnown_56 ?_
      exact ⟨by rw [ea, show i = NR by omega], rfl, rfl, rfl⟩
    · exfalso; ((try simp only [bI_0, bI_1, lc_lt, lc_gt, lc_le, lc_ge, Classical.not_not] at *); (try simp only [i_lt, i_le, i_eq, l_lt, l_le, l_eq, Int32.toInt_toInt64, Int32.reduceToInt, Int64.reduceToInt] at *); omega)
  | succ n ih =>
    intro i hi a x ea hx
    have cx := cl_of hx
    refine r_iload (j := 0) rfl dX9_feetKnown_10 ?_
    refine r_aload_n (j := 2) rfl rfl dX9_feetKnown_12 ?_
    refine w_getI fX9_40 rfl dX9_feetKnown_13 ?_
    refine r_icmp_ge (tgt := 55) dX9_feetKnown_16 (by decide) (fun c16 => ?_) (fun c16 => ?_)
    · exfalso; ((try simp only [bI_0, bI_1, lc_lt, lc_gt, lc_le, lc_ge, Classical.not_not] at *); (try simp only [i_lt, i_le, i_eq, l_lt, l_le, l_eq, Int32.toInt_toInt64, Int32.reduceToInt, Int64.reduceToInt] at *); omega)
    · refine r_aload_n (j := 2) rfl rfl dX9_feetKnown_19 ?_
      refine w_getR (b := 82) fX9_30 rfl rfl dX9_feetKnown_20 ?_
      refine r_iload (j := 0) rfl dX9_feetKnown_23 ?_
      refine w_iald rfl (up_in hx (by omega)) dX9_feetKnown_25 ?_
      refine r_iload_n (j := 3) rfl rfl dX9_feetKnown_26 ?_
      refine r_icmp_ne (tgt := 49) dX9_feetKnown_27 (by decide) (fun c27 => ?_) (fun c27 => ?_)
      · refine r_iinc (j := 0) (lv' := fun z => [(4, .int z), (3, .int a), (0, .ref 75), (1, .int k), (2, .int kn)]) dX9_feetKnown_49 rfl (Nat.le_of_ble_eq_true rfl) (fun _ => rfl) (fun x4_49 ex4_49 => ?_)
        refine r_goto (tgt := 10) dX9_feetKnown_52 (by decide) ?_
        rw [cx] at c27; exact ih (i + 1) (by omega) _ _ (by rw [fkn, if_neg (fun z => c27 z.1)]; exact ea) (by rw [ex4_49]; exact i_inc hx (by omega))
      · refine r_aload_n (j := 2) rfl rfl dX9_feetKnown_30 ?_
        refine w_getR (b := 81) fX9_27 rfl rfl dX9_feetKnown_31 ?_
        refine r_iload (j := 0) rfl dX9_feetKnown_34 ?_
        refine w_iald rfl (up_in hx (by omega)) dX9_feetKnown_36 ?_
        refine r_iload_n (j := 4) rfl rfl dX9_feetKnown_37 ?_
        refine r_icmp_gt (tgt := 49) dX9_feetKnown_38 (by decide) (fun c38 => ?_) (fun c38 => ?_)
        · refine r_iinc (j := 0) (lv' := fun z => [(4, .int z), (3, .int a), (0, .ref 75), (1, .int k), (2, .int kn)]) dX9_feetKnown_49 rfl (Nat.le_of_ble_eq_true rfl) (fun _ => rfl) (fun x4_49 ex4_49 => ?_)
          refine r_goto (tgt := 10) dX9_feetKnown_52 (by decide) ?_
          rw [cx] at c27 c38; exact ih (i + 1) (by omega) _ _ (by rw [fkn, if_neg (fun z => absurd z.2 (Int32.not_le.mpr c38))]; exact ea) (by rw [ex4_49]; exact i_inc hx (by omega))
        · refine r_aload_n (j := 2) rfl rfl dX9_feetKnown_41 ?_
          refine w_getR (b := 83) fX9_33 rfl rfl dX9_feetKnown_42 ?_
          refine r_iload (j := 0) rfl dX9_feetKnown_45 ?_
          refine w_iald rfl (up_in hx (by omega)) dX9_feetKnown_47 ?_
          refine r_istore_n (lv' := fun z => [(3, .int z), (4, .int x), (0, .ref 75), (1, .int k), (2, .int kn)]) dX9_feetKnown_48 rfl (Nat.le_of_ble_eq_true rfl) (fun _ => rfl) (fun x3_48 ex3_48 => ?_)
          refine r_iinc (j := 1) (lv' := fun z => [(4, .int z), (3, .int x3_48), (0, .ref 75), (1, .int k), (2, .int kn)]) dX9_feetKnown_49 rfl (Nat.le_of_ble_eq_true rfl) (fun _ => rfl) (fun x4_49 ex4_49 => ?_)
          refine r_goto (tgt := 10) dX9_feetKnown_52 (by decide) ?_
          rw [cx] at c27 c38 ex3_48; exact ih (i + 1) (by omega) _ _ (by rw [fkn, if_pos ⟨c27, Int32.not_lt.mp c38⟩]; exact ex3_48) (by rw [ex4_49]; exact i_inc hx (by omega))
def fkS (I : Is) (kn : Int32) (k : Nat) : Int32 := fkn (I 77 k) (I 82) (I 81) (I 83) (nI k) kn (nN (I 75 9))
theorem k_X9_feetKnown {k kn : Int32} {kk : Nat} (ek : k.toInt = kk) (h16 : kk < 16) (r0 : 0 ≤ (I 75 9).toInt) (r2 : (I 75 9).toInt ≤ 20) : Con sc mX9_feetKnown 0 0 0 [.ref 75, .int k, .int kn] (XW I L tg) (rI (fkS I kn kk) (XW I L tg)) := by
  refine Con_of (by decide) (Nat.le_of_ble_eq_true rfl) ?_
  have hR := nN_of r0
  have ck := cl_of ek
  obtain rfl := x_nI ek
  refine r_aload_n (j := 0) rfl rfl dX9_feetKnown_0 ?_
  refine w_getR (b := 77) fX9_15 rfl rfl dX9_feetKnown_1 ?_
  refine r_iload_n (j := 1) rfl rfl dX9_feetKnown_4 ?_
  refine w_iald rfl (up_in ek h16) dX9_feetKnown_5 ?_
  refine r_istore_n (lv' := fun z => [(3, .int z), (0, .ref 75), (1, .int (nI kk)), (2, .int kn)]) dX9_feetKnown_6 rfl (Nat.le_of_ble_eq_true rfl) (fun _ => rfl) (fun x3_6 ex3_6 => ?_)
  refine r_iconst (v := 0) rfl dX9_feetKnown_7 ?_
  refine r_istore (lv' := fun z => [(4, .int z), (3, .int x3_6), (0, .ref 75), (1, .int (nI kk)), (2, .int kn)]) dX9_feetKnown_8 (Nat.le_of_ble_eq_true rfl) (fun _ => rfl) (fun x4_8 ex4_8 => ?_)
  rw [ck] at ex3_6; exact l_X9_feetKnown hR (by omega) _ 0 (Nat.zero_add _) _ _ ex3_6 (by rw [ex4_8]; rfl)
theorem l_X9_sumOf5 {kn : Int32} (hS : (I 75 8).toInt = NS) (h16 : NS ≤ 16) (r0 : 0 ≤ (I 75 9).toInt) (r2 : (I 75 9).toInt ≤ 20) (hh : ∀ k, k < NS → 0 ≤ (I 78 k).toInt ∧ (I 78 k).toInt < 8) : ∀ n i : Nat, i + n = NS → ∀ a x : Int32, a = sms (fun k => decide (I 76 k ≤ kn)) (fun k => fkS I kn k * tb5.getD (I 78 k).toNatClampNeg 0) i → x.toInt = i → RR sc mX9_sumOf 1 0 0 (rI (sms (fun k => decide (I 76 k ≤ kn)) (fun k => fkS I kn k * tb5.getD (I 78 k).toNatClampNeg 0) NS) (XW I L tg)) 0 0 5 [(4, .int x), (3, .int a), (0, .ref 75), (1, .int kn), (2, .ref 1005)] [] (XW I L tg) := by
  intro n
  induction n with
  | zero =>
    intro i hi a x ea hx
    refine r_iload (j := 0) rfl dX9_sumOf_5 ?_
    refine r_aload_n (j := 2) rfl rfl dX9_sumOf_7 ?_
    refine w_getI fX9_36 rfl dX9_sumOf_8 ?_
    refine r_icmp_ge (tgt := 51) dX9_sumOf_11 (by decide) (fun c11 => ?_) (fun c11 => ?_)
    · refine r_iload_n (j := 1) rfl rfl dX9_sumOf_51 ?_
      refine w_iret rfl (rfl) (Nat.le_of_ble_eq_true rfl) (Nat.le_of_ble_eq_true rfl) dX9_sumOf_52 ?_
      exact ⟨by rw [ea, show i = NS by omega], rfl, rfl, rfl⟩
    · exfalso; ((try simp only [bI_0, bI_1, lc_lt, lc_gt, lc_le, lc_ge, Classical.not_not] at *); (try simp only [i_lt, i_le, i_eq, l_lt, l_le, l_eq, Int32.toInt_toInt64, Int32.reduceToInt, Int64.reduceToInt] at *); omega)
  | succ n ih =>
    intro i hi a x ea hx
    have cx := cl_of hx
    have hh2 := hh i (by omega)
    refine r_iload (j := 0) rfl dX9_sumOf_5 ?_
    refine r_aload_n (j := 2) rfl rfl dX9_sumOf_7 ?_
    refine w_getI fX9_36 rfl dX9_sumOf_8 ?_
    refine r_icmp_ge (tgt := 51) dX9_sumOf_11 (by decide) (fun c11 => ?_) (fun c11 => ?_)
    · exfalso; ((try simp only [bI_0, bI_1, lc_lt, lc_gt, lc_le, lc_ge, Classical.not_not] at *); (try simp only [i_lt, i_le, i_eq, l_lt, l_le, l_eq, Int32.toInt_toInt64, Int32.reduceToInt, Int64.reduceToInt] at *); omega)
    · refine r_aload_n (j := 2) rfl rfl dX9_sumOf_14 ?_
      refine w_getR (b := 76) fX9_11 rfl rfl dX9_sumOf_15 ?_
      refine r_iload (j := 0) rfl dX9_sumOf_18 ?_
      refine w_iald rfl (up_in hx (by omega)) dX9_sumOf_20 ?_
      refine r_iload_n (j := 3) rfl rfl dX9_sumOf_21 ?_
      refine r_icmp_gt (tgt := 45) dX9_sumOf_22 (by decide) (fun c22 => ?_) (fun c22 => ?_)
      · refine r_iinc (j := 0) (lv' := fun z => [(4, .int z), (3, .int a), (0, .ref 75), (1, .int kn), (2, .ref 1005)]) dX9_sumOf_45 rfl (Nat.le_of_ble_eq_true rfl) (fun _ => rfl) (fun x4_45 ex4_45 => ?_)
        refine r_goto (tgt := 5) dX9_sumOf_48 (by decide) ?_
        rw [cx] at c22; exact ih (i + 1) (by omega) _ _ (by rw [sms, if_neg (by simpa using Int32.not_le.mpr c22)]; exact ea) (by rw [ex4_45]; exact i_inc hx (by omega))
      · refine r_iload_n (j := 1) rfl rfl dX9_sumOf_25 ?_
        refine r_aload_n (j := 2) rfl rfl dX9_sumOf_26 ?_
        refine r_iload (j := 0) rfl dX9_sumOf_27 ?_
        refine r_iload_n (j := 3) rfl rfl dX9_sumOf_29 ?_
        refine w_cV2p (k_X9_feetKnown hx (by omega) r0 r2) (Nat.le_of_ble_eq_true rfl) lX9_63 vmX9_feetKnown rfl (Nat.le_of_ble_eq_true rfl) (Nat.le_of_ble_eq_true rfl) (Nat.le_of_ble_eq_true rfl) dX9_sumOf_30 ?_
        refine r_aload_n (j := 4) rfl rfl dX9_sumOf_33 ?_
        refine r_aload_n (j := 2) rfl rfl dX9_sumOf_34 ?_
        refine w_getR (b := 78) fX9_18 rfl rfl dX9_sumOf_35 ?_
        refine r_iload (j := 0) rfl dX9_sumOf_38 ?_
        refine w_iald rfl (up_in hx (by omega)) dX9_sumOf_40 ?_
        refine r_tld (t := tb5) oT_5 (by rw [cx, vp_in_iff]; exact hh2) dX9_sumOf_41 ?_
        refine r_imul dX9_sumOf_42 ?_
        refine r_iadd dX9_sumOf_43 ?_
        refine r_istore_n (lv' := fun z => [(3, .int z), (4, .int x), (0, .ref 75), (1, .int kn), (2, .ref 1005)]) dX9_sumOf_44 rfl (Nat.le_of_ble_eq_true rfl) (fun _ => rfl) (fun x3_44 ex3_44 => ?_)
        refine r_iinc (j := 1) (lv' := fun z => [(4, .int z), (3, .int x3_44), (0, .ref 75), (1, .int kn), (2, .ref 1005)]) dX9_sumOf_45 rfl (Nat.le_of_ble_eq_true rfl) (fun _ => rfl) (fun x4_45 ex4_45 => ?_)
        refine r_goto (tgt := 5) dX9_sumOf_48 (by decide) ?_
        rw [cx] at c22 ex3_44; exact ih (i + 1) (by omega) _ _ (by rw [sms, if_pos (by simpa using Int32.not_lt.mp c22), ex3_44, ea]) (by rw [ex4_45]; exact i_inc hx (by omega))
def end5 (I : Is) (kn : Int32) : Int32 := sms (fun k => decide (I 76 k ≤ kn)) (fun k => fkS I kn k * tb5.getD (I 78 k).toNatClampNeg 0) (nN (I 75 8))
theorem k_X9_sumOf5 {kn : Int32} (s0 : 0 ≤ (I 75 8).toInt) (s16 : (I 75 8).toInt ≤ 16) (r0 : 0 ≤ (I 75 9).toInt) (r2 : (I 75 9).toInt ≤ 20) (hh : ∀ k, k < nN (I 75 8) → 0 ≤ (I 78 k).toInt ∧ (I 78 k).toInt < 8) : Con sc mX9_sumOf 1 0 0 [.ref 75, .int kn, .ref 1005] (XW I L tg) (rI (end5 I kn) (XW I L tg)) := by
  refine Con_of (by decide) (Nat.le_of_ble_eq_true rfl) ?_
  have hS := nN_of s0
  refine r_iconst (v := 0) rfl dX9_sumOf_0 ?_
  refine r_istore_n (lv' := fun z => [(3, .int z), (0, .ref 75), (1, .int kn), (2, .ref 1005)]) dX9_sumOf_1 rfl (Nat.le_of_ble_eq_true rfl) (fun _ => rfl) (fun x3_1 ex3_1 => ?_)
  refine r_iconst (v := 0) rfl dX9_sumOf_2 ?_
  refine r_istore (lv' := fun z => [(4, .int z), (3, .int x3_1), (0, .ref 75), (1, .int kn), (2, .ref 1005)]) dX9_sumOf_3 (Nat.le_of_ble_eq_true rfl) (fun _ => rfl) (fun x4_3 ex4_3 => ?_)
  exact l_X9_sumOf5 hS (by omega) r0 r2 hh _ 0 (Nat.zero_add _) _ _ ex3_1 (by rw [ex4_3]; rfl)
theorem k_X9_along {kn : Int32} (s0 : 0 ≤ (I 75 8).toInt) (s16 : (I 75 8).toInt ≤ 16) (r0 : 0 ≤ (I 75 9).toInt) (r2 : (I 75 9).toInt ≤ 20) (hh : ∀ k, k < nN (I 75 8) → 0 ≤ (I 78 k).toInt ∧ (I 78 k).toInt < 8) : Con sc mX9_along 2 0 0 [.ref 75, .int kn] (XW I L tg) (rI (end5 I kn) (XW I L tg)) := by
  refine Con_of (by decide) (Nat.le_of_ble_eq_true rfl) ?_
  refine r_aload_n (j := 0) rfl rfl dX9_along_0 ?_
  refine r_iload_n (j := 1) rfl rfl dX9_along_1 ?_
  refine r_gets (v := .ref 1005) (by decide +kernel) fsX9_53 dX9_along_2 ?_
  refine w_cV2p (k_X9_sumOf5 s0 s16 r0 r2 hh) (Nat.le_of_ble_eq_true rfl) lX9_56 vmX9_sumOf rfl (Nat.le_of_ble_eq_true rfl) (Nat.le_of_ble_eq_true rfl) (Nat.le_of_ble_eq_true rfl) dX9_along_5 ?_
  refine w_iret rfl (rfl) (Nat.le_of_ble_eq_true rfl) (Nat.le_of_ble_eq_true rfl) dX9_along_8 ?_
  exact ⟨rfl, rfl, rfl, rfl⟩
theorem l_X9_sumOf6 {kn : Int32} (hS : (I 75 8).toInt = NS) (h16 : NS ≤ 16) (r0 : 0 ≤ (I 75 9).toInt) (r2 : (I 75 9).toInt ≤ 20) (hh : ∀ k, k < NS → 0 ≤ (I 78 k).toInt ∧ (I 78 k).toInt < 8) : ∀ n i : Nat, i + n = NS → ∀ a x : Int32, a = sms (fun k => decide (I 76 k ≤ kn)) (fun k => fkS I kn k * tb6.getD (I 78 k).toNatClampNeg 0) i → x.toInt = i → RR sc mX9_sumOf 1 0 0 (rI (sms (fun k => decide (I 76 k ≤ kn)) (fun k => fkS I kn k * tb6.getD (I 78 k).toNatClampNeg 0) NS) (XW I L tg)) 0 0 5 [(4, .int x), (3, .int a), (0, .ref 75), (1, .int kn), (2, .ref 1006)] [] (XW I L tg) := by
  intro n
  induction n with
  | zero =>
    intro i hi a x ea hx
    refine r_iload (j := 0) rfl dX9_sumOf_5 ?_
    refine r_aload_n (j := 2) rfl rfl dX9_sumOf_7 ?_
    refine w_getI fX9_36 rfl dX9_sumOf_8 ?_
    refine r_icmp_ge (tgt := 51) dX9_sumOf_11 (by decide) (fun c11 => ?_) (fun c11 => ?_)
    · refine r_iload_n (j := 1) rfl rfl dX9_sumOf_51 ?_
      refine w_iret rfl (rfl) (Nat.le_of_ble_eq_true rfl) (Nat.le_of_ble_eq_true rfl) dX9_sumOf_52 ?_
      exact ⟨by rw [ea, show i = NS by omega], rfl, rfl, rfl⟩
    · exfalso; ((try simp only [bI_0, bI_1, lc_lt, lc_gt, lc_le, lc_ge, Classical.not_not] at *); (try simp only [i_lt, i_le, i_eq, l_lt, l_le, l_eq, Int32.toInt_toInt64, Int32.reduceToInt, Int64.reduceToInt] at *); omega)
  | succ n ih =>
    intro i hi a x ea hx
    have cx := cl_of hx
    have hh2 := hh i (by omega)
    refine r_iload (j := 0) rfl dX9_sumOf_5 ?_
    refine r_aload_n (j := 2) rfl rfl dX9_sumOf_7 ?_
    refine w_getI fX9_36 rfl dX9_sumOf_8 ?_
    refine r_icmp_ge (tgt := 51) dX9_sumOf_11 (by decide) (fun c11 => ?_) (fun c11 => ?_)
    · exfalso; ((try simp only [bI_0, bI_1, lc_lt, lc_gt, lc_le, lc_ge, Classical.not_not] at *); (try simp only [i_lt, i_le, i_eq, l_lt, l_le, l_eq, Int32.toInt_toInt64, Int32.reduceToInt, Int64.reduceToInt] at *); omega)
    · refine r_aload_n (j := 2) rfl rfl dX9_sumOf_14 ?_
      refine w_getR (b := 76) fX9_11 rfl rfl dX9_sumOf_15 ?_
      refine r_iload (j := 0) rfl dX9_sumOf_18 ?_
      refine w_iald rfl (up_in hx (by omega)) dX9_sumOf_20 ?_
      refine r_iload_n (j := 3) rfl rfl dX9_sumOf_21 ?_
      refine r_icmp_gt (tgt := 45) dX9_sumOf_22 (by decide) (fun c22 => ?_) (fun c22 => ?_)
      · refine r_iinc (j := 0) (lv' := fun z => [(4, .int z), (3, .int a), (0, .ref 75), (1, .int kn), (2, .ref 1006)]) dX9_sumOf_45 rfl (Nat.le_of_ble_eq_true rfl) (fun _ => rfl) (fun x4_45 ex4_45 => ?_)
        refine r_goto (tgt := 5) dX9_sumOf_48 (by decide) ?_
        rw [cx] at c22; exact ih (i + 1) (by omega) _ _ (by rw [sms, if_neg (by simpa using Int32.not_le.mpr c22)]; exact ea) (by rw [ex4_45]; exact i_inc hx (by omega))
      · refine r_iload_n (j := 1) rfl rfl dX9_sumOf_25 ?_
        refine r_aload_n (j := 2) rfl rfl dX9_sumOf_26 ?_
        refine r_iload (j := 0) rfl dX9_sumOf_27 ?_
        refine r_iload_n (j := 3) rfl rfl dX9_sumOf_29 ?_
        refine w_cV2p (k_X9_feetKnown hx (by omega) r0 r2) (Nat.le_of_ble_eq_true rfl) lX9_63 vmX9_feetKnown rfl (Nat.le_of_ble_eq_true rfl) (Nat.le_of_ble_eq_true rfl) (Nat.le_of_ble_eq_true rfl) dX9_sumOf_30 ?_
        refine r_aload_n (j := 4) rfl rfl dX9_sumOf_33 ?_
        refine r_aload_n (j := 2) rfl rfl dX9_sumOf_34 ?_
        refine w_getR (b := 78) fX9_18 rfl rfl dX9_sumOf_35 ?_
        refine r_iload (j := 0) rfl dX9_sumOf_38 ?_
        refine w_iald rfl (up_in hx (by omega)) dX9_sumOf_40 ?_
        refine r_tld (t := tb6) oT_6 (by rw [cx, vp_in_iff]; exact hh2) dX9_sumOf_41 ?_
        refine r_imul dX9_sumOf_42 ?_
        refine r_iadd dX9_sumOf_43 ?_
        refine r_istore_n (lv' := fun z => [(3, .int z), (4, .int x), (0, .ref 75), (1, .int kn), (2, .ref 1006)]) dX9_sumOf_44 rfl (Nat.le_of_ble_eq_true rfl) (fun _ => rfl) (fun x3_44 ex3_44 => ?_)
        refine r_iinc (j := 1) (lv' := fun z => [(4, .int z), (3, .int x3_44), (0, .ref 75), (1, .int kn), (2, .ref 1006)]) dX9_sumOf_45 rfl (Nat.le_of_ble_eq_true rfl) (fun _ => rfl) (fun x4_45 ex4_45 => ?_)
        refine r_goto (tgt := 5) dX9_sumOf_48 (by decide) ?_
        rw [cx] at c22 ex3_44; exact ih (i + 1) (by omega) _ _ (by rw [sms, if_pos (by simpa using Int32.not_lt.mp c22), ex3_44, ea]) (by rw [ex4_45]; exact i_inc hx (by omega))
def end6 (I : Is) (kn : Int32) : Int32 := sms (fun k => decide (I 76 k ≤ kn)) (fun k => fkS I kn k * tb6.getD (I 78 k).toNatClampNeg 0) (nN (I 75 8))
theorem k_X9_sumOf6 {kn : Int32} (s0 : 0 ≤ (I 75 8).toInt) (s16 : (I 75 8).toInt ≤ 16) (r0 : 0 ≤ (I 75 9).toInt) (r2 : (I 75 9).toInt ≤ 20) (hh : ∀ k, k < nN (I 75 8) → 0 ≤ (I 78 k).toInt ∧ (I 78 k).toInt < 8) : Con sc mX9_sumOf 1 0 0 [.ref 75, .int kn, .ref 1006] (XW I L tg) (rI (end6 I kn) (XW I L tg)) := by
  refine Con_of (by decide) (Nat.le_of_ble_eq_true rfl) ?_
  have hS := nN_of s0
  refine r_iconst (v := 0) rfl dX9_sumOf_0 ?_
  refine r_istore_n (lv' := fun z => [(3, .int z), (0, .ref 75), (1, .int kn), (2, .ref 1006)]) dX9_sumOf_1 rfl (Nat.le_of_ble_eq_true rfl) (fun _ => rfl) (fun x3_1 ex3_1 => ?_)
  refine r_iconst (v := 0) rfl dX9_sumOf_2 ?_
  refine r_istore (lv' := fun z => [(4, .int z), (3, .int x3_1), (0, .ref 75), (1, .int kn), (2, .ref 1006)]) dX9_sumOf_3 (Nat.le_of_ble_eq_true rfl) (fun _ => rfl) (fun x4_3 ex4_3 => ?_)
  exact l_X9_sumOf6 hS (by omega) r0 r2 hh _ 0 (Nat.zero_add _) _ _ ex3_1 (by rw [ex4_3]; rfl)
theorem k_X9_toward {kn : Int32} (s0 : 0 ≤ (I 75 8).toInt) (s16 : (I 75 8).toInt ≤ 16) (r0 : 0 ≤ (I 75 9).toInt) (r2 : (I 75 9).toInt ≤ 20) (hh : ∀ k, k < nN (I 75 8) → 0 ≤ (I 78 k).toInt ∧ (I 78 k).toInt < 8) : Con sc mX9_toward 2 0 0 [.ref 75, .int kn] (XW I L tg) (rI (end6 I kn) (XW I L tg)) := by
  refine Con_of (by decide) (Nat.le_of_ble_eq_true rfl) ?_
  refine r_aload_n (j := 0) rfl rfl dX9_toward_0 ?_
  refine r_iload_n (j := 1) rfl rfl dX9_toward_1 ?_
  refine r_gets (v := .ref 1006) (by decide +kernel) fsX9_60 dX9_toward_2 ?_
  refine w_cV2p (k_X9_sumOf6 s0 s16 r0 r2 hh) (Nat.le_of_ble_eq_true rfl) lX9_56 vmX9_sumOf rfl (Nat.le_of_ble_eq_true rfl) (Nat.le_of_ble_eq_true rfl) (Nat.le_of_ble_eq_true rfl) dX9_toward_5 ?_
  refine w_iret rfl (rfl) (Nat.le_of_ble_eq_true rfl) (Nat.le_of_ble_eq_true rfl) dX9_toward_8 ?_
  exact ⟨rfl, rfl, rfl, rfl⟩
def ofb (I : Is) (kn : Int32) : Int32 := sms (fun k => decide (I 76 k ≤ kn)) (fun k => 10 * I 79 k + I 75 11 * nI k) (nN (I 75 8))
theorem l_X9_offBy {kn : Int32} (hS : (I 75 8).toInt = NS) (h16 : NS ≤ 16) : ∀ n i : Nat, i + n = NS → ∀ a x : Int32, a = sms (fun k => decide (I 76 k ≤ kn)) (fun k => 10 * I 79 k + I 75 11 * nI k) i → x.toInt = i → RR sc mX9_offBy 0 0 0 (rI (sms (fun k => decide (I 76 k ≤ kn)) (fun k => 10 * I 79 k + I 75 11 * nI k) NS) (XW I L tg)) 0 0 4 [(3, .int x), (2, .int a), (0, .ref 75), (1, .int kn)] [] (XW I L tg) := by
  intro n
  induction n with
  | zero =>
    intro i hi a x ea hx
    refine r_iload_n (j := 0) rfl rfl dX9_offBy_4 ?_
    refine r_aload_n (j := 2) rfl rfl dX9_offBy_5 ?_
    refine w_getI fX9_36 rfl dX9_offBy_6 ?_
    refine r_icmp_ge (tgt := 47) dX9_offBy_9 (by decide) (fun c9 => ?_) (fun c9 => ?_)
    · refine r_iload_n (j := 1) rfl rfl dX9_offBy_47 ?_
      refine w_iret rfl (rfl) (Nat.le_of_ble_eq_true rfl) (Nat.le_of_ble_eq_true rfl) dX9_offBy_48 ?_
      exact ⟨by rw [ea, show i = NS by omega], rfl, rfl, rfl⟩
    · exfalso; ((try simp only [bI_0, bI_1, lc_lt, lc_gt, lc_le, lc_ge, Classical.not_not] at *); (try simp only [i_lt, i_le, i_eq, l_lt, l_le, l_eq, Int32.toInt_toInt64, Int32.reduceToInt, Int64.reduceToInt] at *); omega)
  | succ n ih =>
    intro i hi a x ea hx
    have cx := cl_of hx
    obtain rfl := x_nI hx
    refine r_iload_n (j := 0) rfl rfl dX9_offBy_4 ?_
    refine r_aload_n (j := 2) rfl rfl dX9_offBy_5 ?_
    refine w_getI fX9_36 rfl dX9_offBy_6 ?_
    refine r_icmp_ge (tgt := 47) dX9_offBy_9 (by decide) (fun c9 => ?_) (fun c9 => ?_)
    · exfalso; ((try simp only [bI_0, bI_1, lc_lt, lc_gt, lc_le, lc_ge, Classical.not_not] at *); (try simp only [i_lt, i_le, i_eq, l_lt, l_le, l_eq, Int32.toInt_toInt64, Int32.reduceToInt, Int64.reduceToInt] at *); omega)
    · refine r_aload_n (j := 2) rfl rfl dX9_offBy_12 ?_
      refine w_getR (b := 76) fX9_11 rfl rfl dX9_offBy_13 ?_
      refine r_iload_n (j := 0) rfl rfl dX9_offBy_16 ?_
      refine w_iald rfl (up_in hx (by omega)) dX9_offBy_17 ?_
      refine r_iload_n (j := 3) rfl rfl dX9_offBy_18 ?_
      refine r_icmp_gt (tgt := 41) dX9_offBy_19 (by decide) (fun c19 => ?_) (fun c19 => ?_)
      · refine r_iinc (j := 0) (lv' := fun z => [(3, .int z), (2, .int a), (0, .ref 75), (1, .int kn)]) dX9_offBy_41 rfl (Nat.le_of_ble_eq_true rfl) (fun _ => rfl) (fun x3_41 ex3_41 => ?_)
        refine r_goto (tgt := 4) dX9_offBy_44 (by decide) ?_
        rw [cx] at c19; exact ih (i + 1) (by omega) _ _ (by rw [sms, if_neg (by simpa using Int32.not_le.mpr c19)]; exact ea) (by rw [ex3_41]; exact i_inc hx (by omega))
      · refine r_iload_n (j := 1) rfl rfl dX9_offBy_22 ?_
        refine r_bipush (v := 10) rfl dX9_offBy_23 ?_
        refine r_aload_n (j := 2) rfl rfl dX9_offBy_25 ?_
        refine w_getR (b := 79) fX9_21 rfl rfl dX9_offBy_26 ?_
        refine r_iload_n (j := 0) rfl rfl dX9_offBy_29 ?_
        refine w_iald rfl (up_in hx (by omega)) dX9_offBy_30 ?_
        refine r_imul dX9_offBy_31 ?_
        refine r_aload_n (j := 2) rfl rfl dX9_offBy_32 ?_
        refine w_getI fX9_46 rfl dX9_offBy_33 ?_
        refine r_iload_n (j := 0) rfl rfl dX9_offBy_36 ?_
        refine r_imul dX9_offBy_37 ?_
        refine r_iadd dX9_offBy_38 ?_
        refine r_iadd dX9_offBy_39 ?_
        refine r_istore_n (lv' := fun z => [(2, .int z), (3, .int (nI i)), (0, .ref 75), (1, .int kn)]) dX9_offBy_40 rfl (Nat.le_of_ble_eq_true rfl) (fun _ => rfl) (fun x2_40 ex2_40 => ?_)
        refine r_iinc (j := 1) (lv' := fun z => [(3, .int z), (2, .int x2_40), (0, .ref 75), (1, .int kn)]) dX9_offBy_41 rfl (Nat.le_of_ble_eq_true rfl) (fun _ => rfl) (fun x3_41 ex3_41 => ?_)
        refine r_goto (tgt := 4) dX9_offBy_44 (by decide) ?_
        rw [cx] at c19 ex2_40; exact ih (i + 1) (by omega) _ _ (by rw [sms, if_pos (by simpa using Int32.not_lt.mp c19), ex2_40, ea]) (by rw [ex3_41]; exact i_inc hx (by omega))
theorem k_X9_offBy {kn : Int32} (s0 : 0 ≤ (I 75 8).toInt) (s16 : (I 75 8).toInt ≤ 16) : Con sc mX9_offBy 0 0 0 [.ref 75, .int kn] (XW I L tg) (rI (ofb I kn) (XW I L tg)) := by
  refine Con_of (by decide) (Nat.le_of_ble_eq_true rfl) ?_
  have hS := nN_of s0
  refine r_iconst (v := 0) rfl dX9_offBy_0 ?_
  refine r_istore_n (lv' := fun z => [(2, .int z), (0, .ref 75), (1, .int kn)]) dX9_offBy_1 rfl (Nat.le_of_ble_eq_true rfl) (fun _ => rfl) (fun x2_1 ex2_1 => ?_)
  refine r_iconst (v := 0) rfl dX9_offBy_2 ?_
  refine r_istore_n (lv' := fun z => [(3, .int z), (2, .int x2_1), (0, .ref 75), (1, .int kn)]) dX9_offBy_3 rfl (Nat.le_of_ble_eq_true rfl) (fun _ => rfl) (fun x3_3 ex3_3 => ?_)
  exact l_X9_offBy hS (by omega) _ 0 (Nat.zero_add _) _ _ ex2_1 (by rw [ex3_3]; rfl)
def upS (mid off wood : Int32) : Int32 := if mid + off ≤ 0 then 0 else if wood ≤ mid - off then 2 else if 0 < mid - off ∧ mid + off < wood then 1 else 3
theorem k_X9_comesUp {h kn : Int32} {hn : Nat} (eh : h.toInt = hn) (h5 : hn < 5) (s0 : 0 ≤ (I 75 8).toInt) (s16 : (I 75 8).toInt ≤ 16) (r0 : 0 ≤ (I 75 9).toInt) (r2 : (I 75 9).toInt ≤ 20) (hh : ∀ k, k < nN (I 75 8) → 0 ≤ (I 78 k).toInt ∧ (I 78 k).toInt < 8) : Con sc mX9_comesUp 3 0 0 [.ref 75, .ref 3, .int h, .int kn] (XW I L tg) (rI (upS (end6 I kn - 10 * I 8 hn) (ofb I kn) (10 * I 4 4)) (XW I L tg)) := by
  refine Con_of (by decide) (Nat.le_of_ble_eq_true rfl) ?_
  have ch := cl_of eh
  refine r_aload_n (j := 0) rfl rfl dX9_comesUp_0 ?_
  refine r_iload_n (j := 3) rfl rfl dX9_comesUp_1 ?_
  refine w_cV1p (k_X9_toward s0 s16 r0 r2 hh) (Nat.le_of_ble_eq_true rfl) lX9_67 vmX9_toward rfl (Nat.le_of_ble_eq_true rfl) (Nat.le_of_ble_eq_true rfl) (Nat.le_of_ble_eq_true rfl) dX9_comesUp_2 ?_
  refine r_bipush (v := 10) rfl dX9_comesUp_5 ?_
  refine r_aload_n (j := 1) rfl rfl dX9_comesUp_7 ?_
  refine w_getR (b := 8) fX9_71 rfl rfl dX9_comesUp_8 ?_
  refine r_iload_n (j := 2) rfl rfl dX9_comesUp_11 ?_
  refine w_iald rfl (up_in eh h5) dX9_comesUp_12 ?_
  refine r_imul dX9_comesUp_13 ?_
  refine r_isub dX9_comesUp_14 ?_
  refine r_istore (lv' := fun z => [(4, .int z), (0, .ref 75), (1, .ref 3), (2, .int h), (3, .int kn)]) dX9_comesUp_15 (Nat.le_of_ble_eq_true rfl) (fun _ => rfl) (fun x4_15 ex4_15 => ?_)
  refine r_aload_n (j := 1) rfl rfl dX9_comesUp_17 ?_
  refine r_iload_n (j := 4) rfl rfl dX9_comesUp_18 ?_
  refine w_cV1p (k_X9_offBy s0 s16) (Nat.le_of_ble_eq_true rfl) lX9_76 vmX9_offBy rfl (Nat.le_of_ble_eq_true rfl) (Nat.le_of_ble_eq_true rfl) (Nat.le_of_ble_eq_true rfl) dX9_comesUp_19 ?_
  refine r_istore (lv' := fun z => [(5, .int z), (4, .int x4_15), (0, .ref 75), (1, .ref 3), (2, .int h), (3, .int kn)]) dX9_comesUp_22 (Nat.le_of_ble_eq_true rfl) (fun _ => rfl) (fun x5_22 ex5_22 => ?_)
  refine r_bipush (v := 10) rfl dX9_comesUp_24 ?_
  refine r_aload_n (j := 3) rfl rfl dX9_comesUp_26 ?_
  refine r_iconst (v := 4) rfl dX9_comesUp_27 ?_
  refine w_cV1p (k_X0_setting (by decide) (by decide)) (Nat.le_of_ble_eq_true rfl) lX9_79 vmX0_setting rfl (Nat.le_of_ble_eq_true rfl) (Nat.le_of_ble_eq_true rfl) (Nat.le_of_ble_eq_true rfl) dX9_comesUp_28 ?_
  refine r_imul dX9_comesUp_31 ?_
  refine r_istore (lv' := fun z => [(6, .int z), (5, .int x5_22), (4, .int x4_15), (0, .ref 75), (1, .ref 3), (2, .int h), (3, .int kn)]) dX9_comesUp_32 (Nat.le_of_ble_eq_true rfl) (fun _ => rfl) (fun x6_32 ex6_32 => ?_)
  rw [ch] at ex4_15; replace ex6_32 : x6_32 = 10 * I 4 4 := ex6_32
  refine r_iload (j := 2) rfl dX9_comesUp_34 ?_
  refine r_iload (j := 1) rfl dX9_comesUp_36 ?_
  refine r_iadd dX9_comesUp_38 ?_
  refine r_if_gt (tgt := 44) dX9_comesUp_39 (by decide) (fun c39 => ?_) (fun c39 => ?_)
  · have d1 : ¬ x4_15 + x5_22 ≤ 0 := Int32.not_le.mpr c39
    refine r_iload (j := 2) rfl dX9_comesUp_44 ?_
    refine r_iload (j := 1) rfl dX9_comesUp_46 ?_
    refine r_isub dX9_comesUp_48 ?_
    refine r_iload (j := 0) rfl dX9_comesUp_49 ?_
    refine r_icmp_lt (tgt := 56) dX9_comesUp_51 (by decide) (fun c51 => ?_) (fun c51 => ?_)
    · have d2 : ¬ x6_32 ≤ x4_15 - x5_22 := Int32.not_le.mpr c51
      refine r_iload (j := 2) rfl dX9_comesUp_56 ?_
      refine r_iload (j := 1) rfl dX9_comesUp_58 ?_
      refine r_isub dX9_comesUp_60 ?_
      refine r_if_le (tgt := 78) dX9_comesUp_61 (by decide) (fun c61 => ?_) (fun c61 => ?_)
      · refine r_iconst (v := 3) rfl dX9_comesUp_78 ?_
        refine w_iret rfl (rfl) (Nat.le_of_ble_eq_true rfl) (Nat.le_of_ble_eq_true rfl) dX9_comesUp_79 ?_
        subst ex4_15 ex5_22 ex6_32; exact ⟨by unfold upS; rw [if_neg d1, if_neg d2, if_neg (fun z => absurd z.1 (Int32.not_lt.mpr c61))], rfl, rfl, rfl⟩
      · refine r_iload (j := 2) rfl dX9_comesUp_64 ?_
        refine r_iload (j := 1) rfl dX9_comesUp_66 ?_
        refine r_iadd dX9_comesUp_68 ?_
        refine r_iload (j := 0) rfl dX9_comesUp_69 ?_
        refine r_icmp_ge (tgt := 78) dX9_comesUp_71 (by decide) (fun c71 => ?_) (fun c71 => ?_)
        · refine r_iconst (v := 3) rfl dX9_comesUp_78 ?_
          refine w_iret rfl (rfl) (Nat.le_of_ble_eq_true rfl) (Nat.le_of_ble_eq_true rfl) dX9_comesUp_79 ?_
          subst ex4_15 ex5_22 ex6_32; exact ⟨by unfold upS; rw [if_neg d1, if_neg d2, if_neg (fun z => absurd z.2 (Int32.not_lt.mpr c71))], rfl, rfl, rfl⟩
        · refine r_iconst (v := 1) rfl dX9_comesUp_74 ?_
          refine r_goto (tgt := 79) dX9_comesUp_75 (by decide) ?_
          refine w_iret rfl (rfl) (Nat.le_of_ble_eq_true rfl) (Nat.le_of_ble_eq_true rfl) dX9_comesUp_79 ?_
          subst ex4_15 ex5_22 ex6_32; exact ⟨by unfold upS; rw [if_neg d1, if_neg d2, if_pos ⟨Int32.not_le.mp c61, Int32.not_le.mp c71⟩], rfl, rfl, rfl⟩
    · refine r_iconst (v := 2) rfl dX9_comesUp_54 ?_
      refine w_iret rfl (rfl) (Nat.le_of_ble_eq_true rfl) (Nat.le_of_ble_eq_true rfl) dX9_comesUp_55 ?_
      subst ex4_15 ex5_22 ex6_32; exact ⟨by unfold upS; rw [if_neg d1, if_pos (Int32.not_lt.mp c51)], rfl, rfl, rfl⟩
  · refine r_iconst (v := 0) rfl dX9_comesUp_42 ?_
    refine w_iret rfl (rfl) (Nat.le_of_ble_eq_true rfl) (Nat.le_of_ble_eq_true rfl) dX9_comesUp_43 ?_
    subst ex4_15 ex5_22 ex6_32; exact ⟨by unfold upS; rw [if_pos (Int32.not_lt.mp c39)], rfl, rfl, rfl⟩
theorem k_X9_mayTellAt {s : Int32} : Con sc mX9_mayTellAt 2 0 0 [.ref 75, .int s] (XW I L tg) (rI (bI ((0 ≤ s.toInt ∧ s.toInt ≤ 999) ∧ (I 75 10).toInt ≤ s.toInt)) (XW I L tg)) := by
  refine Con_of (by decide) (Nat.le_of_ble_eq_true rfl) ?_
  refine r_iload_n (j := 1) rfl rfl dX9_mayTellAt_0 ?_
  refine w_cS1p (k_X11_isStep) (Nat.le_of_ble_eq_true rfl) lX9_49 mtX11_isStep (Nat.le_of_ble_eq_true rfl) (Nat.le_of_ble_eq_true rfl) (Nat.le_of_ble_eq_true rfl) dX9_mayTellAt_1 ?_
  refine r_if_eq (tgt := 19) dX9_mayTellAt_4 (by decide) (fun c4 => ?_) (fun c4 => ?_)
  · refine r_iconst (v := 0) rfl dX9_mayTellAt_19 ?_
    refine w_iret rfl (rfl) (Nat.le_of_ble_eq_true rfl) (Nat.le_of_ble_eq_true rfl) dX9_mayTellAt_20 ?_
    exact ⟨by first | exact (bI_t (by ((try simp only [bI_0, bI_1, lc_lt, lc_gt, lc_le, lc_ge, Classical.not_not] at *); (try simp only [i_lt, i_le, i_eq, l_lt, l_le, l_eq, Int32.toInt_toInt64, Int32.reduceToInt, Int64.reduceToInt] at *); omega))).symm | exact (bI_f (by ((try simp only [bI_0, bI_1, lc_lt, lc_gt, lc_le, lc_ge, Classical.not_not] at *); (try simp only [i_lt, i_le, i_eq, l_lt, l_le, l_eq, Int32.toInt_toInt64, Int32.reduceToInt, Int64.reduceToInt] at *); omega))).symm, rfl, rfl, rfl⟩
  · refine r_iload_n (j := 1) rfl rfl dX9_mayTellAt_7 ?_
    refine r_aload_n (j := 0) rfl rfl dX9_mayTellAt_8 ?_
    refine w_getI fX9_43 rfl dX9_mayTellAt_9 ?_
    refine r_icmp_lt (tgt := 19) dX9_mayTellAt_12 (by decide) (fun c12 => ?_) (fun c12 => ?_)
    · refine r_iconst (v := 0) rfl dX9_mayTellAt_19 ?_
      refine w_iret rfl (rfl) (Nat.le_of_ble_eq_true rfl) (Nat.le_of_ble_eq_true rfl) dX9_mayTellAt_20 ?_
      exact ⟨by first | exact (bI_t (by ((try simp only [bI_0, bI_1, lc_lt, lc_gt, lc_le, lc_ge, Classical.not_not] at *); (try simp only [i_lt, i_le, i_eq, l_lt, l_le, l_eq, Int32.toInt_toInt64, Int32.reduceToInt, Int64.reduceToInt] at *); omega))).symm | exact (bI_f (by ((try simp only [bI_0, bI_1, lc_lt, lc_gt, lc_le, lc_ge, Classical.not_not] at *); (try simp only [i_lt, i_le, i_eq, l_lt, l_le, l_eq, Int32.toInt_toInt64, Int32.reduceToInt, Int64.reduceToInt] at *); omega))).symm, rfl, rfl, rfl⟩
    · refine r_iconst (v := 1) rfl dX9_mayTellAt_15 ?_
      refine r_goto (tgt := 20) dX9_mayTellAt_16 (by decide) ?_
      refine w_iret rfl (rfl) (Nat.le_of_ble_eq_true rfl) (Nat.le_of_ble_eq_true rfl) dX9_mayTellAt_20 ?_
      exact ⟨by first | exact (bI_t (by ((try simp only [bI_0, bI_1, lc_lt, lc_gt, lc_le, lc_ge, Classical.not_not] at *); (try simp only [i_lt, i_le, i_eq, l_lt, l_le, l_eq, Int32.toInt_toInt64, Int32.reduceToInt, Int64.reduceToInt] at *); omega))).symm | exact (bI_f (by ((try simp only [bI_0, bI_1, lc_lt, lc_gt, lc_le, lc_ge, Classical.not_not] at *); (try simp only [i_lt, i_le, i_eq, l_lt, l_le, l_eq, Int32.toInt_toInt64, Int32.reduceToInt, Int64.reduceToInt] at *); omega))).symm, rfl, rfl, rfl⟩
def sadd (I : Is) (n : Nat) (s f h k : Int32) : Is := up (up (up (up (up (up (up I 76 n s) 77 n f) 78 n h) 79 n k) 80 n 0) 75 10 s) 75 8 (I 75 8 + 1)
theorem k_X9_add_y {n : Nat} {s f h k : Int32} (hn : (I 75 8).toInt = n) (h16 : n < 16) : Con sc mX9_add 0 0 0 [.ref 75, .int s, .int f, .int h, .int k] (XW I L tg) (rI (I 75 8) (XW (sadd I n s f h k) L tg)) := by
  refine Con_of (by decide) (Nat.le_of_ble_eq_true rfl) ?_
  have ct := cl_of hn
  have hin := up_in hn h16
  refine r_aload_n (j := 0) rfl rfl dX9_add_0 ?_
  refine w_getI fX9_36 rfl dX9_add_1 ?_
  refine r_bipush (v := 16) rfl dX9_add_4 ?_
  refine r_icmp_lt (tgt := 12) dX9_add_6 (by decide) (fun c6 => ?_) (fun c6 => ?_)
  · refine r_aload_n (j := 0) rfl rfl dX9_add_12 ?_
    refine w_getR (b := 76) fX9_11 rfl rfl dX9_add_13 ?_
    refine r_aload_n (j := 0) rfl rfl dX9_add_16 ?_
    refine w_getI fX9_36 rfl dX9_add_17 ?_
    refine r_iload_n (j := 1) rfl rfl dX9_add_20 ?_
    refine w_iast rfl (by first | assumption | (rw [vp_in_iff]; ((try simp only [bI_0, bI_1, lc_lt, lc_gt, lc_le, lc_ge, Classical.not_not] at *); (try simp only [i_lt, i_le, i_eq, l_lt, l_le, l_eq, Int32.toInt_toInt64, Int32.reduceToInt, Int64.reduceToInt] at *); omega))) dX9_add_21 (fun J21 hJ21 => ?_)
    refine r_aload_n (j := 0) rfl rfl dX9_add_22 ?_
    refine w_getR (b := 77) fX9_15 rfl rfl dX9_add_23 ?_
    refine r_aload_n (j := 0) rfl rfl dX9_add_26 ?_
    refine w_getI fX9_36 rfl dX9_add_27 ?_
    refine r_iload_n (j := 2) rfl rfl dX9_add_30 ?_
    refine w_iast rfl (by subst hJ21; simpa [up_eq, vu_eq] using hin) dX9_add_31 (fun J31 hJ31 => ?_)
    refine r_aload_n (j := 0) rfl rfl dX9_add_32 ?_
    refine w_getR (b := 78) fX9_18 rfl rfl dX9_add_33 ?_
    refine r_aload_n (j := 0) rfl rfl dX9_add_36 ?_
    refine w_getI fX9_36 rfl dX9_add_37 ?_
    refine r_iload_n (j := 3) rfl rfl dX9_add_40 ?_
    refine w_iast rfl (by subst hJ31 hJ21; simpa [up_eq, vu_eq] using hin) dX9_add_41 (fun J41 hJ41 => ?_)
    refine r_aload_n (j := 0) rfl rfl dX9_add_42 ?_
    refine w_getR (b := 79) fX9_21 rfl rfl dX9_add_43 ?_
    refine r_aload_n (j := 0) rfl rfl dX9_add_46 ?_
    refine w_getI fX9_36 rfl dX9_add_47 ?_
    refine r_iload (j := 4) rfl dX9_add_50 ?_
    refine w_iast rfl (by subst hJ41 hJ31 hJ21; simpa [up_eq, vu_eq] using hin) dX9_add_52 (fun J52 hJ52 => ?_)
    refine r_aload_n (j := 0) rfl rfl dX9_add_53 ?_
    refine w_getR (b := 80) fX9_24 rfl rfl dX9_add_54 ?_
    refine r_aload_n (j := 0) rfl rfl dX9_add_57 ?_
    refine w_getI fX9_36 rfl dX9_add_58 ?_
    refine r_iconst (v := 0) rfl dX9_add_61 ?_
    refine w_iast rfl (by subst hJ52 hJ41 hJ31 hJ21; simpa [up_eq, vu_eq] using hin) dX9_add_62 (fun J62 hJ62 => ?_)
    refine r_aload_n (j := 0) rfl rfl dX9_add_63 ?_
    refine r_iload_n (j := 1) rfl rfl dX9_add_64 ?_
    refine w_putI fX9_43 rfl (rfl) (rfl) dX9_add_65 (fun J65 hJ65 => ?_)
    refine r_aload_n (j := 0) rfl rfl dX9_add_68 ?_
    refine r_dup rfl dX9_add_69 ?_
    refine w_getI fX9_36 rfl dX9_add_70 ?_
    refine r_iconst (v := 1) rfl dX9_add_73 ?_
    refine r_iadd dX9_add_74 ?_
    refine w_putI fX9_36 rfl (rfl) (rfl) dX9_add_75 (fun J75 hJ75 => ?_)
    refine r_aload_n (j := 0) rfl rfl dX9_add_78 ?_
    refine w_getI fX9_36 rfl dX9_add_79 ?_
    refine r_iconst (v := 1) rfl dX9_add_82 ?_
    refine r_isub dX9_add_83 ?_
    refine w_iret rfl (rfl) (Nat.le_of_ble_eq_true rfl) (Nat.le_of_ble_eq_true rfl) dX9_add_84 ?_
    subst hJ75 hJ65 hJ62 hJ52 hJ41 hJ31 hJ21
    refine ⟨?_, ?_, rfl, rfl⟩
    · simp [up_eq, vu_eq]
    · unfold sadd
      simp [up_eq, vu_eq, ct]
  · exfalso; ((try simp only [bI_0, bI_1, lc_lt, lc_gt, lc_le, lc_ge, Classical.not_not] at *); (try simp only [i_lt, i_le, i_eq, l_lt, l_le, l_eq, Int32.toInt_toInt64, Int32.reduceToInt, Int64.reduceToInt] at *); omega)
theorem k_X9_add_n {s f h k : Int32} (hn : 16 ≤ (I 75 8).toInt) : Con sc mX9_add 0 0 0 [.ref 75, .int s, .int f, .int h, .int k] (XW I L tg) (rI (-3) (XW I L tg)) := by
  refine Con_of (by decide) (Nat.le_of_ble_eq_true rfl) ?_
  refine r_aload_n (j := 0) rfl rfl dX9_add_0 ?_
  refine w_getI fX9_36 rfl dX9_add_1 ?_
  refine r_bipush (v := 16) rfl dX9_add_4 ?_
  refine r_icmp_lt (tgt := 12) dX9_add_6 (by decide) (fun c6 => ?_) (fun c6 => ?_)
  · exfalso; ((try simp only [bI_0, bI_1, lc_lt, lc_gt, lc_le, lc_ge, Classical.not_not] at *); (try simp only [i_lt, i_le, i_eq, l_lt, l_le, l_eq, Int32.toInt_toInt64, Int32.reduceToInt, Int64.reduceToInt] at *); omega)
  · refine r_bipush (v := (-3)) rfl dX9_add_9 ?_
    refine w_iret rfl (rfl) (Nat.le_of_ble_eq_true rfl) (Nat.le_of_ble_eq_true rfl) dX9_add_11 ?_
    exact ⟨rfl, rfl, rfl, rfl⟩
def scor (I : Is) (n k : Nat) (s kv f : Int32) : Is := up (up (up (up (up (up I 81 n s) 82 n kv) 83 n f) 75 9 (I 75 9 + 1)) 75 10 s) 80 k (I 80 k + 1)
theorem k_X9_correct_y {n k : Nat} {s kv f : Int32} (hn : (I 75 9).toInt = n) (h20 : n < 20) (ek : kv.toInt = k) (h16 : k < 16) : Con sc mX9_correct 0 0 0 [.ref 75, .int s, .int kv, .int f] (XW I L tg) (rI (I 80 k + 1) (XW (scor I n k s kv f) L tg)) := by
  refine Con_of (by decide) (Nat.le_of_ble_eq_true rfl) ?_
  have ct := cl_of hn
  have ck := cl_of ek
  have hin := up_in hn h20
  have hik := up_in ek h16
  refine r_aload_n (j := 0) rfl rfl dX9_correct_0 ?_
  refine w_getI fX9_40 rfl dX9_correct_1 ?_
  refine r_bipush (v := 20) rfl dX9_correct_4 ?_
  refine r_icmp_lt (tgt := 12) dX9_correct_6 (by decide) (fun c6 => ?_) (fun c6 => ?_)
  · refine r_aload_n (j := 0) rfl rfl dX9_correct_12 ?_
    refine w_getR (b := 81) fX9_27 rfl rfl dX9_correct_13 ?_
    refine r_aload_n (j := 0) rfl rfl dX9_correct_16 ?_
    refine w_getI fX9_40 rfl dX9_correct_17 ?_
    refine r_iload_n (j := 1) rfl rfl dX9_correct_20 ?_
    refine w_iast rfl (by first | assumption | (rw [vp_in_iff]; ((try simp only [bI_0, bI_1, lc_lt, lc_gt, lc_le, lc_ge, Classical.not_not] at *); (try simp only [i_lt, i_le, i_eq, l_lt, l_le, l_eq, Int32.toInt_toInt64, Int32.reduceToInt, Int64.reduceToInt] at *); omega))) dX9_correct_21 (fun J21 hJ21 => ?_)
    refine r_aload_n (j := 0) rfl rfl dX9_correct_22 ?_
    refine w_getR (b := 82) fX9_30 rfl rfl dX9_correct_23 ?_
    refine r_aload_n (j := 0) rfl rfl dX9_correct_26 ?_
    refine w_getI fX9_40 rfl dX9_correct_27 ?_
    refine r_iload_n (j := 2) rfl rfl dX9_correct_30 ?_
    refine w_iast rfl (by subst hJ21; simpa [up_eq, vu_eq] using hin) dX9_correct_31 (fun J31 hJ31 => ?_)
    refine r_aload_n (j := 0) rfl rfl dX9_correct_32 ?_
    refine w_getR (b := 83) fX9_33 rfl rfl dX9_correct_33 ?_
    refine r_aload_n (j := 0) rfl rfl dX9_correct_36 ?_
    refine w_getI fX9_40 rfl dX9_correct_37 ?_
    refine r_iload_n (j := 3) rfl rfl dX9_correct_40 ?_
    refine w_iast rfl (by subst hJ31 hJ21; simpa [up_eq, vu_eq] using hin) dX9_correct_41 (fun J41 hJ41 => ?_)
    refine r_aload_n (j := 0) rfl rfl dX9_correct_42 ?_
    refine r_dup rfl dX9_correct_43 ?_
    refine w_getI fX9_40 rfl dX9_correct_44 ?_
    refine r_iconst (v := 1) rfl dX9_correct_47 ?_
    refine r_iadd dX9_correct_48 ?_
    refine w_putI fX9_40 rfl (rfl) (rfl) dX9_correct_49 (fun J49 hJ49 => ?_)
    refine r_aload_n (j := 0) rfl rfl dX9_correct_52 ?_
    refine r_iload_n (j := 1) rfl rfl dX9_correct_53 ?_
    refine w_putI fX9_43 rfl (rfl) (rfl) dX9_correct_54 (fun J54 hJ54 => ?_)
    refine r_aload_n (j := 0) rfl rfl dX9_correct_57 ?_
    refine w_getR (b := 80) fX9_24 rfl rfl dX9_correct_58 ?_
    refine r_iload_n (j := 2) rfl rfl dX9_correct_61 ?_
    refine r_dup2 rfl rfl dX9_correct_62 ?_
    refine w_iald rfl (by first | assumption | (rw [vp_in_iff]; ((try simp only [bI_0, bI_1, lc_lt, lc_gt, lc_le, lc_ge, Classical.not_not] at *); (try simp only [i_lt, i_le, i_eq, l_lt, l_le, l_eq, Int32.toInt_toInt64, Int32.reduceToInt, Int64.reduceToInt] at *); omega))) dX9_correct_63 ?_
    refine r_iconst (v := 1) rfl dX9_correct_64 ?_
    refine r_iadd dX9_correct_65 ?_
    refine w_iast rfl (by first | assumption | (rw [vp_in_iff]; ((try simp only [bI_0, bI_1, lc_lt, lc_gt, lc_le, lc_ge, Classical.not_not] at *); (try simp only [i_lt, i_le, i_eq, l_lt, l_le, l_eq, Int32.toInt_toInt64, Int32.reduceToInt, Int64.reduceToInt] at *); omega))) dX9_correct_66 (fun J66 hJ66 => ?_)
    refine r_aload_n (j := 0) rfl rfl dX9_correct_67 ?_
    refine w_getR (b := 80) fX9_24 rfl rfl dX9_correct_68 ?_
    refine r_iload_n (j := 2) rfl rfl dX9_correct_71 ?_
    refine w_iald rfl (by first | assumption | (rw [vp_in_iff]; ((try simp only [bI_0, bI_1, lc_lt, lc_gt, lc_le, lc_ge, Classical.not_not] at *); (try simp only [i_lt, i_le, i_eq, l_lt, l_le, l_eq, Int32.toInt_toInt64, Int32.reduceToInt, Int64.reduceToInt] at *); omega))) dX9_correct_72 ?_
    refine w_iret rfl (rfl) (Nat.le_of_ble_eq_true rfl) (Nat.le_of_ble_eq_true rfl) dX9_correct_73 ?_
    subst hJ66 hJ54 hJ49 hJ41 hJ31 hJ21
    refine ⟨?_, ?_, rfl, rfl⟩
    · simp [up_eq, vu_eq, ck]
    · unfold scor
      simp [up_eq, vu_eq, ct, ck]
  · exfalso; ((try simp only [bI_0, bI_1, lc_lt, lc_gt, lc_le, lc_ge, Classical.not_not] at *); (try simp only [i_lt, i_le, i_eq, l_lt, l_le, l_eq, Int32.toInt_toInt64, Int32.reduceToInt, Int64.reduceToInt] at *); omega)
theorem k_X9_correct_n {s kv f : Int32} (hn : 20 ≤ (I 75 9).toInt) : Con sc mX9_correct 0 0 0 [.ref 75, .int s, .int kv, .int f] (XW I L tg) (rI (-3) (XW I L tg)) := by
  refine Con_of (by decide) (Nat.le_of_ble_eq_true rfl) ?_
  refine r_aload_n (j := 0) rfl rfl dX9_correct_0 ?_
  refine w_getI fX9_40 rfl dX9_correct_1 ?_
  refine r_bipush (v := 20) rfl dX9_correct_4 ?_
  refine r_icmp_lt (tgt := 12) dX9_correct_6 (by decide) (fun c6 => ?_) (fun c6 => ?_)
  · exfalso; ((try simp only [bI_0, bI_1, lc_lt, lc_gt, lc_le, lc_ge, Classical.not_not] at *); (try simp only [i_lt, i_le, i_eq, l_lt, l_le, l_eq, Int32.toInt_toInt64, Int32.reduceToInt, Int64.reduceToInt] at *); omega)
  · refine r_bipush (v := (-3)) rfl dX9_correct_9 ?_
    refine w_iret rfl (rfl) (Nat.le_of_ble_eq_true rfl) (Nat.le_of_ble_eq_true rfl) dX9_correct_11 ?_
    exact ⟨rfl, rfl, rfl, rfl⟩
def sclr (I : Is) : Is := up (up (up (up I 75 8 0) 75 9 0) 75 10 0) 75 11 0
theorem k_X9_clear : Con sc mX9_clear 0 0 0 [.ref 75] (XW I L tg) (rV (XW (sclr I) L tg)) := by
  refine Con_of (by decide) (Nat.le_of_ble_eq_true rfl) ?_
  refine r_aload_n (j := 0) rfl rfl dX9_clear_0 ?_
  refine r_iconst (v := 0) rfl dX9_clear_1 ?_
  refine w_putI fX9_36 rfl (rfl) (rfl) dX9_clear_2 (fun J2 hJ2 => ?_)
  refine r_aload_n (j := 0) rfl rfl dX9_clear_5 ?_
  refine r_iconst (v := 0) rfl dX9_clear_6 ?_
  refine w_putI fX9_40 rfl (rfl) (rfl) dX9_clear_7 (fun J7 hJ7 => ?_)
  refine r_aload_n (j := 0) rfl rfl dX9_clear_10 ?_
  refine r_iconst (v := 0) rfl dX9_clear_11 ?_
  refine w_putI fX9_43 rfl (rfl) (rfl) dX9_clear_12 (fun J12 hJ12 => ?_)
  refine r_aload_n (j := 0) rfl rfl dX9_clear_15 ?_
  refine r_iconst (v := 0) rfl dX9_clear_16 ?_
  refine w_putI fX9_46 rfl (rfl) (rfl) dX9_clear_17 (fun J17 hJ17 => ?_)
  refine w_vret rfl (Nat.le_of_ble_eq_true rfl) (Nat.le_of_ble_eq_true rfl) dX9_clear_20 ?_
  subst hJ17 hJ12 hJ7 hJ2; exact ⟨rfl, rfl, rfl⟩
end Strs
