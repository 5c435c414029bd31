/-! BEST: the tables, the row -/
def mnq (out : Nat → Int32 → Int32) (t : Nat → Int32) (s : Nat) : Nat → Int32
  | 0 => 10000
  | p + 1 => if s.testBit p then iMin (mnq out t s p) (out p (t (clr s p))) else mnq out t s p
def erT (out : Nat → Int32 → Int32) (P : Nat) (base : Nat → Int32) : Nat → (Nat → Int32)
  | 0 => base
  | s + 1 => va_up (erT out P base s) s (if s = 0 then 0 else mnq out (erT out P base s) s P)
def mxq (bef : Nat → Int32 → Int32) (t : Nat → Int32) (s : Nat) : Nat → Int32
  | 0 => -1
  | p + 1 => if s.testBit p then iMax (mxq bef t s p) (bef p (t (clr s p))) else mxq bef t s p
def laT (bef : Nat → Int32 → Int32) (P : Nat) (done : Int32) (base : Nat → Int32) : Nat → (Nat → Int32)
  | 0 => base
  | s + 1 => va_up (laT bef P done base s) s (if s = 0 then done else mxq bef (laT bef P done base s) s P)
theorem p2_le : ∀ P, P ≤ 8 → 2 ^ P ≤ 256 := by decide +kernel
theorem clr_lt : ∀ s, s < 256 → ∀ p, p < 8 → clr s p < 256 := by decide +kernel
section Bt
variable {sc : Sc} {I : Is} {L : Ls} {tg P : Nat}
/-- what the tables stand on -/
def outI (I : Is) : Nat → Int32 → Int32 := ouR (I 85) (I 86) (I 87) (nN (I 84 8))
def befI (I : Is) : Nat → Int32 → Int32 := beR (I 85) (I 86) (I 87) (nN (I 84 8))
theorem l_X7_re2 {T : Nat → Int32} (hP : I 84 7 = nI P) (h8 : P ≤ 8) (r0 : 0 ≤ (I 84 8).toInt) (r5 : (I 84 8).toInt ≤ 5) {s : Nat} (hs : s < 256) {Q : Po}
    (K : ∀ x3 : Int32, RR sc mX7_reckonEarliest 2 0 0 Q 0 0 69 [(3, .int x3), (2, .int (mnq (outI I) T s P)), (1, .int (nI s)), (0, .ref 84)] [] (XW (upr I 90 T) L tg)) : ∀ n i : Nat, i + n = P → ∀ a x : Int32, a = mnq (outI I) T s i → x.toInt = i → RR sc mX7_reckonEarliest 2 0 0 Q 0 0 25 [(3, .int x), (2, .int a), (1, .int (nI s)), (0, .ref 84)] [] (XW (upr I 90 T) L tg) := by
  have e84 : upr I 90 T 84 = I 84 := upr_n _ _ (by decide)
  have e85 : upr I 90 T 85 = I 85 := upr_n _ _ (by decide)
  have e86 : upr I 90 T 86 = I 86 := upr_n _ _ (by decide)
  have e87 : upr I 90 T 87 = I 87 := upr_n _ _ (by decide)
  have e90 : upr I 90 T 90 = T := upr_s _ _ _
  have hPi : (upr I 90 T 84 7).toInt = P := by rw [e84, hP, nI_toInt (by omega)]
  intro n
  induction n with
  | zero =>
    intro i hi a x ea hx
    refine r_iload_n (j := 0) rfl rfl dX7_reckonEarliest_25 ?_
    refine r_aload_n (j := 3) rfl rfl dX7_reckonEarliest_26 ?_
    refine w_getI fX7_37 rfl dX7_reckonEarliest_27 ?_
    refine r_icmp_ge (tgt := 69) dX7_reckonEarliest_30 (by decide) (fun c30 => ?_) (fun c30 => ?_)
    · rw [ea, show i = P by omega]; exact K _
    · exfalso; ((try simp only [bI_0, bI_1, lc_lt, lc_gt, lc_le, lc_ge, Classical.not_not] at *); (try simp only [i_lt, i_le, i_eq, l_lt, l_le, l_eq, Int32.toInt_toInt64, Int32.reduceToInt, Int64.reduceToInt] at *); omega)
  | succ n ih =>
    intro i hi a x ea hx
    obtain rfl := x_nI hx
    have hi8 : i < 8 := by omega
    have hb := s8_bz s hs i hi8
    have hc := s8_clr s hs i hi8
    refine r_iload_n (j := 0) rfl rfl dX7_reckonEarliest_25 ?_
    refine r_aload_n (j := 3) rfl rfl dX7_reckonEarliest_26 ?_
    refine w_getI fX7_37 rfl dX7_reckonEarliest_27 ?_
    refine r_icmp_ge (tgt := 69) dX7_reckonEarliest_30 (by decide) (fun c30 => ?_) (fun c30 => ?_)
    · exfalso; ((try simp only [bI_0, bI_1, lc_lt, lc_gt, lc_le, lc_ge, Classical.not_not] at *); (try simp only [i_lt, i_le, i_eq, l_lt, l_le, l_eq, Int32.toInt_toInt64, Int32.reduceToInt, Int64.reduceToInt] at *); omega)
    · refine r_iload_n (j := 2) rfl rfl dX7_reckonEarliest_33 ?_
      refine r_iload_n (j := 0) rfl rfl dX7_reckonEarliest_34 ?_
      refine r_ishr dX7_reckonEarliest_35 ?_
      refine r_iconst (v := 1) rfl dX7_reckonEarliest_36 ?_
      refine r_iand dX7_reckonEarliest_37 ?_
      refine r_if_eq (tgt := 63) dX7_reckonEarliest_38 (by decide) (fun c38 => ?_) (fun c38 => ?_)
      · refine r_iinc (j := 0) (lv' := fun z => [(3, .int z), (2, .int a), (1, .int (nI s)), (0, .ref 84)]) dX7_reckonEarliest_63 rfl (Nat.le_of_ble_eq_true rfl) (fun _ => rfl) (fun x3_63 ex3_63 => ?_)
        refine r_goto (tgt := 25) dX7_reckonEarliest_66 (by decide) ?_
        exact ih (i + 1) (by omega) _ _ (by rw [mnq, hb.mp c38]; exact ea) (by rw [ex3_63]; exact i_inc hx (by omega))
      · refine r_iload_n (j := 1) rfl rfl dX7_reckonEarliest_41 ?_
        refine r_aload_n (j := 3) rfl rfl dX7_reckonEarliest_42 ?_
        refine r_aload_n (j := 3) rfl rfl dX7_reckonEarliest_43 ?_
        refine w_getR (b := 90) fX7_27 rfl rfl dX7_reckonEarliest_44 ?_
        refine r_iload_n (j := 2) rfl rfl dX7_reckonEarliest_47 ?_
        refine r_iconst (v := 1) rfl dX7_reckonEarliest_48 ?_
        refine r_iload_n (j := 0) rfl rfl dX7_reckonEarliest_49 ?_
        refine r_ishl dX7_reckonEarliest_50 ?_
        refine r_iconst (v := (-1)) rfl dX7_reckonEarliest_51 ?_
        refine r_ixor dX7_reckonEarliest_52 ?_
        refine r_iand dX7_reckonEarliest_53 ?_
        refine w_iald rfl (by rw [hc]; exact vp_in_nI (clr_lt s hs i hi8) (by omega)) dX7_reckonEarliest_54 ?_
        refine r_iload_n (j := 0) rfl rfl dX7_reckonEarliest_55 ?_
        refine w_cV2p (k_X7_outFrom hx hi8 (by rw [e84]; exact r0) (by rw [e84]; exact r5)) (Nat.le_of_ble_eq_true rfl) lX7_56 vmX7_outFrom rfl (Nat.le_of_ble_eq_true rfl) (Nat.le_of_ble_eq_true rfl) (Nat.le_of_ble_eq_true rfl) dX7_reckonEarliest_56 ?_
        refine r_mmin lmX7_74 (Nat.le_of_ble_eq_true rfl) (Nat.le_of_ble_eq_true rfl) (Nat.le_of_ble_eq_true rfl) (Nat.le_of_ble_eq_true rfl) dX7_reckonEarliest_59 ?_
        refine r_istore_n (lv' := fun z => [(2, .int z), (3, .int (nI i)), (1, .int (nI s)), (0, .ref 84)]) dX7_reckonEarliest_62 rfl (Nat.le_of_ble_eq_true rfl) (fun _ => rfl) (fun x2_62 ex2_62 => ?_)
        refine r_iinc (j := 1) (lv' := fun z => [(3, .int z), (2, .int x2_62), (1, .int (nI s)), (0, .ref 84)]) dX7_reckonEarliest_63 rfl (Nat.le_of_ble_eq_true rfl) (fun _ => rfl) (fun x3_63 ex3_63 => ?_)
        refine r_goto (tgt := 25) dX7_reckonEarliest_66 (by decide) ?_
        have ht : s.testBit i = true := by
          cases h : s.testBit i with
          | true => rfl
          | false => exact absurd (hb.mpr h) c38
        refine ih (i + 1) (by omega) _ _ ?_ (by rw [ex3_63]; exact i_inc hx (by omega))
        rw [mnq, if_pos ht, ex2_62, e84, e85, e86, e87, e90, hc, nI_clamp (Nat.lt_of_lt_of_le (clr_lt s hs i hi8) (by decide)), ea]
        rfl
theorem l_X7_re1 (hP : I 84 7 = nI P) (h8 : P ≤ 8) (r0 : 0 ≤ (I 84 8).toInt) (r5 : (I 84 8).toInt ≤ 5) : ∀ n i : Nat, i + n = 2 ^ P → 1 ≤ i → ∀ (J : Is) (x : Int32), J = upr I 90 (erT (outI I) P (I 90) i) → x.toInt = i → RR sc mX7_reckonEarliest 2 0 0 (rV (XW (upr I 90 (erT (outI I) P (I 90) (2 ^ P))) L tg)) 0 0 9 [(1, .int x), (0, .ref 84)] [] (XW J L tg) := by
  have h256 := p2_le P h8
  intro n
  induction n with
  | zero =>
    intro i hi h1 J x eJ hx
    have e7 : J 84 7 = nI P := by rw [eJ, upr_n _ _ (by decide)]; exact hP
    have e9 : ((1 : Int32) <<< (J 84 7 &&& 31)).toInt = ((2 ^ P : Nat) : Int) := by rw [e7, s8_one P (by omega), nI_toInt (by omega)]
    refine r_iload_n (j := 0) rfl rfl dX7_reckonEarliest_9 ?_
    refine r_iconst (v := 1) rfl dX7_reckonEarliest_10 ?_
    refine r_aload_n (j := 1) rfl rfl dX7_reckonEarliest_11 ?_
    refine w_getI fX7_37 rfl dX7_reckonEarliest_12 ?_
    refine r_ishl dX7_reckonEarliest_15 ?_
    refine r_icmp_ge (tgt := 82) dX7_reckonEarliest_16 (by decide) (fun c16 => ?_) (fun c16 => ?_)
    · refine w_vret rfl (Nat.le_of_ble_eq_true rfl) (Nat.le_of_ble_eq_true rfl) dX7_reckonEarliest_82 ?_
      exact ⟨by rw [eJ, show i = 2 ^ P by omega], rfl, rfl⟩
    · exfalso; ((try simp only [bI_0, bI_1, lc_lt, lc_gt, lc_le, lc_ge, Classical.not_not] at *); (try simp only [i_lt, i_le, i_eq, l_lt, l_le, l_eq, Int32.toInt_toInt64, Int32.reduceToInt, Int64.reduceToInt] at *); omega)
  | succ n ih =>
    intro i hi h1 J x eJ hx
    obtain rfl := x_nI hx
    have e7 : J 84 7 = nI P := by rw [eJ, upr_n _ _ (by decide)]; exact hP
    have e9 : ((1 : Int32) <<< (J 84 7 &&& 31)).toInt = ((2 ^ P : Nat) : Int) := by rw [e7, s8_one P (by omega), nI_toInt (by omega)]
    subst eJ
    refine r_iload_n (j := 0) rfl rfl dX7_reckonEarliest_9 ?_
    refine r_iconst (v := 1) rfl dX7_reckonEarliest_10 ?_
    refine r_aload_n (j := 1) rfl rfl dX7_reckonEarliest_11 ?_
    refine w_getI fX7_37 rfl dX7_reckonEarliest_12 ?_
    refine r_ishl dX7_reckonEarliest_15 ?_
    refine r_icmp_ge (tgt := 82) dX7_reckonEarliest_16 (by decide) (fun c16 => ?_) (fun c16 => ?_)
    · exfalso; ((try simp only [bI_0, bI_1, lc_lt, lc_gt, lc_le, lc_ge, Classical.not_not] at *); (try simp only [i_lt, i_le, i_eq, l_lt, l_le, l_eq, Int32.toInt_toInt64, Int32.reduceToInt, Int64.reduceToInt] at *); omega)
    · refine r_sipush (v := 10000) rfl dX7_reckonEarliest_19 ?_
      refine r_istore_n (lv' := fun z => [(2, .int z), (1, .int (nI i)), (0, .ref 84)]) dX7_reckonEarliest_22 rfl (Nat.le_of_ble_eq_true rfl) (fun _ => rfl) (fun x2_22 ex2_22 => ?_)
      refine r_iconst (v := 0) rfl dX7_reckonEarliest_23 ?_
      refine r_istore_n (lv' := fun z => [(3, .int z), (2, .int x2_22), (1, .int (nI i)), (0, .ref 84)]) dX7_reckonEarliest_24 rfl (Nat.le_of_ble_eq_true rfl) (fun _ => rfl) (fun x3_24 ex3_24 => ?_)
      refine l_X7_re2 hP h8 r0 r5 (s := i) (by omega) ?_ P 0 (Nat.zero_add _) _ _ (by rw [ex2_22]; rfl) (by rw [ex3_24]; rfl)
      intro x3
      refine r_lvs [(2, .int (mnq (outI I) (erT (outI I) P (I 90) i) i P)), (1, .int (nI i)), (0, .ref 84)] [1, 2, 3] rfl ?_
      refine r_aload_n (j := 2) rfl rfl dX7_reckonEarliest_69 ?_
      refine w_getR (b := 90) fX7_27 rfl rfl dX7_reckonEarliest_70 ?_
      refine r_iload_n (j := 1) rfl rfl dX7_reckonEarliest_73 ?_
      refine r_iload_n (j := 0) rfl rfl dX7_reckonEarliest_74 ?_
      refine w_iast rfl (up_in hx (by omega)) dX7_reckonEarliest_75 (fun J75 hJ75 => ?_)
      refine r_iinc (j := 1) (lv' := fun z => [(1, .int z), (2, .int (mnq (outI I) (erT (outI I) P (I 90) i) i P)), (0, .ref 84)]) dX7_reckonEarliest_76 rfl (Nat.le_of_ble_eq_true rfl) (fun _ => rfl) (fun x1_76 ex1_76 => ?_)
      refine r_goto (tgt := 9) dX7_reckonEarliest_79 (by decide) ?_
      refine r_lvs [(1, .int x1_76), (0, .ref 84)] [0, 2] rfl ?_
      refine ih (i + 1) (by omega) (by omega) _ _ ?_ (by rw [ex1_76]; exact i_inc hx (by omega))
      rw [hJ75, upr_up, cl_of hx, erT, if_neg (show ¬ i = 0 by omega)]
theorem p2_1 : ∀ P, P ≤ 8 → 1 ≤ 2 ^ P := by decide +kernel
theorem k_X7_reckonEarliest (hP : I 84 7 = nI P) (h8 : P ≤ 8) (r0 : 0 ≤ (I 84 8).toInt) (r5 : (I 84 8).toInt ≤ 5) : Con sc mX7_reckonEarliest 2 0 0 [.ref 84] (XW I L tg) (rV (XW (upr I 90 (erT (outI I) P (I 90) (2 ^ P))) L tg)) := by
  refine Con_of (by decide) (Nat.le_of_ble_eq_true rfl) ?_
  have := p2_1 P h8
  refine r_aload_n (j := 0) rfl rfl dX7_reckonEarliest_0 ?_
  refine w_getR (b := 90) fX7_27 rfl rfl dX7_reckonEarliest_1 ?_
  refine r_iconst (v := 0) rfl dX7_reckonEarliest_4 ?_
  refine r_iconst (v := 0) rfl dX7_reckonEarliest_5 ?_
  refine w_iast rfl (by first | assumption | (rw [vp_in_iff]; ((try simp only [bI_0, bI_1, lc_lt, lc_gt, lc_le, lc_ge, Classical.not_not] at *); (try simp only [i_lt, i_le, i_eq, l_lt, l_le, l_eq, Int32.toInt_toInt64, Int32.reduceToInt, Int64.reduceToInt] at *); omega))) dX7_reckonEarliest_6 (fun J6 hJ6 => ?_)
  refine r_iconst (v := 1) rfl dX7_reckonEarliest_7 ?_
  refine r_istore_n (lv' := fun z => [(1, .int z), (0, .ref 84)]) dX7_reckonEarliest_8 rfl (Nat.le_of_ble_eq_true rfl) (fun _ => rfl) (fun x1_8 ex1_8 => ?_)
  exact l_X7_re1 hP h8 r0 r5 (2 ^ P - 1) 1 (by omega) (by omega) _ _ (by rw [hJ6, up_uprow]; rfl) (by rw [ex1_8]; rfl)
theorem l_X7_rl2 {T : Nat → Int32} {dn : Int32} (hP : I 84 7 = nI P) (h8 : P ≤ 8) (r0 : 0 ≤ (I 84 8).toInt) (r5 : (I 84 8).toInt ≤ 5) {s : Nat} (hs : s < 256) {Q : Po}
    (K : ∀ x3 : Int32, RR sc mX7_reckonLatest 2 0 0 Q 0 0 72 [(4, .int x3), (3, .int (mxq (befI I) T s P)), (2, .int (nI s)), (0, .ref 84), (1, .int dn)] [] (XW (upr I 91 T) L tg)) : ∀ n i : Nat, i + n = P → ∀ a x : Int32, a = mxq (befI I) T s i → x.toInt = i → RR sc mX7_reckonLatest 2 0 0 Q 0 0 24 [(4, .int x), (3, .int a), (2, .int (nI s)), (0, .ref 84), (1, .int dn)] [] (XW (upr I 91 T) L tg) := by
  have e84 : upr I 91 T 84 = I 84 := upr_n _ _ (by decide)
  have e85 : upr I 91 T 85 = I 85 := upr_n _ _ (by decide)
  have e86 : upr I 91 T 86 = I 86 := upr_n _ _ (by decide)
  have e87 : upr I 91 T 87 = I 87 := upr_n _ _ (by decide)
  have e90 : upr I 91 T 91 = T := upr_s _ _ _
  have hPi : (upr I 91 T 84 7).toInt = P := by rw [e84, hP, nI_toInt (by omega)]
  intro n
  induction n with
  | zero =>
    intro i hi a x ea hx
    refine r_iload (j := 0) rfl dX7_reckonLatest_24 ?_
    refine r_aload_n (j := 3) rfl rfl dX7_reckonLatest_26 ?_
    refine w_getI fX7_37 rfl dX7_reckonLatest_27 ?_
    refine r_icmp_ge (tgt := 72) dX7_reckonLatest_30 (by decide) (fun c30 => ?_) (fun c30 => ?_)
    · rw [ea, show i = P by omega]; exact K _
    · exfalso; ((try simp only [bI_0, bI_1, lc_lt, lc_gt, lc_le, lc_ge, Classical.not_not] at *); (try simp only [i_lt, i_le, i_eq, l_lt, l_le, l_eq, Int32.toInt_toInt64, Int32.reduceToInt, Int64.reduceToInt] at *); omega)
  | succ n ih =>
    intro i hi a x ea hx
    obtain rfl := x_nI hx
    have hi8 : i < 8 := by omega
    have hb := s8_bz s hs i hi8
    have hc := s8_clr s hs i hi8
    refine r_iload (j := 0) rfl dX7_reckonLatest_24 ?_
    refine r_aload_n (j := 3) rfl rfl dX7_reckonLatest_26 ?_
    refine w_getI fX7_37 rfl dX7_reckonLatest_27 ?_
    refine r_icmp_ge (tgt := 72) dX7_reckonLatest_30 (by decide) (fun c30 => ?_) (fun c30 => ?_)
    · exfalso; ((try simp only [bI_0, bI_1, lc_lt, lc_gt, lc_le, lc_ge, Classical.not_not] at *); (try simp only [i_lt, i_le, i_eq, l_lt, l_le, l_eq, Int32.toInt_toInt64, Int32.reduceToInt, Int64.reduceToInt] at *); omega)
    · refine r_iload_n (j := 2) rfl rfl dX7_reckonLatest_33 ?_
      refine r_iload (j := 0) rfl dX7_reckonLatest_34 ?_
      refine r_ishr dX7_reckonLatest_36 ?_
      refine r_iconst (v := 1) rfl dX7_reckonLatest_37 ?_
      refine r_iand dX7_reckonLatest_38 ?_
      refine r_if_eq (tgt := 66) dX7_reckonLatest_39 (by decide) (fun c39 => ?_) (fun c39 => ?_)
      · refine r_iinc (j := 0) (lv' := fun z => [(4, .int z), (3, .int a), (2, .int (nI s)), (0, .ref 84), (1, .int dn)]) dX7_reckonLatest_66 rfl (Nat.le_of_ble_eq_true rfl) (fun _ => rfl) (fun x4_66 ex4_66 => ?_)
        refine r_goto (tgt := 24) dX7_reckonLatest_69 (by decide) ?_
        exact ih (i + 1) (by omega) _ _ (by rw [mxq, hb.mp c39]; exact ea) (by rw [ex4_66]; exact i_inc hx (by omega))
      · refine r_iload_n (j := 1) rfl rfl dX7_reckonLatest_42 ?_
        refine r_aload_n (j := 3) rfl rfl dX7_reckonLatest_43 ?_
        refine r_aload_n (j := 3) rfl rfl dX7_reckonLatest_44 ?_
        refine w_getR (b := 91) fX7_30 rfl rfl dX7_reckonLatest_45 ?_
        refine r_iload_n (j := 2) rfl rfl dX7_reckonLatest_48 ?_
        refine r_iconst (v := 1) rfl dX7_reckonLatest_49 ?_
        refine r_iload (j := 0) rfl dX7_reckonLatest_50 ?_
        refine r_ishl dX7_reckonLatest_52 ?_
        refine r_iconst (v := (-1)) rfl dX7_reckonLatest_53 ?_
        refine r_ixor dX7_reckonLatest_54 ?_
        refine r_iand dX7_reckonLatest_55 ?_
        refine w_iald rfl (by rw [hc]; exact vp_in_nI (clr_lt s hs i hi8) (by omega)) dX7_reckonLatest_56 ?_
        refine r_iload (j := 0) rfl dX7_reckonLatest_57 ?_
        refine w_cV2p (k_X7_beginBefore hx hi8 (by rw [e84]; exact r0) (by rw [e84]; exact r5)) (Nat.le_of_ble_eq_true rfl) lX7_79 vmX7_beginBefore rfl (Nat.le_of_ble_eq_true rfl) (Nat.le_of_ble_eq_true rfl) (Nat.le_of_ble_eq_true rfl) dX7_reckonLatest_59 ?_
        refine r_mmax lmX7_82 (Nat.le_of_ble_eq_true rfl) (Nat.le_of_ble_eq_true rfl) (Nat.le_of_ble_eq_true rfl) (Nat.le_of_ble_eq_true rfl) dX7_reckonLatest_62 ?_
        refine r_istore_n (lv' := fun z => [(3, .int z), (4, .int (nI i)), (2, .int (nI s)), (0, .ref 84), (1, .int dn)]) dX7_reckonLatest_65 rfl (Nat.le_of_ble_eq_true rfl) (fun _ => rfl) (fun x3_65 ex3_65 => ?_)
        refine r_iinc (j := 1) (lv' := fun z => [(4, .int z), (3, .int x3_65), (2, .int (nI s)), (0, .ref 84), (1, .int dn)]) dX7_reckonLatest_66 rfl (Nat.le_of_ble_eq_true rfl) (fun _ => rfl) (fun x4_66 ex4_66 => ?_)
        refine r_goto (tgt := 24) dX7_reckonLatest_69 (by decide) ?_
        have ht : s.testBit i = true := by
          cases h : s.testBit i with
          | true => rfl
          | false => exact absurd (hb.mpr h) c39
        refine ih (i + 1) (by omega) _ _ ?_ (by rw [ex4_66]; exact i_inc hx (by omega))
        rw [mxq, if_pos ht, ex3_65, e84, e85, e86, e87, e90, hc, nI_clamp (Nat.lt_of_lt_of_le (clr_lt s hs i hi8) (by decide)), ea]
        rfl
theorem l_X7_rl1 {dn : Int32} (hP : I 84 7 = nI P) (h8 : P ≤ 8) (r0 : 0 ≤ (I 84 8).toInt) (r5 : (I 84 8).toInt ≤ 5) : ∀ n i : Nat, i + n = 2 ^ P → 1 ≤ i → ∀ (J : Is) (x : Int32), J = upr I 91 (laT (befI I) P dn (I 91) i) → x.toInt = i → RR sc mX7_reckonLatest 2 0 0 (rV (XW (upr I 91 (laT (befI I) P dn (I 91) (2 ^ P))) L tg)) 0 0 9 [(2, .int x), (0, .ref 84), (1, .int dn)] [] (XW J L tg) := by
  have h256 := p2_le P h8
  intro n
  induction n with
  | zero =>
    intro i hi h1 J x eJ hx
    have e7 : J 84 7 = nI P := by rw [eJ, upr_n _ _ (by decide)]; exact hP
    have e9 : ((1 : Int32) <<< (J 84 7 &&& 31)).toInt = ((2 ^ P : Nat) : Int) := by rw [e7, s8_one P (by omega), nI_toInt (by omega)]
    refine r_iload_n (j := 0) rfl rfl dX7_reckonLatest_9 ?_
    refine r_iconst (v := 1) rfl dX7_reckonLatest_10 ?_
    refine r_aload_n (j := 1) rfl rfl dX7_reckonLatest_11 ?_
    refine w_getI fX7_37 rfl dX7_reckonLatest_12 ?_
    refine r_ishl dX7_reckonLatest_15 ?_
    refine r_icmp_ge (tgt := 85) dX7_reckonLatest_16 (by decide) (fun c16 => ?_) (fun c16 => ?_)
    · refine w_vret rfl (Nat.le_of_ble_eq_true rfl) (Nat.le_of_ble_eq_true rfl) dX7_reckonLatest_85 ?_
      exact ⟨by rw [eJ, show i = 2 ^ P by omega], rfl, rfl⟩
    · exfalso; ((try simp only [bI_0, bI_1, lc_lt, lc_gt, lc_le, lc_ge, Classical.not_not] at *); (try simp only [i_lt, i_le, i_eq, l_lt, l_le, l_eq, Int32.toInt_toInt64, Int32.reduceToInt, Int64.reduceToInt] at *); omega)
  | succ n ih =>
    intro i hi h1 J x eJ hx
    obtain rfl := x_nI hx
    have e7 : J 84 7 = nI P := by rw [eJ, upr_n _ _ (by decide)]; exact hP
    have e9 : ((1 : Int32) <<< (J 84 7 &&& 31)).toInt = ((2 ^ P : Nat) : Int) := by rw [e7, s8_one P (by omega), nI_toInt (by omega)]
    subst eJ
    refine r_iload_n (j := 0) rfl rfl dX7_reckonLatest_9 ?_
    refine r_iconst (v := 1) rfl dX7_reckonLatest_10 ?_
    refine r_aload_n (j := 1) rfl rfl dX7_reckonLatest_11 ?_
    refine w_getI fX7_37 rfl dX7_reckonLatest_12 ?_
    refine r_ishl dX7_reckonLatest_15 ?_
    refine r_icmp_ge (tgt := 85) dX7_reckonLatest_16 (by decide) (fun c16 => ?_) (fun c16 => ?_)
    · exfalso; ((try simp only [bI_0, bI_1, lc_lt, lc_gt, lc_le, lc_ge, Classical.not_not] at *); (try simp only [i_lt, i_le, i_eq, l_lt, l_le, l_eq, Int32.toInt_toInt64, Int32.reduceToInt, Int64.reduceToInt] at *); omega)
    · refine r_iconst (v := (-1)) rfl dX7_reckonLatest_19 ?_
      refine r_istore_n (lv' := fun z => [(3, .int z), (2, .int (nI i)), (0, .ref 84), (1, .int dn)]) dX7_reckonLatest_20 rfl (Nat.le_of_ble_eq_true rfl) (fun _ => rfl) (fun x3_20 ex3_20 => ?_)
      refine r_iconst (v := 0) rfl dX7_reckonLatest_21 ?_
      refine r_istore (lv' := fun z => [(4, .int z), (3, .int x3_20), (2, .int (nI i)), (0, .ref 84), (1, .int dn)]) dX7_reckonLatest_22 (Nat.le_of_ble_eq_true rfl) (fun _ => rfl) (fun x4_22 ex4_22 => ?_)
      refine l_X7_rl2 hP h8 r0 r5 (s := i) (by omega) ?_ P 0 (Nat.zero_add _) _ _ (by rw [ex3_20]; rfl) (by rw [ex4_22]; rfl)
      intro x3
      refine r_lvs [(3, .int (mxq (befI I) (laT (befI I) P dn (I 91) i) i P)), (2, .int (nI i)), (0, .ref 84), (1, .int dn)] [1, 2, 3, 4] rfl ?_
      refine r_aload_n (j := 2) rfl rfl dX7_reckonLatest_72 ?_
      refine w_getR (b := 91) fX7_30 rfl rfl dX7_reckonLatest_73 ?_
      refine r_iload_n (j := 1) rfl rfl dX7_reckonLatest_76 ?_
      refine r_iload_n (j := 0) rfl rfl dX7_reckonLatest_77 ?_
      refine w_iast rfl (up_in hx (by omega)) dX7_reckonLatest_78 (fun J78 hJ78 => ?_)
      refine r_iinc (j := 1) (lv' := fun z => [(2, .int z), (3, .int (mxq (befI I) (laT (befI I) P dn (I 91) i) i P)), (0, .ref 84), (1, .int dn)]) dX7_reckonLatest_79 rfl (Nat.le_of_ble_eq_true rfl) (fun _ => rfl) (fun x2_79 ex2_79 => ?_)
      refine r_goto (tgt := 9) dX7_reckonLatest_82 (by decide) ?_
      refine r_lvs [(2, .int x2_79), (0, .ref 84), (1, .int dn)] [0, 2, 3] rfl ?_
      refine ih (i + 1) (by omega) (by omega) _ _ ?_ (by rw [ex2_79]; exact i_inc hx (by omega))
      rw [hJ78, upr_up, cl_of hx, laT, if_neg (show ¬ i = 0 by omega)]
theorem k_X7_reckonLatest {dn : Int32} (hP : I 84 7 = nI P) (h8 : P ≤ 8) (r0 : 0 ≤ (I 84 8).toInt) (r5 : (I 84 8).toInt ≤ 5) : Con sc mX7_reckonLatest 2 0 0 [.ref 84, .int dn] (XW I L tg) (rV (XW (upr I 91 (laT (befI I) P dn (I 91) (2 ^ P))) L tg)) := by
  refine Con_of (by decide) (Nat.le_of_ble_eq_true rfl) ?_
  have := p2_1 P h8
  refine r_aload_n (j := 0) rfl rfl dX7_reckonLatest_0 ?_
  refine w_getR (b := 91) fX7_30 rfl rfl dX7_reckonLatest_1 ?_
  refine r_iconst (v := 0) rfl dX7_reckonLatest_4 ?_
  refine r_iload_n (j := 1) rfl rfl dX7_reckonLatest_5 ?_
  refine w_iast rfl (by first | assumption | (rw [vp_in_iff]; ((try simp only [bI_0, bI_1, lc_lt, lc_gt, lc_le, lc_ge, Classical.not_not] at *); (try simp only [i_lt, i_le, i_eq, l_lt, l_le, l_eq, Int32.toInt_toInt64, Int32.reduceToInt, Int64.reduceToInt] at *); omega))) dX7_reckonLatest_6 (fun J6 hJ6 => ?_)
  refine r_iconst (v := 1) rfl dX7_reckonLatest_7 ?_
  refine r_istore_n (lv' := fun z => [(2, .int z), (0, .ref 84), (1, .int dn)]) dX7_reckonLatest_8 rfl (Nat.le_of_ble_eq_true rfl) (fun _ => rfl) (fun x2_8 ex2_8 => ?_)
  exact l_X7_rl1 hP h8 r0 r5 (2 ^ P - 1) 1 (by omega) (by omega) _ _ (by rw [hJ6, up_uprow]; rfl) (by rw [ex2_8]; rfl)
/-- is there one among n from k on? -/
def anyN (p : Nat → Bool) : Nat → Nat → Bool
  | 0, _ => false
  | n + 1, k => if p k then true else anyN p n (k + 1)
def cfp (la : Nat → Int32) (left size m : Int32) (s : Nat) : Bool := decide (nI s &&& (left ^^^ (-1)) = 0 ∧ nI (pop s) = size ∧ m ≤ la s)
theorem l_X7_canFollow {left size m : Int32} (hP : I 84 7 = nI P) (h8 : P ≤ 8) : ∀ n i : Nat, i + n = 2 ^ P → ∀ x : Int32, x.toInt = i → RR sc mX7_canFollow 1 0 0 (rI (if anyN (cfp (I 91) left size m) n i then 1 else 0) (XW I L tg)) 0 0 3 [(4, .int x), (0, .ref 84), (1, .int left), (2, .int size), (3, .int m)] [] (XW I L tg) := by
  have h256 := p2_le P h8
  have e9 : ((1 : Int32) <<< (I 84 7 &&& 31)).toInt = ((2 ^ P : Nat) : Int) := by rw [hP, s8_one P (by omega), nI_toInt (by omega)]
  intro n
  induction n with
  | zero =>
    intro i hi x hx
    refine r_iload (j := 0) rfl dX7_canFollow_3 ?_
    refine r_iconst (v := 1) rfl dX7_canFollow_5 ?_
    refine r_aload_n (j := 1) rfl rfl dX7_canFollow_6 ?_
    refine w_getI fX7_37 rfl dX7_canFollow_7 ?_
    refine r_ishl dX7_canFollow_10 ?_
    refine r_icmp_ge (tgt := 51) dX7_canFollow_11 (by decide) (fun c11 => ?_) (fun c11 => ?_)
    · refine r_iconst (v := 0) rfl dX7_canFollow_51 ?_
      refine w_iret rfl (rfl) (Nat.le_of_ble_eq_true rfl) (Nat.le_of_ble_eq_true rfl) dX7_canFollow_52 ?_
      exact ⟨rfl, rfl, rfl, rfl⟩
    · exfalso; ((try simp only [bI_0, bI_1, lc_lt, lc_gt, lc_le, lc_ge, Classical.not_not] at *); (try simp only [i_lt, i_le, i_eq, l_lt, l_le, l_eq, Int32.toInt_toInt64, Int32.reduceToInt, Int64.reduceToInt] at *); omega)
  | succ n ih =>
    intro i hi x hx
    have cx := cl_of hx
    obtain rfl := x_nI hx
    rw [anyN]
    refine r_iload (j := 0) rfl dX7_canFollow_3 ?_
    refine r_iconst (v := 1) rfl dX7_canFollow_5 ?_
    refine r_aload_n (j := 1) rfl rfl dX7_canFollow_6 ?_
    refine w_getI fX7_37 rfl dX7_canFollow_7 ?_
    refine r_ishl dX7_canFollow_10 ?_
    refine r_icmp_ge (tgt := 51) dX7_canFollow_11 (by decide) (fun c11 => ?_) (fun c11 => ?_)
    · exfalso; ((try simp only [bI_0, bI_1, lc_lt, lc_gt, lc_le, lc_ge, Classical.not_not] at *); (try simp only [i_lt, i_le, i_eq, l_lt, l_le, l_eq, Int32.toInt_toInt64, Int32.reduceToInt, Int64.reduceToInt] at *); omega)
    · refine r_iload (j := 0) rfl dX7_canFollow_14 ?_
      refine r_iload_n (j := 2) rfl rfl dX7_canFollow_16 ?_
      refine r_iconst (v := (-1)) rfl dX7_canFollow_17 ?_
      refine r_ixor dX7_canFollow_18 ?_
      refine r_iand dX7_canFollow_19 ?_
      refine r_if_ne (tgt := 45) dX7_canFollow_20 (by decide) (fun c20 => ?_) (fun c20 => ?_)
      · refine r_iinc (j := 0) (lv' := fun z => [(4, .int z), (0, .ref 84), (1, .int left), (2, .int size), (3, .int m)]) dX7_canFollow_45 rfl (Nat.le_of_ble_eq_true rfl) (fun _ => rfl) (fun x4_45 ex4_45 => ?_)
        refine r_goto (tgt := 3) dX7_canFollow_48 (by decide) ?_
        rw [if_neg (show ¬ cfp (I 91) left size m i = true from fun z => c20 (of_decide_eq_true z).1)]; exact ih (i + 1) (by omega) _ (by rw [ex4_45]; exact i_inc hx (by omega))
      · refine r_iload (j := 0) rfl dX7_canFollow_23 ?_
        refine w_cS1p (k_J6_bitCount_0f7a4) (Nat.le_of_ble_eq_true rfl) lX7_62 mtJ6_bitCount_0f7a4 (Nat.le_of_ble_eq_true rfl) (Nat.le_of_ble_eq_true rfl) (Nat.le_of_ble_eq_true rfl) dX7_canFollow_25 ?_
        rw [s8_pop i (by omega)]
        refine r_iload_n (j := 3) rfl rfl dX7_canFollow_28 ?_
        refine r_icmp_ne (tgt := 45) dX7_canFollow_29 (by decide) (fun c29 => ?_) (fun c29 => ?_)
        · refine r_iinc (j := 0) (lv' := fun z => [(4, .int z), (0, .ref 84), (1, .int left), (2, .int size), (3, .int m)]) dX7_canFollow_45 rfl (Nat.le_of_ble_eq_true rfl) (fun _ => rfl) (fun x4_45 ex4_45 => ?_)
          refine r_goto (tgt := 3) dX7_canFollow_48 (by decide) ?_
          rw [if_neg (show ¬ cfp (I 91) left size m i = true from fun z => c29 (of_decide_eq_true z).2.1)]; exact ih (i + 1) (by omega) _ (by rw [ex4_45]; exact i_inc hx (by omega))
        · refine r_aload_n (j := 1) rfl rfl dX7_canFollow_32 ?_
          refine w_getR (b := 91) fX7_30 rfl rfl dX7_canFollow_33 ?_
          refine r_iload (j := 0) rfl dX7_canFollow_36 ?_
          refine w_iald rfl (up_in hx (by omega)) dX7_canFollow_38 ?_
          refine r_iload_n (j := 4) rfl rfl dX7_canFollow_39 ?_
          refine r_icmp_lt (tgt := 45) dX7_canFollow_40 (by decide) (fun c40 => ?_) (fun c40 => ?_)
          · refine r_iinc (j := 0) (lv' := fun z => [(4, .int z), (0, .ref 84), (1, .int left), (2, .int size), (3, .int m)]) dX7_canFollow_45 rfl (Nat.le_of_ble_eq_true rfl) (fun _ => rfl) (fun x4_45 ex4_45 => ?_)
            refine r_goto (tgt := 3) dX7_canFollow_48 (by decide) ?_
            rw [cx] at c40; rw [if_neg (show ¬ cfp (I 91) left size m i = true from fun z => absurd (of_decide_eq_true z).2.2 (Int32.not_le.mpr c40))]; exact ih (i + 1) (by omega) _ (by rw [ex4_45]; exact i_inc hx (by omega))
          · refine r_iconst (v := 1) rfl dX7_canFollow_43 ?_
            refine w_iret rfl (rfl) (Nat.le_of_ble_eq_true rfl) (Nat.le_of_ble_eq_true rfl) dX7_canFollow_44 ?_
            rw [cx] at c40; exact ⟨by rw [if_pos (show cfp (I 91) left size m i = true from decide_eq_true ⟨c20, c29, Int32.not_lt.mp c40⟩)]; rfl, rfl, rfl, rfl⟩
theorem k_X7_canFollow {left size m : Int32} (hP : I 84 7 = nI P) (h8 : P ≤ 8) : Con sc mX7_canFollow 1 0 0 [.ref 84, .int left, .int size, .int m] (XW I L tg) (rI (if anyN (cfp (I 91) left size m) (2 ^ P) 0 then 1 else 0) (XW I L tg)) := by
  refine Con_of (by decide) (Nat.le_of_ble_eq_true rfl) ?_
  refine r_iconst (v := 0) rfl dX7_canFollow_0 ?_
  refine r_istore (lv' := fun z => [(4, .int z), (0, .ref 84), (1, .int left), (2, .int size), (3, .int m)]) dX7_canFollow_1 (Nat.le_of_ble_eq_true rfl) (fun _ => rfl) (fun x4_1 ex4_1 => ?_)
  exact l_X7_canFollow hP h8 _ 0 (Nat.zero_add _) _ (by rw [ex4_1]; rfl)
end Bt
