/-! the model: looks, needed, second, across -/
section
variable {sc : Sc} {I : Is} {L : Ls} {tg NL NH : Nat}
theorem and1 (y : Int32) : y &&& 1 = 0 ∨ y &&& 1 = 1 := by
  obtain ⟨j, hj, e⟩ := pk_andE y (m := 1) 1 (by decide)
  rw [e]
  rcases (show j = 0 ∨ j = 1 by omega) with rfl | rfl
  · exact Or.inl rfl
  · exact Or.inr rfl
theorem and1_n {y : Int32} (h : ¬ y &&& 1 = 1) : y &&& 1 = 0 := (and1 y).resolve_right h
theorem and1_y {y : Int32} (h : y &&& 1 = 1) : ¬ y &&& 1 = 0 := fun z => by rw [z] at h; exact absurd h (by decide)
def kbR (ln : Nat → Int32) (bits : Int32) (NL : Nat) : Nat → Int32 → Int32
  | 0, v => v
  | n + 1, v => if v ≤ 0 then v else kbR ln bits NL n (dayp ln bits v NL)
theorem l_X12_kb2 {b d v : Int32} (hL : (I 95 12).toInt = NL) (h4 : NL ≤ 4) {x4 : Int32} {Q : Po}
    (K : ∀ x5 : Int32, RR sc mX12_keptBy 0 0 0 Q 0 0 61 [(5, .int x5), (4, .int x4), (3, .int (dayp (I 110) b v NL)), (0, .ref 95), (1, .int b), (2, .int d)] [] (XW I L tg)) : ∀ n i : Nat, i + n = NL → ∀ a x : Int32, a = dayp (I 110) b v i → x.toInt = i → RR sc mX12_keptBy 0 0 0 Q 0 0 20 [(5, .int x), (4, .int x4), (3, .int a), (0, .ref 95), (1, .int b), (2, .int d)] [] (XW I L tg) := by
  intro n
  induction n with
  | zero =>
    intro i hi a x ea hx
    refine r_iload (j := 0) rfl dX12_keptBy_20 ?_
    refine r_aload_n (j := 3) rfl rfl dX12_keptBy_22 ?_
    refine w_getI fX12_361 rfl dX12_keptBy_23 ?_
    refine r_icmp_ge (tgt := 61) dX12_keptBy_26 (by decide) (fun c26 => ?_) (fun c26 => ?_)
    · rw [ea, show i = NL by omega]; exact K _
    · exfalso; ((try simp only [bI_0, bI_1, lc_lt, lc_gt, lc_le, lc_ge, Classical.not_not] at *); (try simp only [i_lt, i_le, i_eq, l_lt, l_le, l_eq, Int32.toInt_toInt64, Int32.reduceToInt, Int64.reduceToInt] at *); omega)
  | succ n ih =>
    intro i hi a x ea hx
    have cx := cl_of hx
    have hin := up_in (N := 4) hx (by omega)
    obtain rfl := x_nI hx
    refine r_iload (j := 0) rfl dX12_keptBy_20 ?_
    refine r_aload_n (j := 3) rfl rfl dX12_keptBy_22 ?_
    refine w_getI fX12_361 rfl dX12_keptBy_23 ?_
    refine r_icmp_ge (tgt := 61) dX12_keptBy_26 (by decide) (fun c26 => ?_) (fun c26 => ?_)
    · exfalso; ((try simp only [bI_0, bI_1, lc_lt, lc_gt, lc_le, lc_ge, Classical.not_not] at *); (try simp only [i_lt, i_le, i_eq, l_lt, l_le, l_eq, Int32.toInt_toInt64, Int32.reduceToInt, Int64.reduceToInt] at *); omega)
    · refine r_iload_n (j := 4) rfl rfl dX12_keptBy_29 ?_
      refine r_iload (j := 0) rfl dX12_keptBy_30 ?_
      refine r_ishr dX12_keptBy_32 ?_
      refine r_iconst (v := 1) rfl dX12_keptBy_33 ?_
      refine r_iand dX12_keptBy_34 ?_
      refine r_iconst (v := 1) rfl dX12_keptBy_35 ?_
      refine r_icmp_ne (tgt := 55) dX12_keptBy_36 (by decide) (fun c36 => ?_) (fun c36 => ?_)
      · refine r_iinc (j := 0) (lv' := fun z => [(5, .int z), (4, .int x4), (3, .int a), (0, .ref 95), (1, .int b), (2, .int d)]) dX12_keptBy_55 rfl (Nat.le_of_ble_eq_true rfl) (fun _ => rfl) (fun x5_55 ex5_55 => ?_)
        refine r_goto (tgt := 20) dX12_keptBy_58 (by decide) ?_
        exact ih (i + 1) (by omega) _ _ (by rw [dayp, if_pos (and1_n c36)]; exact ea) (by rw [ex5_55]; exact i_inc hx (by omega))
      · refine r_iload_n (j := 2) rfl rfl dX12_keptBy_39 ?_
        refine r_bipush (v := 100) rfl dX12_keptBy_40 ?_
        refine r_aload_n (j := 3) rfl rfl dX12_keptBy_42 ?_
        refine w_getR (b := 110) fX12_245 rfl rfl dX12_keptBy_43 ?_
        refine r_iload (j := 0) rfl dX12_keptBy_46 ?_
        refine w_iald rfl (by first | assumption | (rw [vp_in_iff]; ((try simp only [bI_0, bI_1, lc_lt, lc_gt, lc_le, lc_ge, Classical.not_not] at *); (try simp only [i_lt, i_le, i_eq, l_lt, l_le, l_eq, Int32.toInt_toInt64, Int32.reduceToInt, Int64.reduceToInt] at *); omega))) dX12_keptBy_48 ?_
        refine r_isub dX12_keptBy_49 ?_
        refine r_imul dX12_keptBy_50 ?_
        refine r_bipush (v := 100) rfl dX12_keptBy_51 ?_
        refine r_idiv (by first | assumption | decide) dX12_keptBy_53 ?_
        refine r_istore_n (lv' := fun z => [(3, .int z), (5, .int (nI i)), (4, .int x4), (0, .ref 95), (1, .int b), (2, .int d)]) dX12_keptBy_54 rfl (Nat.le_of_ble_eq_true rfl) (fun _ => rfl) (fun x3_54 ex3_54 => ?_)
        refine r_iinc (j := 1) (lv' := fun z => [(5, .int z), (3, .int x3_54), (4, .int x4), (0, .ref 95), (1, .int b), (2, .int d)]) dX12_keptBy_55 rfl (Nat.le_of_ble_eq_true rfl) (fun _ => rfl) (fun x5_55 ex5_55 => ?_)
        refine r_goto (tgt := 20) dX12_keptBy_58 (by decide) ?_
        refine r_lvs [(5, .int x5_55), (4, .int x4), (3, .int x3_54), (0, .ref 95), (1, .int b), (2, .int d)] [0, 2, 1, 3, 4, 5] rfl ?_
        exact ih (i + 1) (by omega) _ _ (by rw [dayp, if_neg (and1_y c36), ex3_54, ea, cx]) (by rw [ex5_55]; exact i_inc hx (by omega))
theorem l_X12_kb1 {b d : Int32} {dn : Nat} (hL : (I 95 12).toInt = NL) (h4 : NL ≤ 4) (hd : d.toInt = dn) (hd2 : dn ≤ 1000) : ∀ n i : Nat, i + n = dn → ∀ v x : Int32, x.toInt = i → RR sc mX12_keptBy 0 0 0 (rI (kbR (I 110) b NL n v) (XW I L tg)) 0 0 7 [(4, .int x), (3, .int v), (0, .ref 95), (1, .int b), (2, .int d)] [] (XW I L tg) := by
  intro n
  induction n with
  | zero =>
    intro i hi v x hx
    refine r_iload (j := 0) rfl dX12_keptBy_7 ?_
    refine r_iload_n (j := 4) rfl rfl dX12_keptBy_9 ?_
    refine r_icmp_ge (tgt := 67) dX12_keptBy_10 (by decide) (fun c10 => ?_) (fun c10 => ?_)
    · refine r_iload_n (j := 1) rfl rfl dX12_keptBy_67 ?_
      refine w_iret rfl (rfl) (Nat.le_of_ble_eq_true rfl) (Nat.le_of_ble_eq_true rfl) dX12_keptBy_68 ?_
      exact ⟨rfl, rfl, rfl, rfl⟩
    · exfalso; ((try simp only [bI_0, bI_1, lc_lt, lc_gt, lc_le, lc_ge, Classical.not_not] at *); (try simp only [i_lt, i_le, i_eq, l_lt, l_le, l_eq, Int32.toInt_toInt64, Int32.reduceToInt, Int64.reduceToInt] at *); omega)
  | succ n ih =>
    intro i hi v x hx
    rw [kbR]
    refine r_iload (j := 0) rfl dX12_keptBy_7 ?_
    refine r_iload_n (j := 4) rfl rfl dX12_keptBy_9 ?_
    refine r_icmp_ge (tgt := 67) dX12_keptBy_10 (by decide) (fun c10 => ?_) (fun c10 => ?_)
    · exfalso; ((try simp only [bI_0, bI_1, lc_lt, lc_gt, lc_le, lc_ge, Classical.not_not] at *); (try simp only [i_lt, i_le, i_eq, l_lt, l_le, l_eq, Int32.toInt_toInt64, Int32.reduceToInt, Int64.reduceToInt] at *); omega)
    · refine r_iload_n (j := 1) rfl rfl dX12_keptBy_13 ?_
      refine r_if_le (tgt := 67) dX12_keptBy_14 (by decide) (fun c14 => ?_) (fun c14 => ?_)
      · refine r_iload_n (j := 1) rfl rfl dX12_keptBy_67 ?_
        refine w_iret rfl (rfl) (Nat.le_of_ble_eq_true rfl) (Nat.le_of_ble_eq_true rfl) dX12_keptBy_68 ?_
        exact ⟨by rw [if_pos c14], rfl, rfl, rfl⟩
      · refine r_iconst (v := 0) rfl dX12_keptBy_17 ?_
        refine r_istore (lv' := fun z => [(5, .int z), (4, .int x), (3, .int v), (0, .ref 95), (1, .int b), (2, .int d)]) dX12_keptBy_18 (Nat.le_of_ble_eq_true rfl) (fun _ => rfl) (fun x5_18 ex5_18 => ?_)
        rw [if_neg c14]
        refine l_X12_kb2 hL h4 ?_ NL 0 (Nat.zero_add _) _ _ rfl (by rw [ex5_18]; rfl)
        intro x5
        refine r_lvs [(4, .int x), (3, .int (dayp (I 110) b v NL)), (0, .ref 95), (1, .int b), (2, .int d)] [1, 2, 3, 4, 5] rfl ?_
        refine r_iinc (j := 0) (lv' := fun z => [(4, .int z), (3, .int (dayp (I 110) b v NL)), (0, .ref 95), (1, .int b), (2, .int d)]) dX12_keptBy_61 rfl (Nat.le_of_ble_eq_true rfl) (fun _ => rfl) (fun x4_61 ex4_61 => ?_)
        refine r_goto (tgt := 7) dX12_keptBy_64 (by decide) ?_
        exact ih (i + 1) (by omega) _ _ (by rw [ex4_61]; exact i_inc hx (by omega))
theorem k_X12_keptBy {b d : Int32} {dn : Nat} (hL : (I 95 12).toInt = NL) (h4 : NL ≤ 4) (hd : d.toInt = dn) (hd2 : dn ≤ 1000) : Con sc mX12_keptBy 0 0 0 [.ref 95, .int b, .int d] (XW I L tg) (rI (kbR (I 110) b NL dn 1000000) (XW I L tg)) := by
  refine Con_of (by decide) (Nat.le_of_ble_eq_true rfl) ?_
  refine r_ldcw kX12_491 dX12_keptBy_0 ?_
  refine r_istore_n (lv' := fun z => [(3, .int z), (0, .ref 95), (1, .int b), (2, .int d)]) dX12_keptBy_3 rfl (Nat.le_of_ble_eq_true rfl) (fun _ => rfl) (fun x3_3 ex3_3 => ?_)
  refine r_iconst (v := 0) rfl dX12_keptBy_4 ?_
  refine r_istore (lv' := fun z => [(4, .int z), (3, .int x3_3), (0, .ref 95), (1, .int b), (2, .int d)]) dX12_keptBy_5 (Nat.le_of_ble_eq_true rfl) (fun _ => rfl) (fun x4_5 ex4_5 => ?_)
  rw [ex3_3]; exact l_X12_kb1 hL h4 hd hd2 _ 0 (Nat.zero_add _) _ _ (by rw [ex4_5]; rfl)
theorem k_X12_areLooks {a : Int32} (hL : I 95 12 = nI NL) (h4 : NL ≤ 4) : Con sc mX12_areLooks 1 0 0 [.ref 95, .int a] (XW I L tg) (rI (bI (0 ≤ a.toInt ∧ a.toInt < ((2 ^ NL : Nat) : Int))) (XW I L tg)) := by
  have e := sh_l NL (by omega)
  have e2 : ((2 ^ NL : Nat) : Int) = (2 : Int) ^ NL := by simp
  refine Con_of (by decide) (Nat.le_of_ble_eq_true rfl) ?_
  refine r_iload_n (j := 1) rfl rfl dX12_areLooks_0 ?_
  refine r_i2l dX12_areLooks_1 ?_
  refine r_lconst (v := 0) rfl dX12_areLooks_2 ?_
  refine r_lconst (v := 1) rfl dX12_areLooks_3 ?_
  refine r_aload_n (j := 0) rfl rfl dX12_areLooks_4 ?_
  refine w_getI fX12_361 rfl dX12_areLooks_5 ?_
  refine r_lshl dX12_areLooks_8 ?_
  refine r_lconst (v := 1) rfl dX12_areLooks_9 ?_
  refine r_lsub dX12_areLooks_10 ?_
  refine w_cS3p (k_X12_in) (Nat.le_of_ble_eq_true rfl) lX12_52 mtX12_in (Nat.le_of_ble_eq_true rfl) (Nat.le_of_ble_eq_true rfl) (Nat.le_of_ble_eq_true rfl) dX12_areLooks_11 ?_
  refine w_iret rfl (bI_n _) (Nat.le_of_ble_eq_true rfl) (Nat.le_of_ble_eq_true rfl) dX12_areLooks_14 ?_
  exact ⟨bI_cg (by rw [Int32.toInt_toInt64, hL, e, e2]; simp only [Int64.reduceToInt]; omega), rfl, rfl, rfl⟩
def kpC (NL : Nat) (b d : Int32) : Prop := (0 ≤ b.toInt ∧ b.toInt < ((2 ^ NL : Nat) : Int)) ∧ 0 ≤ d.toInt ∧ d.toInt ≤ 400
theorem k_X12_kept_r {b d : Int32} (hL : I 95 12 = nI NL) (h4 : NL ≤ 4) (hc : ¬ kpC NL b d) : Con sc mX12_kept 2 0 0 [.ref 95, .int b, .int d] (XW I L tg) (rI (-2) (XW I L tg)) := by
  refine Con_of (by decide) (Nat.le_of_ble_eq_true rfl) ?_
  refine r_aload_n (j := 0) rfl rfl dX12_kept_0 ?_
  refine r_iload_n (j := 1) rfl rfl dX12_kept_1 ?_
  refine w_cV1p (k_X12_areLooks hL h4) (Nat.le_of_ble_eq_true rfl) lX12_492 vmX12_areLooks rfl (Nat.le_of_ble_eq_true rfl) (Nat.le_of_ble_eq_true rfl) (Nat.le_of_ble_eq_true rfl) dX12_kept_2 ?_
  refine r_if_eq (tgt := 29) dX12_kept_5 (by decide) (fun c5 => ?_) (fun c5 => ?_)
  · refine r_bipush (v := (-2)) rfl dX12_kept_29 ?_
    refine w_iret rfl (rfl) (Nat.le_of_ble_eq_true rfl) (Nat.le_of_ble_eq_true rfl) dX12_kept_31 ?_
    exact ⟨rfl, rfl, rfl, rfl⟩
  · refine r_iload_n (j := 2) rfl rfl dX12_kept_8 ?_
    refine r_i2l dX12_kept_9 ?_
    refine r_lconst (v := 0) rfl dX12_kept_10 ?_
    refine r_ldc2 kX12_495 dX12_kept_11 ?_
    refine w_cS3p (k_X12_in) (Nat.le_of_ble_eq_true rfl) lX12_52 mtX12_in (Nat.le_of_ble_eq_true rfl) (Nat.le_of_ble_eq_true rfl) (Nat.le_of_ble_eq_true rfl) dX12_kept_14 ?_
    refine r_if_eq (tgt := 29) dX12_kept_17 (by decide) (fun c17 => ?_) (fun c17 => ?_)
    · refine r_bipush (v := (-2)) rfl dX12_kept_29 ?_
      refine w_iret rfl (rfl) (Nat.le_of_ble_eq_true rfl) (Nat.le_of_ble_eq_true rfl) dX12_kept_31 ?_
      exact ⟨rfl, rfl, rfl, rfl⟩
    · exact absurd ⟨bI_1.mp c5, by have := bI_1.mp c17; rw [Int32.toInt_toInt64] at this; exact this⟩ hc
theorem k_X12_kept_y {b d : Int32} {dn : Nat} (hL : I 95 12 = nI NL) (h4 : NL ≤ 4) (hc : kpC NL b d) (hd : d.toInt = dn) : Con sc mX12_kept 2 0 0 [.ref 95, .int b, .int d] (XW I L tg) (rI (kbR (I 110) b NL dn 1000000) (XW I L tg)) := by
  obtain ⟨q1, q2⟩ := hc
  refine Con_of (by decide) (Nat.le_of_ble_eq_true rfl) ?_
  refine r_aload_n (j := 0) rfl rfl dX12_kept_0 ?_
  refine r_iload_n (j := 1) rfl rfl dX12_kept_1 ?_
  refine w_cV1p (k_X12_areLooks hL h4) (Nat.le_of_ble_eq_true rfl) lX12_492 vmX12_areLooks rfl (Nat.le_of_ble_eq_true rfl) (Nat.le_of_ble_eq_true rfl) (Nat.le_of_ble_eq_true rfl) dX12_kept_2 ?_
  refine r_if_eq (tgt := 29) dX12_kept_5 (by decide) (fun c5 => ?_) (fun c5 => ?_)
  · exact absurd q1 (bI_0.mp c5)
  · refine r_iload_n (j := 2) rfl rfl dX12_kept_8 ?_
    refine r_i2l dX12_kept_9 ?_
    refine r_lconst (v := 0) rfl dX12_kept_10 ?_
    refine r_ldc2 kX12_495 dX12_kept_11 ?_
    refine w_cS3p (k_X12_in) (Nat.le_of_ble_eq_true rfl) lX12_52 mtX12_in (Nat.le_of_ble_eq_true rfl) (Nat.le_of_ble_eq_true rfl) (Nat.le_of_ble_eq_true rfl) dX12_kept_14 ?_
    refine r_if_eq (tgt := 29) dX12_kept_17 (by decide) (fun c17 => ?_) (fun c17 => ?_)
    · refine absurd ?_ (bI_0.mp c17); rw [Int32.toInt_toInt64]; exact q2
    · refine r_aload_n (j := 0) rfl rfl dX12_kept_20 ?_
      refine r_iload_n (j := 1) rfl rfl dX12_kept_21 ?_
      refine r_iload_n (j := 2) rfl rfl dX12_kept_22 ?_
      refine w_cV2p (k_X12_keptBy (NL := NL) (by rw [hL, nI_toInt (by omega)]) h4 hd (by omega)) (Nat.le_of_ble_eq_true rfl) lX12_497 vmX12_keptBy rfl (Nat.le_of_ble_eq_true rfl) (Nat.le_of_ble_eq_true rfl) (Nat.le_of_ble_eq_true rfl) dX12_kept_23 ?_
      refine r_goto (tgt := 31) dX12_kept_26 (by decide) ?_
      refine w_iret rfl (rfl) (Nat.le_of_ble_eq_true rfl) (Nat.le_of_ble_eq_true rfl) dX12_kept_31 ?_
      exact ⟨rfl, rfl, rfl, rfl⟩
def nfA (air pace m : Int32) (q : Int32 × Int32) : Int32 := q.2 + iMax 0 (m - q.1 / air) * pace
def nfS (air pace m : Int32) : Nat → Int32 × Int32
  | 0 => (0, 0)
  | k + 1 => ((nfS air pace m k).1 + nfA air pace m (nfS air pace m k) / 10, nfA air pace m (nfS air pace m k) - nfA air pace m (nfS air pace m k) / 10 * 10)
def nfM (air pace goal m : Int32) : Int32 := fsk (fun k => decide (goal ≤ (nfS air pace m k).1)) 401 0
theorem l_X12_nf {g m : Int32} (ha : ¬ I 97 6 = 0) : ∀ n i : Nat, i + n = 401 → ∀ f o x : Int32, f = (nfS (I 97 6) (I 97 7) m i).1 → o = (nfS (I 97 6) (I 97 7) m i).2 → x.toInt = i → RR sc mX12_neededFor 1 0 0 (rI (fsk (fun k => decide (g ≤ (nfS (I 97 6) (I 97 7) m k).1)) n i) (XW I L tg)) 0 0 8 [(5, .int x), (4, .int o), (3, .int f), (0, .ref 95), (1, .int g), (2, .int m)] [] (XW I L tg) := by
  intro n
  induction n with
  | zero =>
    intro i hi f o x ef eo hx
    refine r_iload (j := 0) rfl dX12_neededFor_8 ?_
    refine r_sipush (v := 400) rfl dX12_neededFor_10 ?_
    refine r_icmp_gt (tgt := 73) dX12_neededFor_13 (by decide) (fun c13 => ?_) (fun c13 => ?_)
    · refine r_iconst (v := (-1)) rfl dX12_neededFor_73 ?_
      refine w_iret rfl (rfl) (Nat.le_of_ble_eq_true rfl) (Nat.le_of_ble_eq_true rfl) dX12_neededFor_74 ?_
      exact ⟨rfl, rfl, rfl, rfl⟩
    · exfalso; ((try simp only [bI_0, bI_1, lc_lt, lc_gt, lc_le, lc_ge, Classical.not_not] at *); (try simp only [i_lt, i_le, i_eq, l_lt, l_le, l_eq, Int32.toInt_toInt64, Int32.reduceToInt, Int64.reduceToInt] at *); omega)
  | succ n ih =>
    intro i hi f o x ef eo hx
    obtain rfl := x_nI hx
    rw [fsk]
    refine r_iload (j := 0) rfl dX12_neededFor_8 ?_
    refine r_sipush (v := 400) rfl dX12_neededFor_10 ?_
    refine r_icmp_gt (tgt := 73) dX12_neededFor_13 (by decide) (fun c13 => ?_) (fun c13 => ?_)
    · exfalso; ((try simp only [bI_0, bI_1, lc_lt, lc_gt, lc_le, lc_ge, Classical.not_not] at *); (try simp only [i_lt, i_le, i_eq, l_lt, l_le, l_eq, Int32.toInt_toInt64, Int32.reduceToInt, Int64.reduceToInt] at *); omega)
    · refine r_iload_n (j := 2) rfl rfl dX12_neededFor_16 ?_
      refine r_iload_n (j := 4) rfl rfl dX12_neededFor_17 ?_
      refine r_icmp_lt (tgt := 24) dX12_neededFor_18 (by decide) (fun c18 => ?_) (fun c18 => ?_)
      · refine r_iload (j := 1) rfl dX12_neededFor_24 ?_
        refine r_iconst (v := 0) rfl dX12_neededFor_26 ?_
        refine r_iload_n (j := 5) rfl rfl dX12_neededFor_27 ?_
        refine r_iload_n (j := 2) rfl rfl dX12_neededFor_28 ?_
        refine r_aload_n (j := 3) rfl rfl dX12_neededFor_29 ?_
        refine w_getR (b := 97) fX12_219 rfl rfl dX12_neededFor_30 ?_
        refine r_bipush (v := 6) rfl dX12_neededFor_33 ?_
        refine w_iald rfl (by first | assumption | (rw [vp_in_iff]; ((try simp only [bI_0, bI_1, lc_lt, lc_gt, lc_le, lc_ge, Classical.not_not] at *); (try simp only [i_lt, i_le, i_eq, l_lt, l_le, l_eq, Int32.toInt_toInt64, Int32.reduceToInt, Int64.reduceToInt] at *); omega))) dX12_neededFor_35 ?_
        refine r_idiv (by exact ha) dX12_neededFor_36 ?_
        refine r_isub dX12_neededFor_37 ?_
        refine r_mmax lmX12_419 (Nat.le_of_ble_eq_true rfl) (Nat.le_of_ble_eq_true rfl) (Nat.le_of_ble_eq_true rfl) (Nat.le_of_ble_eq_true rfl) dX12_neededFor_38 ?_
        refine r_aload_n (j := 3) rfl rfl dX12_neededFor_41 ?_
        refine w_getR (b := 97) fX12_219 rfl rfl dX12_neededFor_42 ?_
        refine r_bipush (v := 7) rfl dX12_neededFor_45 ?_
        refine w_iald rfl (by first | assumption | (rw [vp_in_iff]; ((try simp only [bI_0, bI_1, lc_lt, lc_gt, lc_le, lc_ge, Classical.not_not] at *); (try simp only [i_lt, i_le, i_eq, l_lt, l_le, l_eq, Int32.toInt_toInt64, Int32.reduceToInt, Int64.reduceToInt] at *); omega))) dX12_neededFor_47 ?_
        refine r_imul dX12_neededFor_48 ?_
        refine r_iadd dX12_neededFor_49 ?_
        refine r_istore (lv' := fun z => [(6, .int z), (5, .int (nI i)), (4, .int o), (3, .int f), (0, .ref 95), (1, .int g), (2, .int m)]) dX12_neededFor_50 (Nat.le_of_ble_eq_true rfl) (fun _ => rfl) (fun x6_50 ex6_50 => ?_)
        have e6 : x6_50 = nfA (I 97 6) (I 97 7) m (nfS (I 97 6) (I 97 7) m i) := by { rw [ex6_50, ef, eo]; rfl }
        refine r_iload_n (j := 3) rfl rfl dX12_neededFor_52 ?_
        refine r_iload (j := 0) rfl dX12_neededFor_53 ?_
        refine r_bipush (v := 10) rfl dX12_neededFor_55 ?_
        refine r_idiv (by first | assumption | decide) dX12_neededFor_57 ?_
        refine r_iadd dX12_neededFor_58 ?_
        refine r_istore_n (lv' := fun z => [(3, .int z), (6, .int x6_50), (5, .int (nI i)), (4, .int o), (0, .ref 95), (1, .int g), (2, .int m)]) dX12_neededFor_59 rfl (Nat.le_of_ble_eq_true rfl) (fun _ => rfl) (fun x3_59 ex3_59 => ?_)
        refine r_iload (j := 1) rfl dX12_neededFor_60 ?_
        refine r_bipush (v := 10) rfl dX12_neededFor_62 ?_
        refine r_irem (by first | assumption | decide) dX12_neededFor_64 ?_
        refine r_istore (lv' := fun z => [(4, .int z), (3, .int x3_59), (6, .int x6_50), (5, .int (nI i)), (0, .ref 95), (1, .int g), (2, .int m)]) dX12_neededFor_65 (Nat.le_of_ble_eq_true rfl) (fun _ => rfl) (fun x4_65 ex4_65 => ?_)
        refine r_iinc (j := 3) (lv' := fun z => [(5, .int z), (4, .int x4_65), (3, .int x3_59), (6, .int x6_50), (0, .ref 95), (1, .int g), (2, .int m)]) dX12_neededFor_67 rfl (Nat.le_of_ble_eq_true rfl) (fun _ => rfl) (fun x5_67 ex5_67 => ?_)
        refine r_goto (tgt := 8) dX12_neededFor_70 (by decide) ?_
        refine r_lvs [(5, .int x5_67), (4, .int x4_65), (3, .int x3_59), (0, .ref 95), (1, .int g), (2, .int m)] [0, 1, 2, 4, 5, 6] rfl ?_
        rw [ef] at c18
        rw [if_neg (show ¬ decide (g ≤ (nfS (I 97 6) (I 97 7) m i).1) = true from fun z => absurd (of_decide_eq_true z) (Int32.not_le.mpr c18))]
        exact ih (i + 1) (by omega) _ _ _ (by rw [ex3_59, e6, ef]; rfl) (by rw [ex4_65, e6]; rfl) (by rw [ex5_67]; exact i_inc hx (by omega))
      · refine r_iload (j := 0) rfl dX12_neededFor_21 ?_
        refine w_iret rfl (rfl) (Nat.le_of_ble_eq_true rfl) (Nat.le_of_ble_eq_true rfl) dX12_neededFor_23 ?_
        rw [ef] at c18; exact ⟨by rw [if_pos (decide_eq_true (Int32.not_lt.mp c18))], rfl, rfl, rfl⟩
theorem k_X12_neededFor {g m : Int32} (ha : ¬ I 97 6 = 0) : Con sc mX12_neededFor 1 0 0 [.ref 95, .int g, .int m] (XW I L tg) (rI (nfM (I 97 6) (I 97 7) g m) (XW I L tg)) := by
  refine Con_of (by decide) (Nat.le_of_ble_eq_true rfl) ?_
  refine r_iconst (v := 0) rfl dX12_neededFor_0 ?_
  refine r_istore_n (lv' := fun z => [(3, .int z), (0, .ref 95), (1, .int g), (2, .int m)]) dX12_neededFor_1 rfl (Nat.le_of_ble_eq_true rfl) (fun _ => rfl) (fun x3_1 ex3_1 => ?_)
  refine r_iconst (v := 0) rfl dX12_neededFor_2 ?_
  refine r_istore (lv' := fun z => [(4, .int z), (3, .int x3_1), (0, .ref 95), (1, .int g), (2, .int m)]) dX12_neededFor_3 (Nat.le_of_ble_eq_true rfl) (fun _ => rfl) (fun x4_3 ex4_3 => ?_)
  refine r_iconst (v := 0) rfl dX12_neededFor_5 ?_
  refine r_istore (lv' := fun z => [(5, .int z), (4, .int x4_3), (3, .int x3_1), (0, .ref 95), (1, .int g), (2, .int m)]) dX12_neededFor_6 (Nat.le_of_ble_eq_true rfl) (fun _ => rfl) (fun x5_6 ex5_6 => ?_)
  exact l_X12_nf ha 401 0 rfl _ _ _ (by rw [ex3_1]; rfl) (by rw [ex4_3]; rfl) (by rw [ex5_6]; rfl)
theorem k_X12_isGoal {a : Int32} : Con sc mX12_isGoal 1 0 0 [.int a] (XW I L tg) (rI (bI (1 ≤ a.toInt ∧ a.toInt ≤ 999)) (XW I L tg)) := by
  refine Con_of (by decide) (Nat.le_of_ble_eq_true rfl) ?_
  refine r_iload_n (j := 0) rfl rfl dX12_isGoal_0 ?_
  refine r_i2l dX12_isGoal_1 ?_
  refine r_lconst (v := 1) rfl dX12_isGoal_2 ?_
  refine r_ldc2 kX12_500 dX12_isGoal_3 ?_
  refine w_cS3p (k_X12_in) (Nat.le_of_ble_eq_true rfl) lX12_52 mtX12_in (Nat.le_of_ble_eq_true rfl) (Nat.le_of_ble_eq_true rfl) (Nat.le_of_ble_eq_true rfl) dX12_isGoal_6 ?_
  refine w_iret rfl (bI_n _) (Nat.le_of_ble_eq_true rfl) (Nat.le_of_ble_eq_true rfl) dX12_isGoal_9 ?_
  exact ⟨bI_cg (by rw [Int32.toInt_toInt64]; exact Iff.rfl), rfl, rfl, rfl⟩
def neC (g m : Int32) : Prop := (1 ≤ g.toInt ∧ g.toInt ≤ 999) ∧ 0 ≤ m.toInt ∧ m.toInt ≤ 200
theorem k_X12_needed_r {g m : Int32} (hc : ¬ neC g m) : Con sc mX12_needed 2 0 0 [.ref 95, .int g, .int m] (XW I L tg) (rI (-2) (XW I L tg)) := by
  refine Con_of (by decide) (Nat.le_of_ble_eq_true rfl) ?_
  refine r_iload_n (j := 1) rfl rfl dX12_needed_0 ?_
  refine w_cS1p (k_X12_isGoal) (Nat.le_of_ble_eq_true rfl) lX12_502 mtX12_isGoal (Nat.le_of_ble_eq_true rfl) (Nat.le_of_ble_eq_true rfl) (Nat.le_of_ble_eq_true rfl) dX12_needed_1 ?_
  refine r_if_eq (tgt := 28) dX12_needed_4 (by decide) (fun c4 => ?_) (fun c4 => ?_)
  · refine r_bipush (v := (-2)) rfl dX12_needed_28 ?_
    refine w_iret rfl (rfl) (Nat.le_of_ble_eq_true rfl) (Nat.le_of_ble_eq_true rfl) dX12_needed_30 ?_
    exact ⟨rfl, rfl, rfl, rfl⟩
  · refine r_iload_n (j := 2) rfl rfl dX12_needed_7 ?_
    refine r_i2l dX12_needed_8 ?_
    refine r_lconst (v := 0) rfl dX12_needed_9 ?_
    refine r_ldc2 kX12_505 dX12_needed_10 ?_
    refine w_cS3p (k_X12_in) (Nat.le_of_ble_eq_true rfl) lX12_52 mtX12_in (Nat.le_of_ble_eq_true rfl) (Nat.le_of_ble_eq_true rfl) (Nat.le_of_ble_eq_true rfl) dX12_needed_13 ?_
    refine r_if_eq (tgt := 28) dX12_needed_16 (by decide) (fun c16 => ?_) (fun c16 => ?_)
    · refine r_bipush (v := (-2)) rfl dX12_needed_28 ?_
      refine w_iret rfl (rfl) (Nat.le_of_ble_eq_true rfl) (Nat.le_of_ble_eq_true rfl) dX12_needed_30 ?_
      exact ⟨rfl, rfl, rfl, rfl⟩
    · exact absurd ⟨bI_1.mp c4, by have := bI_1.mp c16; rw [Int32.toInt_toInt64] at this; exact this⟩ hc
theorem k_X12_needed_y {g m : Int32} (hc : neC g m) (ha : ¬ I 97 6 = 0) : Con sc mX12_needed 2 0 0 [.ref 95, .int g, .int m] (XW I L tg) (rI (nfM (I 97 6) (I 97 7) g m) (XW I L tg)) := by
  obtain ⟨q1, q2⟩ := hc
  refine Con_of (by decide) (Nat.le_of_ble_eq_true rfl) ?_
  refine r_iload_n (j := 1) rfl rfl dX12_needed_0 ?_
  refine w_cS1p (k_X12_isGoal) (Nat.le_of_ble_eq_true rfl) lX12_502 mtX12_isGoal (Nat.le_of_ble_eq_true rfl) (Nat.le_of_ble_eq_true rfl) (Nat.le_of_ble_eq_true rfl) dX12_needed_1 ?_
  refine r_if_eq (tgt := 28) dX12_needed_4 (by decide) (fun c4 => ?_) (fun c4 => ?_)
  · exact absurd q1 (bI_0.mp c4)
  · refine r_iload_n (j := 2) rfl rfl dX12_needed_7 ?_
    refine r_i2l dX12_needed_8 ?_
    refine r_lconst (v := 0) rfl dX12_needed_9 ?_
    refine r_ldc2 kX12_505 dX12_needed_10 ?_
    refine w_cS3p (k_X12_in) (Nat.le_of_ble_eq_true rfl) lX12_52 mtX12_in (Nat.le_of_ble_eq_true rfl) (Nat.le_of_ble_eq_true rfl) (Nat.le_of_ble_eq_true rfl) dX12_needed_13 ?_
    refine r_if_eq (tgt := 28) dX12_needed_16 (by decide) (fun c16 => ?_) (fun c16 => ?_)
    · refine absurd ?_ (bI_0.mp c16); rw [Int32.toInt_toInt64]; exact q2
    · refine r_aload_n (j := 0) rfl rfl dX12_needed_19 ?_
      refine r_iload_n (j := 1) rfl rfl dX12_needed_20 ?_
      refine r_iload_n (j := 2) rfl rfl dX12_needed_21 ?_
      refine w_cV2p (k_X12_neededFor ha) (Nat.le_of_ble_eq_true rfl) lX12_507 vmX12_neededFor rfl (Nat.le_of_ble_eq_true rfl) (Nat.le_of_ble_eq_true rfl) (Nat.le_of_ble_eq_true rfl) dX12_needed_22 ?_
      refine r_goto (tgt := 30) dX12_needed_25 (by decide) ?_
      refine w_iret rfl (rfl) (Nat.le_of_ble_eq_true rfl) (Nat.le_of_ble_eq_true rfl) dX12_needed_30 ?_
      exact ⟨rfl, rfl, rfl, rfl⟩
def koM (I : Is) (NL : Nat) (g m b : Int32) : Int32 := if m = 0 then 0 else if nfM (I 97 6) (I 97 7) g m = -1 then 0 else kbR (I 110) b NL (nN (nfM (I 97 6) (I 97 7) g m)) 1000000
theorem k_X12_keptOf {g m b : Int32} (hL : (I 95 12).toInt = NL) (h4 : NL ≤ 4) (ha : ¬ I 97 6 = 0) : Con sc mX12_keptOf 2 0 0 [.ref 95, .int g, .int m, .int b] (XW I L tg) (rI (koM I NL g m b) (XW I L tg)) := by
  have hr : nfM (I 97 6) (I 97 7) g m = -1 ∨ ∃ j : Nat, j < 401 ∧ nfM (I 97 6) (I 97 7) g m = nI j := by
    rcases fsk_rng (fun k => decide (g ≤ (nfS (I 97 6) (I 97 7) m k).1)) 401 0 with ⟨h, -⟩ | ⟨j, h1, h2, h3, -⟩
    · exact Or.inl h
    · exact Or.inr ⟨j, by omega, h3⟩
  have hn : ∀ x : Int32, x = nfM (I 97 6) (I 97 7) g m → ¬ x = -1 → x.toInt = (nN (nfM (I 97 6) (I 97 7) g m) : Int) ∧ nN (nfM (I 97 6) (I 97 7) g m) ≤ 1000 := by
    intro x ex hx
    rw [ex] at hx ⊢
    rcases hr with h | ⟨j, h1, h2⟩
    · exact absurd h hx
    · rw [h2]
      unfold nN
      rw [nI_clamp (by omega), nI_toInt (by omega)]
      exact ⟨rfl, by omega⟩
  refine Con_of (by decide) (Nat.le_of_ble_eq_true rfl) ?_
  refine r_iload_n (j := 2) rfl rfl dX12_keptOf_0 ?_
  refine r_if_ne (tgt := 8) dX12_keptOf_1 (by decide) (fun c1 => ?_) (fun c1 => ?_)
  · refine r_aload_n (j := 0) rfl rfl dX12_keptOf_8 ?_
    refine r_iload_n (j := 1) rfl rfl dX12_keptOf_9 ?_
    refine r_iload_n (j := 2) rfl rfl dX12_keptOf_10 ?_
    refine w_cV2p (k_X12_neededFor ha) (Nat.le_of_ble_eq_true rfl) lX12_507 vmX12_neededFor rfl (Nat.le_of_ble_eq_true rfl) (Nat.le_of_ble_eq_true rfl) (Nat.le_of_ble_eq_true rfl) dX12_keptOf_11 ?_
    refine r_istore (lv' := fun z => [(4, .int z), (0, .ref 95), (1, .int g), (2, .int m), (3, .int b)]) dX12_keptOf_14 (Nat.le_of_ble_eq_true rfl) (fun _ => rfl) (fun x4_14 ex4_14 => ?_)
    refine r_iload (j := 0) rfl dX12_keptOf_16 ?_
    refine r_iconst (v := (-1)) rfl dX12_keptOf_18 ?_
    refine r_icmp_ne (tgt := 26) dX12_keptOf_19 (by decide) (fun c19 => ?_) (fun c19 => ?_)
    · refine r_aload_n (j := 1) rfl rfl dX12_keptOf_26 ?_
      refine r_iload_n (j := 4) rfl rfl dX12_keptOf_27 ?_
      refine r_iload (j := 0) rfl dX12_keptOf_28 ?_
      refine w_cV2p (k_X12_keptBy hL h4 (hn _ ex4_14 c19).1 (hn _ ex4_14 c19).2) (Nat.le_of_ble_eq_true rfl) lX12_497 vmX12_keptBy rfl (Nat.le_of_ble_eq_true rfl) (Nat.le_of_ble_eq_true rfl) (Nat.le_of_ble_eq_true rfl) dX12_keptOf_30 ?_
      refine w_iret rfl (rfl) (Nat.le_of_ble_eq_true rfl) (Nat.le_of_ble_eq_true rfl) dX12_keptOf_33 ?_
      rw [ex4_14] at c19; exact ⟨by unfold koM; rw [if_neg c1, if_neg c19], rfl, rfl, rfl⟩
    · refine r_iconst (v := 0) rfl dX12_keptOf_22 ?_
      refine r_goto (tgt := 33) dX12_keptOf_23 (by decide) ?_
      refine w_iret rfl (rfl) (Nat.le_of_ble_eq_true rfl) (Nat.le_of_ble_eq_true rfl) dX12_keptOf_33 ?_
      rw [ex4_14] at c19; exact ⟨by unfold koM; rw [if_neg c1, if_pos c19], rfl, rfl, rfl⟩
  · refine r_iconst (v := (-1)) rfl dX12_keptOf_4 ?_
    refine r_goto (tgt := 14) dX12_keptOf_5 (by decide) ?_
    refine r_istore (lv' := fun z => [(4, .int z), (0, .ref 95), (1, .int g), (2, .int m), (3, .int b)]) dX12_keptOf_14 (Nat.le_of_ble_eq_true rfl) (fun _ => rfl) (fun x4_14 ex4_14 => ?_)
    refine r_iload (j := 0) rfl dX12_keptOf_16 ?_
    refine r_iconst (v := (-1)) rfl dX12_keptOf_18 ?_
    refine r_icmp_ne (tgt := 26) dX12_keptOf_19 (by decide) (fun c19 => ?_) (fun c19 => ?_)
    · refine r_aload_n (j := 1) rfl rfl dX12_keptOf_26 ?_
      refine r_iload_n (j := 4) rfl rfl dX12_keptOf_27 ?_
      refine r_iload (j := 0) rfl dX12_keptOf_28 ?_
      refine w_cV2p (k_X12_keptBy hL h4 (hn _ (absurd ex4_14 c19) c19).1 (hn _ (absurd ex4_14 c19) c19).2) (Nat.le_of_ble_eq_true rfl) lX12_497 vmX12_keptBy rfl (Nat.le_of_ble_eq_true rfl) (Nat.le_of_ble_eq_true rfl) (Nat.le_of_ble_eq_true rfl) dX12_keptOf_30 ?_
      refine w_iret rfl (rfl) (Nat.le_of_ble_eq_true rfl) (Nat.le_of_ble_eq_true rfl) dX12_keptOf_33 ?_
      exact absurd ex4_14 c19
    · refine r_iconst (v := 0) rfl dX12_keptOf_22 ?_
      refine r_goto (tgt := 33) dX12_keptOf_23 (by decide) ?_
      refine w_iret rfl (rfl) (Nat.le_of_ble_eq_true rfl) (Nat.le_of_ble_eq_true rfl) dX12_keptOf_33 ?_
      exact ⟨by unfold koM; rw [if_pos c1], rfl, rfl, rfl⟩
def seM (I : Is) (NL : Nat) (men feet b : Int32) (q : Nat) : Int32 := (1000000 - (1000000 - (koM I NL feet (men - nI q) b).toInt64) * (1000000 - (koM I NL feet (nI q) b).toInt64) / 1000000).toInt32
def smC (NL : Nat) (m f b w : Int32) : Prop := (1 ≤ m.toInt ∧ m.toInt ≤ 200) ∧ (1 ≤ f.toInt ∧ f.toInt ≤ 999) ∧ (0 ≤ b.toInt ∧ b.toInt < ((2 ^ NL : Nat) : Int)) ∧ 0 ≤ w.toInt ∧ w.toInt ≤ 1
theorem k_X12_second_r {m f b w : Int32} (hL : I 95 12 = nI NL) (h4 : NL ≤ 4) (hc : ¬ smC NL m f b w) : Con sc mX12_second 3 0 0 [.ref 95, .int m, .int f, .int b, .int w] (XW I L tg) (rI (-2) (XW I L tg)) := by
  refine Con_of (by decide) (Nat.le_of_ble_eq_true rfl) ?_
  refine r_iload_n (j := 1) rfl rfl dX12_second_0 ?_
  refine r_i2l dX12_second_1 ?_
  refine r_lconst (v := 1) rfl dX12_second_2 ?_
  refine r_ldc2 kX12_505 dX12_second_3 ?_
  refine w_cS3p (k_X12_in) (Nat.le_of_ble_eq_true rfl) lX12_52 mtX12_in (Nat.le_of_ble_eq_true rfl) (Nat.le_of_ble_eq_true rfl) (Nat.le_of_ble_eq_true rfl) dX12_second_6 ?_
  refine r_if_eq (tgt := 38) dX12_second_9 (by decide) (fun c9 => ?_) (fun c9 => ?_)
  · refine r_bipush (v := (-2)) rfl dX12_second_38 ?_
    refine w_iret rfl (rfl) (Nat.le_of_ble_eq_true rfl) (Nat.le_of_ble_eq_true rfl) dX12_second_40 ?_
    exact ⟨rfl, rfl, rfl, rfl⟩
  · refine r_iload_n (j := 2) rfl rfl dX12_second_12 ?_
    refine w_cS1p (k_X12_isGoal) (Nat.le_of_ble_eq_true rfl) lX12_502 mtX12_isGoal (Nat.le_of_ble_eq_true rfl) (Nat.le_of_ble_eq_true rfl) (Nat.le_of_ble_eq_true rfl) dX12_second_13 ?_
    refine r_if_eq (tgt := 38) dX12_second_16 (by decide) (fun c16 => ?_) (fun c16 => ?_)
    · refine r_bipush (v := (-2)) rfl dX12_second_38 ?_
      refine w_iret rfl (rfl) (Nat.le_of_ble_eq_true rfl) (Nat.le_of_ble_eq_true rfl) dX12_second_40 ?_
      exact ⟨rfl, rfl, rfl, rfl⟩
    · refine r_aload_n (j := 0) rfl rfl dX12_second_19 ?_
      refine r_iload_n (j := 3) rfl rfl dX12_second_20 ?_
      refine w_cV1p (k_X12_areLooks hL h4) (Nat.le_of_ble_eq_true rfl) lX12_492 vmX12_areLooks rfl (Nat.le_of_ble_eq_true rfl) (Nat.le_of_ble_eq_true rfl) (Nat.le_of_ble_eq_true rfl) dX12_second_21 ?_
      refine r_if_eq (tgt := 38) dX12_second_24 (by decide) (fun c24 => ?_) (fun c24 => ?_)
      · refine r_bipush (v := (-2)) rfl dX12_second_38 ?_
        refine w_iret rfl (rfl) (Nat.le_of_ble_eq_true rfl) (Nat.le_of_ble_eq_true rfl) dX12_second_40 ?_
        exact ⟨rfl, rfl, rfl, rfl⟩
      · refine r_iload (j := 4) rfl dX12_second_27 ?_
        refine r_i2l dX12_second_29 ?_
        refine r_lconst (v := 0) rfl dX12_second_30 ?_
        refine r_lconst (v := 1) rfl dX12_second_31 ?_
        refine w_cS3p (k_X12_in) (Nat.le_of_ble_eq_true rfl) lX12_52 mtX12_in (Nat.le_of_ble_eq_true rfl) (Nat.le_of_ble_eq_true rfl) (Nat.le_of_ble_eq_true rfl) dX12_second_32 ?_
        refine r_if_ne (tgt := 41) dX12_second_35 (by decide) (fun c35 => ?_) (fun c35 => ?_)
        · exact absurd ⟨by have := bI_1.mp c9; rw [Int32.toInt_toInt64] at this; exact this, bI_1.mp c16, bI_1.mp c24, by have := bI_1.mp c35; rw [Int32.toInt_toInt64] at this; exact this⟩ hc
        · refine r_bipush (v := (-2)) rfl dX12_second_38 ?_
          refine w_iret rfl (rfl) (Nat.le_of_ble_eq_true rfl) (Nat.le_of_ble_eq_true rfl) dX12_second_40 ?_
          exact ⟨rfl, rfl, rfl, rfl⟩
theorem l_X12_second {m f b w : Int32} {M : Nat} (hL : (I 95 12).toInt = NL) (h4 : NL ≤ 4) (ha : ¬ I 97 6 = 0) (hM : (m / 2).toInt = M) (hM2 : M ≤ 1000) : ∀ n i : Nat, i + n = M + 1 → ∀ c e x : Int32, c = (amx (seM I NL m f b) i).1 → e = (amx (seM I NL m f b) i).2 → x.toInt = i → RR sc mX12_second 3 0 0 (rI (if w = 0 then (amx (seM I NL m f b) (M + 1)).1 else (amx (seM I NL m f b) (M + 1)).2) (XW I L tg)) 0 0 50 [(7, .int x), (6, .int e), (5, .int c), (0, .ref 95), (1, .int m), (2, .int f), (3, .int b), (4, .int w)] [] (XW I L tg) := by
  intro n
  induction n with
  | zero =>
    intro i hi c e x ec ee hx
    have e1 : i = M + 1 := by omega
    subst e1
    refine r_iload (j := 0) rfl dX12_second_50 ?_
    refine r_iload_n (j := 4) rfl rfl dX12_second_52 ?_
    refine r_iconst (v := 2) rfl dX12_second_53 ?_
    refine r_idiv (by first | assumption | decide) dX12_second_54 ?_
    refine r_icmp_gt (tgt := 130) dX12_second_55 (by decide) (fun c55 => ?_) (fun c55 => ?_)
    · refine r_iload (j := 7) rfl dX12_second_130 ?_
      refine r_if_ne (tgt := 140) dX12_second_132 (by decide) (fun c132 => ?_) (fun c132 => ?_)
      · refine r_iload (j := 1) rfl dX12_second_140 ?_
        refine w_iret rfl (rfl) (Nat.le_of_ble_eq_true rfl) (Nat.le_of_ble_eq_true rfl) dX12_second_142 ?_
        exact ⟨by first | (rw [if_neg c132]; exact ee) | (rw [if_pos c132]; exact ec), rfl, rfl, rfl⟩
      · refine r_iload (j := 2) rfl dX12_second_135 ?_
        refine r_goto (tgt := 142) dX12_second_137 (by decide) ?_
        refine w_iret rfl (rfl) (Nat.le_of_ble_eq_true rfl) (Nat.le_of_ble_eq_true rfl) dX12_second_142 ?_
        exact ⟨by first | (rw [if_neg c132]; exact ee) | (rw [if_pos c132]; exact ec), rfl, rfl, rfl⟩
    · exfalso; ((try simp only [bI_0, bI_1, lc_lt, lc_gt, lc_le, lc_ge, Classical.not_not] at *); (try simp only [i_lt, i_le, i_eq, l_lt, l_le, l_eq, Int32.toInt_toInt64, Int32.reduceToInt, Int64.reduceToInt] at *); omega)
  | succ n ih =>
    intro i hi c e x ec ee hx
    obtain rfl := x_nI hx
    refine r_iload (j := 0) rfl dX12_second_50 ?_
    refine r_iload_n (j := 4) rfl rfl dX12_second_52 ?_
    refine r_iconst (v := 2) rfl dX12_second_53 ?_
    refine r_idiv (by first | assumption | decide) dX12_second_54 ?_
    refine r_icmp_gt (tgt := 130) dX12_second_55 (by decide) (fun c55 => ?_) (fun c55 => ?_)
    · exfalso; ((try simp only [bI_0, bI_1, lc_lt, lc_gt, lc_le, lc_ge, Classical.not_not] at *); (try simp only [i_lt, i_le, i_eq, l_lt, l_le, l_eq, Int32.toInt_toInt64, Int32.reduceToInt, Int64.reduceToInt] at *); omega)
    · refine r_aload_n (j := 3) rfl rfl dX12_second_58 ?_
      refine r_iload_n (j := 5) rfl rfl dX12_second_59 ?_
      refine r_iload_n (j := 4) rfl rfl dX12_second_60 ?_
      refine r_iload (j := 0) rfl dX12_second_61 ?_
      refine r_isub dX12_second_63 ?_
      refine r_iload_n (j := 6) rfl rfl dX12_second_64 ?_
      refine w_cV3p (k_X12_keptOf hL h4 ha) (Nat.le_of_ble_eq_true rfl) lX12_510 vmX12_keptOf rfl (Nat.le_of_ble_eq_true rfl) (Nat.le_of_ble_eq_true rfl) (Nat.le_of_ble_eq_true rfl) dX12_second_65 ?_
      refine r_i2l dX12_second_68 ?_
      refine r_lstore (lv' := fun z => [(8, .long z), (7, .int (nI i)), (6, .int e), (5, .int c), (0, .ref 95), (1, .int m), (2, .int f), (3, .int b), (4, .int w)]) dX12_second_69 (Nat.le_of_ble_eq_true rfl) (fun _ => rfl) (fun x8_69 ex8_69 => ?_)
      refine r_aload_n (j := 4) rfl rfl dX12_second_71 ?_
      refine r_iload_n (j := 6) rfl rfl dX12_second_72 ?_
      refine r_iload (j := 1) rfl dX12_second_73 ?_
      refine r_iload_n (j := 7) rfl rfl dX12_second_75 ?_
      refine w_cV3p (k_X12_keptOf hL h4 ha) (Nat.le_of_ble_eq_true rfl) lX12_510 vmX12_keptOf rfl (Nat.le_of_ble_eq_true rfl) (Nat.le_of_ble_eq_true rfl) (Nat.le_of_ble_eq_true rfl) dX12_second_76 ?_
      refine r_i2l dX12_second_79 ?_
      refine r_lstore (lv' := fun z => [(10, .long z), (8, .long x8_69), (7, .int (nI i)), (6, .int e), (5, .int c), (0, .ref 95), (1, .int m), (2, .int f), (3, .int b), (4, .int w)]) dX12_second_80 (Nat.le_of_ble_eq_true rfl) (fun _ => rfl) (fun x10_80 ex10_80 => ?_)
      refine r_ldc2 kX12_514 dX12_second_82 ?_
      refine r_ldc2 kX12_514 dX12_second_85 ?_
      refine r_lload (j := 1) rfl dX12_second_88 ?_
      refine r_lsub dX12_second_90 ?_
      refine r_ldc2 kX12_514 dX12_second_91 ?_
      refine r_lload (j := 0) rfl dX12_second_94 ?_
      refine r_lsub dX12_second_96 ?_
      refine r_lmul dX12_second_97 ?_
      refine r_ldc2 kX12_514 dX12_second_98 ?_
      refine r_ldiv (by first | assumption | decide) dX12_second_101 ?_
      refine r_lsub dX12_second_102 ?_
      refine r_l2i dX12_second_103 ?_
      refine r_istore (lv' := fun z => [(12, .int z), (10, .long x10_80), (8, .long x8_69), (7, .int (nI i)), (6, .int e), (5, .int c), (0, .ref 95), (1, .int m), (2, .int f), (3, .int b), (4, .int w)]) dX12_second_104 (Nat.le_of_ble_eq_true rfl) (fun _ => rfl) (fun x12_104 ex12_104 => ?_)
      have e12 : x12_104 = seM I NL m f b i := by { rw [ex12_104, ex8_69, ex10_80]; rfl }
      refine r_iload (j := 0) rfl dX12_second_106 ?_
      refine r_iload (j := 4) rfl dX12_second_108 ?_
      refine r_icmp_gt (tgt := 116) dX12_second_110 (by decide) (fun c110 => ?_) (fun c110 => ?_)
      · refine r_iload (j := 0) rfl dX12_second_116 ?_
        refine r_istore (lv' := fun z => [(6, .int z), (12, .int x12_104), (10, .long x10_80), (8, .long x8_69), (7, .int (nI i)), (5, .int c), (0, .ref 95), (1, .int m), (2, .int f), (3, .int b), (4, .int w)]) dX12_second_118 (Nat.le_of_ble_eq_true rfl) (fun _ => rfl) (fun x6_118 ex6_118 => ?_)
        refine r_iload (j := 4) rfl dX12_second_120 ?_
        refine r_istore (lv' := fun z => [(5, .int z), (6, .int x6_118), (12, .int x12_104), (10, .long x10_80), (8, .long x8_69), (7, .int (nI i)), (0, .ref 95), (1, .int m), (2, .int f), (3, .int b), (4, .int w)]) dX12_second_122 (Nat.le_of_ble_eq_true rfl) (fun _ => rfl) (fun x5_122 ex5_122 => ?_)
        refine r_iinc (j := 5) (lv' := fun z => [(7, .int z), (5, .int x5_122), (6, .int x6_118), (12, .int x12_104), (10, .long x10_80), (8, .long x8_69), (0, .ref 95), (1, .int m), (2, .int f), (3, .int b), (4, .int w)]) dX12_second_124 rfl (Nat.le_of_ble_eq_true rfl) (fun _ => rfl) (fun x7_124 ex7_124 => ?_)
        refine r_goto (tgt := 50) dX12_second_127 (by decide) ?_
        refine r_lvs [(7, .int x7_124), (6, .int x6_118), (5, .int x5_122), (0, .ref 95), (1, .int m), (2, .int f), (3, .int b), (4, .int w)] [0, 2, 1, 6, 7, 8, 9, 10] rfl ?_
        rw [e12, ee] at c110
        exact ih (i + 1) (by omega) _ _ _ (by rw [amx, if_pos c110, ex5_122]) (by rw [amx, if_pos c110, ex6_118, e12]) (by rw [ex7_124]; exact i_inc hx (by omega))
      · refine r_goto (tgt := 124) dX12_second_113 (by decide) ?_
        refine r_iinc (j := 3) (lv' := fun z => [(7, .int z), (12, .int x12_104), (10, .long x10_80), (8, .long x8_69), (6, .int e), (5, .int c), (0, .ref 95), (1, .int m), (2, .int f), (3, .int b), (4, .int w)]) dX12_second_124 rfl (Nat.le_of_ble_eq_true rfl) (fun _ => rfl) (fun x7_124 ex7_124 => ?_)
        refine r_goto (tgt := 50) dX12_second_127 (by decide) ?_
        refine r_lvs [(7, .int x7_124), (6, .int e), (5, .int c), (0, .ref 95), (1, .int m), (2, .int f), (3, .int b), (4, .int w)] [0, 4, 5, 6, 7, 8, 9, 10] rfl ?_
        rw [e12, ee] at c110
        exact ih (i + 1) (by omega) _ _ _ (by rw [amx, if_neg c110]; exact ec) (by rw [amx, if_neg c110]; exact ee) (by rw [ex7_124]; exact i_inc hx (by omega))
theorem k_X12_second_y {m f b w : Int32} {M : Nat} (hL : I 95 12 = nI NL) (h4 : NL ≤ 4) (ha : ¬ I 97 6 = 0) (hc : smC NL m f b w) (hM : (m / 2).toInt = M) (hM2 : M ≤ 1000) : Con sc mX12_second 3 0 0 [.ref 95, .int m, .int f, .int b, .int w] (XW I L tg) (rI (if w = 0 then (amx (seM I NL m f b) (M + 1)).1 else (amx (seM I NL m f b) (M + 1)).2) (XW I L tg)) := by
  obtain ⟨q1, q2, q3, q4⟩ := hc
  refine Con_of (by decide) (Nat.le_of_ble_eq_true rfl) ?_
  refine r_iload_n (j := 1) rfl rfl dX12_second_0 ?_
  refine r_i2l dX12_second_1 ?_
  refine r_lconst (v := 1) rfl dX12_second_2 ?_
  refine r_ldc2 kX12_505 dX12_second_3 ?_
  refine w_cS3p (k_X12_in) (Nat.le_of_ble_eq_true rfl) lX12_52 mtX12_in (Nat.le_of_ble_eq_true rfl) (Nat.le_of_ble_eq_true rfl) (Nat.le_of_ble_eq_true rfl) dX12_second_6 ?_
  refine r_if_eq (tgt := 38) dX12_second_9 (by decide) (fun c9 => ?_) (fun c9 => ?_)
  · refine absurd ?_ (bI_0.mp c9); rw [Int32.toInt_toInt64]; exact q1
  · refine r_iload_n (j := 2) rfl rfl dX12_second_12 ?_
    refine w_cS1p (k_X12_isGoal) (Nat.le_of_ble_eq_true rfl) lX12_502 mtX12_isGoal (Nat.le_of_ble_eq_true rfl) (Nat.le_of_ble_eq_true rfl) (Nat.le_of_ble_eq_true rfl) dX12_second_13 ?_
    refine r_if_eq (tgt := 38) dX12_second_16 (by decide) (fun c16 => ?_) (fun c16 => ?_)
    · exact absurd q2 (bI_0.mp c16)
    · refine r_aload_n (j := 0) rfl rfl dX12_second_19 ?_
      refine r_iload_n (j := 3) rfl rfl dX12_second_20 ?_
      refine w_cV1p (k_X12_areLooks hL h4) (Nat.le_of_ble_eq_true rfl) lX12_492 vmX12_areLooks rfl (Nat.le_of_ble_eq_true rfl) (Nat.le_of_ble_eq_true rfl) (Nat.le_of_ble_eq_true rfl) dX12_second_21 ?_
      refine r_if_eq (tgt := 38) dX12_second_24 (by decide) (fun c24 => ?_) (fun c24 => ?_)
      · exact absurd q3 (bI_0.mp c24)
      · refine r_iload (j := 4) rfl dX12_second_27 ?_
        refine r_i2l dX12_second_29 ?_
        refine r_lconst (v := 0) rfl dX12_second_30 ?_
        refine r_lconst (v := 1) rfl dX12_second_31 ?_
        refine w_cS3p (k_X12_in) (Nat.le_of_ble_eq_true rfl) lX12_52 mtX12_in (Nat.le_of_ble_eq_true rfl) (Nat.le_of_ble_eq_true rfl) (Nat.le_of_ble_eq_true rfl) dX12_second_32 ?_
        refine r_if_ne (tgt := 41) dX12_second_35 (by decide) (fun c35 => ?_) (fun c35 => ?_)
        · refine r_iconst (v := 0) rfl dX12_second_41 ?_
          refine r_istore (lv' := fun z => [(5, .int z), (0, .ref 95), (1, .int m), (2, .int f), (3, .int b), (4, .int w)]) dX12_second_42 (Nat.le_of_ble_eq_true rfl) (fun _ => rfl) (fun x5_42 ex5_42 => ?_)
          refine r_iconst (v := (-1)) rfl dX12_second_44 ?_
          refine r_istore (lv' := fun z => [(6, .int z), (5, .int x5_42), (0, .ref 95), (1, .int m), (2, .int f), (3, .int b), (4, .int w)]) dX12_second_45 (Nat.le_of_ble_eq_true rfl) (fun _ => rfl) (fun x6_45 ex6_45 => ?_)
          refine r_iconst (v := 0) rfl dX12_second_47 ?_
          refine r_istore (lv' := fun z => [(7, .int z), (6, .int x6_45), (5, .int x5_42), (0, .ref 95), (1, .int m), (2, .int f), (3, .int b), (4, .int w)]) dX12_second_48 (Nat.le_of_ble_eq_true rfl) (fun _ => rfl) (fun x7_48 ex7_48 => ?_)
          exact l_X12_second (by rw [hL, nI_toInt (by omega)]) h4 ha hM hM2 _ 0 (Nat.zero_add _) _ _ _ (by rw [ex5_42]; rfl) (by rw [ex6_45]; rfl) (by rw [ex7_48]; rfl)
        · refine absurd ?_ (bI_0.mp c35); rw [Int32.toInt_toInt64]; exact q4
/-- across -/
def amC (I : Is) (f s w : Int32) : Prop := (0 ≤ f.toInt ∧ f.toInt ≤ (I 97 0).toInt) ∧ (0 ≤ s.toInt ∧ s.toInt ≤ 200) ∧ 0 ≤ w.toInt ∧ w.toInt ≤ 1
theorem k_X12_across_r {f s w : Int32} (hc : ¬ amC I f s w) : Con sc mX12_across 1 0 0 [.ref 95, .int f, .int s, .int w] (XW I L tg) (rI (-2) (XW I L tg)) := by
  refine Con_of (by decide) (Nat.le_of_ble_eq_true rfl) ?_
  refine r_iload_n (j := 1) rfl rfl dX12_across_0 ?_
  refine r_i2l dX12_across_1 ?_
  refine r_lconst (v := 0) rfl dX12_across_2 ?_
  refine r_aload_n (j := 0) rfl rfl dX12_across_3 ?_
  refine w_getR (b := 97) fX12_219 rfl rfl dX12_across_4 ?_
  refine r_iconst (v := 0) rfl dX12_across_7 ?_
  refine w_iald rfl (by first | assumption | (rw [vp_in_iff]; ((try simp only [bI_0, bI_1, lc_lt, lc_gt, lc_le, lc_ge, Classical.not_not] at *); (try simp only [i_lt, i_le, i_eq, l_lt, l_le, l_eq, Int32.toInt_toInt64, Int32.reduceToInt, Int64.reduceToInt] at *); omega))) dX12_across_8 ?_
  refine r_i2l dX12_across_9 ?_
  refine w_cS3p (k_X12_in) (Nat.le_of_ble_eq_true rfl) lX12_52 mtX12_in (Nat.le_of_ble_eq_true rfl) (Nat.le_of_ble_eq_true rfl) (Nat.le_of_ble_eq_true rfl) dX12_across_10 ?_
  refine r_if_eq (tgt := 38) dX12_across_13 (by decide) (fun c13 => ?_) (fun c13 => ?_)
  · refine r_bipush (v := (-2)) rfl dX12_across_38 ?_
    refine w_iret rfl (rfl) (Nat.le_of_ble_eq_true rfl) (Nat.le_of_ble_eq_true rfl) dX12_across_40 ?_
    exact ⟨rfl, rfl, rfl, rfl⟩
  · refine r_iload_n (j := 2) rfl rfl dX12_across_16 ?_
    refine r_i2l dX12_across_17 ?_
    refine r_lconst (v := 0) rfl dX12_across_18 ?_
    refine r_ldc2 kX12_505 dX12_across_19 ?_
    refine w_cS3p (k_X12_in) (Nat.le_of_ble_eq_true rfl) lX12_52 mtX12_in (Nat.le_of_ble_eq_true rfl) (Nat.le_of_ble_eq_true rfl) (Nat.le_of_ble_eq_true rfl) dX12_across_22 ?_
    refine r_if_eq (tgt := 38) dX12_across_25 (by decide) (fun c25 => ?_) (fun c25 => ?_)
    · refine r_bipush (v := (-2)) rfl dX12_across_38 ?_
      refine w_iret rfl (rfl) (Nat.le_of_ble_eq_true rfl) (Nat.le_of_ble_eq_true rfl) dX12_across_40 ?_
      exact ⟨rfl, rfl, rfl, rfl⟩
    · refine r_iload_n (j := 3) rfl rfl dX12_across_28 ?_
      refine r_i2l dX12_across_29 ?_
      refine r_lconst (v := 0) rfl dX12_across_30 ?_
      refine r_lconst (v := 1) rfl dX12_across_31 ?_
      refine w_cS3p (k_X12_in) (Nat.le_of_ble_eq_true rfl) lX12_52 mtX12_in (Nat.le_of_ble_eq_true rfl) (Nat.le_of_ble_eq_true rfl) (Nat.le_of_ble_eq_true rfl) dX12_across_32 ?_
      refine r_if_ne (tgt := 41) dX12_across_35 (by decide) (fun c35 => ?_) (fun c35 => ?_)
      · exact absurd ⟨by have := bI_1.mp c13; rw [Int32.toInt_toInt64, Int32.toInt_toInt64] at this; exact this, by have := bI_1.mp c25; rw [Int32.toInt_toInt64] at this; exact this, by have := bI_1.mp c35; rw [Int32.toInt_toInt64] at this; exact this⟩ hc
      · refine r_bipush (v := (-2)) rfl dX12_across_38 ?_
        refine w_iret rfl (rfl) (Nat.le_of_ble_eq_true rfl) (Nat.le_of_ble_eq_true rfl) dX12_across_40 ?_
        exact ⟨rfl, rfl, rfl, rfl⟩
def acF (I : Is) (NH : Nat) (f s : Int32) (x : Nat) : Int32 := mtf (I 102) (I 104) NH (nI x) f s
theorem l_X12_ac2 {f s w y b c : Int32} (hH : (I 95 10).toInt = NH) (h5 : NH ≤ 5) {Q : Po}
    (K : ∀ x8 : Int32, RR sc mX12_across 1 0 0 Q 0 0 142 [(8, .int x8), (7, .int (mtf (I 102) (I 104) NH y f s)), (6, .int y), (5, .int c), (4, .int b), (0, .ref 95), (1, .int f), (2, .int s), (3, .int w)] [] (XW I L tg)) : ∀ n i : Nat, i + n = NH → ∀ a x : Int32, a = mtf (I 102) (I 104) i y f s → x.toInt = i → RR sc mX12_across 1 0 0 Q 0 0 69 [(8, .int x), (7, .int a), (6, .int y), (5, .int c), (4, .int b), (0, .ref 95), (1, .int f), (2, .int s), (3, .int w)] [] (XW I L tg) := by
  intro n
  induction n with
  | zero =>
    intro i hi a x ea hx
    refine r_iload (j := 0) rfl dX12_across_69 ?_
    refine r_aload_n (j := 5) rfl rfl dX12_across_71 ?_
    refine w_getI fX12_355 rfl dX12_across_72 ?_
    refine r_icmp_ge (tgt := 142) dX12_across_75 (by decide) (fun c75 => ?_) (fun c75 => ?_)
    · rw [ea, show i = NH by omega]; exact K _
    · exfalso; ((try simp only [bI_0, bI_1, lc_lt, lc_gt, lc_le, lc_ge, Classical.not_not] at *); (try simp only [i_lt, i_le, i_eq, l_lt, l_le, l_eq, Int32.toInt_toInt64, Int32.reduceToInt, Int64.reduceToInt] at *); omega)
  | succ n ih =>
    intro i hi a x ea hx
    have cx := cl_of hx
    have hin := up_in (N := 5) hx (by omega)
    refine r_iload (j := 0) rfl dX12_across_69 ?_
    refine r_aload_n (j := 5) rfl rfl dX12_across_71 ?_
    refine w_getI fX12_355 rfl dX12_across_72 ?_
    refine r_icmp_ge (tgt := 142) dX12_across_75 (by decide) (fun c75 => ?_) (fun c75 => ?_)
    · exfalso; ((try simp only [bI_0, bI_1, lc_lt, lc_gt, lc_le, lc_ge, Classical.not_not] at *); (try simp only [i_lt, i_le, i_eq, l_lt, l_le, l_eq, Int32.toInt_toInt64, Int32.reduceToInt, Int64.reduceToInt] at *); omega)
    · refine r_iload (j := 2) rfl dX12_across_78 ?_
      refine r_aload_n (j := 5) rfl rfl dX12_across_80 ?_
      refine w_getR (b := 102) fX12_222 rfl rfl dX12_across_81 ?_
      refine r_iload (j := 0) rfl dX12_across_84 ?_
      refine w_iald rfl (by first | assumption | (rw [vp_in_iff]; ((try simp only [bI_0, bI_1, lc_lt, lc_gt, lc_le, lc_ge, Classical.not_not] at *); (try simp only [i_lt, i_le, i_eq, l_lt, l_le, l_eq, Int32.toInt_toInt64, Int32.reduceToInt, Int64.reduceToInt] at *); omega))) dX12_across_86 ?_
      refine r_iload_n (j := 7) rfl rfl dX12_across_87 ?_
      refine r_isub dX12_across_88 ?_
      refine r_mmax lmX12_419 (Nat.le_of_ble_eq_true rfl) (Nat.le_of_ble_eq_true rfl) (Nat.le_of_ble_eq_true rfl) (Nat.le_of_ble_eq_true rfl) dX12_across_89 ?_
      refine r_istore (lv' := fun z => [(9, .int z), (8, .int x), (7, .int a), (6, .int y), (5, .int c), (4, .int b), (0, .ref 95), (1, .int f), (2, .int s), (3, .int w)]) dX12_across_92 (Nat.le_of_ble_eq_true rfl) (fun _ => rfl) (fun x9_92 ex9_92 => ?_)
      refine r_iload (j := 3) rfl dX12_across_94 ?_
      refine r_iload_n (j := 7) rfl rfl dX12_across_96 ?_
      refine r_iadd dX12_across_97 ?_
      refine r_aload_n (j := 6) rfl rfl dX12_across_98 ?_
      refine w_getR (b := 102) fX12_222 rfl rfl dX12_across_99 ?_
      refine r_iload (j := 1) rfl dX12_across_102 ?_
      refine w_iald rfl (by first | assumption | (rw [vp_in_iff]; ((try simp only [bI_0, bI_1, lc_lt, lc_gt, lc_le, lc_ge, Classical.not_not] at *); (try simp only [i_lt, i_le, i_eq, l_lt, l_le, l_eq, Int32.toInt_toInt64, Int32.reduceToInt, Int64.reduceToInt] at *); omega))) dX12_across_104 ?_
      refine r_iload_n (j := 8) rfl rfl dX12_across_105 ?_
      refine r_iadd dX12_across_106 ?_
      refine r_mmin lmX12_433 (Nat.le_of_ble_eq_true rfl) (Nat.le_of_ble_eq_true rfl) (Nat.le_of_ble_eq_true rfl) (Nat.le_of_ble_eq_true rfl) dX12_across_107 ?_
      refine r_istore (lv' := fun z => [(10, .int z), (9, .int x9_92), (8, .int x), (7, .int a), (6, .int y), (5, .int c), (4, .int b), (0, .ref 95), (1, .int f), (2, .int s), (3, .int w)]) dX12_across_110 (Nat.le_of_ble_eq_true rfl) (fun _ => rfl) (fun x10_110 ex10_110 => ?_)
      refine r_iload (j := 3) rfl dX12_across_112 ?_
      refine r_aload_n (j := 7) rfl rfl dX12_across_114 ?_
      refine w_getR (b := 104) fX12_228 rfl rfl dX12_across_115 ?_
      refine r_iload (j := 2) rfl dX12_across_118 ?_
      refine w_iald rfl (by first | assumption | (rw [vp_in_iff]; ((try simp only [bI_0, bI_1, lc_lt, lc_gt, lc_le, lc_ge, Classical.not_not] at *); (try simp only [i_lt, i_le, i_eq, l_lt, l_le, l_eq, Int32.toInt_toInt64, Int32.reduceToInt, Int64.reduceToInt] at *); omega))) dX12_across_120 ?_
      refine r_iconst (v := 0) rfl dX12_across_121 ?_
      refine r_iload (j := 0) rfl dX12_across_122 ?_
      refine r_iload (j := 1) rfl dX12_across_124 ?_
      refine r_isub dX12_across_126 ?_
      refine r_iconst (v := 1) rfl dX12_across_127 ?_
      refine r_iadd dX12_across_128 ?_
      refine r_mmax lmX12_419 (Nat.le_of_ble_eq_true rfl) (Nat.le_of_ble_eq_true rfl) (Nat.le_of_ble_eq_true rfl) (Nat.le_of_ble_eq_true rfl) dX12_across_129 ?_
      refine r_imul dX12_across_132 ?_
      refine r_iadd dX12_across_133 ?_
      refine r_istore (lv' := fun z => [(7, .int z), (10, .int x10_110), (9, .int x9_92), (8, .int x), (6, .int y), (5, .int c), (4, .int b), (0, .ref 95), (1, .int f), (2, .int s), (3, .int w)]) dX12_across_134 (Nat.le_of_ble_eq_true rfl) (fun _ => rfl) (fun x7_134 ex7_134 => ?_)
      refine r_iinc (j := 3) (lv' := fun z => [(8, .int z), (7, .int x7_134), (10, .int x10_110), (9, .int x9_92), (6, .int y), (5, .int c), (4, .int b), (0, .ref 95), (1, .int f), (2, .int s), (3, .int w)]) dX12_across_136 rfl (Nat.le_of_ble_eq_true rfl) (fun _ => rfl) (fun x8_136 ex8_136 => ?_)
      refine r_goto (tgt := 69) dX12_across_139 (by decide) ?_
      refine r_lvs [(8, .int x8_136), (7, .int x7_134), (6, .int y), (5, .int c), (4, .int b), (0, .ref 95), (1, .int f), (2, .int s), (3, .int w)] [0, 1, 4, 5, 6, 7, 8, 9, 10] rfl ?_
      exact ih (i + 1) (by omega) _ _ (by rw [ex7_134, ex10_110, ex9_92, ea, cx]; rfl) (by rw [ex8_136]; exact i_inc hx (by omega))
theorem l_X12_ac1 {f s w : Int32} {M : Nat} (hH : (I 95 10).toInt = NH) (h5 : NH ≤ 5) (f0 : 0 ≤ f.toInt) (hM : f.toInt + M = (I 97 0).toInt) (hM2 : M ≤ 1000) (hf2 : f.toInt ≤ 1000) : ∀ n i : Nat, i + n = M + 1 → ∀ b c x : Int32, b = (amx (acF I NH f s) i).1 → c = (amx (acF I NH f s) i).2 → x.toInt = i → RR sc mX12_across 1 0 0 (rI (if w = 0 then (amx (acF I NH f s) (M + 1)).1 else (amx (acF I NH f s) (M + 1)).2) (XW I L tg)) 0 0 50 [(6, .int x), (5, .int c), (4, .int b), (0, .ref 95), (1, .int f), (2, .int s), (3, .int w)] [] (XW I L tg) := by
  intro n
  induction n with
  | zero =>
    intro i hi b c x eb ec hx
    have e1 : i = M + 1 := by omega
    subst e1
    have ex : (x + f).toInt = x.toInt + f.toInt := i_add (by omega) (by omega)
    refine r_iload (j := 0) rfl dX12_across_50 ?_
    refine r_iload_n (j := 4) rfl rfl dX12_across_52 ?_
    refine r_iadd dX12_across_53 ?_
    refine r_aload_n (j := 3) rfl rfl dX12_across_54 ?_
    refine w_getR (b := 97) fX12_219 rfl rfl dX12_across_55 ?_
    refine r_iconst (v := 0) rfl dX12_across_58 ?_
    refine w_iald rfl (by first | assumption | (rw [vp_in_iff]; ((try simp only [bI_0, bI_1, lc_lt, lc_gt, lc_le, lc_ge, Classical.not_not] at *); (try simp only [i_lt, i_le, i_eq, l_lt, l_le, l_eq, Int32.toInt_toInt64, Int32.reduceToInt, Int64.reduceToInt] at *); omega))) dX12_across_59 ?_
    refine r_icmp_gt (tgt := 166) dX12_across_60 (by decide) (fun c60 => ?_) (fun c60 => ?_)
    · refine r_iload_n (j := 6) rfl rfl dX12_across_166 ?_
      refine r_if_ne (tgt := 175) dX12_across_167 (by decide) (fun c167 => ?_) (fun c167 => ?_)
      · refine r_iload (j := 1) rfl dX12_across_175 ?_
        refine w_iret rfl (rfl) (Nat.le_of_ble_eq_true rfl) (Nat.le_of_ble_eq_true rfl) dX12_across_177 ?_
        exact ⟨by first | (rw [if_neg c167]; exact ec) | (rw [if_pos c167]; exact eb), rfl, rfl, rfl⟩
      · refine r_iload (j := 2) rfl dX12_across_170 ?_
        refine r_goto (tgt := 177) dX12_across_172 (by decide) ?_
        refine w_iret rfl (rfl) (Nat.le_of_ble_eq_true rfl) (Nat.le_of_ble_eq_true rfl) dX12_across_177 ?_
        exact ⟨by first | (rw [if_neg c167]; exact ec) | (rw [if_pos c167]; exact eb), rfl, rfl, rfl⟩
    · exfalso; have c60 : ¬ I 97 0 < x + f := c60; rw [i_lt] at c60; omega
  | succ n ih =>
    intro i hi b c x eb ec hx
    obtain rfl := x_nI hx
    have ex : (nI i + f).toInt = (nI i).toInt + f.toInt := i_add (by omega) (by omega)
    refine r_iload (j := 0) rfl dX12_across_50 ?_
    refine r_iload_n (j := 4) rfl rfl dX12_across_52 ?_
    refine r_iadd dX12_across_53 ?_
    refine r_aload_n (j := 3) rfl rfl dX12_across_54 ?_
    refine w_getR (b := 97) fX12_219 rfl rfl dX12_across_55 ?_
    refine r_iconst (v := 0) rfl dX12_across_58 ?_
    refine w_iald rfl (by first | assumption | (rw [vp_in_iff]; ((try simp only [bI_0, bI_1, lc_lt, lc_gt, lc_le, lc_ge, Classical.not_not] at *); (try simp only [i_lt, i_le, i_eq, l_lt, l_le, l_eq, Int32.toInt_toInt64, Int32.reduceToInt, Int64.reduceToInt] at *); omega))) dX12_across_59 ?_
    refine r_icmp_gt (tgt := 166) dX12_across_60 (by decide) (fun c60 => ?_) (fun c60 => ?_)
    · exfalso; have c60 : I 97 0 < nI i + f := c60; rw [i_lt] at c60; omega
    · refine r_iconst (v := 0) rfl dX12_across_63 ?_
      refine r_istore (lv' := fun z => [(7, .int z), (6, .int (nI i)), (5, .int c), (4, .int b), (0, .ref 95), (1, .int f), (2, .int s), (3, .int w)]) dX12_across_64 (Nat.le_of_ble_eq_true rfl) (fun _ => rfl) (fun x7_64 ex7_64 => ?_)
      refine r_iconst (v := 0) rfl dX12_across_66 ?_
      refine r_istore (lv' := fun z => [(8, .int z), (7, .int x7_64), (6, .int (nI i)), (5, .int c), (4, .int b), (0, .ref 95), (1, .int f), (2, .int s), (3, .int w)]) dX12_across_67 (Nat.le_of_ble_eq_true rfl) (fun _ => rfl) (fun x8_67 ex8_67 => ?_)
      refine l_X12_ac2 hH h5 ?_ NH 0 (Nat.zero_add _) _ _ (by rw [ex7_64]; rfl) (by rw [ex8_67]; rfl)
      intro x8
      refine r_lvs [(7, .int (mtf (I 102) (I 104) NH (nI i) f s)), (6, .int (nI i)), (5, .int c), (4, .int b), (0, .ref 95), (1, .int f), (2, .int s), (3, .int w)] [1, 2, 3, 4, 5, 6, 7, 8] rfl ?_
      refine r_iload (j := 0) rfl dX12_across_142 ?_
      refine r_iload (j := 2) rfl dX12_across_144 ?_
      refine r_icmp_gt (tgt := 152) dX12_across_146 (by decide) (fun c146 => ?_) (fun c146 => ?_)
      · refine r_iload (j := 0) rfl dX12_across_152 ?_
        refine r_istore (lv' := fun z => [(5, .int z), (7, .int (mtf (I 102) (I 104) NH (nI i) f s)), (6, .int (nI i)), (4, .int b), (0, .ref 95), (1, .int f), (2, .int s), (3, .int w)]) dX12_across_154 (Nat.le_of_ble_eq_true rfl) (fun _ => rfl) (fun x5_154 ex5_154 => ?_)
        refine r_iload (j := 2) rfl dX12_across_156 ?_
        refine r_istore (lv' := fun z => [(4, .int z), (5, .int x5_154), (7, .int (mtf (I 102) (I 104) NH (nI i) f s)), (6, .int (nI i)), (0, .ref 95), (1, .int f), (2, .int s), (3, .int w)]) dX12_across_158 (Nat.le_of_ble_eq_true rfl) (fun _ => rfl) (fun x4_158 ex4_158 => ?_)
        refine r_iinc (j := 3) (lv' := fun z => [(6, .int z), (4, .int x4_158), (5, .int x5_154), (7, .int (mtf (I 102) (I 104) NH (nI i) f s)), (0, .ref 95), (1, .int f), (2, .int s), (3, .int w)]) dX12_across_160 rfl (Nat.le_of_ble_eq_true rfl) (fun _ => rfl) (fun x6_160 ex6_160 => ?_)
        refine r_goto (tgt := 50) dX12_across_163 (by decide) ?_
        refine r_lvs [(6, .int x6_160), (5, .int x5_154), (4, .int x4_158), (0, .ref 95), (1, .int f), (2, .int s), (3, .int w)] [0, 2, 1, 4, 5, 6, 7] rfl ?_
        have c146 : c < acF I NH f s i := c146
        rw [ec] at c146
        exact ih (i + 1) (by omega) _ _ _ (by rw [amx, if_pos c146, ex4_158]) (by rw [amx, if_pos c146, ex5_154]; rfl) (by rw [ex6_160]; exact i_inc hx (by omega))
      · refine r_goto (tgt := 160) dX12_across_149 (by decide) ?_
        refine r_iinc (j := 1) (lv' := fun z => [(6, .int z), (7, .int (mtf (I 102) (I 104) NH (nI i) f s)), (5, .int c), (4, .int b), (0, .ref 95), (1, .int f), (2, .int s), (3, .int w)]) dX12_across_160 rfl (Nat.le_of_ble_eq_true rfl) (fun _ => rfl) (fun x6_160 ex6_160 => ?_)
        refine r_goto (tgt := 50) dX12_across_163 (by decide) ?_
        refine r_lvs [(6, .int x6_160), (5, .int c), (4, .int b), (0, .ref 95), (1, .int f), (2, .int s), (3, .int w)] [0, 2, 3, 4, 5, 6, 7] rfl ?_
        have c146 : ¬ c < acF I NH f s i := c146
        rw [ec] at c146
        exact ih (i + 1) (by omega) _ _ _ (by rw [amx, if_neg c146]; exact eb) (by rw [amx, if_neg c146]; exact ec) (by rw [ex6_160]; exact i_inc hx (by omega))
theorem k_X12_across_y {f s w : Int32} {M : Nat} (hc : amC I f s w) (hH : (I 95 10).toInt = NH) (h5 : NH ≤ 5) (hM : f.toInt + M = (I 97 0).toInt) (hw : (I 97 0).toInt ≤ 1000) : Con sc mX12_across 1 0 0 [.ref 95, .int f, .int s, .int w] (XW I L tg) (rI (if w = 0 then (amx (acF I NH f s) (M + 1)).1 else (amx (acF I NH f s) (M + 1)).2) (XW I L tg)) := by
  obtain ⟨q1, q2, q3⟩ := hc
  refine Con_of (by decide) (Nat.le_of_ble_eq_true rfl) ?_
  refine r_iload_n (j := 1) rfl rfl dX12_across_0 ?_
  refine r_i2l dX12_across_1 ?_
  refine r_lconst (v := 0) rfl dX12_across_2 ?_
  refine r_aload_n (j := 0) rfl rfl dX12_across_3 ?_
  refine w_getR (b := 97) fX12_219 rfl rfl dX12_across_4 ?_
  refine r_iconst (v := 0) rfl dX12_across_7 ?_
  refine w_iald rfl (by first | assumption | (rw [vp_in_iff]; ((try simp only [bI_0, bI_1, lc_lt, lc_gt, lc_le, lc_ge, Classical.not_not] at *); (try simp only [i_lt, i_le, i_eq, l_lt, l_le, l_eq, Int32.toInt_toInt64, Int32.reduceToInt, Int64.reduceToInt] at *); omega))) dX12_across_8 ?_
  refine r_i2l dX12_across_9 ?_
  refine w_cS3p (k_X12_in) (Nat.le_of_ble_eq_true rfl) lX12_52 mtX12_in (Nat.le_of_ble_eq_true rfl) (Nat.le_of_ble_eq_true rfl) (Nat.le_of_ble_eq_true rfl) dX12_across_10 ?_
  refine r_if_eq (tgt := 38) dX12_across_13 (by decide) (fun c13 => ?_) (fun c13 => ?_)
  · refine absurd ?_ (bI_0.mp c13); rw [Int32.toInt_toInt64, Int32.toInt_toInt64]; exact q1
  · refine r_iload_n (j := 2) rfl rfl dX12_across_16 ?_
    refine r_i2l dX12_across_17 ?_
    refine r_lconst (v := 0) rfl dX12_across_18 ?_
    refine r_ldc2 kX12_505 dX12_across_19 ?_
    refine w_cS3p (k_X12_in) (Nat.le_of_ble_eq_true rfl) lX12_52 mtX12_in (Nat.le_of_ble_eq_true rfl) (Nat.le_of_ble_eq_true rfl) (Nat.le_of_ble_eq_true rfl) dX12_across_22 ?_
    refine r_if_eq (tgt := 38) dX12_across_25 (by decide) (fun c25 => ?_) (fun c25 => ?_)
    · refine absurd ?_ (bI_0.mp c25); rw [Int32.toInt_toInt64]; exact q2
    · refine r_iload_n (j := 3) rfl rfl dX12_across_28 ?_
      refine r_i2l dX12_across_29 ?_
      refine r_lconst (v := 0) rfl dX12_across_30 ?_
      refine r_lconst (v := 1) rfl dX12_across_31 ?_
      refine w_cS3p (k_X12_in) (Nat.le_of_ble_eq_true rfl) lX12_52 mtX12_in (Nat.le_of_ble_eq_true rfl) (Nat.le_of_ble_eq_true rfl) (Nat.le_of_ble_eq_true rfl) dX12_across_32 ?_
      refine r_if_ne (tgt := 41) dX12_across_35 (by decide) (fun c35 => ?_) (fun c35 => ?_)
      · refine r_iconst (v := 0) rfl dX12_across_41 ?_
        refine r_istore (lv' := fun z => [(4, .int z), (0, .ref 95), (1, .int f), (2, .int s), (3, .int w)]) dX12_across_42 (Nat.le_of_ble_eq_true rfl) (fun _ => rfl) (fun x4_42 ex4_42 => ?_)
        refine r_iconst (v := (-1)) rfl dX12_across_44 ?_
        refine r_istore (lv' := fun z => [(5, .int z), (4, .int x4_42), (0, .ref 95), (1, .int f), (2, .int s), (3, .int w)]) dX12_across_45 (Nat.le_of_ble_eq_true rfl) (fun _ => rfl) (fun x5_45 ex5_45 => ?_)
        refine r_iconst (v := 0) rfl dX12_across_47 ?_
        refine r_istore (lv' := fun z => [(6, .int z), (5, .int x5_45), (4, .int x4_42), (0, .ref 95), (1, .int f), (2, .int s), (3, .int w)]) dX12_across_48 (Nat.le_of_ble_eq_true rfl) (fun _ => rfl) (fun x6_48 ex6_48 => ?_)
        exact l_X12_ac1 hH h5 (by omega) hM (by omega) (by omega) _ 0 (Nat.zero_add _) _ _ _ (by rw [ex4_42]; rfl) (by rw [ex5_45]; rfl) (by rw [ex6_48]; rfl)
      · refine absurd ?_ (bI_0.mp c35); rw [Int32.toInt_toInt64]; exact q3
end
